/-! PURE: the codes of a window's instructions, both sides -/
def isb (x : Int32) : Prop := ∃ b : Nat, b < 256 ∧ x = nI b
/-- the first n of f are those of g from off on, all of them bytes -/
def SR (f : Nat → Int32) (n : Nat) (g : Nat → Int32) (off : Nat) : Prop := ∀ j, j < n → f j = g (off + j) ∧ isb (f j)
theorem apd_in {f g : Nat → Int32} {c m j : Nat} (h : j < m) : apd f c m g (c + j) = g j := by
  simp only [apd]; rw [if_pos (by omega)]; congr 1; omega
theorem apd_lo {f g : Nat → Int32} {c m j : Nat} (h : j < c) : apd f c m g j = f j := by
  simp only [apd]; rw [if_neg (by omega)]
theorem apd_hi {f g : Nat → Int32} {c m j : Nat} (h : c + m ≤ j) : apd f c m g j = f j := by
  simp only [apd]; rw [if_neg (by omega)]
theorem SR_apd {f g v : Nat → Int32} {n m off : Nat} (h : SR f n g off) (hv : ∀ j, j < m → isb (v j)) : SR (apd f n m v) (n + m) (apd g (off + n) m v) off := by
  intro j hj
  by_cases h1 : j < n
  · rw [apd_lo h1, apd_lo (by omega)]; exact h j h1
  · have e : j = n + (j - n) := by omega
    have e2 : off + j = off + n + (j - n) := by omega
    rw [e2, apd_in (by omega)]
    rw [show apd f n m v j = v (j - n) by rw [e, apd_in (by omega)]; congr 1; omega]
    exact ⟨rfl, hv _ (by omega)⟩
theorem SR_eq {f g f' g' : Nat → Int32} {n off : Nat} (h : SR f n g off) (hf : ∀ j, j < n → f' j = f j) (hg : ∀ j, j < n → g' (off + j) = g (off + j)) : SR f' n g' off := fun j hj => by
  rw [hf j hj, hg j hj]; exact h j hj
theorem vfun_b {v j : Nat} (hv : v < 16384) : isb (vfun v j) := by
  refine ⟨vbyte v j, ?_, rfl⟩
  unfold vbyte
  split
  · omega
  · split <;> omega
theorem vlen_1 {v : Nat} (h : v < 128) : vlen v = 1 := by simp [vlen, h]
theorem row_app1 {n : Nat} {f : Nat → Int32} {c : Nat} {b : Int32} (hc : c < n) (hn : n < 2 ^ 31) : fX6_append n f (nI c) b = some (apd f c 1 (fun _ => b), nI (c + 1)) := by
  rw [row_app hc hn]
  have := apd_s f (fun _ => b) c 0
  rw [apd_0] at this
  rw [show (1 : Nat) = 0 + 1 from rfl, this]; rfl
/-- the instructions, both sides -/
def FR (c : Nat) (K S M : Nat → Nat) (fk fz fm gk gz gm : Nat → Int32) : Prop := ∀ i, i < c → fk i = nI (K i) ∧ fz i = nI (S i) ∧ fm i = nI (M i) ∧ gk i = nI (K i) ∧ gz i = nI (S i) ∧ gm i = nI (M i) ∧ okI (K i) (S i) (M i)
theorem okI_b {k s m : Nat} (h : okI k s m) : k ≤ 3 ∧ s ≤ 64 ∧ m ≤ 8 := by
  rcases h with ⟨rfl, h1, h2, rfl⟩ | ⟨rfl, h1, h2, rfl⟩ | ⟨rfl, h1, h2, h3⟩ <;> omega
theorem fI_neg {p : Nat} : fI p < 0 ↔ ¬ p < 256 := by
  unfold fI
  by_cases h : p < 256
  · rw [if_pos h]; exact ⟨fun q => absurd q (nI_pos (by omega)), fun q => absurd h q⟩
  · rw [if_neg h]; exact ⟨fun _ => h, fun _ => by decide⟩
theorem fI_m1 {p : Nat} : fI p = (-1 : Int32) ↔ ¬ p < 256 := by
  unfold fI
  by_cases h : p < 256
  · rw [if_pos h]; exact ⟨fun q => absurd q (nI_ne_m1 (by omega)), fun q => absurd h q⟩
  · rw [if_neg h]; exact ⟨fun _ => h, fun _ => rfl⟩
theorem fN_le (a b c d e f : Nat) : fN a b c d e f ≤ 256 := by
  unfold fN; split
  · omega
  · exact Nat.le_refl _
theorem fX4_single {fk fz fm : Nat → Int32} {c i k s m : Nat} (hc : c ≤ 64) (hi : i < c) (ek : fk i = nI k) (es : fz i = nI s) (em : fm i = nI m) (h : okI k s m) : fX4_singleCode fk fz fm (nI c) (nI i) = some (nI (sgc k s m)) := by
  have i1 : inb (nI i) 64 = true := by rw [inb_nI (by omega)]; omega
  rw [fX4_singleCode, if_neg (nI_pos (by omega)), if_neg (by rw [nI_leI (by omega) (by omega)]; omega), if_pos i1, if_pos i1, if_pos i1, nI_clamp (by omega), ek, es, em, (single_sim h).2.1, Option.bind_some]
/-- what chooseCodes and writeCodes have in common -/
def CR (n : Nat) (sc : Nat → Int32) (ar : Nat → Nat → Int32) (mar : Nat → Nat → Int32) : Prop := sc 6 = nI n ∧ mar 9 1 = nI n ∧ SR (ar 6) n (mar 8) 400
def CF (sc sc' : Nat → Int32) (ar ar' mar mar' : Nat → Nat → Int32) : Prop := (∀ k, k ≠ 6 → sc' k = sc k) ∧ (∀ k, k ≠ 6 → ar' k = ar k) ∧ (∀ k, k ≠ 8 → k ≠ 9 → mar' k = mar k) ∧ (∀ j, (j < 400 ∨ 800 ≤ j) → mar' 8 j = mar 8 j) ∧ (∀ j, j ≠ 1 → mar' 9 j = mar 9 j)
theorem CF.trans {sc sc' sc2 : Nat → Int32} {ar ar' ar2 mar mar' mar2 : Nat → Nat → Int32} (h : CF sc sc' ar ar' mar mar') (h2 : CF sc' sc2 ar' ar2 mar' mar2) : CF sc sc2 ar ar2 mar mar2 :=
  ⟨fun k hk => (h2.1 k hk).trans (h.1 k hk), fun k hk => (h2.2.1 k hk).trans (h.2.1 k hk), fun k h8 h9 => (h2.2.2.1 k h8 h9).trans (h.2.2.1 k h8 h9), fun j hj => (h2.2.2.2.1 j hj).trans (h.2.2.2.1 j hj), fun j hj => (h2.2.2.2.2 j hj).trans (h.2.2.2.2 j hj)⟩
theorem CF.rf {sc : Nat → Int32} {ar mar : Nat → Nat → Int32} : CF sc sc ar ar mar mar := ⟨fun _ _ => rfl, fun _ _ => rfl, fun _ _ _ => rfl, fun _ _ => rfl, fun _ _ => rfl⟩
/-- m bytes v more on both sides -/
theorem CR_add {n m : Nat} {v : Nat → Int32} {sc : Nat → Int32} {ar mar : Nat → Nat → Int32} (h : CR n sc ar mar) (hv : ∀ j, j < m → isb (v j)) (hn : n + m ≤ 400) :
    CR (n + m) (va_up sc 6 (nI (n + m))) (va_up ar 6 (apd (ar 6) n m v)) (wA mar 1 n m v) ∧ CF sc (va_up sc 6 (nI (n + m))) ar (va_up ar 6 (apd (ar 6) n m v)) mar (wA mar 1 n m v) := by
  refine ⟨⟨rfl, ?_, ?_⟩, fun k hk => by rw [up_ap, if_neg hk], fun k hk => by rw [up_ap, if_neg hk], fun k h8 h9 => ?_, fun j hj => ?_, fun j hj => ?_⟩
  · show upd (mar 9) 1 (nI (n + m)) 1 = _; rw [upd_s]
  · exact SR_apd h.2.2 hv
  · unfold wA; rw [up_ap, if_neg h9, up_ap, if_neg h8]
  · show apd (mar 8) (400 * 1 + n) m v j = _
    rcases hj with hj | hj
    · rw [apd_lo (by omega)]
    · rw [apd_hi (by omega)]
  · show upd (mar 9) 1 (nI (n + m)) j = _; rw [upd_n hj]
theorem up_up {α : Type} (f : Nat → α) (k : Nat) (x y : α) : va_up (va_up f k x) k y = va_up f k y := bx_uu f k x y
theorem find3 {a b c : Nat} (ha : a < 2 ^ 31) (hb : b < 2 ^ 31) (hc : c < 2 ^ 31) : fX8_find (nI a) (nI b) (nI c) (0 : Int32) (0 : Int32) (0 : Int32) = some (fI (fN a b c 0 0 0)) := find_fI (d := 0) (e := 0) (f := 0) ha hb hc (by omega) (by omega) (by omega)
theorem find2 {a c : Nat} (ha : a < 2 ^ 31) (hc : c < 2 ^ 31) : fX8_find (nI a) (0 : Int32) (nI c) (0 : Int32) (0 : Int32) (0 : Int32) = some (fI (fN a 0 c 0 0 0)) := find_fI (b := 0) (d := 0) (e := 0) (f := 0) ha (by omega) hc (by omega) (by omega) (by omega)
theorem fI_y {p : Nat} (h : p < 256) : fI p = nI p := by unfold fI; rw [if_pos h]
theorem choose_sim {c : Nat} {K S M : Nat → Nat} {sg : Bool} (hc : c ≤ 64) : ∀ (r i n kx km : Nat) (sc : Nat → Int32) (ar : Nat → Nat → Int32) (msc : Nat → Int32) (mar : Nat → Nat → Int32), i + r = c → r < kx → r < km → n ≤ 2 * i → sc 20 = nI c → msc 2 = nI c → FR c K S M (ar 16) (ar 17) (ar 18) (mar 5) (mar 6) (mar 7) → CR n sc ar mar →
    ∃ (sc' : Nat → Int32) (ar' mar' : Nat → Nat → Int32) (n' : Nat), fX3_chooseCodes_L2 sg kx (nI i) sc ar = some (sc', ar') ∧ fX8_writeCodes_L2 msc km (nI i) mar = some mar' ∧ n' ≤ 2 * c ∧ CR n' sc' ar' mar' ∧ CF sc sc' ar ar' mar mar' := by
  intro r
  induction r using Nat.strongRecOn with
  | ind r ih =>
    intro i n kx km sc ar msc mar hi hkx hkm hn h20 hm2 hF hR
    obtain ⟨kx, rfl⟩ : ∃ q, kx = q + 1 := ⟨kx - 1, by omega⟩
    obtain ⟨km, rfl⟩ : ∃ q, km = q + 1 := ⟨km - 1, by omega⟩
    rw [fX3_chooseCodes_L2, fX8_writeCodes_L2, fX4_count, Option.bind_some, h20, hm2]
    by_cases h0 : r = 0
    · have hle : nI c ≤ nI i := by rw [nI_leI (by omega) (by omega)]; omega
      rw [if_pos hle, if_pos hle]
      exact ⟨sc, ar, mar, n, rfl, rfl, by omega, hR, CF.rf⟩
    · have hle : ¬ nI c ≤ nI i := by rw [nI_leI (by omega) (by omega)]; omega
      rw [if_neg hle, if_neg hle]
      obtain ⟨ek, es, em, gk, gz, gm, ok⟩ := hF i (by omega)
      obtain ⟨b1, b2, b3⟩ := okI_b ok
      have i1 : inb (nI i) 64 = true := by rw [inb_nI (by omega)]; omega
      have ss := single_sim ok
      -- the pair
      have hpair : ∃ p : Nat, p ≤ 256 ∧ fX4_pairCode (ar 16) (ar 17) (ar 18) (nI c) (nI i) = some (fI p) ∧ (p < 256 → i + 1 < c) ∧
          (if nI c ≤ nI i + (1 : Int32) then some (-1 : Int32) else
            if inb (nI i) 64 = true then if inb (nI i) 64 = true then if inb (nI i) 64 = true then
            if inb (nI i + (1 : Int32)) 64 = true then if inb (nI i + (1 : Int32)) 64 = true then if inb (nI i + (1 : Int32)) 64 = true then
            (fX8_find ((mar 5) (nI i).toNatClampNeg) ((mar 6) (nI i).toNatClampNeg) ((mar 7) (nI i).toNatClampNeg) ((mar 5) (nI i + (1 : Int32)).toNatClampNeg) ((mar 6) (nI i + (1 : Int32)).toNatClampNeg) ((mar 7) (nI i + (1 : Int32)).toNatClampNeg)).bind fun R10 => some R10
            else none else none else none else none else none else none : Option (Int32)) = some (fI p) := by
        by_cases hl : i + 1 < c
        · obtain ⟨ek', es', em', gk', gz', gm', ok'⟩ := hF (i + 1) hl
          obtain ⟨c1, c2, c3⟩ := okI_b ok'
          have i2 : inb (nI (i + 1)) 64 = true := by rw [inb_nI (by omega)]; omega
          refine ⟨fN (K i) (S i) (M i) (K (i + 1)) (S (i + 1)) (M (i + 1)), fN_le _ _ _ _ _ _, pair_X hc hl ek es em ek' es' em' ok ok', fun _ => hl, ?_⟩
          rw [nI_1, if_neg (by rw [nI_leI (by omega) (by omega)]; omega), if_pos i1, if_pos i1, if_pos i1, if_pos i2, if_pos i2, if_pos i2, nI_clamp (by omega), nI_clamp (by omega), gk, gz, gm, gk', gz', gm', find_fI (by omega) (by omega) (by omega) (by omega) (by omega) (by omega), Option.bind_some]
        · refine ⟨256, Nat.le_refl _, ?_, fun q => by omega, ?_⟩
          · rw [fX4_pairCode, if_neg (nI_pos (by omega)), nI_1, if_neg (by rw [nI_ltI (by omega) (by omega)]; omega)]; rfl
          · rw [nI_1, if_pos (by rw [nI_leI (by omega) (by omega)]; omega)]; rfl
      obtain ⟨p, hp, eX, hpc, eM⟩ := hpair
      rw [eX, Option.bind_some, eM, Option.bind_some, if_pos i1, if_pos i1, if_pos i1, nI_clamp (by omega), gk, gz, gm, find3 (by omega) (by omega) (by omega), Option.bind_some]
      obtain ⟨r6, r9, rS⟩ := id hR
      by_cases hp2 : p < 256
      · -- a pair
        have hng : ¬ fI p < 0 := fun q => absurd hp2 (fI_neg.mp q)
        have hic := hpc hp2
        rw [if_neg (fun q => absurd hp2 (fI_m1.mp q)), if_neg hng, r6, row_app1 (by omega) (by omega), Option.bind_some, wr_1 r9 (by omega), Option.bind_some, if_neg hng, nI_2, nI_1, nI_1]
        dsimp only
        obtain ⟨hR2, hF2⟩ := CR_add (m := 1) (v := fun _ => fI p) hR (fun _ _ => ⟨p, hp2, fI_y hp2⟩) (by omega)
        obtain ⟨sc', ar', mar', n', q1, q2, q3, q4, q5⟩ := ih (r - 2) (by omega) (i + 2) (n + 1) kx km (va_up sc 6 (nI (n + 1))) (va_up ar 6 (apd (ar 6) n 1 fun _ => fI p)) msc (wA mar 1 n 1 fun _ => fI p) (by omega) (by omega) (by omega) (by omega) h20 hm2 hF hR2
        exact ⟨sc', ar', mar', n', q1, q2, q3, q4, hF2.trans q5⟩
      · -- one alone
        have hng : fI p < 0 := fI_neg.mpr hp2
        have hle2 : ¬ nI c ≤ nI i := hle
        rw [if_pos (fI_m1.mpr hp2), if_pos hng, fX4_single hc (by omega) ek es em ok, Option.bind_some, r6, row_app1 (by omega) (by omega), Option.bind_some, show (1 : Int32) = nI 1 from rfl, x_part _ ss.1 1 (by omega), Option.bind_some, ← show (1 : Int32) = nI 1 from rfl]
        dsimp only
        obtain ⟨hR2, hF2⟩ := CR_add (m := 1) (v := fun _ => nI (sgc (K i) (S i) (M i))) hR (fun _ _ => ⟨_, ss.1, rfl⟩) (by omega)
        rcases ss.2.2 with ⟨t0, t1, t2⟩ | ⟨t0, t1⟩
        · -- with its size
          have e17 : fX4_sizeOf (ar 16) (ar 17) (ar 18) (nI c) (nI i) = some (nI (S i)) := by
            rw [fX4_sizeOf, if_neg (nI_pos (by omega)), if_neg hle, if_pos i1, nI_clamp (by omega), es]
          have e6 : (wA mar 1 n 1 fun _ => nI (sgc (K i) (S i) (M i))) 6 i = nI (S i) := gz
          have v1 : vlen (S i) = 1 := vlen_1 (by omega)
          rw [t0, if_pos (show nI 0 = 0 from rfl), t1, if_pos (fI_neg.mpr (by omega)), if_pos i1, if_pos i1, find2 (by omega) (by omega), Option.bind_some, t2, fI_y ss.1, wr_1 r9 (by omega), Option.bind_some, if_pos i1, e17, Option.bind_some, row_appInt (by omega) (by rw [v1]; omega) (by omega), Option.bind_some, e6, wrI_1 (by omega) (by omega) hR2.2.1, Option.bind_some, if_pos hng, nI_1, up_up, up_up]
          dsimp only
          obtain ⟨hR3, hF3⟩ := CR_add (m := vlen (S i)) (v := vfun (S i)) hR2 (fun _ _ => vfun_b (by omega)) (by rw [v1]; omega)
          rw [up_up, up_up] at hR3 hF3
          obtain ⟨sc', ar', mar', n', q1, q2, q3, q4, q5⟩ := ih (r - 1) (by omega) (i + 1) (n + 1 + vlen (S i)) kx km (va_up sc 6 (nI (n + 1 + vlen (S i)))) (va_up ar 6 (apd (apd (ar 6) n 1 fun _ => nI (sgc (K i) (S i) (M i))) (n + 1) (vlen (S i)) (vfun (S i)))) msc (wA (wA mar 1 n 1 fun _ => nI (sgc (K i) (S i) (M i))) 1 (n + 1) (vlen (S i)) (vfun (S i))) (by omega) (by omega) (by omega) (by rw [v1]; omega) h20 hm2 hF hR3
          exact ⟨sc', ar', mar', n', q1, q2, q3, q4, (hF2.trans hF3).trans q5⟩
        · rw [if_neg (by rw [L0, nI_eq (by have := tb_lt _ ss.1 1 (by omega); omega) (by omega)]; exact t0), t1, if_neg (fun q => absurd ss.1 (fI_neg.mp q)), fI_y ss.1, wr_1 r9 (by omega), Option.bind_some, if_pos hng, nI_1]
          obtain ⟨sc', ar', mar', n', q1, q2, q3, q4, q5⟩ := ih (r - 1) (by omega) (i + 1) (n + 1) kx km (va_up sc 6 (nI (n + 1))) (va_up ar 6 (apd (ar 6) n 1 fun _ => nI (sgc (K i) (S i) (M i)))) msc (wA mar 1 n 1 fun _ => nI (sgc (K i) (S i) (M i))) (by omega) (by omega) (by omega) (by omega) h20 hm2 hF hR2
          exact ⟨sc', ar', mar', n', q1, q2, q3, q4, hF2.trans q5⟩
