/-! PURE: findInstructions, both sides -/
def FI (sl n fr : Nat) (str : Nat → Int32) (o : Nat) (sc : Nat → Int32) (ar : Nat → Nat → Int32) (msc : Nat → Int32) (mar : Nat → Nat → Int32) : Prop :=
  ∃ (c d a cp : Nat) (K S M : Nat → Nat), STR sl n fr str sc ar mar ∧ sc 20 = nI c ∧ msc 2 = nI c ∧ FR c K S M (ar 16) (ar 17) (ar 18) (mar 5) (mar 6) (mar 7) ∧ (∀ i, i < c → S i ≤ o) ∧ c ≤ o ∧ sc 5 = nI d ∧ mar 9 0 = nI d ∧ SR (ar 5) d (mar 8) 0 ∧ d ≤ o ∧ sc 7 = nI a ∧ mar 9 2 = nI a ∧ SR (ar 7) a (mar 8) 800 ∧ a ≤ o ∧ CA cp (ar 10) (ar 11) (sc 17) (msc 1) (mar 2) (mar 3) ∧ cp ≤ o
def FF (sc sc' : Nat → Int32) (ar ar' : Nat → Nat → Int32) (msc msc' : Nat → Int32) (mar mar' : Nat → Nat → Int32) : Prop := (∀ k, k ∉ [5, 7, 10, 11, 17, 20] → sc' k = sc k) ∧ (∀ k, k ∉ [5, 7, 10, 11, 16, 17, 18] → ar' k = ar k) ∧ (∀ k, k ∉ [1, 2] → msc' k = msc k) ∧ (∀ k, k ∉ [2, 3, 5, 6, 7, 8, 9] → mar' k = mar k) ∧ mar' 9 1 = mar 9 1
theorem FF.rf {sc : Nat → Int32} {ar : Nat → Nat → Int32} {msc : Nat → Int32} {mar : Nat → Nat → Int32} : FF sc sc ar ar msc msc mar mar := ⟨fun _ _ => rfl, fun _ _ => rfl, fun _ _ => rfl, fun _ _ => rfl, rfl⟩
theorem FF.trans {sc s1 s2 : Nat → Int32} {ar a1 a2 : Nat → Nat → Int32} {msc m1 m2 : Nat → Int32} {mar r1 r2 : Nat → Nat → Int32} (h : FF sc s1 ar a1 msc m1 mar r1) (h2 : FF s1 s2 a1 a2 m1 m2 r1 r2) : FF sc s2 ar a2 msc m2 mar r2 :=
  ⟨fun k hk => (h2.1 k hk).trans (h.1 k hk), fun k hk => (h2.2.1 k hk).trans (h.2.1 k hk), fun k hk => (h2.2.2.1 k hk).trans (h.2.2.1 k hk), fun k hk => (h2.2.2.2.1 k hk).trans (h.2.2.2.1 k hk), h2.2.2.2.2.trans h.2.2.2.2⟩
theorem up_nin {α : Type} {f : Nat → α} {k j : Nat} {x : α} {L : List Nat} (hk : k ∈ L) (hj : j ∉ L) : va_up f k x j = f j := by
  rw [up_ap, if_neg (fun e => hj (by rw [e]; exact hk))]
theorem FR_out {c : Nat} {K S M : Nat → Nat} {fk fz fm gk gz gm : Nat → Int32} (h : FR c K S M fk fz fm gk gz gm) : FR c K S M fk fz fm gk gz gm := h
noncomputable def xADD (R3 : Nat → Int32) (ar : Nat → Nat → Int32) (x1 : Int32) : Option (Int32 × (Nat → Int32) × (Nat → Nat → Int32)) :=
  (fX4_appendAddedByte (ar 16) (ar 17) (ar 18) (R3 20)).bind fun R7 => (fX6_at 112 (ar 4) (R3 4) x1).bind fun R9 => (fX6_append 64 (ar 5) (R3 5) R9).bind fun R11 =>
  some ((1 : Int32), (va_up (va_up R3 20 R7.2.2.2) 5 R11.2), (va_up (va_up (va_up (va_up ar 16 R7.1) 17 R7.2.1) 18 R7.2.2.1) 5 R11.1))
noncomputable def xCOPY (R3 : Nat → Int32) (ar : Nat → Nat → Int32) (sg : Bool) (x1 : Int32) : Option (Int32 × (Nat → Int32) × (Nat → Nat → Int32)) :=
  (fX3_writeAddress R3 ar sg (R3 11) x1).bind fun R13 => (fX4_append (R13.2.2 16) (R13.2.2 17) (R13.2.2 18) (R13.2.1 20) (3 : Int32) (R3 10) R13.1).bind fun R15 =>
  some ((R13.2.1 10), (va_up R13.2.1 20 R15.2.2.2), (va_up (va_up (va_up R13.2.2 16 R15.1) 17 R15.2.1) 18 R15.2.2.1))
noncomputable def xRUN (R3 : Nat → Int32) (ar : Nat → Nat → Int32) (x1 R1 : Int32) : Option (Int32 × (Nat → Int32) × (Nat → Nat → Int32)) :=
  (fX4_append (ar 16) (ar 17) (ar 18) (R3 20) (2 : Int32) R1 (0 : Int32)).bind fun R29 => (fX6_at 112 (ar 4) (R3 4) x1).bind fun R31 => (fX6_append 64 (ar 5) (R3 5) R31).bind fun R33 =>
  some (R1, (va_up (va_up R3 20 R29.2.2.2) 5 R33.2), (va_up (va_up (va_up (va_up ar 16 R29.1) 17 R29.2.1) 18 R29.2.2.1) 5 R33.1))
theorem x_find_eq (sc : Nat → Int32) (ar : Nat → Nat → Int32) (sg : Bool) (x1 : Int32) : fX3_findInstruction sc ar sg x1 = (fX3_sameBytes sc ar sg x1).bind fun R1 => (fX3_findCopy sc ar sg x1).bind fun R3 =>
    if R1 < (4 : Int32) then (if (R3 10) < (4 : Int32) then xADD R3 ar x1 else xCOPY R3 ar sg x1) else (if R1 < (R3 10) then (if (R3 10) < (4 : Int32) then xADD R3 ar x1 else xCOPY R3 ar sg x1) else xRUN R3 ar x1 R1) := by
  rw [fX3_findInstruction]; rfl
noncomputable def mADD (v1 v2 : Int32) (k : Nat) (v3 : Int32) (sc : Nat → Int32) (ar : Nat → Nat → Int32) : Option ((Nat → Int32) × (Nat → Nat → Int32)) :=
  if inb ((1000 : Int32) + v3) 5000 = true then (fX8_addByte sc ar ((ar 0) ((1000 : Int32) + v3).toNatClampNeg)).bind fun R16 => fX8_findInstructions_L2 v1 v2 k (v3 + (1 : Int32)) R16.1 R16.2 else none
noncomputable def mCOPY (v1 v2 : Int32) (k : Nat) (v3 : Int32) (sc : Nat → Int32) (ar : Nat → Nat → Int32) (R9 : Int32 × Int32) (hh : Int32) : Option ((Nat → Int32) × (Nat → Nat → Int32)) :=
  (fX8_copy sc ar R9.1 R9.2 hh).bind fun R18 => fX8_findInstructions_L2 v1 v2 k (v3 + R9.2) R18.1 R18.2
noncomputable def mRUN (v1 v2 : Int32) (k : Nat) (v3 : Int32) (sc : Nat → Int32) (ar : Nat → Nat → Int32) (R11 : Int32) : Option ((Nat → Int32) × (Nat → Nat → Int32)) :=
  (fX8_instruct sc ar (2 : Int32) R11 (0 : Int32)).bind fun R27 => if inb ((1000 : Int32) + v3) 5000 = true then (fX8_write R27.1 R27.2 (0 : Int32) ((R27.2 0) ((1000 : Int32) + v3).toNatClampNeg)).bind fun R30 => fX8_findInstructions_L2 v1 v2 k (v3 + R11) R27.1 R30 else none
theorem m_find_eq (v1 v2 : Int32) (k : Nat) (v3 : Int32) (sc : Nat → Int32) (ar : Nat → Nat → Int32) : fX8_findInstructions_L2 v1 v2 (k + 1) v3 sc ar = if v2 ≤ v3 then some (sc, ar) else
    if inb (0 : Int32) 5 = true then (fX8_findInstructions_L28 sc ar v1 v2 v3 ((((ar 1) (0 : Int32).toNatClampNeg) + v3) - v1) FU (-1 : Int32) (0 : Int32) (0 : Int32)).bind fun R9 => (fX8_runFrom sc ar v3 v2).bind fun R11 =>
      if R11 < (4 : Int32) then (if R9.2 < (4 : Int32) then mADD v1 v2 k v3 sc ar else mCOPY v1 v2 k v3 sc ar R9 ((((ar 1) (0 : Int32).toNatClampNeg) + v3) - v1)) else (if R11 < R9.2 then (if R9.2 < (4 : Int32) then mADD v1 v2 k v3 sc ar else mCOPY v1 v2 k v3 sc ar R9 ((((ar 1) (0 : Int32).toNatClampNeg) + v3) - v1)) else mRUN v1 v2 k v3 sc ar R11)
    else none := by
  rw [fX8_findInstructions_L2]; rfl
theorem STR_m {sl n fr : Nat} {str : Nat → Int32} {sc sc' : Nat → Int32} {ar ar' mar mar' : Nat → Nat → Int32} (h : STR sl n fr str sc ar mar) (e : sc' 4 = sc 4) (e2 : ar' 4 = ar 4) (e3 : mar' 0 = mar 0) (e4 : mar' 1 = mar 1) : STR sl n fr str sc' ar' mar' := by
  obtain ⟨h1, h2, h3, h4, h5, h6⟩ := h
  refine ⟨by rw [e]; exact h1, fun i hi => by rw [e2]; exact h2 i hi, by rw [e4]; exact h3, fun i hi => by rw [e3]; exact h4 i hi, fun j hj => by rw [e3]; exact h5 j hj, h6⟩
/-- a state of the search, with its registers' numbers -/
def FIx (sl n fr : Nat) (str : Nat → Int32) (o c d a cp : Nat) (K S M : Nat → Nat) (sc : Nat → Int32) (ar : Nat → Nat → Int32) (msc : Nat → Int32) (mar : Nat → Nat → Int32) : Prop :=
  STR sl n fr str sc ar mar ∧ sc 20 = nI c ∧ msc 2 = nI c ∧ FR c K S M (ar 16) (ar 17) (ar 18) (mar 5) (mar 6) (mar 7) ∧ (∀ i, i < c → S i ≤ o) ∧ c ≤ o ∧ sc 5 = nI d ∧ mar 9 0 = nI d ∧ SR (ar 5) d (mar 8) 0 ∧ d ≤ o ∧ sc 7 = nI a ∧ mar 9 2 = nI a ∧ SR (ar 7) a (mar 8) 800 ∧ a ≤ o ∧ CA cp (ar 10) (ar 11) (sc 17) (msc 1) (mar 2) (mar 3) ∧ cp ≤ o
/-- data get a byte -/
theorem data_add {d : Nat} {b : Int32} {f : Nat → Int32} {mar : Nat → Nat → Int32} (h : SR f d (mar 8) 0) (hb : isb b) : SR (apd f d 1 (fun _ => b)) (d + 1) ((wA mar 0 d 1 (fun _ => b)) 8) 0 := by
  have := SR_apd (m := 1) (v := fun _ => b) h (fun _ _ => hb)
  rw [Nat.zero_add] at this
  show SR _ _ (apd (mar 8) (400 * 0 + d) 1 (fun _ => b)) 0
  rw [show 400 * 0 + d = d by omega]; exact this
theorem sec2_kept {a d m : Nat} {f g : Nat → Int32} {v : Nat → Int32} (h : SR f a g 800) (hd : d + m ≤ 400) : SR f a (apd g (400 * 0 + d) m v) 800 := SR_eq h (fun _ _ => rfl) (fun j _ => by rw [apd_hi (by omega)])
theorem sec0_kept {a d m : Nat} {f g : Nat → Int32} {v : Nat → Int32} (h : SR f d g 0) (hd : d ≤ 400) : SR f d (apd g (400 * 2 + a) m v) 0 := SR_eq h (fun _ _ => rfl) (fun j hj => by rw [apd_lo (by omega)])
theorem add_case {sl n fr : Nat} {str : Nat → Int32} {o c d a cp km : Nat} {K S M : Nat → Nat} {sc : Nat → Int32} {ar : Nat → Nat → Int32} {msc : Nat → Int32} {mar : Nat → Nat → Int32} (h : FIx sl n fr str o c d a cp K S M sc ar msc mar) (ho : o < n) :
    ∃ (sc' : Nat → Int32) (ar' : Nat → Nat → Int32) (msc' : Nat → Int32) (mar' : Nat → Nat → Int32), xADD sc ar (nI (sl + o)) = some (nI 1, sc', ar') ∧ mADD (nI fr) (nI (fr + n)) km (nI (fr + o)) msc mar = fX8_findInstructions_L2 (nI fr) (nI (fr + n)) km (nI (fr + o + 1)) msc' mar' ∧ FI sl n fr str (o + 1) sc' ar' msc' mar' ∧ FF sc sc' ar ar' msc msc' mar mar' := by
  obtain ⟨hT, h20, hm2, hF, hS, hco, h5, h90, hd, hdo, h7, h92, ha, hao, hC, hcp⟩ := h
  have h48 := hT.2.2.2.2.2.2.1
  have h64 := hT.2.2.2.2.2.2.2
  obtain ⟨u1, u2⟩ := m_tgAt0 (p := fr + o) hT (by omega) (by omega)
  rw [show fr + o - fr = o by omega] at u2
  have hb : isb (str (sl + o)) := hT.2.2.2.2.2.1 _ (by omega)
  obtain ⟨c', K', S', M', fk', fz', fm', gk', gz', gm', eX, eM, hF', hc', hS'⟩ := add_sim (b := str (sl + o)) hF hS (by omega) hco hm2 h90 (by omega)
  refine ⟨va_up (va_up sc 20 (nI c')) 5 (nI (d + 1)), va_up (va_up (va_up (va_up ar 16 fk') 17 fz') 18 fm') 5 (apd (ar 5) d 1 fun _ => str (sl + o)), va_up msc 2 (nI c'), wA (mI mar gk' gz' gm') 0 d 1 (fun _ => str (sl + o)), ?_, ?_, ?_, ?_⟩
  · rw [xADD, h20, eX, Option.bind_some, x_strAt hT (by omega), Option.bind_some, h5, row_app1 (by omega) (by omega), Option.bind_some]; rfl
  · rw [mADD, if_pos u1, u2, eM, Option.bind_some, nI_1]
  · refine ⟨c', d + 1, a, cp, K', S', M', STR_m hT rfl rfl rfl rfl, rfl, rfl, hF', hS', by omega, rfl, ?_, ?_, by omega, h7, ?_, ?_, by omega, hC, by omega⟩
    · show upd (mar 9) 0 (nI (d + 1)) 0 = _; rw [upd_s]
    · exact data_add (mar := mI mar gk' gz' gm') hd hb
    · show upd (mar 9) 0 (nI (d + 1)) 2 = _; rw [upd_n (by decide)]; exact h92
    · exact sec2_kept (d := d) (m := 1) (v := fun _ => str (sl + o)) ha (by omega)
  · refine ⟨fun k hk => ?_, fun k hk => ?_, fun k hk => ?_, fun k hk => ?_, ?_⟩
    · rw [up_nin (by decide) hk, up_nin (by decide) hk]
    · rw [up_nin (by decide) hk, up_nin (by decide) hk, up_nin (by decide) hk, up_nin (by decide) hk]
    · rw [up_nin (by decide) hk]
    · unfold wA mI; rw [up_nin (by decide) hk, up_nin (by decide) hk, up_nin (by decide) hk, up_nin (by decide) hk, up_nin (by decide) hk]
    · show upd (mar 9) 0 (nI (d + 1)) 1 = _; rw [upd_n (by decide)]
theorem run_case {sl n fr : Nat} {str : Nat → Int32} {o c d a cp km w : Nat} {K S M : Nat → Nat} {sc : Nat → Int32} {ar : Nat → Nat → Int32} {msc : Nat → Int32} {mar : Nat → Nat → Int32} (h : FIx sl n fr str o c d a cp K S M sc ar msc mar) (hw : 1 ≤ w) (ho : o + w ≤ n) :
    ∃ (sc' : Nat → Int32) (ar' : Nat → Nat → Int32) (msc' : Nat → Int32) (mar' : Nat → Nat → Int32), xRUN sc ar (nI (sl + o)) (nI w) = some (nI w, sc', ar') ∧ mRUN (nI fr) (nI (fr + n)) km (nI (fr + o)) msc mar (nI w) = fX8_findInstructions_L2 (nI fr) (nI (fr + n)) km (nI (fr + o + w)) msc' mar' ∧ FI sl n fr str (o + w) sc' ar' msc' mar' ∧ FF sc sc' ar ar' msc msc' mar mar' := by
  obtain ⟨hT, h20, hm2, hF, hS, hco, h5, h90, hd, hdo, h7, h92, ha, hao, hC, hcp⟩ := h
  have h48 := hT.2.2.2.2.2.2.1
  have h64 := hT.2.2.2.2.2.2.2
  obtain ⟨u1, u2⟩ := m_tgAt0 (p := fr + o) hT (by omega) (by omega)
  rw [show fr + o - fr = o by omega] at u2
  have hb : isb (str (sl + o)) := hT.2.2.2.2.2.1 _ (by omega)
  refine ⟨va_up (va_up sc 20 (nI (c + 1))) 5 (nI (d + 1)), va_up (va_up (va_up (va_up ar 16 (upd (ar 16) c 2)) 17 (upd (ar 17) c (nI w))) 18 (upd (ar 18) c 0)) 5 (apd (ar 5) d 1 fun _ => str (sl + o)), va_up msc 2 (nI (c + 1)), wA (mI mar (upd (mar 5) c 2) (upd (mar 6) c (nI w)) (upd (mar 7) c 0)) 0 d 1 (fun _ => str (sl + o)), ?_, ?_, ?_, ?_⟩
  · rw [xRUN, h20, x_ins (by omega), Option.bind_some, x_strAt hT (by omega), Option.bind_some, h5, row_app1 (by omega) (by omega), Option.bind_some]
  · rw [mRUN, m_ins hm2 (by omega), Option.bind_some, if_pos u1]
    dsimp only
    rw [show (mI mar (upd (mar 5) c 2) (upd (mar 6) c (nI w)) (upd (mar 7) c 0)) 0 = mar 0 from rfl, u2, wr_0 (c := d) (show (mI mar _ _ _) 9 0 = nI d from h90) (by omega), Option.bind_some, nI_add]
  · refine ⟨c + 1, d + 1, a, cp, va_up K c 2, va_up S c w, va_up M c 0, STR_m hT rfl rfl rfl rfl, rfl, rfl, FR_add (k := 2) (s := w) (m := 0) hF (Or.inr (Or.inl ⟨rfl, hw, by omega, rfl⟩)), fun i hi => ?_, by omega, rfl, ?_, ?_, by omega, h7, ?_, ?_, by omega, hC, by omega⟩
    · rw [up_ap]; by_cases e : i = c
      · rw [if_pos e]; omega
      · rw [if_neg e]; have := hS i (by omega); omega
    · show upd (mar 9) 0 (nI (d + 1)) 0 = _; rw [upd_s]
    · exact data_add (mar := mI mar (upd (mar 5) c 2) (upd (mar 6) c (nI w)) (upd (mar 7) c 0)) hd hb
    · show upd (mar 9) 0 (nI (d + 1)) 2 = _; rw [upd_n (by decide)]; exact h92
    · exact sec2_kept (d := d) (m := 1) (v := fun _ => str (sl + o)) ha (by omega)
  · refine ⟨fun k hk => ?_, fun k hk => ?_, fun k hk => ?_, fun k hk => ?_, ?_⟩
    · rw [up_nin (by decide) hk, up_nin (by decide) hk]
    · rw [up_nin (by decide) hk, up_nin (by decide) hk, up_nin (by decide) hk, up_nin (by decide) hk]
    · rw [up_nin (by decide) hk]
    · unfold wA mI; rw [up_nin (by decide) hk, up_nin (by decide) hk, up_nin (by decide) hk, up_nin (by decide) hk, up_nin (by decide) hk]
    · show upd (mar 9) 0 (nI (d + 1)) 1 = _; rw [upd_n (by decide)]
theorem copy_case {sl n fr : Nat} {str : Nat → Int32} {o c d a cp km w x : Nat} {K S M : Nat → Nat} {sg : Bool} {sc : Nat → Int32} {ar : Nat → Nat → Int32} {msc : Nat → Int32} {mar : Nat → Nat → Int32} (h : FIx sl n fr str o c d a cp K S M sc ar msc mar) (h10 : sc 10 = nI w) (h11 : sc 11 = nI x) (hx : x < sl + o) (hw : 4 ≤ w) (ho : o + w ≤ n) :
    ∃ (sc' : Nat → Int32) (ar' : Nat → Nat → Int32) (msc' : Nat → Int32) (mar' : Nat → Nat → Int32), xCOPY sc ar sg (nI (sl + o)) = some (nI w, sc', ar') ∧ mCOPY (nI fr) (nI (fr + n)) km (nI (fr + o)) msc mar (nI x, nI w) (nI (sl + o)) = fX8_findInstructions_L2 (nI fr) (nI (fr + n)) km (nI (fr + o + w)) msc' mar' ∧ FI sl n fr str (o + w) sc' ar' msc' mar' ∧ FF sc sc' ar ar' msc msc' mar mar' := by
  obtain ⟨hT, h20, hm2, hF, hS, hco, h5, h90, hd, hdo, h7, h92, ha, hao, hC, hcp⟩ := h
  have h48 := hT.2.2.2.2.2.2.1
  have h64 := hT.2.2.2.2.2.2.2
  obtain ⟨m, l, v, hm, hl1, hl2, hv, eX, eM⟩ := addr_sim (s := nI w) (sg := sg) (hh := sl + o) (x := x) hC h7 h92 (by omega) (by omega) (by omega) hm2 (show c < 64 by omega)
  refine ⟨va_up (va_up (va_up sc 7 (nI (a + l))) 17 (nI (cp + 1))) 20 (nI (c + 1)), va_up (va_up (va_up (va_up (va_up (va_up ar 7 (apd (ar 7) a l v)) 10 (upd (ar 10) (cp % 4) (nI x))) 11 (upd (ar 11) (x % 768) (nI x))) 16 (upd (ar 16) c 3)) 17 (upd (ar 17) c (nI w))) 18 (upd (ar 18) c (nI m)), va_up (va_up msc 2 (nI (c + 1))) 1 (nI ((cp % 4 + 1) % 4)), va_up (va_up (mI (wA mar 2 a l v) (upd (mar 5) c 3) (upd (mar 6) c (nI w)) (upd (mar 7) c (nI m))) 2 (upd (mar 2) (cp % 4) (nI x))) 3 (upd (mar 3) (x % 768) (nI x)), ?_, ?_, ?_, ?_⟩
  · rw [xCOPY, h11, eX, Option.bind_some]
    dsimp only
    rw [show (va_up (va_up sc 7 (nI (a + l))) 17 (nI (cp + 1))) 20 = nI c from h20, x_ins (by omega), Option.bind_some, h10, show (va_up (va_up sc 7 (nI (a + l))) 17 (nI (cp + 1))) 10 = nI w from h10]
    rfl
  · rw [mCOPY, eM, Option.bind_some, nI_add]
  · refine ⟨c + 1, d, a + l, cp + 1, va_up K c 3, va_up S c w, va_up M c m, STR_m hT rfl rfl rfl rfl, rfl, rfl, FR_add (k := 3) (s := w) (m := m) hF (Or.inr (Or.inr ⟨rfl, hw, by omega, hm⟩)), fun i hi => ?_, by omega, h5, ?_, ?_, by omega, rfl, ?_, ?_, by omega, CA_add hC, by omega⟩
    · rw [up_ap]; by_cases e : i = c
      · rw [if_pos e]; omega
      · rw [if_neg e]; have := hS i (by omega); omega
    · show upd (mar 9) 2 (nI (a + l)) 0 = _; rw [upd_n (by decide)]; exact h90
    · exact sec0_kept (a := a) (m := l) hd (by omega)
    · show upd (mar 9) 2 (nI (a + l)) 2 = _; rw [upd_s]
    · exact SR_apd ha hv
  · refine ⟨fun k hk => ?_, fun k hk => ?_, fun k hk => ?_, fun k hk => ?_, ?_⟩
    · rw [up_nin (by decide) hk, up_nin (by decide) hk, up_nin (by decide) hk]
    · rw [up_nin (by decide) hk, up_nin (by decide) hk, up_nin (by decide) hk, up_nin (by decide) hk, up_nin (by decide) hk, up_nin (by decide) hk]
    · rw [up_nin (by decide) hk, up_nin (by decide) hk]
    · unfold wA mI; rw [up_nin (by decide) hk, up_nin (by decide) hk, up_nin (by decide) hk, up_nin (by decide) hk, up_nin (by decide) hk, up_nin (by decide) hk, up_nin (by decide) hk]
    · show upd (mar 9) 2 (nI (a + l)) 1 = _; rw [upd_n (by decide)]
theorem fi_step {sl n fr : Nat} {str : Nat → Int32} {o km : Nat} {sg : Bool} {sc : Nat → Int32} {ar : Nat → Nat → Int32} {msc : Nat → Int32} {mar : Nat → Nat → Int32} (h : FI sl n fr str o sc ar msc mar) (ho : o < n) :
    ∃ (w : Nat) (sc' : Nat → Int32) (ar' : Nat → Nat → Int32) (msc' : Nat → Int32) (mar' : Nat → Nat → Int32), 1 ≤ w ∧ o + w ≤ n ∧ fX3_findInstruction sc ar sg (nI (sl + o)) = some (nI w, sc', ar') ∧ fX8_findInstructions_L2 (nI fr) (nI (fr + n)) (km + 1) (nI (fr + o)) msc mar = fX8_findInstructions_L2 (nI fr) (nI (fr + n)) km (nI (fr + o + w)) msc' mar' ∧ FI sl n fr str (o + w) sc' ar' msc' mar' ∧ FF sc sc' ar ar' msc msc' mar mar' := by
  obtain ⟨c, d, a, cp, K, S, M, hx⟩ := h
  have hT := hx.1
  have h48 := hT.2.2.2.2.2.2.1
  have h64 := hT.2.2.2.2.2.2.2
  obtain ⟨w, w1, w2, w3, w4⟩ := run_sim (msc := msc) (sg := sg) hT ho
  obtain ⟨sc3, b, lg, ca, q1, q2, q3, q4, q5, q6, q7⟩ := copy_sim (msc := msc) (sg := sg) hT ho
  have z : (0 : Int32).toNatClampNeg = 0 := by decide
  have eh : mar 1 (0 : Int32).toNatClampNeg + nI (fr + o) - nI fr = nI (sl + o) := by
    rw [z, hT.2.2.1, nI_add, pk_sub (by omega)]; congr 1; omega
  -- the world behind findCopy
  have hx3 : FIx sl n fr str o c d a cp K S M sc3 ar msc mar := by
    obtain ⟨a1, a2, a3, a4, a5, a6, a7, a8, a9, b1, b2, b3, b4, b5, b6, b7⟩ := hx
    exact ⟨STR_sc a1 (q7 4 (by decide) (by decide)), by rw [q7 20 (by decide) (by decide)]; exact a2, a3, a4, a5, a6, by rw [q7 5 (by decide) (by decide)]; exact a7, a8, a9, b1, by rw [q7 7 (by decide) (by decide)]; exact b2, b3, b4, b5, by rw [q7 17 (by decide) (by decide)]; exact b6, b7⟩
  have hFF : FF sc sc3 ar ar msc msc mar mar := ⟨fun k hk => q7 k (fun e => hk (by rw [e]; decide)) (fun e => hk (by rw [e]; decide)), fun _ _ => rfl, fun _ _ => rfl, fun _ _ => rfl, rfl⟩
  rw [x_find_eq, w3, Option.bind_some, q1, Option.bind_some, m_find_eq, if_neg (show ¬ nI (fr + n) ≤ nI (fr + o) by rw [nI_leI (by omega) (by omega)]; omega), if_pos (show inb (0 : Int32) 5 = true by decide), eh, q2, Option.bind_some, w4, Option.bind_some, q3]
  dsimp only
  have hADD : ∃ (w : Nat) (sc' : Nat → Int32) (ar' : Nat → Nat → Int32) (msc' : Nat → Int32) (mar' : Nat → Nat → Int32), 1 ≤ w ∧ o + w ≤ n ∧ xADD sc3 ar (nI (sl + o)) = some (nI w, sc', ar') ∧ mADD (nI fr) (nI (fr + n)) km (nI (fr + o)) msc mar = fX8_findInstructions_L2 (nI fr) (nI (fr + n)) km (nI (fr + o + w)) msc' mar' ∧ FI sl n fr str (o + w) sc' ar' msc' mar' ∧ FF sc sc' ar ar' msc msc' mar mar' := by
    obtain ⟨sc', ar', msc', mar', e1, e2, e3, e4⟩ := add_case (km := km) hx3 ho
    exact ⟨1, sc', ar', msc', mar', Nat.le_refl _, by omega, e1, e2, e3, hFF.trans e4⟩
  have hCOPY : 4 ≤ lg → ∃ (w : Nat) (sc' : Nat → Int32) (ar' : Nat → Nat → Int32) (msc' : Nat → Int32) (mar' : Nat → Nat → Int32), 1 ≤ w ∧ o + w ≤ n ∧ xCOPY sc3 ar sg (nI (sl + o)) = some (nI w, sc', ar') ∧ mCOPY (nI fr) (nI (fr + n)) km (nI (fr + o)) msc mar (b, nI lg) (nI (sl + o)) = fX8_findInstructions_L2 (nI fr) (nI (fr + n)) km (nI (fr + o + w)) msc' mar' ∧ FI sl n fr str (o + w) sc' ar' msc' mar' ∧ FF sc sc' ar ar' msc msc' mar mar' := by
    intro hl
    obtain ⟨eb, hca⟩ := q6 (by omega)
    subst eb
    obtain ⟨sc', ar', msc', mar', e1, e2, e3, e4⟩ := copy_case (km := km) (sg := sg) hx3 q3 q4 hca hl q5
    exact ⟨lg, sc', ar', msc', mar', by omega, q5, e1, e2, e3, hFF.trans e4⟩
  by_cases r1 : nI w < (4 : Int32)
  · rw [if_pos r1, if_pos r1]
    by_cases r2 : nI lg < (4 : Int32)
    · rw [if_pos r2, if_pos r2]; exact hADD
    · rw [if_neg r2, if_neg r2]
      exact hCOPY (by rw [L4, nI_ltI (by omega) (by omega)] at r2; omega)
  · rw [if_neg r1, if_neg r1]
    by_cases r3 : nI w < nI lg
    · rw [if_pos r3, if_pos r3]
      by_cases r2 : nI lg < (4 : Int32)
      · rw [if_pos r2, if_pos r2]; exact hADD
      · rw [if_neg r2, if_neg r2]
        exact hCOPY (by rw [L4, nI_ltI (by omega) (by omega)] at r2; omega)
    · rw [if_neg r3, if_neg r3]
      obtain ⟨sc', ar', msc', mar', e1, e2, e3, e4⟩ := run_case (km := km) hx3 w1 w2
      exact ⟨w, sc', ar', msc', mar', w1, w2, e1, e2, e3, hFF.trans e4⟩
theorem fi_skip {sl n : Nat} {sg : Bool} {sc : Nat → Int32} {ar : Nat → Nat → Int32} {N : Nat} (h4 : sc 4 = nI N) (hN : N ≤ 112) : ∀ (j v k : Nat), v + j ≤ N → fX3_findInstructions_L16 sg (k + j) (nI (v + j)) (nI v) sc ar = fX3_findInstructions_L16 sg k (nI (v + j)) (nI (v + j)) sc ar
  | 0, v, k, _ => rfl
  | j + 1, v, k, hv => by
    have e : k + (j + 1) = (k + j) + 1 := by omega
    rw [e, fX3_findInstructions_L16, fX6_count, Option.bind_some, h4, if_neg (by rw [nI_leI (by omega) (by omega)]; omega), if_neg (by rw [nI_eq (by omega) (by omega)]; omega), nI_1]
    have := fi_skip (sl := sl) (n := n) (sg := sg) (sc := sc) (ar := ar) h4 hN j (v + 1) k (by omega)
    rw [show v + 1 + j = v + (j + 1) by omega] at this
    exact this
theorem fi_loop {sl n fr : Nat} {str : Nat → Int32} {sg : Bool} : ∀ (r o kx km : Nat) (sc : Nat → Int32) (ar : Nat → Nat → Int32) (msc : Nat → Int32) (mar : Nat → Nat → Int32), o + r = n → r < kx → r < km → FI sl n fr str o sc ar msc mar →
    ∃ (sc' : Nat → Int32) (ar' : Nat → Nat → Int32) (msc' : Nat → Int32) (mar' : Nat → Nat → Int32), fX3_findInstructions_L16 sg kx (nI (sl + o)) (nI (sl + o)) sc ar = some (sc', ar') ∧ fX8_findInstructions_L2 (nI fr) (nI (fr + n)) km (nI (fr + o)) msc mar = some (msc', mar') ∧ FI sl n fr str n sc' ar' msc' mar' ∧ FF sc sc' ar ar' msc msc' mar mar' := by
  intro r
  induction r using Nat.strongRecOn with
  | ind r ih =>
    intro o kx km sc ar msc mar hor hkx hkm h
    obtain ⟨kx, rfl⟩ : ∃ q, kx = q + 1 := ⟨kx - 1, by omega⟩
    obtain ⟨km, rfl⟩ : ∃ q, km = q + 1 := ⟨km - 1, by omega⟩
    obtain ⟨c, d, a, cp, K, S, M, hx⟩ := id h
    have hT := hx.1
    have h48 := hT.2.2.2.2.2.2.1
    have h64 := hT.2.2.2.2.2.2.2
    by_cases h0 : r = 0
    · have e : o = n := by omega
      subst e
      refine ⟨sc, ar, msc, mar, ?_, ?_, h, FF.rf⟩
      · rw [fX3_findInstructions_L16, fX6_count, Option.bind_some, hT.1, if_pos (by rw [nI_leI (by omega) (by omega)]; omega)]
      · rw [fX8_findInstructions_L2, if_pos (by rw [nI_leI (by omega) (by omega)]; omega)]
    · obtain ⟨w, sc1, ar1, msc1, mar1, w1, w2, e1, e2, e3, e4⟩ := fi_step (km := km) (sg := sg) h (by omega)
      obtain ⟨c1, d1, a1, cp1, K1, S1, M1, hx1⟩ := id e3
      have hT1 := hx1.1
      obtain ⟨sc', ar', msc', mar', f1, f2, f3, f4⟩ := ih (r - w) (by omega) (o + w) (kx - (w - 1)) km sc1 ar1 msc1 mar1 (by omega) (by omega) (by omega) e3
      refine ⟨sc', ar', msc', mar', ?_, ?_, f3, e4.trans f4⟩
      · rw [fX3_findInstructions_L16, fX6_count, Option.bind_some, hT.1, if_neg (by rw [nI_leI (by omega) (by omega)]; omega), if_pos rfl, e1, Option.bind_some, nI_1]
        dsimp only
        rw [nI_add]
        have sk := fi_skip (sl := sl) (n := n) (sg := sg) (ar := ar1) hT1.1 (by omega) (w - 1) (sl + o + 1) (kx - (w - 1)) (by omega)
        rw [show kx - (w - 1) + (w - 1) = kx by omega, show sl + o + 1 + (w - 1) = sl + o + w by omega] at sk
        rw [sk, show sl + o + w = sl + (o + w) by omega]
        exact f1
      · rw [e2, show fr + o + w = fr + (o + w) by omega]; exact f2
theorem find_sim {sl n fr : Nat} {str : Nat → Int32} {sg : Bool} {sc : Nat → Int32} {ar : Nat → Nat → Int32} {msc : Nat → Int32} {mar : Nat → Nat → Int32} (h : FI sl n fr str 0 sc ar msc mar) (h0 : sc 0 = nI sl) :
    ∃ (sc' : Nat → Int32) (ar' : Nat → Nat → Int32) (msc' : Nat → Int32) (mar' : Nat → Nat → Int32), fX3_findInstructions sc ar sg = some (sc', ar') ∧ fX8_findInstructions msc mar (nI fr) (nI (fr + n)) = some (msc', mar') ∧ FI sl n fr str n sc' ar' msc' mar' ∧ FF sc sc' ar ar' msc msc' mar mar' := by
  obtain ⟨c, d, a, cp, K, S, M, hx⟩ := id h
  have h64 := hx.1.2.2.2.2.2.2.2
  obtain ⟨sc', ar', msc', mar', f1, f2, f3, f4⟩ := fi_loop (sg := sg) n 0 FU FU sc ar msc mar (by omega) (by rw [FUv]; omega) (by rw [FUv]; omega) h
  refine ⟨sc', ar', msc', mar', ?_, ?_, f3, f4⟩
  · rw [fX3_findInstructions, fX6_count, Option.bind_some, Option.bind_some, h0]
    rw [Nat.add_zero] at f1
    rw [f1, Option.bind_some]
  · rw [fX8_findInstructions]
    rw [Nat.add_zero] at f2
    rw [f2, Option.bind_some]
