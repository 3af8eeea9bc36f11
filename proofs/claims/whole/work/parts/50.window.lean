/-! PURE: a window written, both sides -/
def S0 (sl tl : Nat) (src tg : Nat → Int32) (sc : Nat → Int32) (ar mar : Nat → Nat → Int32) : Prop :=
  sc 0 = nI sl ∧ (∀ i, i < sl → ar 0 i = src i) ∧ sc 1 = nI tl ∧ (∀ i, i < tl → ar 1 i = tg i) ∧ mar 1 0 = nI sl ∧ (∀ i, i < sl → mar 0 i = src i) ∧ mar 1 1 = nI tl ∧ (∀ i, i < tl → mar 0 (1000 + i) = tg i) ∧ (∀ i, i < sl → isb (src i)) ∧ (∀ i, i < tl → isb (tg i)) ∧ sl ≤ 48 ∧ tl ≤ 64
def DR (dl : Nat) (f : Nat → Int32) (mar : Nat → Nat → Int32) : Prop := mar 1 2 = nI dl ∧ SR f dl (mar 0) 2000
theorem apd_congr {f g g' : Nat → Int32} {c m : Nat} (h : ∀ j, j < m → g j = g' j) : apd f c m g = apd f c m g' := by
  funext j; simp only [apd]
  by_cases q : c ≤ j ∧ j < c + m
  · rw [if_pos q, if_pos q, h _ (by omega)]
  · rw [if_neg q, if_neg q]
theorem DR_add {dl m : Nat} {f v v' : Nat → Int32} {mar : Nat → Nat → Int32} (h : DR dl f mar) (hv : ∀ j, j < m → v j = v' j ∧ isb (v j)) : DR (dl + m) (apd f dl m v) (rA mar 2 dl m v') := by
  refine ⟨?_, ?_⟩
  · show upd (mar 1) 2 (nI (dl + m)) 2 = _; rw [upd_s]
  · have := SR_apd (m := m) (v := v) h.2 (fun j hj => (hv j hj).2)
    show SR _ _ (apd (mar 0) (1000 * 2 + dl) m v') 2000
    rw [← apd_congr (fun j hj => (hv j hj).1)]
    exact this
/-- what a run of appends to the delta leaves alone -/
def RF (mar mar' : Nat → Nat → Int32) : Prop := (∀ k, k ≠ 0 → k ≠ 1 → mar' k = mar k) ∧ (∀ j, j ≠ 2 → mar' 1 j = mar 1 j) ∧ (∀ j, j < 2000 ∨ 3000 ≤ j → mar' 0 j = mar 0 j)
theorem RF.rf {mar : Nat → Nat → Int32} : RF mar mar := ⟨fun _ _ _ => rfl, fun _ _ => rfl, fun _ _ => rfl⟩
theorem RF.trans {a b c : Nat → Nat → Int32} (h : RF a b) (h2 : RF b c) : RF a c := ⟨fun k h0 h1 => (h2.1 k h0 h1).trans (h.1 k h0 h1), fun j hj => (h2.2.1 j hj).trans (h.2.1 j hj), fun j hj => (h2.2.2 j hj).trans (h.2.2 j hj)⟩
theorem RF_add {mar : Nat → Nat → Int32} {dl m : Nat} {v : Nat → Int32} (h : dl + m ≤ 1000) : RF mar (rA mar 2 dl m v) := by
  refine ⟨fun k h0 h1 => ?_, fun j hj => ?_, fun j hj => ?_⟩
  · unfold rA; rw [up_ap, if_neg h1, up_ap, if_neg h0]
  · show upd (mar 1) 2 (nI (dl + m)) j = _; rw [upd_n hj]
  · show apd (mar 0) (1000 * 2 + dl) m v j = _
    rcases hj with hj | hj
    · rw [apd_lo (by omega)]
    · rw [apd_hi (by omega)]
theorem apd_app (F bf g : Nat → Int32) (C m m' : Nat) : apd F C (m + m') (apd bf m m' g) = apd (apd F C m bf) (C + m) m' g := by
  funext j
  simp only [apd]
  by_cases h1 : C + m ≤ j ∧ j < C + m + m'
  · rw [if_pos (by omega), if_pos (by omega), if_pos h1]; congr 1; omega
  · rw [if_neg h1]
    by_cases h2 : C ≤ j ∧ j < C + m
    · rw [if_pos (by omega), if_neg (by omega), if_pos h2]
    · rw [if_neg (by omega), if_neg h2]
theorem apd_base (F b g : Nat → Int32) (C m : Nat) : apd F C m (apd b 0 m g) = apd F C m g := apd_congr (fun j hj => by simp only [apd]; rw [if_pos (by omega)]; congr 1)
/-- a section as it is appended -/
theorem sec_L {msc : Nat → Int32} {mar : Nat → Nat → Int32} {s c w : Nat} (hs : s < 3) (hw : mar 9 s = nI w) (hw4 : w ≤ 400) (hc : c + w ≤ 1000) : ∀ (r i k : Nat), i + r = w → r < k → fX8_window_L188 msc (nI s) k (nI i) (rA mar 2 c i (fun j => mar 8 (400 * s + j))) = some (rA mar 2 c w (fun j => mar 8 (400 * s + j)))
  | 0, i, k + 1, hi, _ => by
    have e : i = w := by omega
    subst e
    have i3 : inb (nI s) 3 = true := by rw [inb_nI (by omega)]; omega
    rw [fX8_window_L188, if_pos i3, nI_clamp (by omega), show (rA mar 2 c i fun j => mar 8 (400 * s + j)) 9 = mar 9 from rfl, hw, if_pos (by rw [nI_leI (by omega) (by omega)]; omega)]
  | r + 1, i, k + 1, hi, hk => by
    have i3 : inb (nI s) 3 = true := by rw [inb_nI (by omega)]; omega
    have e4 : (400 : Int32) * nI s + nI i = nI (400 * s + i) := by rw [L400, pk_mul, nI_add]
    have ap := m_app_s (sc := msc) (ar := mar) (r := 2) (c := c) (m := i) (g := fun j => mar 8 (400 * s + j)) (by omega) (by omega)
    rw [fX8_window_L188, if_pos i3, nI_clamp (by omega), show (rA mar 2 c i fun j => mar 8 (400 * s + j)) 9 = mar 9 from rfl, hw, if_neg (by rw [nI_leI (by omega) (by omega)]; omega), e4, if_pos (by rw [inb_nI (by omega)]; omega), nI_clamp (by omega), show (rA mar 2 c i fun j => mar 8 (400 * s + j)) 8 = mar 8 from rfl]
    have ap' : fX8_append msc (rA mar 2 c i fun j => mar 8 (400 * s + j)) (2 : Int32) (mar 8 (400 * s + i)) = some (rA mar 2 c (i + 1) fun j => mar 8 (400 * s + j)) := ap
    rw [ap', Option.bind_some, nI_1]
    exact sec_L hs hw hw4 hc r (i + 1) k (by omega) (by omega)
  | r, i, 0, hi, hk => by omega
theorem sec_all {msc : Nat → Int32} {mar : Nat → Nat → Int32} {s c w : Nat} (hs : s < 3) (hw : mar 9 s = nI w) (hw4 : w ≤ 400) (hc : c + w ≤ 1000) (h1 : mar 1 2 = nI c) : fX8_window_L188 msc (nI s) FU 0 mar = some (rA mar 2 c w (fun j => mar 8 (400 * s + j))) := by
  have h := sec_L (msc := msc) (mar := mar) hs hw hw4 hc w 0 FU (by omega) (by rw [FUv]; omega)
  rw [rA_0 h1] at h
  exact h
/-- the numbers of a window: its length, its data, codes, addresses; its size behind the third integer -/
def bsz (n d cc a : Nat) : Nat := vlen n + 1 + vlen d + vlen cc + vlen a + d + cc + a
theorem vlen_le (v : Nat) : 1 ≤ vlen v ∧ vlen v ≤ 2 := by unfold vlen; split <;> omega
/-- the pieces of a window behind its segment, appended to a delta -/
def wp (F : Nat → Int32) (C n d cc a : Nat) (vd vc va : Nat → Int32) : Nat → Int32 :=
  let B := bsz n d cc a
  let C1 := C + vlen B
  let C2 := C1 + vlen n
  let C3 := C2 + 1
  let C4 := C3 + vlen d
  let C5 := C4 + vlen cc
  let C6 := C5 + vlen a
  let C7 := C6 + d
  let C8 := C7 + cc
  apd (apd (apd (apd (apd (apd (apd (apd (apd F C (vlen B) (vfun B)) C1 (vlen n) (vfun n)) C2 1 (fun _ => 0)) C3 (vlen d) (vfun d)) C4 (vlen cc) (vfun cc)) C5 (vlen a) (vfun a)) C6 d vd) C7 cc vc) C8 a va
theorem tail_unroll (Q fb vd vc va : Nat → Int32) (D n d cc a : Nat) : apd Q D (bsz n d cc a) (apd (apd (apd (apd (apd (apd (apd (apd fb 0 (vlen n) (vfun n)) (0 + vlen n) 1 (fun _ => 0)) (0 + vlen n + 1) (vlen d) (vfun d)) (0 + vlen n + 1 + vlen d) (vlen cc) (vfun cc)) (0 + vlen n + 1 + vlen d + vlen cc) (vlen a) (vfun a)) (0 + vlen n + 1 + vlen d + vlen cc + vlen a) d vd) (0 + vlen n + 1 + vlen d + vlen cc + vlen a + d) cc vc) (0 + vlen n + 1 + vlen d + vlen cc + vlen a + d + cc) a va) = apd (apd (apd (apd (apd (apd (apd (apd Q D (vlen n) (vfun n)) (D + vlen n) 1 (fun _ => 0)) (D + vlen n + 1) (vlen d) (vfun d)) (D + vlen n + 1 + vlen d) (vlen cc) (vfun cc)) (D + vlen n + 1 + vlen d + vlen cc) (vlen a) (vfun a)) (D + vlen n + 1 + vlen d + vlen cc + vlen a) d vd) (D + vlen n + 1 + vlen d + vlen cc + vlen a + d) cc vc) (D + vlen n + 1 + vlen d + vlen cc + vlen a + d + cc) a va := by
  have e0 : bsz n d cc a = 0 + vlen n + 1 + vlen d + vlen cc + vlen a + d + cc + a := by unfold bsz; omega
  rw [e0, apd_app, apd_app, apd_app, apd_app, apd_app, apd_app, apd_app, Nat.zero_add, apd_base]
  simp only [Nat.add_assoc]
/-- X: the window's end (behind the segment) -/
theorem x_tail {F fb vd vc va : Nat → Int32} {C n d cc a : Nat} (hn : n ≤ 64) (hd : d ≤ 64) (hc : cc ≤ 128) (ha : a ≤ 64) (hC : C + 2 + bsz n d cc a ≤ 1000) :
    (fX6_appendInteger 320 fb (nI 0) (nI n)).bind (fun R20 => (fX6_append 320 R20.1 R20.2 (0 : Int32)).bind fun R22 => (fX6_appendInteger 320 R22.1 R22.2 (nI d)).bind fun R26 => (fX6_appendInteger 320 R26.1 R26.2 (nI cc)).bind fun R30 => (fX6_appendInteger 320 R30.1 R30.2 (nI a)).bind fun R34 => (fX6_appendRow 320 64 R34.1 R34.2 vd (nI d)).bind fun R36 => (fX6_appendRow 320 128 R36.1 R36.2 vc (nI cc)).bind fun R38 => (fX6_appendRow 320 64 R38.1 R38.2 va (nI a)).bind fun R40 => (fX6_appendInteger 1000 F (nI C) R40.2).bind fun R44 => (fX6_appendRow 1000 320 R44.1 R44.2 R40.1 R40.2).bind fun R46 => some (R40, R46)) = some ((apd (apd (apd (apd (apd (apd (apd (apd fb 0 (vlen n) (vfun n)) (0 + vlen n) 1 (fun _ => 0)) (0 + vlen n + 1) (vlen d) (vfun d)) (0 + vlen n + 1 + vlen d) (vlen cc) (vfun cc)) (0 + vlen n + 1 + vlen d + vlen cc) (vlen a) (vfun a)) (0 + vlen n + 1 + vlen d + vlen cc + vlen a) d vd) (0 + vlen n + 1 + vlen d + vlen cc + vlen a + d) cc vc) (0 + vlen n + 1 + vlen d + vlen cc + vlen a + d + cc) a va, nI (bsz n d cc a)), (wp F C n d cc a vd vc va, nI (C + vlen (bsz n d cc a) + bsz n d cc a))) := by
  have l1 := vlen_le n
  have l2 := vlen_le d
  have l3 := vlen_le cc
  have l4 := vlen_le a
  have l5 := vlen_le (bsz n d cc a)
  have eB : bsz n d cc a = vlen n + 1 + vlen d + vlen cc + vlen a + d + cc + a := rfl
  have e0 : 0 + vlen n + 1 + vlen d + vlen cc + vlen a + d + cc + a = bsz n d cc a := by rw [eB]; omega
  rw [row_appInt (by omega) (by omega) (by omega), Option.bind_some]
  dsimp only
  rw [row_app1 (by omega) (by omega), Option.bind_some]
  dsimp only
  rw [row_appInt (by omega) (by omega) (by omega), Option.bind_some]
  dsimp only
  rw [row_appInt (by omega) (by omega) (by omega), Option.bind_some]
  dsimp only
  rw [row_appInt (by omega) (by omega) (by omega), Option.bind_some]
  dsimp only
  rw [row_appRow (by omega) (by omega) (by omega) (by omega), Option.bind_some]
  dsimp only
  rw [row_appRow (by omega) (by omega) (by omega) (by omega), Option.bind_some]
  dsimp only
  rw [row_appRow (by omega) (by omega) (by omega) (by omega), Option.bind_some]
  dsimp only
  rw [e0, row_appInt (by omega) (by omega) (by omega), Option.bind_some]
  dsimp only
  rw [row_appRow (by omega) (by omega) (by omega) (by omega), Option.bind_some]
  refine congrArg some (Prod.ext rfl (Prod.ext ?_ rfl))
  exact tail_unroll _ _ _ _ _ _ _ _ _ _
