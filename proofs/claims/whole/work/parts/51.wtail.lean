/-! PURE: a window's end in the model, and both sides together -/
theorem m_total {msc : Nat → Int32} {r : Nat → Nat → Int32} {x1 x2 : Int32} {d cc a : Nat} (h0 : r 9 0 = nI d) (h1 : r 9 1 = nI cc) (h2 : r 9 2 = nI a) (hd : d ≤ 400) (hc : cc ≤ 400) (ha : a ≤ 400) : fX8_window_L90 msc r x1 x2 FU 0 0 = some (nI (d + vlen d + cc + vlen cc + a + vlen a)) := by
  have s0 : FU = 5996 + 1 + 1 + 1 + 1 := rfl
  have c0 : (0 : Int32).toNatClampNeg = 0 := by decide
  have c1 : ((0 : Int32) + 1).toNatClampNeg = 1 := by decide
  have c2 : ((0 : Int32) + 1 + 1).toNatClampNeg = 2 := by decide
  rw [s0, fX8_window_L90, if_neg (by decide), if_pos (by decide), if_pos (by decide), c0, h0, m_bytesOf (by omega), Option.bind_some]
  rw [fX8_window_L90, if_neg (by decide), if_pos (by decide), if_pos (by decide), c1, h1, m_bytesOf (by omega), Option.bind_some]
  rw [fX8_window_L90, if_neg (by decide), if_pos (by decide), if_pos (by decide), c2, h2, m_bytesOf (by omega), Option.bind_some]
  rw [fX8_window_L90, if_pos (by decide), L0, nI_add, nI_add, nI_add, nI_add, nI_add, nI_add, Nat.zero_add]
theorem m_sizes {msc : Nat → Int32} {r : Nat → Nat → Int32} {C d cc a : Nat} (h0 : r 9 0 = nI d) (h1 : r 9 1 = nI cc) (h2 : r 9 2 = nI a) (hd : d ≤ 400) (hc : cc ≤ 400) (ha : a ≤ 400) (hC : r 1 2 = nI C) (hb : C < 2000) : fX8_window_L153 msc FU 0 r = some (rA (rA (rA r 2 C (vlen d) (vfun d)) 2 (C + vlen d) (vlen cc) (vfun cc)) 2 (C + vlen d + vlen cc) (vlen a) (vfun a)) := by
  have s0 : FU = 5996 + 1 + 1 + 1 + 1 := rfl
  have c0 : (0 : Int32).toNatClampNeg = 0 := by decide
  have c1 : ((0 : Int32) + 1).toNatClampNeg = 1 := by decide
  have c2 : ((0 : Int32) + 1 + 1).toNatClampNeg = 2 := by decide
  have l1 := vlen_le d
  have l2 := vlen_le cc
  have u : ∀ (ar : Nat → Nat → Int32) (c m : Nat) (g : Nat → Int32), (rA ar 2 c m g) 1 2 = nI (c + m) := fun ar c m g => by show upd (ar 1) 2 (nI (c + m)) 2 = _; rw [upd_s]
  rw [s0, fX8_window_L153, if_neg (by decide), if_pos (by decide), c0, h0, m_appInt (by omega) (by omega) hC, Option.bind_some]
  rw [fX8_window_L153, if_neg (by decide), if_pos (by decide), c1, show (rA r 2 C (vlen d) (vfun d)) 9 = r 9 from rfl, h1, m_appInt (by omega) (by omega) (u _ _ _ _), Option.bind_some]
  rw [fX8_window_L153, if_neg (by decide), if_pos (by decide), c2, show (rA (rA r 2 C (vlen d) (vfun d)) 2 (C + vlen d) (vlen cc) (vfun cc)) 9 = r 9 from rfl, h2, m_appInt (by omega) (by omega) (u _ _ _ _), Option.bind_some]
  rw [fX8_window_L153, if_pos (by decide)]
theorem m_secs {msc : Nat → Int32} {r : Nat → Nat → Int32} {C d cc a : Nat} (h0 : r 9 0 = nI d) (h1 : r 9 1 = nI cc) (h2 : r 9 2 = nI a) (hd : d ≤ 400) (hc : cc ≤ 400) (ha : a ≤ 400) (hC : r 1 2 = nI C) (hb : C + d + cc + a ≤ 1000) : fX8_window_L179 msc FU 0 r = some (rA (rA (rA r 2 C d (fun j => r 8 (400 * 0 + j))) 2 (C + d) cc (fun j => r 8 (400 * 1 + j))) 2 (C + d + cc) a (fun j => r 8 (400 * 2 + j))) := by
  have s0 : FU = 5996 + 1 + 1 + 1 + 1 := rfl
  have u : ∀ (ar : Nat → Nat → Int32) (c m : Nat) (g : Nat → Int32), (rA ar 2 c m g) 1 2 = nI (c + m) := fun ar c m g => by show upd (ar 1) 2 (nI (c + m)) 2 = _; rw [upd_s]
  have e0 := sec_all (msc := msc) (mar := r) (s := 0) (by omega) h0 hd (by omega) hC
  have e1 := sec_all (msc := msc) (mar := rA r 2 C d (fun j => r 8 (400 * 0 + j))) (s := 1) (c := C + d) (by omega) (show r 9 1 = nI cc from h1) hc (by omega) (u _ _ _ _)
  have e2 := sec_all (msc := msc) (mar := rA (rA r 2 C d (fun j => r 8 (400 * 0 + j))) 2 (C + d) cc (fun j => r 8 (400 * 1 + j))) (s := 2) (c := C + d + cc) (by omega) (show r 9 2 = nI a from h2) ha (by omega) (u _ _ _ _)
  generalize hF : FU = fu at e0 e1 e2 s0 ⊢
  have s1 : fX8_window_L179 msc fu 0 r = fX8_window_L179 msc (5996 + 1 + 1 + 1 + 1) 0 r := by rw [← s0]
  rw [s1, fX8_window_L179, if_neg (by decide), hF, show (0 : Int32) = nI 0 from rfl, ← show (0 : Int32) = nI 0 from rfl]
  have e0' : fX8_window_L188 msc 0 fu 0 r = some (rA r 2 C d (fun j => r 8 (400 * 0 + j))) := e0
  rw [e0', Option.bind_some, fX8_window_L179, if_neg (by decide), hF]
  have e1' : fX8_window_L188 msc (0 + 1) fu 0 (rA r 2 C d (fun j => r 8 (400 * 0 + j))) = some (rA (rA r 2 C d (fun j => r 8 (400 * 0 + j))) 2 (C + d) cc (fun j => r 8 (400 * 1 + j))) := e1
  rw [e1', Option.bind_some, fX8_window_L179, if_neg (by decide), hF]
  have e2' : fX8_window_L188 msc (0 + 1 + 1) fu 0 (rA (rA r 2 C d (fun j => r 8 (400 * 0 + j))) 2 (C + d) cc (fun j => r 8 (400 * 1 + j))) = some (rA (rA (rA r 2 C d (fun j => r 8 (400 * 0 + j))) 2 (C + d) cc (fun j => r 8 (400 * 1 + j))) 2 (C + d + cc) a (fun j => r 8 (400 * 2 + j))) := e2
  rw [e2', Option.bind_some, fX8_window_L179, if_pos (by decide)]
theorem m_tail {msc : Nat → Int32} {r : Nat → Nat → Int32} {x1 x2 : Int32} {C n d cc a : Nat} {vd vc va : Nat → Int32} (hx : x2 - x1 = nI n) (h0 : r 9 0 = nI d) (h1 : r 9 1 = nI cc) (h2 : r 9 2 = nI a) (hn : n ≤ 64) (hd : d ≤ 64) (hc : cc ≤ 128) (ha : a ≤ 64) (hC : r 1 2 = nI C) (hb : C + 2 + bsz n d cc a ≤ 1000) (sd : SR vd d (r 8) 0) (sc : SR vc cc (r 8) 400) (sa : SR va a (r 8) 800) :
    ∃ r' : Nat → Nat → Int32, ((fX8_window_L90 msc r x1 x2 FU 0 0).bind fun R31 => (fX8_bytesOf (x2 - x1)).bind fun R33 => (fX8_appendInteger msc r ((R31 + R33) + (1 : Int32))).bind fun R35 => (fX8_appendInteger msc R35 (x2 - x1)).bind fun R37 => (fX8_append msc R37 (2 : Int32) (0 : Int32)).bind fun R39 => (fX8_window_L153 msc FU 0 R39).bind fun R45 => (fX8_window_L179 msc FU 0 R45).bind fun R55 => some (msc, R55)) = some (msc, r') ∧
      (∀ F : Nat → Int32, DR C F r → DR (C + vlen (bsz n d cc a) + bsz n d cc a) (wp F C n d cc a vd vc va) r') ∧ RF r r' := by
  have l1 := vlen_le n
  have l2 := vlen_le d
  have l3 := vlen_le cc
  have l4 := vlen_le a
  have l5 := vlen_le (bsz n d cc a)
  have eB : bsz n d cc a = vlen n + 1 + vlen d + vlen cc + vlen a + d + cc + a := rfl
  have u : ∀ (ar : Nat → Nat → Int32) (c m : Nat) (g : Nat → Int32), (rA ar 2 c m g) 1 2 = nI (c + m) := fun ar c m g => by show upd (ar 1) 2 (nI (c + m)) 2 = _; rw [upd_s]
  have et : nI (d + vlen d + cc + vlen cc + a + vlen a) + nI (vlen n) + (1 : Int32) = nI (bsz n d cc a) := by
    rw [nI_add, nI_1]; congr 1; omega
  rw [m_total h0 h1 h2 (by omega) (by omega) (by omega), Option.bind_some, hx, m_bytesOf (by omega), Option.bind_some, et, m_appInt (by omega) (by omega) hC, Option.bind_some, m_appInt (by omega) (by omega) (u _ _ _ _), Option.bind_some, ap_2 (u _ _ _ _) (by omega), Option.bind_some]
  rw [m_sizes (r := rA (rA (rA r 2 C _ _) 2 _ _ _) 2 _ 1 _) (show r 9 0 = nI d from h0) (show r 9 1 = nI cc from h1) (show r 9 2 = nI a from h2) (by omega) (by omega) (by omega) (u _ _ _ _) (by omega), Option.bind_some]
  rw [m_secs (r := rA (rA (rA (rA (rA (rA r 2 C _ _) 2 _ _ _) 2 _ 1 _) 2 _ _ _) 2 _ _ _) 2 _ _ _) (show r 9 0 = nI d from h0) (show r 9 1 = nI cc from h1) (show r 9 2 = nI a from h2) (by omega) (by omega) (by omega) (u _ _ _ _) (by omega), Option.bind_some]
  refine ⟨_, rfl, fun F hF => ?_, ?_⟩
  · have vb : ∀ v j : Nat, v < 16384 → vfun v j = vfun v j ∧ isb (vfun v j) := fun v j hv => ⟨rfl, vfun_b hv⟩
    have p1 := DR_add (m := vlen (bsz n d cc a)) hF (fun j _ => vb (bsz n d cc a) j (by omega))
    have p2 := DR_add (m := vlen n) p1 (fun j _ => vb n j (by omega))
    have p3 := DR_add (m := 1) (v := fun _ => 0) (v' := fun _ => 0) p2 (fun _ _ => ⟨rfl, 0, by omega, rfl⟩)
    have p4 := DR_add (m := vlen d) p3 (fun j _ => vb d j (by omega))
    have p5 := DR_add (m := vlen cc) p4 (fun j _ => vb cc j (by omega))
    have p6 := DR_add (m := vlen a) p5 (fun j _ => vb a j (by omega))
    have p7 := DR_add (m := d) (v := vd) (v' := fun j => r 8 (400 * 0 + j)) p6 (fun j hj => by have := sd j hj; rw [show 400 * 0 + j = 0 + j by omega]; exact this)
    have p8 := DR_add (m := cc) (v := vc) (v' := fun j => r 8 (400 * 1 + j)) p7 (fun j hj => by have := sc j hj; rw [show 400 * 1 + j = 400 + j by omega]; exact this)
    have p9 := DR_add (m := a) (v := va) (v' := fun j => r 8 (400 * 2 + j)) p8 (fun j hj => by have := sa j hj; rw [show 400 * 2 + j = 800 + j by omega]; exact this)
    have ee : C + vlen (bsz n d cc a) + vlen n + 1 + vlen d + vlen cc + vlen a + d + cc + a = C + vlen (bsz n d cc a) + bsz n d cc a := by omega
    rw [ee] at p9
    exact p9
  · refine ((((((((RF_add ?_).trans (RF_add ?_)).trans (RF_add ?_)).trans (RF_add ?_)).trans (RF_add ?_)).trans (RF_add ?_)).trans (RF_add ?_)).trans (RF_add ?_)).trans (RF_add ?_)
    all_goals omega
