noncomputable def fJ9_floorMod_7cf53 (x0 : Int32) (x1 : Int32) : Option (Int32) :=
  if nz x1 = true then
  if 0 ≤ (x0 ^^^ x1) then
    some (x0 - x0 / x1 * x1)
  else
    if (x0 - x0 / x1 * x1) = 0 then
      some (x0 - x0 / x1 * x1)
    else
      some ((x0 - x0 / x1 * x1) + x1)
  else none

set_option maxHeartbeats 4000000 in
set_option maxRecDepth 100000 in
theorem kJ9_floorMod_7cf53 (l : Launch) (D : va_G) (x0 : Int32) (x1 : Int32) {R : Int32} (hf : fJ9_floorMod_7cf53 x0 x1 = some R) : MI l yJ9_floorMod_7cf53 wsJ9_floorMod_7cf53 (rmD 0) D ([.int x0, .int x1] : List Value) ([] : va_W) [] NT R ([] : va_W) := by
  refine MI.mk (cc := cJ9_floorMod_7cf53) (maxL := 3) (ret := (some .int)) (by first | decide | decide +kernel) rfl (Nat.le_of_ble_eq_true rfl) ?_
  intro p e s m below meth cd A ls hE
  obtain ⟨hx, hb, hr, hml, hts, hown, hlocks, hP, hK, hD, hA, hN, hAe, hl⟩ := hE
  have hown : s.vm.findClass RJ9 = some m.cls := hown
  have hS : va_S A s.heap s.heap [] := va_S.rf
  have hl : lv_has ls 3 [(0, .int x0), (1, .int x1)] := hl
  rw [fJ9_floorMod_7cf53] at hf
  refine lv_iload_n hx hb dJ9_floorMod_7cf53_0 rfl (lv_at hl 0 rfl) ?_
  refine lv_iload_n hx hb dJ9_floorMod_7cf53_1 rfl (lv_at hl 1 rfl) ?_
  obtain ⟨g1, hf⟩ := g_inv hf
  refine lv_irem hx hb dJ9_floorMod_7cf53_2 (nz_ne g1) ?_
  refine lv_istore_n (lv' := [(2, .int (x0 - x0 / x1 * x1)), (0, .int x0), (1, .int x1)]) hx hb dJ9_floorMod_7cf53_3 rfl hl (by decide) rfl (fun ls hl => ?_)
  refine lv_iload_n hx hb dJ9_floorMod_7cf53_4 rfl (lv_at hl 1 rfl) ?_
  refine lv_iload_n hx hb dJ9_floorMod_7cf53_5 rfl (lv_at hl 2 rfl) ?_
  refine lv_ixor hx hb dJ9_floorMod_7cf53_6 ?_
  refine lv_if_ge (tgt := 18) hx hb dJ9_floorMod_7cf53_7 (by decide) (fun c2 => ?_) (fun c2 => ?_)
  · rw [if_pos c2] at hf
    refine lv_iload_n hx hb dJ9_floorMod_7cf53_18 rfl (lv_at hl 0 rfl) ?_
    obtain rfl := Option.some.inj hf
    exact k_retI hx hb hr hlocks hP hS dJ9_floorMod_7cf53_19
  · rw [if_neg c2] at hf
    refine lv_iload_n hx hb dJ9_floorMod_7cf53_10 rfl (lv_at hl 0 rfl) ?_
    refine lv_if_eq (tgt := 18) hx hb dJ9_floorMod_7cf53_11 (by decide) (fun c3 => ?_) (fun c3 => ?_)
    · rw [if_pos c3] at hf
      refine lv_iload_n hx hb dJ9_floorMod_7cf53_18 rfl (lv_at hl 0 rfl) ?_
      obtain rfl := Option.some.inj hf
      exact k_retI hx hb hr hlocks hP hS dJ9_floorMod_7cf53_19
    · rw [if_neg c3] at hf
      refine lv_iload_n hx hb dJ9_floorMod_7cf53_14 rfl (lv_at hl 0 rfl) ?_
      refine lv_iload_n hx hb dJ9_floorMod_7cf53_15 rfl (lv_at hl 2 rfl) ?_
      refine lv_iadd hx hb dJ9_floorMod_7cf53_16 ?_
      obtain rfl := Option.some.inj hf
      exact k_retI hx hb hr hlocks hP hS dJ9_floorMod_7cf53_17

noncomputable def fJ7_fill_53178_L5 (n : Nat) (v1 : Int32) (v3 : Int32) : Nat → (Int32) → (Nat → Int32) → Option ((Nat → Int32))
  | 0, _, _ => none
  | k + 1, v2, f =>
    if v3 ≤ v2 then
      some f
    else
      if inb v2 n = true then
      fJ7_fill_53178_L5 n v1 v3 k (v2 + (1 : Int32)) (upd f v2.toNatClampNeg v1)
      else none

noncomputable def fJ7_fill_53178 (n : Nat) (f : Nat → Int32) (x1 : Int32) : Option ((Nat → Int32)) :=
  (fJ7_fill_53178_L5 n x1 (nI n) FU (0 : Int32) f).bind fun R3 =>
  some R3

set_option maxHeartbeats 4000000 in
set_option maxRecDepth 100000 in
theorem kJ7_fill_53178 (l : Launch) (D : va_G) (a : Nat) (cA : ClassId) (n : Nat) (f : Nat → Int32) (x1 : Int32) {R : (Nat → Int32)} (hf : fJ7_fill_53178 n f x1 = some R) : MV l yJ7_fill_53178 wsJ7_fill_53178 (rmD 0) D ([.ref a, .int x1] : List Value) (wF a cA n f) [(cA, .int)] NT (wF a cA n R) := by
  refine MV.mk (cc := cJ7_fill_53178) (maxL := 4) (ret := none) (by first | decide | decide +kernel) rfl (Nat.le_of_ble_eq_true rfl) ?_
  intro p e s m below meth cd A ls hE
  obtain ⟨hx, hb, hr, hml, hts, hown, hlocks, hP, hK, hD, hA, hN, hAe, hl⟩ := hE
  have hown : s.vm.findClass RJ7 = some m.cls := hown
  have hS : va_S A s.heap s.heap [] := va_S.rf
  have hl : lv_has ls 4 [(0, .ref a), (1, .int x1)] := hl
  rw [fJ7_fill_53178] at hf
  refine lv_iconst (v := (0 : Int32)) hx hb dJ7_fill_53178_0 (by decide) ?_
  refine lv_istore_n (lv' := [(2, .int (0 : Int32)), (0, .ref a), (1, .int x1)]) hx hb dJ7_fill_53178_1 rfl hl (by decide) rfl (fun ls hl => ?_)
  refine lv_aload_n hx hb dJ7_fill_53178_2 rfl (lv_at hl 1 rfl) ?_
  refine va_alen (v := (nI n)) hx hb hK hP 0 0 rfl rfl rfl dJ7_fill_53178_3 ?_
  refine lv_istore_n (lv' := [(3, .int (nI n)), (2, .int (0 : Int32)), (0, .ref a), (1, .int x1)]) hx hb dJ7_fill_53178_4 rfl hl (by decide) rfl (fun ls hl => ?_)
  have lp5 : ∀ (v1 : Int32) (v3 : Int32), ∀ (k : Nat) (v2 : Int32) (f : Nat → Int32) (H : Heap) (locs : List Loc) (ls : Array Slot) (o : (Nat → Int32)), lv_has ls 4 [(2, .int v2), (1, .int v1), (3, .int v3), (0, .ref a)] → va_P D vwCl (wF a cA n f) H → va_D A (wF a cA n f) → va_S A s.heap H locs → fJ7_fill_53178_L5 n v1 v3 k v2 f = some o → (∀ (H : Heap) (locs : List Loc) (ls : Array Slot), lv_has ls 4 [] → va_P D vwCl (wF a cA n o) H → va_D A (wF a cA n o) → va_S A s.heap H locs → W p l e (headSpec wsJ7_fill_53178 (rmD 0)).room s m ([.ref a, .int x1] : List Value).toArray below meth cd H locs 0 0 (QV D below ([.ref a, .int x1] : List Value).toArray s A (wF a cA n R)) (F0 m 20 ls [])) → W p l e (headSpec wsJ7_fill_53178 (rmD 0)).room s m ([.ref a, .int x1] : List Value).toArray below meth cd H locs 0 0 (QV D below ([.ref a, .int x1] : List Value).toArray s A (wF a cA n R)) (F0 m 5 ls []) := by
    intro v1 v3
    intro k
    induction k with
    | zero =>
      intro v2 f H locs ls o hl hP hD hS hf
      exact absurd hf (by simp [fJ7_fill_53178_L5])
    | succ k ih =>
      intro v2 f H locs ls o hl hP hD hS hf kont
      rw [fJ7_fill_53178_L5] at hf
      refine lv_iload_n hx hb dJ7_fill_53178_5 rfl (lv_at hl 0 rfl) ?_
      refine lv_iload_n hx hb dJ7_fill_53178_6 rfl (lv_at hl 2 rfl) ?_
      refine lv_icmp_ge (tgt := 20) hx hb dJ7_fill_53178_7 (by decide) (fun c1 => ?_) (fun c1 => ?_)
      · rw [if_pos c1] at hf
        obtain rfl := Option.some.inj hf
        exact kont _ _ _ (lv_sub hl [] rfl) hP hD hS
      · rw [if_neg c1] at hf
        refine lv_aload_n hx hb dJ7_fill_53178_10 rfl (lv_at hl 3 rfl) ?_
        refine lv_iload_n hx hb dJ7_fill_53178_11 rfl (lv_at hl 0 rfl) ?_
        refine lv_iload_n hx hb dJ7_fill_53178_12 rfl (lv_at hl 1 rfl) ?_
        obtain ⟨g2, hf⟩ := g_inv hf
        refine va_iast (f := f) hx hb hK hP hD hS 0 0 rfl rfl (inb_vp g2) dJ7_fill_53178_13 (fun H locs hP hD hS => ?_)
        have hP : va_P D vwCl (wF a cA n (upd f v2.toNatClampNeg v1)) H := hP
        have hD : va_D A (wF a cA n (upd f v2.toNatClampNeg v1)) := hD
        refine lv_iinc (v := (v2 + (1 : Int32))) (lv' := [(2, .int (v2 + (1 : Int32))), (1, .int v1), (3, .int v3), (0, .ref a)]) hx hb dJ7_fill_53178_14 hl (k := 0) rfl rfl (by decide) rfl (fun ls hl => ?_)
        refine lv_goto (tgt := 5) hx hb dJ7_fill_53178_17 (by decide) ?_
        exact ih (v2 + (1 : Int32)) (upd f v2.toNatClampNeg v1) _ _ _ o (lv_sub hl [0, 1, 2, 3] rfl) hP hD hS hf kont
  obtain ⟨R3, hc4, hf⟩ := b_inv hf
  refine lp5 x1 (nI n) FU (0 : Int32) f _ _ _ R3 (lv_sub hl [1, 3, 0, 2] rfl) hP hD hS hc4 (fun H locs ls hl hP hD hS => ?_)
  obtain rfl := Option.some.inj hf
  exact k_retV hx hb hr hlocks hP hS dJ7_fill_53178_20

noncomputable def fX6_count (n : Nat) (f : Nat → Int32) (ct : Int32) : Option (Int32) :=
  some ct

set_option maxHeartbeats 4000000 in
set_option maxRecDepth 100000 in
theorem kX6_count (l : Launch) (D : va_G) (h : Nat) (a : Nat) (cA : ClassId) (n : Nat) (f : Nat → Int32) (ct : Int32) {R : Int32} (hf : fX6_count n f ct = some R) : MI l yX6_count wsX6_count (rmD 0) D ([.ref h] : List Value) (wR h a cA n f ct) [(cA, .int)] NT R (wR h a cA n f ct) := by
  refine MI.mk (cc := cX6_count) (maxL := 1) (ret := (some .int)) (by first | decide | decide +kernel) rfl (Nat.le_of_ble_eq_true rfl) ?_
  intro p e s m below meth cd A ls hE
  obtain ⟨hx, hb, hr, hml, hts, hown, hlocks, hP, hK, hD, hA, hN, hAe, hl⟩ := hE
  have hown : s.vm.findClass RX6 = some m.cls := hown
  have hS : va_S A s.heap s.heap [] := va_S.rf
  have hl : lv_has ls 1 [(0, .ref h)] := hl
  rw [fX6_count] at hf
  refine lv_aload_n hx hb dX6_count_0 rfl (lv_at hl 0 rfl) ?_
  refine va_get (D := D) (ci := 5) (v := .int ct) (C := RX6) (T := TX6) (N := 2) hx hb hts (fun w h => List.mem_cons_of_mem _ (List.mem_append_right _ h)) hown hK hP 0 rfl rfl 1 (by decide) (hts (.fieldLink RX6 15 "DeltaWindows$Row" "count" "I") (List.mem_of_getElem? (i := 1) rfl)) (fun _ h9 => h9) rfl dX6_count_1 ?_
  obtain rfl := Option.some.inj hf
  exact k_retI hx hb hr hlocks hP hS dX6_count_4

noncomputable def fX6_room (n : Nat) (f : Nat → Int32) (ct : Int32) : Option (Int32) :=
  some ((nI n) - ct)

set_option maxHeartbeats 4000000 in
set_option maxRecDepth 100000 in
theorem kX6_room (l : Launch) (D : va_G) (h : Nat) (a : Nat) (cA : ClassId) (n : Nat) (f : Nat → Int32) (ct : Int32) {R : Int32} (hf : fX6_room n f ct = some R) : MI l yX6_room wsX6_room (rmD 0) D ([.ref h] : List Value) (wR h a cA n f ct) [(cA, .int)] NT R (wR h a cA n f ct) := by
  refine MI.mk (cc := cX6_room) (maxL := 1) (ret := (some .int)) (by first | decide | decide +kernel) rfl (Nat.le_of_ble_eq_true rfl) ?_
  intro p e s m below meth cd A ls hE
  obtain ⟨hx, hb, hr, hml, hts, hown, hlocks, hP, hK, hD, hA, hN, hAe, hl⟩ := hE
  have hown : s.vm.findClass RX6 = some m.cls := hown
  have hS : va_S A s.heap s.heap [] := va_S.rf
  have hl : lv_has ls 1 [(0, .ref h)] := hl
  rw [fX6_room] at hf
  refine lv_aload_n hx hb dX6_room_0 rfl (lv_at hl 0 rfl) ?_
  refine va_get (D := D) (ci := 5) (v := .ref a) (C := RX6) (T := TX6) (N := 2) hx hb hts (fun w h => List.mem_cons_of_mem _ (List.mem_append_right _ h)) hown hK hP 0 rfl rfl 0 (by decide) (hts (.fieldLink RX6 9 "DeltaWindows$Row" "bytes" "[I") (List.mem_of_getElem? (i := 1) rfl)) (fun _ h9 => h9) rfl dX6_room_1 ?_
  refine va_alen (v := (nI n)) hx hb hK hP 1 0 rfl rfl rfl dX6_room_4 ?_
  refine lv_aload_n hx hb dX6_room_5 rfl (lv_at hl 0 rfl) ?_
  refine va_get (D := D) (ci := 5) (v := .int ct) (C := RX6) (T := TX6) (N := 2) hx hb hts (fun w h => List.mem_cons_of_mem _ (List.mem_append_right _ h)) hown hK hP 0 rfl rfl 1 (by decide) (hts (.fieldLink RX6 15 "DeltaWindows$Row" "count" "I") (List.mem_of_getElem? (i := 2) rfl)) (fun _ h9 => h9) rfl dX6_room_6 ?_
  refine lv_isub hx hb dX6_room_9 ?_
  obtain rfl := Option.some.inj hf
  exact k_retI hx hb hr hlocks hP hS dX6_room_10

noncomputable def fX6_at (n : Nat) (f : Nat → Int32) (ct : Int32) (x1 : Int32) : Option (Int32) :=
  if x1 < 0 then
    some (-1 : Int32)
  else
    if ct ≤ x1 then
      some (-1 : Int32)
    else
      if inb x1 n = true then
      some (f x1.toNatClampNeg)
      else none

set_option maxHeartbeats 4000000 in
set_option maxRecDepth 100000 in
theorem kX6_at (l : Launch) (D : va_G) (h : Nat) (a : Nat) (cA : ClassId) (n : Nat) (f : Nat → Int32) (ct : Int32) (x1 : Int32) {R : Int32} (hf : fX6_at n f ct x1 = some R) : MI l yX6_at wsX6_at (rmD 0) D ([.ref h, .int x1] : List Value) (wR h a cA n f ct) [(cA, .int)] NT R (wR h a cA n f ct) := by
  refine MI.mk (cc := cX6_at) (maxL := 2) (ret := (some .int)) (by first | decide | decide +kernel) rfl (Nat.le_of_ble_eq_true rfl) ?_
  intro p e s m below meth cd A ls hE
  obtain ⟨hx, hb, hr, hml, hts, hown, hlocks, hP, hK, hD, hA, hN, hAe, hl⟩ := hE
  have hown : s.vm.findClass RX6 = some m.cls := hown
  have hS : va_S A s.heap s.heap [] := va_S.rf
  have hl : lv_has ls 2 [(0, .ref h), (1, .int x1)] := hl
  rw [fX6_at] at hf
  refine lv_iload_n hx hb dX6_at_0 rfl (lv_at hl 1 rfl) ?_
  refine lv_if_lt (tgt := 21) hx hb dX6_at_1 (by decide) (fun c1 => ?_) (fun c1 => ?_)
  · rw [if_pos c1] at hf
    refine lv_iconst (v := (-1 : Int32)) hx hb dX6_at_21 (by decide) ?_
    obtain rfl := Option.some.inj hf
    exact k_retI hx hb hr hlocks hP hS dX6_at_22
  · rw [if_neg c1] at hf
    refine lv_iload_n hx hb dX6_at_4 rfl (lv_at hl 1 rfl) ?_
    refine lv_aload_n hx hb dX6_at_5 rfl (lv_at hl 0 rfl) ?_
    refine va_get (D := D) (ci := 5) (v := .int ct) (C := RX6) (T := TX6) (N := 2) hx hb hts (fun w h => List.mem_cons_of_mem _ (List.mem_append_right _ h)) hown hK hP 0 rfl rfl 1 (by decide) (hts (.fieldLink RX6 15 "DeltaWindows$Row" "count" "I") (List.mem_of_getElem? (i := 1) rfl)) (fun _ h9 => h9) rfl dX6_at_6 ?_
    refine lv_icmp_ge (tgt := 21) hx hb dX6_at_9 (by decide) (fun c2 => ?_) (fun c2 => ?_)
    · rw [if_pos c2] at hf
      refine lv_iconst (v := (-1 : Int32)) hx hb dX6_at_21 (by decide) ?_
      obtain rfl := Option.some.inj hf
      exact k_retI hx hb hr hlocks hP hS dX6_at_22
    · rw [if_neg c2] at hf
      refine lv_aload_n hx hb dX6_at_12 rfl (lv_at hl 0 rfl) ?_
      refine va_get (D := D) (ci := 5) (v := .ref a) (C := RX6) (T := TX6) (N := 2) hx hb hts (fun w h => List.mem_cons_of_mem _ (List.mem_append_right _ h)) hown hK hP 0 rfl rfl 0 (by decide) (hts (.fieldLink RX6 9 "DeltaWindows$Row" "bytes" "[I") (List.mem_of_getElem? (i := 2) rfl)) (fun _ h9 => h9) rfl dX6_at_13 ?_
      refine lv_iload_n hx hb dX6_at_16 rfl (lv_at hl 1 rfl) ?_
      obtain ⟨g3, hf⟩ := g_inv hf
      refine va_iald (f := f) hx hb hK hP 1 0 rfl rfl (inb_vp g3) dX6_at_17 ?_
      refine lv_goto (tgt := 22) hx hb dX6_at_18 (by decide) ?_
      obtain rfl := Option.some.inj hf
      exact k_retI hx hb hr hlocks hP hS dX6_at_22

noncomputable def fX6_replace (n : Nat) (f : Nat → Int32) (ct : Int32) (x1 : Int32) (x2 : Int32) : Option ((Nat → Int32)) :=
  if x1 < 0 then
    some f
  else
    if ct ≤ x1 then
      some f
    else
      if inb x1 n = true then
      some (upd f x1.toNatClampNeg x2)
      else none

set_option maxHeartbeats 4000000 in
set_option maxRecDepth 100000 in
theorem kX6_replace (l : Launch) (D : va_G) (h : Nat) (a : Nat) (cA : ClassId) (n : Nat) (f : Nat → Int32) (ct : Int32) (x1 : Int32) (x2 : Int32) {R : (Nat → Int32)} (hf : fX6_replace n f ct x1 x2 = some R) : MV l yX6_replace wsX6_replace (rmD 0) D ([.ref h, .int x1, .int x2] : List Value) (wR h a cA n f ct) [(cA, .int)] NT (wR h a cA n R ct) := by
  refine MV.mk (cc := cX6_replace) (maxL := 3) (ret := none) (by first | decide | decide +kernel) rfl (Nat.le_of_ble_eq_true rfl) ?_
  intro p e s m below meth cd A ls hE
  obtain ⟨hx, hb, hr, hml, hts, hown, hlocks, hP, hK, hD, hA, hN, hAe, hl⟩ := hE
  have hown : s.vm.findClass RX6 = some m.cls := hown
  have hS : va_S A s.heap s.heap [] := va_S.rf
  have hl : lv_has ls 3 [(0, .ref h), (1, .int x1), (2, .int x2)] := hl
  rw [fX6_replace] at hf
  refine lv_iload_n hx hb dX6_replace_0 rfl (lv_at hl 1 rfl) ?_
  refine lv_if_lt (tgt := 19) hx hb dX6_replace_1 (by decide) (fun c1 => ?_) (fun c1 => ?_)
  · rw [if_pos c1] at hf
    obtain rfl := Option.some.inj hf
    exact k_retV hx hb hr hlocks hP hS dX6_replace_19
  · rw [if_neg c1] at hf
    refine lv_iload_n hx hb dX6_replace_4 rfl (lv_at hl 1 rfl) ?_
    refine lv_aload_n hx hb dX6_replace_5 rfl (lv_at hl 0 rfl) ?_
    refine va_get (D := D) (ci := 5) (v := .int ct) (C := RX6) (T := TX6) (N := 2) hx hb hts (fun w h => List.mem_cons_of_mem _ (List.mem_append_right _ h)) hown hK hP 0 rfl rfl 1 (by decide) (hts (.fieldLink RX6 15 "DeltaWindows$Row" "count" "I") (List.mem_of_getElem? (i := 1) rfl)) (fun _ h9 => h9) rfl dX6_replace_6 ?_
    refine lv_icmp_ge (tgt := 19) hx hb dX6_replace_9 (by decide) (fun c2 => ?_) (fun c2 => ?_)
    · rw [if_pos c2] at hf
      obtain rfl := Option.some.inj hf
      exact k_retV hx hb hr hlocks hP hS dX6_replace_19
    · rw [if_neg c2] at hf
      refine lv_aload_n hx hb dX6_replace_12 rfl (lv_at hl 0 rfl) ?_
      refine va_get (D := D) (ci := 5) (v := .ref a) (C := RX6) (T := TX6) (N := 2) hx hb hts (fun w h => List.mem_cons_of_mem _ (List.mem_append_right _ h)) hown hK hP 0 rfl rfl 0 (by decide) (hts (.fieldLink RX6 9 "DeltaWindows$Row" "bytes" "[I") (List.mem_of_getElem? (i := 2) rfl)) (fun _ h9 => h9) rfl dX6_replace_13 ?_
      refine lv_iload_n hx hb dX6_replace_16 rfl (lv_at hl 1 rfl) ?_
      refine lv_iload_n hx hb dX6_replace_17 rfl (lv_at hl 2 rfl) ?_
      obtain ⟨g3, hf⟩ := g_inv hf
      refine va_iast (f := f) hx hb hK hP hD hS 1 0 rfl rfl (inb_vp g3) dX6_replace_18 (fun H locs hP hD hS => ?_)
      have hP : va_P D vwCl (wR h a cA n (upd f x1.toNatClampNeg x2) ct) H := hP
      have hD : va_D A (wR h a cA n (upd f x1.toNatClampNeg x2) ct) := hD
      obtain rfl := Option.some.inj hf
      exact k_retV hx hb hr hlocks hP hS dX6_replace_19

noncomputable def fX6_keep (n : Nat) (f : Nat → Int32) (ct : Int32) (x1 : Int32) : Option (Int32) :=
  if x1 < 0 then
    some ct
  else
    if ct ≤ x1 then
      some ct
    else
      some x1

set_option maxHeartbeats 4000000 in
set_option maxRecDepth 100000 in
theorem kX6_keep (l : Launch) (D : va_G) (h : Nat) (a : Nat) (cA : ClassId) (n : Nat) (f : Nat → Int32) (ct : Int32) (x1 : Int32) {R : Int32} (hf : fX6_keep n f ct x1 = some R) : MV l yX6_keep wsX6_keep (rmD 0) D ([.ref h, .int x1] : List Value) (wR h a cA n f ct) [(cA, .int)] NT (wR h a cA n f R) := by
  refine MV.mk (cc := cX6_keep) (maxL := 2) (ret := none) (by first | decide | decide +kernel) rfl (Nat.le_of_ble_eq_true rfl) ?_
  intro p e s m below meth cd A ls hE
  obtain ⟨hx, hb, hr, hml, hts, hown, hlocks, hP, hK, hD, hA, hN, hAe, hl⟩ := hE
  have hown : s.vm.findClass RX6 = some m.cls := hown
  have hS : va_S A s.heap s.heap [] := va_S.rf
  have hl : lv_has ls 2 [(0, .ref h), (1, .int x1)] := hl
  rw [fX6_keep] at hf
  refine lv_iload_n hx hb dX6_keep_0 rfl (lv_at hl 1 rfl) ?_
  refine lv_if_lt (tgt := 17) hx hb dX6_keep_1 (by decide) (fun c1 => ?_) (fun c1 => ?_)
  · rw [if_pos c1] at hf
    obtain rfl := Option.some.inj hf
    exact k_retV hx hb hr hlocks hP hS dX6_keep_17
  · rw [if_neg c1] at hf
    refine lv_iload_n hx hb dX6_keep_4 rfl (lv_at hl 1 rfl) ?_
    refine lv_aload_n hx hb dX6_keep_5 rfl (lv_at hl 0 rfl) ?_
    refine va_get (D := D) (ci := 5) (v := .int ct) (C := RX6) (T := TX6) (N := 2) hx hb hts (fun w h => List.mem_cons_of_mem _ (List.mem_append_right _ h)) hown hK hP 0 rfl rfl 1 (by decide) (hts (.fieldLink RX6 15 "DeltaWindows$Row" "count" "I") (List.mem_of_getElem? (i := 1) rfl)) (fun _ h9 => h9) rfl dX6_keep_6 ?_
    refine lv_icmp_ge (tgt := 17) hx hb dX6_keep_9 (by decide) (fun c2 => ?_) (fun c2 => ?_)
    · rw [if_pos c2] at hf
      obtain rfl := Option.some.inj hf
      exact k_retV hx hb hr hlocks hP hS dX6_keep_17
    · rw [if_neg c2] at hf
      refine lv_aload_n hx hb dX6_keep_12 rfl (lv_at hl 0 rfl) ?_
      refine lv_iload_n hx hb dX6_keep_13 rfl (lv_at hl 1 rfl) ?_
      refine va_put (D := D) (ci := 5) (v := .int x1) (ty := .int) (C := RX6) (T := TX6) (N := 2) hx hb hts (fun w h => List.mem_cons_of_mem _ (List.mem_append_right _ h)) tyX6 tyX6_ok nmX6 hown hK hP hD hS 0 rfl rfl 1 (by decide) (hts (.fieldLink RX6 15 "DeltaWindows$Row" "count" "I") (List.mem_of_getElem? (i := 1) rfl)) (fun _ h9 => h9) rfl (by decide +kernel) rfl rfl (Nat.le_of_ble_eq_true rfl) dX6_keep_14 (fun H locs hP hD hS => ?_)
      have hP : va_P D vwCl (wR h a cA n f x1) H := hP
      have hD : va_D A (wR h a cA n f x1) := hD
      obtain rfl := Option.some.inj hf
      exact k_retV hx hb hr hlocks hP hS dX6_keep_17

noncomputable def fX6_append (n : Nat) (f : Nat → Int32) (ct : Int32) (x1 : Int32) : Option ((Nat → Int32) × Int32) :=
  if (nI n) ≤ ct then
    some (f, ct)
  else
    if inb ct n = true then
    some ((upd f ct.toNatClampNeg x1), (ct + (1 : Int32)))
    else none

set_option maxHeartbeats 4000000 in
set_option maxRecDepth 100000 in
theorem kX6_append (l : Launch) (D : va_G) (h : Nat) (a : Nat) (cA : ClassId) (n : Nat) (f : Nat → Int32) (ct : Int32) (x1 : Int32) {R : (Nat → Int32) × Int32} (hf : fX6_append n f ct x1 = some R) : MV l yX6_append wsX6_append (rmD 0) D ([.ref h, .int x1] : List Value) (wR h a cA n f ct) [(cA, .int)] NT (wR h a cA n R.1 R.2) := by
  refine MV.mk (cc := cX6_append) (maxL := 2) (ret := none) (by first | decide | decide +kernel) rfl (Nat.le_of_ble_eq_true rfl) ?_
  intro p e s m below meth cd A ls hE
  obtain ⟨hx, hb, hr, hml, hts, hown, hlocks, hP, hK, hD, hA, hN, hAe, hl⟩ := hE
  have hown : s.vm.findClass RX6 = some m.cls := hown
  have hS : va_S A s.heap s.heap [] := va_S.rf
  have hl : lv_has ls 2 [(0, .ref h), (1, .int x1)] := hl
  rw [fX6_append] at hf
  refine lv_aload_n hx hb dX6_append_0 rfl (lv_at hl 0 rfl) ?_
  refine va_get (D := D) (ci := 5) (v := .int ct) (C := RX6) (T := TX6) (N := 2) hx hb hts (fun w h => List.mem_cons_of_mem _ (List.mem_append_right _ h)) hown hK hP 0 rfl rfl 1 (by decide) (hts (.fieldLink RX6 15 "DeltaWindows$Row" "count" "I") (List.mem_of_getElem? (i := 1) rfl)) (fun _ h9 => h9) rfl dX6_append_1 ?_
  refine lv_aload_n hx hb dX6_append_4 rfl (lv_at hl 0 rfl) ?_
  refine va_get (D := D) (ci := 5) (v := .ref a) (C := RX6) (T := TX6) (N := 2) hx hb hts (fun w h => List.mem_cons_of_mem _ (List.mem_append_right _ h)) hown hK hP 0 rfl rfl 0 (by decide) (hts (.fieldLink RX6 9 "DeltaWindows$Row" "bytes" "[I") (List.mem_of_getElem? (i := 2) rfl)) (fun _ h9 => h9) rfl dX6_append_5 ?_
  refine va_alen (v := (nI n)) hx hb hK hP 1 0 rfl rfl rfl dX6_append_8 ?_
  refine lv_icmp_ge (tgt := 32) hx hb dX6_append_9 (by decide) (fun c1 => ?_) (fun c1 => ?_)
  · rw [if_pos c1] at hf
    obtain rfl := Option.some.inj hf
    exact k_retV hx hb hr hlocks hP hS dX6_append_32
  · rw [if_neg c1] at hf
    refine lv_aload_n hx hb dX6_append_12 rfl (lv_at hl 0 rfl) ?_
    refine va_get (D := D) (ci := 5) (v := .ref a) (C := RX6) (T := TX6) (N := 2) hx hb hts (fun w h => List.mem_cons_of_mem _ (List.mem_append_right _ h)) hown hK hP 0 rfl rfl 0 (by decide) (hts (.fieldLink RX6 9 "DeltaWindows$Row" "bytes" "[I") (List.mem_of_getElem? (i := 2) rfl)) (fun _ h9 => h9) rfl dX6_append_13 ?_
    refine lv_aload_n hx hb dX6_append_16 rfl (lv_at hl 0 rfl) ?_
    refine va_get (D := D) (ci := 5) (v := .int ct) (C := RX6) (T := TX6) (N := 2) hx hb hts (fun w h => List.mem_cons_of_mem _ (List.mem_append_right _ h)) hown hK hP 0 rfl rfl 1 (by decide) (hts (.fieldLink RX6 15 "DeltaWindows$Row" "count" "I") (List.mem_of_getElem? (i := 1) rfl)) (fun _ h9 => h9) rfl dX6_append_17 ?_
    refine lv_iload_n hx hb dX6_append_20 rfl (lv_at hl 1 rfl) ?_
    obtain ⟨g2, hf⟩ := g_inv hf
    refine va_iast (f := f) hx hb hK hP hD hS 1 0 rfl rfl (inb_vp g2) dX6_append_21 (fun H locs hP hD hS => ?_)
    have hP : va_P D vwCl (wR h a cA n (upd f ct.toNatClampNeg x1) ct) H := hP
    have hD : va_D A (wR h a cA n (upd f ct.toNatClampNeg x1) ct) := hD
    refine lv_aload_n hx hb dX6_append_22 rfl (lv_at hl 0 rfl) ?_
    refine lv_dup hx hb dX6_append_23 rfl ?_
    refine va_get (D := D) (ci := 5) (v := .int ct) (C := RX6) (T := TX6) (N := 2) hx hb hts (fun w h => List.mem_cons_of_mem _ (List.mem_append_right _ h)) hown hK hP 0 rfl rfl 1 (by decide) (hts (.fieldLink RX6 15 "DeltaWindows$Row" "count" "I") (List.mem_of_getElem? (i := 1) rfl)) (fun _ h9 => h9) rfl dX6_append_24 ?_
    refine lv_iconst (v := (1 : Int32)) hx hb dX6_append_27 (by decide) ?_
    refine lv_iadd hx hb dX6_append_28 ?_
    refine va_put (D := D) (ci := 5) (v := .int (ct + (1 : Int32))) (ty := .int) (C := RX6) (T := TX6) (N := 2) hx hb hts (fun w h => List.mem_cons_of_mem _ (List.mem_append_right _ h)) tyX6 tyX6_ok nmX6 hown hK hP hD hS 0 rfl rfl 1 (by decide) (hts (.fieldLink RX6 15 "DeltaWindows$Row" "count" "I") (List.mem_of_getElem? (i := 1) rfl)) (fun _ h9 => h9) rfl (by decide +kernel) rfl rfl (Nat.le_of_ble_eq_true rfl) dX6_append_29 (fun H locs hP hD hS => ?_)
    have hP : va_P D vwCl (wR h a cA n (upd f ct.toNatClampNeg x1) (ct + (1 : Int32))) H := hP
    have hD : va_D A (wR h a cA n (upd f ct.toNatClampNeg x1) (ct + (1 : Int32))) := hD
    obtain rfl := Option.some.inj hf
    exact k_retV hx hb hr hlocks hP hS dX6_append_32

noncomputable def fX6_appendRow_L2 (n : Nat) (n2 : Nat) (f2 : Nat → Int32) (ct2 : Int32) : Nat → (Int32) → (Nat → Int32) → (Int32) → Option ((Nat → Int32) × Int32)
  | 0, _, _, _ => none
  | k + 1, v2, f, ct =>
    if ct2 ≤ v2 then
      some (f, ct)
    else
      if inb v2 n2 = true then
      (fX6_append n f ct (f2 v2.toNatClampNeg)).bind fun R3 =>
      fX6_appendRow_L2 n n2 f2 ct2 k (v2 + (1 : Int32)) R3.1 R3.2
      else none

noncomputable def fX6_appendRow (n : Nat) (n2 : Nat) (f : Nat → Int32) (ct : Int32) (f2 : Nat → Int32) (ct2 : Int32) : Option ((Nat → Int32) × Int32) :=
  (fX6_appendRow_L2 n n2 f2 ct2 FU (0 : Int32) f ct).bind fun R5 =>
  some (R5.1, R5.2)

set_option maxHeartbeats 4000000 in
set_option maxRecDepth 100000 in
theorem kX6_appendRow (l : Launch) (D : va_G) (h : Nat) (a : Nat) (cA : ClassId) (h2 : Nat) (a2 : Nat) (cA2 : ClassId) (n : Nat) (n2 : Nat) (f : Nat → Int32) (ct : Int32) (f2 : Nat → Int32) (ct2 : Int32) {R : (Nat → Int32) × Int32} (hf : fX6_appendRow n n2 f ct f2 ct2 = some R) : MV l yX6_appendRow wsX6_appendRow (rmD 1) D ([.ref h, .ref h2] : List Value) (wRR h a cA n h2 a2 cA2 n2 f ct f2 ct2) [(cA, .int), (cA2, .int)] NT (wRR h a cA n h2 a2 cA2 n2 R.1 R.2 f2 ct2) := by
  refine MV.mk (cc := cX6_appendRow) (maxL := 3) (ret := none) (by first | decide | decide +kernel) rfl (Nat.le_of_ble_eq_true rfl) ?_
  intro p e s m below meth cd A ls hE
  obtain ⟨hx, hb, hr, hml, hts, hown, hlocks, hP, hK, hD, hA, hN, hAe, hl⟩ := hE
  have hown : s.vm.findClass RX6 = some m.cls := hown
  have hS : va_S A s.heap s.heap [] := va_S.rf
  have hl : lv_has ls 3 [(0, .ref h), (1, .ref h2)] := hl
  rw [fX6_appendRow] at hf
  refine lv_iconst (v := (0 : Int32)) hx hb dX6_appendRow_0 (by decide) ?_
  refine lv_istore_n (lv' := [(2, .int (0 : Int32)), (0, .ref h), (1, .ref h2)]) hx hb dX6_appendRow_1 rfl hl (by decide) rfl (fun ls hl => ?_)
  have lp7 : ∀ (f2 : Nat → Int32) (ct2 : Int32), ∀ (k : Nat) (v2 : Int32) (f : Nat → Int32) (ct : Int32) (H : Heap) (locs : List Loc) (ls : Array Slot) (o : (Nat → Int32) × Int32), lv_has ls 3 [(2, .int v2), (0, .ref h), (1, .ref h2)] → va_P D vwCl (wRR h a cA n h2 a2 cA2 n2 f ct f2 ct2) H → va_D A (wRR h a cA n h2 a2 cA2 n2 f ct f2 ct2) → va_S A s.heap H locs → fX6_appendRow_L2 n n2 f2 ct2 k v2 f ct = some o → (∀ (H : Heap) (locs : List Loc) (ls : Array Slot), lv_has ls 3 [] → va_P D vwCl (wRR h a cA n h2 a2 cA2 n2 o.1 o.2 f2 ct2) H → va_D A (wRR h a cA n h2 a2 cA2 n2 o.1 o.2 f2 ct2) → va_S A s.heap H locs → W p l e (headSpec wsX6_appendRow (rmD 1)).room s m ([.ref h, .ref h2] : List Value).toArray below meth cd H locs 0 0 (QV D below ([.ref h, .ref h2] : List Value).toArray s A (wRR h a cA n h2 a2 cA2 n2 R.1 R.2 f2 ct2)) (F0 m 26 ls [])) → W p l e (headSpec wsX6_appendRow (rmD 1)).room s m ([.ref h, .ref h2] : List Value).toArray below meth cd H locs 0 0 (QV D below ([.ref h, .ref h2] : List Value).toArray s A (wRR h a cA n h2 a2 cA2 n2 R.1 R.2 f2 ct2)) (F0 m 2 ls []) := by
    intro f2 ct2
    intro k
    induction k with
    | zero =>
      intro v2 f ct H locs ls o hl hP hD hS hf
      exact absurd hf (by simp [fX6_appendRow_L2])
    | succ k ih =>
      intro v2 f ct H locs ls o hl hP hD hS hf kont
      rw [fX6_appendRow_L2] at hf
      refine lv_iload_n hx hb dX6_appendRow_2 rfl (lv_at hl 0 rfl) ?_
      refine lv_aload_n hx hb dX6_appendRow_3 rfl (lv_at hl 2 rfl) ?_
      refine va_get (D := D) (ci := 5) (v := .int ct2) (C := RX6) (T := TX6) (N := 2) hx hb hts (fun w h => List.mem_cons_of_mem _ (List.mem_append_right _ h)) hown hK hP 2 rfl rfl 1 (by decide) (hts (.fieldLink RX6 15 "DeltaWindows$Row" "count" "I") (List.mem_of_getElem? (i := 1) rfl)) (fun _ h9 => h9) rfl dX6_appendRow_4 ?_
      refine lv_icmp_ge (tgt := 26) hx hb dX6_appendRow_7 (by decide) (fun c1 => ?_) (fun c1 => ?_)
      · rw [if_pos c1] at hf
        obtain rfl := Option.some.inj hf
        exact kont _ _ _ (lv_sub hl [] rfl) hP hD hS
      · rw [if_neg c1] at hf
        refine lv_aload_n hx hb dX6_appendRow_10 rfl (lv_at hl 1 rfl) ?_
        refine lv_aload_n hx hb dX6_appendRow_11 rfl (lv_at hl 2 rfl) ?_
        refine va_get (D := D) (ci := 5) (v := .ref a2) (C := RX6) (T := TX6) (N := 2) hx hb hts (fun w h => List.mem_cons_of_mem _ (List.mem_append_right _ h)) hown hK hP 2 rfl rfl 0 (by decide) (hts (.fieldLink RX6 9 "DeltaWindows$Row" "bytes" "[I") (List.mem_of_getElem? (i := 2) rfl)) (fun _ h9 => h9) rfl dX6_appendRow_12 ?_
        refine lv_iload_n hx hb dX6_appendRow_15 rfl (lv_at hl 0 rfl) ?_
        obtain ⟨g2, hf⟩ := g_inv hf
        refine va_iald (f := f2) hx hb hK hP 3 1 rfl rfl (inb_vp g2) dX6_appendRow_16 ?_
        obtain ⟨R3, hc4, hf⟩ := b_inv hf
        have hk := kcut (wc := (wR h a cA n f ct)) (wc' := (wR h a cA n R3.1 R3.2)) (wf := (wRR h a cA n h2 a2 cA2 n2 R3.1 R3.2 f2 ct2)) hP hD hS hA [0, 1] rfl (by decide) rfl rfl
        refine k_goV (va_runV (As := [.int (f2 v2.toNatClampNeg)]) (rest := []) ⟨hx, hb, hml, hown, hts⟩ (kX6_append l D h a cA n f ct (f2 v2.toNatClampNeg) hc4 _) (cwV 1 hts gX6_appendRow_X6_append rfl rfl rfl (by decide +kernel) ⟨Nat.le_of_ble_eq_true rfl, Nat.le_of_ble_eq_true rfl⟩) (k_preV (q0 := 0) (ci := 5) hk (hK.sub [0] rfl) NT_bl NT_u rfl rfl rfl) rfl rfl hl.1 rfl (lv_room (Nat.le_of_ble_eq_true rfl)) dX6_appendRow_17 ⟨Nat.zero_le _, Nat.zero_le _⟩) hk hS (fun H locs hP hD hS => ?_)
        refine lv_iinc (v := (v2 + (1 : Int32))) (lv' := [(2, .int (v2 + (1 : Int32))), (0, .ref h), (1, .ref h2)]) hx hb dX6_appendRow_20 hl (k := 0) rfl rfl (by decide) rfl (fun ls hl => ?_)
        refine lv_goto (tgt := 2) hx hb dX6_appendRow_23 (by decide) ?_
        exact ih (v2 + (1 : Int32)) R3.1 R3.2 _ _ _ o (lv_sub hl [0, 1, 2] rfl) hP hD hS hf kont
  obtain ⟨R5, hc6, hf⟩ := b_inv hf
  refine lp7 f2 ct2 FU (0 : Int32) f ct _ _ _ R5 (lv_sub hl [0, 1, 2] rfl) hP hD hS hc6 (fun H locs ls hl hP hD hS => ?_)
  obtain rfl := Option.some.inj hf
  exact k_retV hx hb hr hlocks hP hS dX6_appendRow_26

noncomputable def fX6_appendInteger_L3 (n : Nat) (v1 : Int32) : Nat → (Int32) → (Nat → Int32) → (Int32) → Option ((Nat → Int32) × Int32)
  | 0, _, _, _ => none
  | k + 1, v2, f, ct =>
    if v2 ≤ 0 then
      some (f, ct)
    else
      if (v1 >>> (v2 &&& 31)) ≤ 0 then
        fX6_appendInteger_L3 n v1 k (v2 + (-7 : Int32)) f ct
      else
        (fX6_append n f ct ((128 : Int32) + ((v1 >>> (v2 &&& 31)) &&& (127 : Int32)))).bind fun R3 =>
        fX6_appendInteger_L3 n v1 k (v2 + (-7 : Int32)) R3.1 R3.2

noncomputable def fX6_appendInteger (n : Nat) (f : Nat → Int32) (ct : Int32) (x1 : Int32) : Option ((Nat → Int32) × Int32) :=
  (fX6_appendInteger_L3 n x1 FU (28 : Int32) f ct).bind fun R5 =>
  (fX6_append n R5.1 R5.2 (x1 &&& (127 : Int32))).bind fun R7 =>
  some (R7.1, R7.2)

set_option maxHeartbeats 4000000 in
set_option maxRecDepth 100000 in
theorem kX6_appendInteger (l : Launch) (D : va_G) (h : Nat) (a : Nat) (cA : ClassId) (n : Nat) (f : Nat → Int32) (ct : Int32) (x1 : Int32) {R : (Nat → Int32) × Int32} (hf : fX6_appendInteger n f ct x1 = some R) : MV l yX6_appendInteger wsX6_appendInteger (rmD 1) D ([.ref h, .int x1] : List Value) (wR h a cA n f ct) [(cA, .int)] NT (wR h a cA n R.1 R.2) := by
  refine MV.mk (cc := cX6_appendInteger) (maxL := 4) (ret := none) (by first | decide | decide +kernel) rfl (Nat.le_of_ble_eq_true rfl) ?_
  intro p e s m below meth cd A ls hE
  obtain ⟨hx, hb, hr, hml, hts, hown, hlocks, hP, hK, hD, hA, hN, hAe, hl⟩ := hE
  have hown : s.vm.findClass RX6 = some m.cls := hown
  have hS : va_S A s.heap s.heap [] := va_S.rf
  have hl : lv_has ls 4 [(0, .ref h), (1, .int x1)] := hl
  rw [fX6_appendInteger] at hf
  refine lv_bipush (v := (28 : Int32)) hx hb dX6_appendInteger_0 (by decide) ?_
  refine lv_istore_n (lv' := [(2, .int (28 : Int32)), (0, .ref h), (1, .int x1)]) hx hb dX6_appendInteger_2 rfl hl (by decide) rfl (fun ls hl => ?_)
  have lp9 : ∀ (v1 : Int32), ∀ (k : Nat) (v2 : Int32) (f : Nat → Int32) (ct : Int32) (H : Heap) (locs : List Loc) (ls : Array Slot) (o : (Nat → Int32) × Int32), lv_has ls 4 [(2, .int v2), (1, .int v1), (0, .ref h)] → va_P D vwCl (wR h a cA n f ct) H → va_D A (wR h a cA n f ct) → va_S A s.heap H locs → fX6_appendInteger_L3 n v1 k v2 f ct = some o → (∀ (H : Heap) (locs : List Loc) (ls : Array Slot), lv_has ls 4 [(1, .int v1), (0, .ref h)] → va_P D vwCl (wR h a cA n o.1 o.2) H → va_D A (wR h a cA n o.1 o.2) → va_S A s.heap H locs → W p l e (headSpec wsX6_appendInteger (rmD 1)).room s m ([.ref h, .int x1] : List Value).toArray below meth cd H locs 0 0 (QV D below ([.ref h, .int x1] : List Value).toArray s A (wR h a cA n R.1 R.2)) (F0 m 33 ls [])) → W p l e (headSpec wsX6_appendInteger (rmD 1)).room s m ([.ref h, .int x1] : List Value).toArray below meth cd H locs 0 0 (QV D below ([.ref h, .int x1] : List Value).toArray s A (wR h a cA n R.1 R.2)) (F0 m 3 ls []) := by
    intro v1
    intro k
    induction k with
    | zero =>
      intro v2 f ct H locs ls o hl hP hD hS hf
      exact absurd hf (by simp [fX6_appendInteger_L3])
    | succ k ih =>
      intro v2 f ct H locs ls o hl hP hD hS hf kont
      rw [fX6_appendInteger_L3] at hf
      refine lv_iload_n hx hb dX6_appendInteger_3 rfl (lv_at hl 0 rfl) ?_
      refine lv_if_le (tgt := 33) hx hb dX6_appendInteger_4 (by decide) (fun c1 => ?_) (fun c1 => ?_)
      · rw [if_pos c1] at hf
        obtain rfl := Option.some.inj hf
        exact kont _ _ _ (lv_sub hl [1, 2] rfl) hP hD hS
      · rw [if_neg c1] at hf
        refine lv_iload_n hx hb dX6_appendInteger_7 rfl (lv_at hl 1 rfl) ?_
        refine lv_iload_n hx hb dX6_appendInteger_8 rfl (lv_at hl 0 rfl) ?_
        refine lv_ishr hx hb dX6_appendInteger_9 ?_
        refine lv_istore_n (lv' := [(3, .int (v1 >>> (v2 &&& 31))), (2, .int v2), (1, .int v1), (0, .ref h)]) hx hb dX6_appendInteger_10 rfl hl (by decide) rfl (fun ls hl => ?_)
        refine lv_iload_n hx hb dX6_appendInteger_11 rfl (lv_at hl 0 rfl) ?_
        refine lv_if_le (tgt := 27) hx hb dX6_appendInteger_12 (by decide) (fun c2 => ?_) (fun c2 => ?_)
        · rw [if_pos c2] at hf
          refine lv_iinc (v := (v2 + (-7 : Int32))) (lv' := [(2, .int (v2 + (-7 : Int32))), (3, .int (v1 >>> (v2 &&& 31))), (1, .int v1), (0, .ref h)]) hx hb dX6_appendInteger_27 hl (k := 1) rfl rfl (by decide) rfl (fun ls hl => ?_)
          refine lv_goto (tgt := 3) hx hb dX6_appendInteger_30 (by decide) ?_
          exact ih (v2 + (-7 : Int32)) f ct _ _ _ o (lv_sub hl [0, 2, 3] rfl) hP hD hS hf kont
        · rw [if_neg c2] at hf
          refine lv_aload_n hx hb dX6_appendInteger_15 rfl (lv_at hl 3 rfl) ?_
          refine lv_sipush (v := (128 : Int32)) hx hb dX6_appendInteger_16 (by decide) ?_
          refine lv_iload_n hx hb dX6_appendInteger_19 rfl (lv_at hl 0 rfl) ?_
          refine lv_bipush (v := (127 : Int32)) hx hb dX6_appendInteger_20 (by decide) ?_
          refine lv_iand hx hb dX6_appendInteger_22 ?_
          refine lv_iadd hx hb dX6_appendInteger_23 ?_
          obtain ⟨R3, hc4, hf⟩ := b_inv hf
          have hk := kall (wc' := (wR h a cA n R3.1 R3.2)) hP hD hS hA rfl
          refine k_goV (va_runV (As := [.int ((128 : Int32) + ((v1 >>> (v2 &&& 31)) &&& (127 : Int32)))]) (rest := []) ⟨hx, hb, hml, hown, hts⟩ (kX6_append l D h a cA n f ct ((128 : Int32) + ((v1 >>> (v2 &&& 31)) &&& (127 : Int32))) hc4 _) (cwV 1 hts gX6_appendInteger_X6_append rfl rfl rfl (by decide +kernel) ⟨Nat.le_of_ble_eq_true rfl, Nat.le_of_ble_eq_true rfl⟩) (k_preV (q0 := 0) (ci := 5) hk hK NT_bl NT_u rfl rfl rfl) rfl rfl hl.1 rfl (lv_room (Nat.le_of_ble_eq_true rfl)) dX6_appendInteger_24 ⟨Nat.zero_le _, Nat.zero_le _⟩) hk hS (fun H locs hP hD hS => ?_)
          refine lv_iinc (v := (v2 + (-7 : Int32))) (lv' := [(2, .int (v2 + (-7 : Int32))), (3, .int (v1 >>> (v2 &&& 31))), (1, .int v1), (0, .ref h)]) hx hb dX6_appendInteger_27 hl (k := 1) rfl rfl (by decide) rfl (fun ls hl => ?_)
          refine lv_goto (tgt := 3) hx hb dX6_appendInteger_30 (by decide) ?_
          exact ih (v2 + (-7 : Int32)) R3.1 R3.2 _ _ _ o (lv_sub hl [0, 2, 3] rfl) hP hD hS hf kont
  obtain ⟨R5, hc6, hf⟩ := b_inv hf
  refine lp9 x1 FU (28 : Int32) f ct _ _ _ R5 (lv_sub hl [0, 2, 1] rfl) hP hD hS hc6 (fun H locs ls hl hP hD hS => ?_)
  refine lv_aload_n hx hb dX6_appendInteger_33 rfl (lv_at hl 1 rfl) ?_
  refine lv_iload_n hx hb dX6_appendInteger_34 rfl (lv_at hl 0 rfl) ?_
  refine lv_bipush (v := (127 : Int32)) hx hb dX6_appendInteger_35 (by decide) ?_
  refine lv_iand hx hb dX6_appendInteger_37 ?_
  obtain ⟨R7, hc8, hf⟩ := b_inv hf
  have hk := kall (wc' := (wR h a cA n R7.1 R7.2)) hP hD hS hA rfl
  refine k_goV (va_runV (As := [.int (x1 &&& (127 : Int32))]) (rest := []) ⟨hx, hb, hml, hown, hts⟩ (kX6_append l D h a cA n R5.1 R5.2 (x1 &&& (127 : Int32)) hc8 _) (cwV 1 hts gX6_appendInteger_X6_append rfl rfl rfl (by decide +kernel) ⟨Nat.le_of_ble_eq_true rfl, Nat.le_of_ble_eq_true rfl⟩) (k_preV (q0 := 0) (ci := 5) hk hK NT_bl NT_u rfl rfl rfl) rfl rfl hl.1 rfl (lv_room (Nat.le_of_ble_eq_true rfl)) dX6_appendInteger_38 ⟨Nat.zero_le _, Nat.zero_le _⟩) hk hS (fun H locs hP hD hS => ?_)
  obtain rfl := Option.some.inj hf
  exact k_retV hx hb hr hlocks hP hS dX6_appendInteger_41

noncomputable def fX6_become (n : Nat) (n2 : Nat) (f : Nat → Int32) (ct : Int32) (f2 : Nat → Int32) (ct2 : Int32) : Option ((Nat → Int32) × Int32 × Int32) :=
  (fX6_appendRow n n2 f (0 : Int32) f2 ct2).bind fun R1 =>
  some (R1.1, R1.2, ct2)

set_option maxHeartbeats 4000000 in
set_option maxRecDepth 100000 in
theorem kX6_become (l : Launch) (D : va_G) (h : Nat) (a : Nat) (cA : ClassId) (h2 : Nat) (a2 : Nat) (cA2 : ClassId) (n : Nat) (n2 : Nat) (f : Nat → Int32) (ct : Int32) (f2 : Nat → Int32) (ct2 : Int32) {R : (Nat → Int32) × Int32 × Int32} (hf : fX6_become n n2 f ct f2 ct2 = some R) : MV l yX6_become wsX6_become (rmD 2) D ([.ref h, .ref h2] : List Value) (wRR h a cA n h2 a2 cA2 n2 f ct f2 ct2) [(cA, .int), (cA2, .int)] NT (wRR h a cA n h2 a2 cA2 n2 R.1 R.2.1 f2 R.2.2) := by
  refine MV.mk (cc := cX6_become) (maxL := 2) (ret := none) (by first | decide | decide +kernel) rfl (Nat.le_of_ble_eq_true rfl) ?_
  intro p e s m below meth cd A ls hE
  obtain ⟨hx, hb, hr, hml, hts, hown, hlocks, hP, hK, hD, hA, hN, hAe, hl⟩ := hE
  have hown : s.vm.findClass RX6 = some m.cls := hown
  have hS : va_S A s.heap s.heap [] := va_S.rf
  have hl : lv_has ls 2 [(0, .ref h), (1, .ref h2)] := hl
  rw [fX6_become] at hf
  refine lv_aload_n hx hb dX6_become_0 rfl (lv_at hl 0 rfl) ?_
  refine lv_iconst (v := (0 : Int32)) hx hb dX6_become_1 (by decide) ?_
  refine va_put (D := D) (ci := 5) (v := .int (0 : Int32)) (ty := .int) (C := RX6) (T := TX6) (N := 2) hx hb hts (fun w h => List.mem_cons_of_mem _ (List.mem_append_right _ h)) tyX6 tyX6_ok nmX6 hown hK hP hD hS 0 rfl rfl 1 (by decide) (hts (.fieldLink RX6 15 "DeltaWindows$Row" "count" "I") (List.mem_of_getElem? (i := 1) rfl)) (fun _ h9 => h9) rfl (by decide +kernel) rfl rfl (Nat.le_of_ble_eq_true rfl) dX6_become_2 (fun H locs hP hD hS => ?_)
  have hP : va_P D vwCl (wRR h a cA n h2 a2 cA2 n2 f (0 : Int32) f2 ct2) H := hP
  have hD : va_D A (wRR h a cA n h2 a2 cA2 n2 f (0 : Int32) f2 ct2) := hD
  refine lv_aload_n hx hb dX6_become_5 rfl (lv_at hl 0 rfl) ?_
  refine lv_aload_n hx hb dX6_become_6 rfl (lv_at hl 1 rfl) ?_
  obtain ⟨R1, hc2, hf⟩ := b_inv hf
  have hk := kall (wc' := (wRR h a cA n h2 a2 cA2 n2 R1.1 R1.2 f2 ct2)) hP hD hS hA rfl
  refine k_goV (va_runV (As := [.ref h2]) (rest := []) ⟨hx, hb, hml, hown, hts⟩ (kX6_appendRow l D h a cA h2 a2 cA2 n n2 f (0 : Int32) f2 ct2 hc2 _) (cwV 1 hts gX6_become_X6_appendRow rfl rfl rfl (by decide +kernel) ⟨Nat.le_of_ble_eq_true rfl, Nat.le_of_ble_eq_true rfl⟩) (k_preV (q0 := 0) (ci := 5) hk hK NT_bl NT_u rfl rfl rfl) rfl rfl hl.1 rfl (lv_room (Nat.le_of_ble_eq_true rfl)) dX6_become_7 ⟨Nat.zero_le _, Nat.zero_le _⟩) hk hS (fun H locs hP hD hS => ?_)
  obtain rfl := Option.some.inj hf
  exact k_retV hx hb hr hlocks hP hS dX6_become_10
