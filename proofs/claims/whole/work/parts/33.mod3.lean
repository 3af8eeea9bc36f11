noncomputable def fX8_stringAt (sc : Nat → Int32) (ar : Nat → Nat → Int32) (x1 : Int32) (x2 : Int32) : Option (Int32) :=
  if inb (0 : Int32) 5 = true then
  if ((ar 1) (0 : Int32).toNatClampNeg) ≤ x2 then
    if inb (0 : Int32) 5 = true then
    if inb ((((1000 : Int32) + x1) + x2) - ((ar 1) (0 : Int32).toNatClampNeg)) 5000 = true then
    some ((ar 0) ((((1000 : Int32) + x1) + x2) - ((ar 1) (0 : Int32).toNatClampNeg)).toNatClampNeg)
    else none
    else none
  else
    if inb x2 5000 = true then
    some ((ar 0) x2.toNatClampNeg)
    else none
  else none

set_option maxHeartbeats 4000000 in
set_option maxRecDepth 100000 in
theorem kX8_stringAt (l : Launch) (D : va_G) (q : Nat → Nat) (cA : Nat → ClassId) (sc : Nat → Int32) (ar : Nat → Nat → Int32) (x1 : Int32) (x2 : Int32) {R : Int32} (hf : fX8_stringAt sc ar x1 x2 = some R) : MI l yX8_stringAt wsX8_stringAt (rmD 0) D ([.ref (q 0), .int x1, .int x2] : List Value) (wM q cA sc ar) (tM cA) NT R (wM q cA sc ar) := by
  refine MI.mk (cc := cX8_stringAt) (maxL := 3) (ret := (some .int)) (by first | decide | decide +kernel) rfl (Nat.le_of_ble_eq_true rfl) ?_
  intro p e s m below meth cd A ls hE
  obtain ⟨hx, hb, hr, hml, hts, hown, hlocks, hP, hK, hD, hA, hN, hAe, hl⟩ := hE
  have hown : s.vm.findClass RX8 = some m.cls := hown
  have hS : va_S A s.heap s.heap [] := va_S.rf
  have hl : lv_has ls 3 [(0, .ref (q 0)), (1, .int x1), (2, .int x2)] := hl
  rw [fX8_stringAt] at hf
  refine lv_iload_n hx hb dX8_stringAt_0 rfl (lv_at hl 2 rfl) ?_
  refine lv_aload_n hx hb dX8_stringAt_1 rfl (lv_at hl 0 rfl) ?_
  refine va_get (D := D) (ci := 7) (v := .ref (q 2)) (C := RX8) (T := TX8) (N := 21) hx hb hts (fun w h => List.mem_cons_of_mem _ (List.mem_append_right _ h)) hown hK hP 0 rfl rfl 1 (by decide) (hts (.fieldLink RX8 13 "DeltaWindowsModel" "length" "[I") (List.mem_of_getElem? (i := 1) rfl)) (fun _ h9 => h9) rfl dX8_stringAt_2 ?_
  refine lv_iconst (v := (0 : Int32)) hx hb dX8_stringAt_5 (by decide) ?_
  obtain ⟨g1, hf⟩ := g_inv hf
  refine va_iald (f := (ar 1)) hx hb hK hP 2 1 rfl rfl (inb_vp g1) dX8_stringAt_6 ?_
  refine lv_icmp_ge (tgt := 19) hx hb dX8_stringAt_7 (by decide) (fun c2 => ?_) (fun c2 => ?_)
  · rw [if_pos c2] at hf
    refine lv_aload_n hx hb dX8_stringAt_19 rfl (lv_at hl 0 rfl) ?_
    refine va_get (D := D) (ci := 7) (v := .ref (q 1)) (C := RX8) (T := TX8) (N := 21) hx hb hts (fun w h => List.mem_cons_of_mem _ (List.mem_append_right _ h)) hown hK hP 0 rfl rfl 0 (by decide) (hts (.fieldLink RX8 7 "DeltaWindowsModel" "cell" "[I") (List.mem_of_getElem? (i := 2) rfl)) (fun _ h9 => h9) rfl dX8_stringAt_20 ?_
    refine lv_sipush (v := (1000 : Int32)) hx hb dX8_stringAt_23 (by decide) ?_
    refine lv_iload_n hx hb dX8_stringAt_26 rfl (lv_at hl 1 rfl) ?_
    refine lv_iadd hx hb dX8_stringAt_27 ?_
    refine lv_iload_n hx hb dX8_stringAt_28 rfl (lv_at hl 2 rfl) ?_
    refine lv_iadd hx hb dX8_stringAt_29 ?_
    refine lv_aload_n hx hb dX8_stringAt_30 rfl (lv_at hl 0 rfl) ?_
    refine va_get (D := D) (ci := 7) (v := .ref (q 2)) (C := RX8) (T := TX8) (N := 21) hx hb hts (fun w h => List.mem_cons_of_mem _ (List.mem_append_right _ h)) hown hK hP 0 rfl rfl 1 (by decide) (hts (.fieldLink RX8 13 "DeltaWindowsModel" "length" "[I") (List.mem_of_getElem? (i := 1) rfl)) (fun _ h9 => h9) rfl dX8_stringAt_31 ?_
    refine lv_iconst (v := (0 : Int32)) hx hb dX8_stringAt_34 (by decide) ?_
    obtain ⟨g3, hf⟩ := g_inv hf
    refine va_iald (f := (ar 1)) hx hb hK hP 2 1 rfl rfl (inb_vp g3) dX8_stringAt_35 ?_
    refine lv_isub hx hb dX8_stringAt_36 ?_
    obtain ⟨g4, hf⟩ := g_inv hf
    refine va_iald (f := (ar 0)) hx hb hK hP 1 0 rfl rfl (inb_vp g4) dX8_stringAt_37 ?_
    obtain rfl := Option.some.inj hf
    exact k_retI hx hb hr hlocks hP hS dX8_stringAt_38
  · rw [if_neg c2] at hf
    refine lv_aload_n hx hb dX8_stringAt_10 rfl (lv_at hl 0 rfl) ?_
    refine va_get (D := D) (ci := 7) (v := .ref (q 1)) (C := RX8) (T := TX8) (N := 21) hx hb hts (fun w h => List.mem_cons_of_mem _ (List.mem_append_right _ h)) hown hK hP 0 rfl rfl 0 (by decide) (hts (.fieldLink RX8 7 "DeltaWindowsModel" "cell" "[I") (List.mem_of_getElem? (i := 2) rfl)) (fun _ h9 => h9) rfl dX8_stringAt_11 ?_
    refine lv_iload_n hx hb dX8_stringAt_14 rfl (lv_at hl 2 rfl) ?_
    obtain ⟨g5, hf⟩ := g_inv hf
    refine va_iald (f := (ar 0)) hx hb hK hP 1 0 rfl rfl (inb_vp g5) dX8_stringAt_15 ?_
    refine lv_goto (tgt := 38) hx hb dX8_stringAt_16 (by decide) ?_
    obtain rfl := Option.some.inj hf
    exact k_retI hx hb hr hlocks hP hS dX8_stringAt_38

noncomputable def fX8_reach_L3 (sc : Nat → Int32) (ar : Nat → Nat → Int32) (v1 : Int32) (v2 : Int32) (v3 : Int32) (v4 : Int32) : Nat → (Int32) → Option (Int32)
  | 0, _ => none
  | k + 1, v5 =>
    if v2 ≤ (v3 + v5) then
      some v5
    else
      (fX8_stringAt sc ar v1 (v4 + v5)).bind fun R2 =>
      if inb (((1000 : Int32) + v3) + v5) 5000 = true then
      if R2 = ((ar 0) (((1000 : Int32) + v3) + v5).toNatClampNeg) then
        fX8_reach_L3 sc ar v1 v2 v3 v4 k (v5 + (1 : Int32))
      else
        some v5
      else none

noncomputable def fX8_reach (sc : Nat → Int32) (ar : Nat → Nat → Int32) (x1 : Int32) (x2 : Int32) (x3 : Int32) (x4 : Int32) : Option (Int32) :=
  (fX8_reach_L3 sc ar x1 x2 x3 x4 FU (0 : Int32)).bind fun R6 =>
  some R6

set_option maxHeartbeats 4000000 in
set_option maxRecDepth 100000 in
theorem kX8_reach (l : Launch) (D : va_G) (q : Nat → Nat) (cA : Nat → ClassId) (sc : Nat → Int32) (ar : Nat → Nat → Int32) (x1 : Int32) (x2 : Int32) (x3 : Int32) (x4 : Int32) {R : Int32} (hf : fX8_reach sc ar x1 x2 x3 x4 = some R) : MI l yX8_reach wsX8_reach (rmD 1) D ([.ref (q 0), .int x1, .int x2, .int x3, .int x4] : List Value) (wM q cA sc ar) (tM cA) NT R (wM q cA sc ar) := by
  refine MI.mk (cc := cX8_reach) (maxL := 6) (ret := (some .int)) (by first | decide | decide +kernel) rfl (Nat.le_of_ble_eq_true rfl) ?_
  intro p e s m below meth cd A ls hE
  obtain ⟨hx, hb, hr, hml, hts, hown, hlocks, hP, hK, hD, hA, hN, hAe, hl⟩ := hE
  have hown : s.vm.findClass RX8 = some m.cls := hown
  have hS : va_S A s.heap s.heap [] := va_S.rf
  have hl : lv_has ls 6 [(0, .ref (q 0)), (1, .int x1), (2, .int x2), (3, .int x3), (4, .int x4)] := hl
  rw [fX8_reach] at hf
  refine lv_iconst (v := (0 : Int32)) hx hb dX8_reach_0 (by decide) ?_
  refine lv_istore (lv' := [(5, .int (0 : Int32)), (0, .ref (q 0)), (1, .int x1), (2, .int x2), (3, .int x3), (4, .int x4)]) hx hb dX8_reach_1 hl (by decide) rfl (fun ls hl => ?_)
  have lp8 : ∀ (sc : Nat → Int32) (ar : Nat → Nat → Int32) (v1 : Int32) (v2 : Int32) (v3 : Int32) (v4 : Int32), ∀ (k : Nat) (v5 : Int32) (H : Heap) (locs : List Loc) (ls : Array Slot) (o : Int32), lv_has ls 6 [(5, .int v5), (1, .int v1), (2, .int v2), (3, .int v3), (4, .int v4), (0, .ref (q 0))] → va_P D vwCl (wM q cA sc ar) H → va_D A (wM q cA sc ar) → va_S A s.heap H locs → fX8_reach_L3 sc ar v1 v2 v3 v4 k v5 = some o → (∀ (H : Heap) (locs : List Loc) (ls : Array Slot), lv_has ls 6 [(5, .int o)] → va_P D vwCl (wM q cA sc ar) H → va_D A (wM q cA sc ar) → va_S A s.heap H locs → W p l e (headSpec wsX8_reach (rmD 1)).room s m ([.ref (q 0), .int x1, .int x2, .int x3, .int x4] : List Value).toArray below meth cd H locs 0 0 (QI D below ([.ref (q 0), .int x1, .int x2, .int x3, .int x4] : List Value).toArray s A R (wM q cA sc ar)) (F0 m 43 ls [])) → W p l e (headSpec wsX8_reach (rmD 1)).room s m ([.ref (q 0), .int x1, .int x2, .int x3, .int x4] : List Value).toArray below meth cd H locs 0 0 (QI D below ([.ref (q 0), .int x1, .int x2, .int x3, .int x4] : List Value).toArray s A R (wM q cA sc ar)) (F0 m 3 ls []) := by
    intro sc ar v1 v2 v3 v4
    intro k
    induction k with
    | zero =>
      intro v5 H locs ls o hl hP hD hS hf
      exact absurd hf (by simp [fX8_reach_L3])
    | succ k ih =>
      intro v5 H locs ls o hl hP hD hS hf kont
      rw [fX8_reach_L3] at hf
      refine lv_iload_n hx hb dX8_reach_3 rfl (lv_at hl 3 rfl) ?_
      refine lv_iload hx hb dX8_reach_4 (lv_at hl 0 rfl) ?_
      refine lv_iadd hx hb dX8_reach_6 ?_
      refine lv_iload_n hx hb dX8_reach_7 rfl (lv_at hl 2 rfl) ?_
      refine lv_icmp_ge (tgt := 43) hx hb dX8_reach_8 (by decide) (fun c1 => ?_) (fun c1 => ?_)
      · rw [if_pos c1] at hf
        obtain rfl := Option.some.inj hf
        exact kont _ _ _ (lv_sub hl [0] rfl) hP hD hS
      · rw [if_neg c1] at hf
        refine lv_aload_n hx hb dX8_reach_11 rfl (lv_at hl 5 rfl) ?_
        refine lv_iload_n hx hb dX8_reach_12 rfl (lv_at hl 1 rfl) ?_
        refine lv_iload hx hb dX8_reach_13 (lv_at hl 4 rfl) ?_
        refine lv_iload hx hb dX8_reach_15 (lv_at hl 0 rfl) ?_
        refine lv_iadd hx hb dX8_reach_17 ?_
        obtain ⟨R2, hc3, hf⟩ := b_inv hf
        have hk := kall (wc' := (wM q cA sc ar)) hP hD hS hA rfl
        refine k_goI (va_runV (As := [.int v1, .int (v4 + v5)]) (rest := []) ⟨hx, hb, hml, hown, hts⟩ (kX8_stringAt l D q cA sc ar v1 (v4 + v5) hc3 _) (cwV 2 hts gX8_reach_X8_stringAt rfl rfl rfl (by decide +kernel) ⟨Nat.le_of_ble_eq_true rfl, Nat.le_of_ble_eq_true rfl⟩) (k_preV (q0 := 0) (ci := 7) hk hK NT_bl NT_u rfl rfl rfl) rfl rfl hl.1 rfl (lv_room (Nat.le_of_ble_eq_true rfl)) dX8_reach_18 ⟨Nat.zero_le _, Nat.zero_le _⟩) hk hS (fun H locs hP hD hS => ?_)
        refine lv_aload_n hx hb dX8_reach_21 rfl (lv_at hl 5 rfl) ?_
        refine va_get (D := D) (ci := 7) (v := .ref (q 1)) (C := RX8) (T := TX8) (N := 21) hx hb hts (fun w h => List.mem_cons_of_mem _ (List.mem_append_right _ h)) hown hK hP 0 rfl rfl 0 (by decide) (hts (.fieldLink RX8 7 "DeltaWindowsModel" "cell" "[I") (List.mem_of_getElem? (i := 1) rfl)) (fun _ h9 => h9) rfl dX8_reach_22 ?_
        refine lv_sipush (v := (1000 : Int32)) hx hb dX8_reach_25 (by decide) ?_
        refine lv_iload_n hx hb dX8_reach_28 rfl (lv_at hl 3 rfl) ?_
        refine lv_iadd hx hb dX8_reach_29 ?_
        refine lv_iload hx hb dX8_reach_30 (lv_at hl 0 rfl) ?_
        refine lv_iadd hx hb dX8_reach_32 ?_
        obtain ⟨g4, hf⟩ := g_inv hf
        refine va_iald (f := (ar 0)) hx hb hK hP 1 0 rfl rfl (inb_vp g4) dX8_reach_33 ?_
        refine lv_icmp_ne (tgt := 43) hx hb dX8_reach_34 (by decide) (fun c5 => ?_) (fun c5 => ?_)
        · rw [if_neg c5] at hf
          obtain rfl := Option.some.inj hf
          exact kont _ _ _ (lv_sub hl [0] rfl) hP hD hS
        · rw [if_pos c5] at hf
          refine lv_iinc (v := (v5 + (1 : Int32))) (lv' := [(5, .int (v5 + (1 : Int32))), (1, .int v1), (2, .int v2), (3, .int v3), (4, .int v4), (0, .ref (q 0))]) hx hb dX8_reach_37 hl (k := 0) rfl rfl (by decide) rfl (fun ls hl => ?_)
          refine lv_goto (tgt := 3) hx hb dX8_reach_40 (by decide) ?_
          exact ih (v5 + (1 : Int32)) _ _ _ o (lv_sub hl [0, 1, 2, 3, 4, 5] rfl) hP hD hS hf kont
  obtain ⟨R6, hc7, hf⟩ := b_inv hf
  refine lp8 sc ar x1 x2 x3 x4 FU (0 : Int32) _ _ _ R6 (lv_sub hl [0, 2, 3, 4, 5, 1] rfl) hP hD hS hc7 (fun H locs ls hl hP hD hS => ?_)
  refine lv_iload hx hb dX8_reach_43 (lv_at hl 0 rfl) ?_
  obtain rfl := Option.some.inj hf
  exact k_retI hx hb hr hlocks hP hS dX8_reach_45

noncomputable def fX8_runFrom_L2 (sc : Nat → Int32) (ar : Nat → Nat → Int32) (v1 : Int32) (v2 : Int32) : Nat → (Int32) → Option (Int32)
  | 0, _ => none
  | k + 1, v3 =>
    if v2 ≤ (v1 + v3) then
      some v3
    else
      if inb (((1000 : Int32) + v1) + v3) 5000 = true then
      if inb ((1000 : Int32) + v1) 5000 = true then
      if ((ar 0) (((1000 : Int32) + v1) + v3).toNatClampNeg) = ((ar 0) ((1000 : Int32) + v1).toNatClampNeg) then
        fX8_runFrom_L2 sc ar v1 v2 k (v3 + (1 : Int32))
      else
        some v3
      else none
      else none

noncomputable def fX8_runFrom (sc : Nat → Int32) (ar : Nat → Nat → Int32) (x1 : Int32) (x2 : Int32) : Option (Int32) :=
  (fX8_runFrom_L2 sc ar x1 x2 FU (1 : Int32)).bind fun R5 =>
  some R5

set_option maxHeartbeats 4000000 in
set_option maxRecDepth 100000 in
theorem kX8_runFrom (l : Launch) (D : va_G) (q : Nat → Nat) (cA : Nat → ClassId) (sc : Nat → Int32) (ar : Nat → Nat → Int32) (x1 : Int32) (x2 : Int32) {R : Int32} (hf : fX8_runFrom sc ar x1 x2 = some R) : MI l yX8_runFrom wsX8_runFrom (rmD 0) D ([.ref (q 0), .int x1, .int x2] : List Value) (wM q cA sc ar) (tM cA) NT R (wM q cA sc ar) := by
  refine MI.mk (cc := cX8_runFrom) (maxL := 4) (ret := (some .int)) (by first | decide | decide +kernel) rfl (Nat.le_of_ble_eq_true rfl) ?_
  intro p e s m below meth cd A ls hE
  obtain ⟨hx, hb, hr, hml, hts, hown, hlocks, hP, hK, hD, hA, hN, hAe, hl⟩ := hE
  have hown : s.vm.findClass RX8 = some m.cls := hown
  have hS : va_S A s.heap s.heap [] := va_S.rf
  have hl : lv_has ls 4 [(0, .ref (q 0)), (1, .int x1), (2, .int x2)] := hl
  rw [fX8_runFrom] at hf
  refine lv_iconst (v := (1 : Int32)) hx hb dX8_runFrom_0 (by decide) ?_
  refine lv_istore_n (lv' := [(3, .int (1 : Int32)), (0, .ref (q 0)), (1, .int x1), (2, .int x2)]) hx hb dX8_runFrom_1 rfl hl (by decide) rfl (fun ls hl => ?_)
  have lp7 : ∀ (sc : Nat → Int32) (ar : Nat → Nat → Int32) (v1 : Int32) (v2 : Int32), ∀ (k : Nat) (v3 : Int32) (H : Heap) (locs : List Loc) (ls : Array Slot) (o : Int32), lv_has ls 4 [(3, .int v3), (1, .int v1), (2, .int v2), (0, .ref (q 0))] → va_P D vwCl (wM q cA sc ar) H → va_D A (wM q cA sc ar) → va_S A s.heap H locs → fX8_runFrom_L2 sc ar v1 v2 k v3 = some o → (∀ (H : Heap) (locs : List Loc) (ls : Array Slot), lv_has ls 4 [(3, .int o)] → va_P D vwCl (wM q cA sc ar) H → va_D A (wM q cA sc ar) → va_S A s.heap H locs → W p l e (headSpec wsX8_runFrom (rmD 0)).room s m ([.ref (q 0), .int x1, .int x2] : List Value).toArray below meth cd H locs 0 0 (QI D below ([.ref (q 0), .int x1, .int x2] : List Value).toArray s A R (wM q cA sc ar)) (F0 m 40 ls [])) → W p l e (headSpec wsX8_runFrom (rmD 0)).room s m ([.ref (q 0), .int x1, .int x2] : List Value).toArray below meth cd H locs 0 0 (QI D below ([.ref (q 0), .int x1, .int x2] : List Value).toArray s A R (wM q cA sc ar)) (F0 m 2 ls []) := by
    intro sc ar v1 v2
    intro k
    induction k with
    | zero =>
      intro v3 H locs ls o hl hP hD hS hf
      exact absurd hf (by simp [fX8_runFrom_L2])
    | succ k ih =>
      intro v3 H locs ls o hl hP hD hS hf kont
      rw [fX8_runFrom_L2] at hf
      refine lv_iload_n hx hb dX8_runFrom_2 rfl (lv_at hl 1 rfl) ?_
      refine lv_iload_n hx hb dX8_runFrom_3 rfl (lv_at hl 0 rfl) ?_
      refine lv_iadd hx hb dX8_runFrom_4 ?_
      refine lv_iload_n hx hb dX8_runFrom_5 rfl (lv_at hl 2 rfl) ?_
      refine lv_icmp_ge (tgt := 40) hx hb dX8_runFrom_6 (by decide) (fun c1 => ?_) (fun c1 => ?_)
      · rw [if_pos c1] at hf
        obtain rfl := Option.some.inj hf
        exact kont _ _ _ (lv_sub hl [0] rfl) hP hD hS
      · rw [if_neg c1] at hf
        refine lv_aload_n hx hb dX8_runFrom_9 rfl (lv_at hl 3 rfl) ?_
        refine va_get (D := D) (ci := 7) (v := .ref (q 1)) (C := RX8) (T := TX8) (N := 21) hx hb hts (fun w h => List.mem_cons_of_mem _ (List.mem_append_right _ h)) hown hK hP 0 rfl rfl 0 (by decide) (hts (.fieldLink RX8 7 "DeltaWindowsModel" "cell" "[I") (List.mem_of_getElem? (i := 1) rfl)) (fun _ h9 => h9) rfl dX8_runFrom_10 ?_
        refine lv_sipush (v := (1000 : Int32)) hx hb dX8_runFrom_13 (by decide) ?_
        refine lv_iload_n hx hb dX8_runFrom_16 rfl (lv_at hl 1 rfl) ?_
        refine lv_iadd hx hb dX8_runFrom_17 ?_
        refine lv_iload_n hx hb dX8_runFrom_18 rfl (lv_at hl 0 rfl) ?_
        refine lv_iadd hx hb dX8_runFrom_19 ?_
        obtain ⟨g2, hf⟩ := g_inv hf
        refine va_iald (f := (ar 0)) hx hb hK hP 1 0 rfl rfl (inb_vp g2) dX8_runFrom_20 ?_
        refine lv_aload_n hx hb dX8_runFrom_21 rfl (lv_at hl 3 rfl) ?_
        refine va_get (D := D) (ci := 7) (v := .ref (q 1)) (C := RX8) (T := TX8) (N := 21) hx hb hts (fun w h => List.mem_cons_of_mem _ (List.mem_append_right _ h)) hown hK hP 0 rfl rfl 0 (by decide) (hts (.fieldLink RX8 7 "DeltaWindowsModel" "cell" "[I") (List.mem_of_getElem? (i := 1) rfl)) (fun _ h9 => h9) rfl dX8_runFrom_22 ?_
        refine lv_sipush (v := (1000 : Int32)) hx hb dX8_runFrom_25 (by decide) ?_
        refine lv_iload_n hx hb dX8_runFrom_28 rfl (lv_at hl 1 rfl) ?_
        refine lv_iadd hx hb dX8_runFrom_29 ?_
        obtain ⟨g3, hf⟩ := g_inv hf
        refine va_iald (f := (ar 0)) hx hb hK hP 1 0 rfl rfl (inb_vp g3) dX8_runFrom_30 ?_
        refine lv_icmp_ne (tgt := 40) hx hb dX8_runFrom_31 (by decide) (fun c4 => ?_) (fun c4 => ?_)
        · rw [if_neg c4] at hf
          obtain rfl := Option.some.inj hf
          exact kont _ _ _ (lv_sub hl [0] rfl) hP hD hS
        · rw [if_pos c4] at hf
          refine lv_iinc (v := (v3 + (1 : Int32))) (lv' := [(3, .int (v3 + (1 : Int32))), (1, .int v1), (2, .int v2), (0, .ref (q 0))]) hx hb dX8_runFrom_34 hl (k := 0) rfl rfl (by decide) rfl (fun ls hl => ?_)
          refine lv_goto (tgt := 2) hx hb dX8_runFrom_37 (by decide) ?_
          exact ih (v3 + (1 : Int32)) _ _ _ o (lv_sub hl [0, 1, 2, 3] rfl) hP hD hS hf kont
  obtain ⟨R5, hc6, hf⟩ := b_inv hf
  refine lp7 sc ar x1 x2 FU (1 : Int32) _ _ _ R5 (lv_sub hl [0, 2, 3, 1] rfl) hP hD hS hc6 (fun H locs ls hl hP hD hS => ?_)
  refine lv_iload_n hx hb dX8_runFrom_40 rfl (lv_at hl 0 rfl) ?_
  obtain rfl := Option.some.inj hf
  exact k_retI hx hb hr hlocks hP hS dX8_runFrom_41

noncomputable def fX8_instruct (sc : Nat → Int32) (ar : Nat → Nat → Int32) (x1 : Int32) (x2 : Int32) (x3 : Int32) : Option ((Nat → Int32) × (Nat → Nat → Int32)) :=
  if inb (sc 2) 64 = true then
  if inb (sc 2) 64 = true then
  if inb (sc 2) 64 = true then
  some ((va_up sc 2 ((sc 2) + (1 : Int32))), (va_up (va_up (va_up ar 5 (upd (ar 5) (sc 2).toNatClampNeg x1)) 6 (upd (ar 6) (sc 2).toNatClampNeg x2)) 7 (upd (ar 7) (sc 2).toNatClampNeg x3)))
  else none
  else none
  else none

set_option maxHeartbeats 4000000 in
set_option maxRecDepth 100000 in
theorem kX8_instruct (l : Launch) (D : va_G) (q : Nat → Nat) (cA : Nat → ClassId) (sc : Nat → Int32) (ar : Nat → Nat → Int32) (x1 : Int32) (x2 : Int32) (x3 : Int32) {R : (Nat → Int32) × (Nat → Nat → Int32)} (hf : fX8_instruct sc ar x1 x2 x3 = some R) : MV l yX8_instruct wsX8_instruct (rmD 0) D ([.ref (q 0), .int x1, .int x2, .int x3] : List Value) (wM q cA sc ar) (tM cA) NT (wM q cA R.1 R.2) := by
  refine MV.mk (cc := cX8_instruct) (maxL := 4) (ret := none) (by first | decide | decide +kernel) rfl (Nat.le_of_ble_eq_true rfl) ?_
  intro p e s m below meth cd A ls hE
  obtain ⟨hx, hb, hr, hml, hts, hown, hlocks, hP, hK, hD, hA, hN, hAe, hl⟩ := hE
  have hown : s.vm.findClass RX8 = some m.cls := hown
  have hS : va_S A s.heap s.heap [] := va_S.rf
  have hl : lv_has ls 4 [(0, .ref (q 0)), (1, .int x1), (2, .int x2), (3, .int x3)] := hl
  rw [fX8_instruct] at hf
  refine lv_aload_n hx hb dX8_instruct_0 rfl (lv_at hl 0 rfl) ?_
  refine va_get (D := D) (ci := 7) (v := .ref (q 6)) (C := RX8) (T := TX8) (N := 21) hx hb hts (fun w h => List.mem_cons_of_mem _ (List.mem_append_right _ h)) hown hK hP 0 rfl rfl 8 (by decide) (hts (.fieldLink RX8 25 "DeltaWindowsModel" "kind" "[I") (List.mem_of_getElem? (i := 1) rfl)) (fun _ h9 => h9) rfl dX8_instruct_1 ?_
  refine lv_aload_n hx hb dX8_instruct_4 rfl (lv_at hl 0 rfl) ?_
  refine va_get (D := D) (ci := 7) (v := .int (sc 2)) (C := RX8) (T := TX8) (N := 21) hx hb hts (fun w h => List.mem_cons_of_mem _ (List.mem_append_right _ h)) hown hK hP 0 rfl rfl 7 (by decide) (hts (.fieldLink RX8 79 "DeltaWindowsModel" "many" "I") (List.mem_of_getElem? (i := 2) rfl)) (fun _ h9 => h9) rfl dX8_instruct_5 ?_
  refine lv_iload_n hx hb dX8_instruct_8 rfl (lv_at hl 1 rfl) ?_
  obtain ⟨g1, hf⟩ := g_inv hf
  refine va_iast (f := (ar 5)) hx hb hK hP hD hS 6 5 rfl rfl (inb_vp g1) dX8_instruct_9 (fun H locs hP hD hS => ?_)
  have hP : va_P D vwCl (wM q cA sc (va_up ar 5 (upd (ar 5) (sc 2).toNatClampNeg x1))) H := va_P_eq (wM_a5 q cA sc ar (upd (ar 5) (sc 2).toNatClampNeg x1)) hP
  have hD : va_D A (wM q cA sc (va_up ar 5 (upd (ar 5) (sc 2).toNatClampNeg x1))) := va_D_eq (wM_a5 q cA sc ar (upd (ar 5) (sc 2).toNatClampNeg x1)) hD
  refine lv_aload_n hx hb dX8_instruct_10 rfl (lv_at hl 0 rfl) ?_
  refine va_get (D := D) (ci := 7) (v := .ref (q 7)) (C := RX8) (T := TX8) (N := 21) hx hb hts (fun w h => List.mem_cons_of_mem _ (List.mem_append_right _ h)) hown hK hP 0 rfl rfl 9 (by decide) (hts (.fieldLink RX8 28 "DeltaWindowsModel" "size" "[I") (List.mem_of_getElem? (i := 3) rfl)) (fun _ h9 => h9) rfl dX8_instruct_11 ?_
  refine lv_aload_n hx hb dX8_instruct_14 rfl (lv_at hl 0 rfl) ?_
  refine va_get (D := D) (ci := 7) (v := .int (sc 2)) (C := RX8) (T := TX8) (N := 21) hx hb hts (fun w h => List.mem_cons_of_mem _ (List.mem_append_right _ h)) hown hK hP 0 rfl rfl 7 (by decide) (hts (.fieldLink RX8 79 "DeltaWindowsModel" "many" "I") (List.mem_of_getElem? (i := 2) rfl)) (fun _ h9 => h9) rfl dX8_instruct_15 ?_
  refine lv_iload_n hx hb dX8_instruct_18 rfl (lv_at hl 2 rfl) ?_
  obtain ⟨g2, hf⟩ := g_inv hf
  refine va_iast (f := (ar 6)) hx hb hK hP hD hS 7 6 rfl rfl (inb_vp g2) dX8_instruct_19 (fun H locs hP hD hS => ?_)
  have hP : va_P D vwCl (wM q cA sc (va_up (va_up ar 5 (upd (ar 5) (sc 2).toNatClampNeg x1)) 6 (upd (ar 6) (sc 2).toNatClampNeg x2))) H := va_P_eq (wM_a6 q cA sc (va_up ar 5 (upd (ar 5) (sc 2).toNatClampNeg x1)) (upd (ar 6) (sc 2).toNatClampNeg x2)) hP
  have hD : va_D A (wM q cA sc (va_up (va_up ar 5 (upd (ar 5) (sc 2).toNatClampNeg x1)) 6 (upd (ar 6) (sc 2).toNatClampNeg x2))) := va_D_eq (wM_a6 q cA sc (va_up ar 5 (upd (ar 5) (sc 2).toNatClampNeg x1)) (upd (ar 6) (sc 2).toNatClampNeg x2)) hD
  refine lv_aload_n hx hb dX8_instruct_20 rfl (lv_at hl 0 rfl) ?_
  refine va_get (D := D) (ci := 7) (v := .ref (q 8)) (C := RX8) (T := TX8) (N := 21) hx hb hts (fun w h => List.mem_cons_of_mem _ (List.mem_append_right _ h)) hown hK hP 0 rfl rfl 10 (by decide) (hts (.fieldLink RX8 31 "DeltaWindowsModel" "mode" "[I") (List.mem_of_getElem? (i := 4) rfl)) (fun _ h9 => h9) rfl dX8_instruct_21 ?_
  refine lv_aload_n hx hb dX8_instruct_24 rfl (lv_at hl 0 rfl) ?_
  refine va_get (D := D) (ci := 7) (v := .int (sc 2)) (C := RX8) (T := TX8) (N := 21) hx hb hts (fun w h => List.mem_cons_of_mem _ (List.mem_append_right _ h)) hown hK hP 0 rfl rfl 7 (by decide) (hts (.fieldLink RX8 79 "DeltaWindowsModel" "many" "I") (List.mem_of_getElem? (i := 2) rfl)) (fun _ h9 => h9) rfl dX8_instruct_25 ?_
  refine lv_iload_n hx hb dX8_instruct_28 rfl (lv_at hl 3 rfl) ?_
  obtain ⟨g3, hf⟩ := g_inv hf
  refine va_iast (f := (ar 7)) hx hb hK hP hD hS 8 7 rfl rfl (inb_vp g3) dX8_instruct_29 (fun H locs hP hD hS => ?_)
  have hP : va_P D vwCl (wM q cA sc (va_up (va_up (va_up ar 5 (upd (ar 5) (sc 2).toNatClampNeg x1)) 6 (upd (ar 6) (sc 2).toNatClampNeg x2)) 7 (upd (ar 7) (sc 2).toNatClampNeg x3))) H := va_P_eq (wM_a7 q cA sc (va_up (va_up ar 5 (upd (ar 5) (sc 2).toNatClampNeg x1)) 6 (upd (ar 6) (sc 2).toNatClampNeg x2)) (upd (ar 7) (sc 2).toNatClampNeg x3)) hP
  have hD : va_D A (wM q cA sc (va_up (va_up (va_up ar 5 (upd (ar 5) (sc 2).toNatClampNeg x1)) 6 (upd (ar 6) (sc 2).toNatClampNeg x2)) 7 (upd (ar 7) (sc 2).toNatClampNeg x3))) := va_D_eq (wM_a7 q cA sc (va_up (va_up ar 5 (upd (ar 5) (sc 2).toNatClampNeg x1)) 6 (upd (ar 6) (sc 2).toNatClampNeg x2)) (upd (ar 7) (sc 2).toNatClampNeg x3)) hD
  refine lv_aload_n hx hb dX8_instruct_30 rfl (lv_at hl 0 rfl) ?_
  refine lv_dup hx hb dX8_instruct_31 rfl ?_
  refine va_get (D := D) (ci := 7) (v := .int (sc 2)) (C := RX8) (T := TX8) (N := 21) hx hb hts (fun w h => List.mem_cons_of_mem _ (List.mem_append_right _ h)) hown hK hP 0 rfl rfl 7 (by decide) (hts (.fieldLink RX8 79 "DeltaWindowsModel" "many" "I") (List.mem_of_getElem? (i := 2) rfl)) (fun _ h9 => h9) rfl dX8_instruct_32 ?_
  refine lv_iconst (v := (1 : Int32)) hx hb dX8_instruct_35 (by decide) ?_
  refine lv_iadd hx hb dX8_instruct_36 ?_
  refine va_put (D := D) (ci := 7) (v := .int ((sc 2) + (1 : Int32))) (ty := .int) (C := RX8) (T := TX8) (N := 21) hx hb hts (fun w h => List.mem_cons_of_mem _ (List.mem_append_right _ h)) tyX8 tyX8_ok nmX8 hown hK hP hD hS 0 rfl rfl 7 (by decide) (hts (.fieldLink RX8 79 "DeltaWindowsModel" "many" "I") (List.mem_of_getElem? (i := 2) rfl)) (fun _ h9 => h9) rfl (by decide +kernel) rfl rfl (Nat.le_of_ble_eq_true rfl) dX8_instruct_37 (fun H locs hP hD hS => ?_)
  have hP : va_P D vwCl (wM q cA (va_up sc 2 ((sc 2) + (1 : Int32))) (va_up (va_up (va_up ar 5 (upd (ar 5) (sc 2).toNatClampNeg x1)) 6 (upd (ar 6) (sc 2).toNatClampNeg x2)) 7 (upd (ar 7) (sc 2).toNatClampNeg x3))) H := va_P_eq (wM_s2 q cA sc (va_up (va_up (va_up ar 5 (upd (ar 5) (sc 2).toNatClampNeg x1)) 6 (upd (ar 6) (sc 2).toNatClampNeg x2)) 7 (upd (ar 7) (sc 2).toNatClampNeg x3)) ((sc 2) + (1 : Int32))) hP
  have hD : va_D A (wM q cA (va_up sc 2 ((sc 2) + (1 : Int32))) (va_up (va_up (va_up ar 5 (upd (ar 5) (sc 2).toNatClampNeg x1)) 6 (upd (ar 6) (sc 2).toNatClampNeg x2)) 7 (upd (ar 7) (sc 2).toNatClampNeg x3))) := va_D_eq (wM_s2 q cA sc (va_up (va_up (va_up ar 5 (upd (ar 5) (sc 2).toNatClampNeg x1)) 6 (upd (ar 6) (sc 2).toNatClampNeg x2)) 7 (upd (ar 7) (sc 2).toNatClampNeg x3)) ((sc 2) + (1 : Int32))) hD
  obtain rfl := Option.some.inj hf
  exact k_retV hx hb hr hlocks hP hS dX8_instruct_40

noncomputable def fX8_addByte (sc : Nat → Int32) (ar : Nat → Nat → Int32) (x1 : Int32) : Option ((Nat → Int32) × (Nat → Nat → Int32)) :=
  if (sc 2) ≤ 0 then
    (fX8_instruct sc ar (1 : Int32) (1 : Int32) (0 : Int32)).bind fun R2 =>
    (fX8_write R2.1 R2.2 (0 : Int32) x1).bind fun R4 =>
    some (R2.1, R4)
  else
    if inb ((sc 2) - (1 : Int32)) 64 = true then
    if ((ar 5) ((sc 2) - (1 : Int32)).toNatClampNeg) = (1 : Int32) then
      if inb ((sc 2) - (1 : Int32)) 64 = true then
      if inb ((sc 2) - (1 : Int32)) 64 = true then
      (fX8_write sc (va_up ar 6 (upd (ar 6) ((sc 2) - (1 : Int32)).toNatClampNeg (((ar 6) ((sc 2) - (1 : Int32)).toNatClampNeg) + (1 : Int32)))) (0 : Int32) x1).bind fun R14 =>
      some (sc, R14)
      else none
      else none
    else
      (fX8_instruct sc ar (1 : Int32) (1 : Int32) (0 : Int32)).bind fun R8 =>
      (fX8_write R8.1 R8.2 (0 : Int32) x1).bind fun R10 =>
      some (R8.1, R10)
    else none

set_option maxHeartbeats 4000000 in
set_option maxRecDepth 100000 in
theorem kX8_addByte (l : Launch) (D : va_G) (q : Nat → Nat) (cA : Nat → ClassId) (sc : Nat → Int32) (ar : Nat → Nat → Int32) (x1 : Int32) {R : (Nat → Int32) × (Nat → Nat → Int32)} (hf : fX8_addByte sc ar x1 = some R) : MV l yX8_addByte wsX8_addByte (rmD 1) D ([.ref (q 0), .int x1] : List Value) (wM q cA sc ar) (tM cA) NT (wM q cA R.1 R.2) := by
  refine MV.mk (cc := cX8_addByte) (maxL := 2) (ret := none) (by first | decide | decide +kernel) rfl (Nat.le_of_ble_eq_true rfl) ?_
  intro p e s m below meth cd A ls hE
  obtain ⟨hx, hb, hr, hml, hts, hown, hlocks, hP, hK, hD, hA, hN, hAe, hl⟩ := hE
  have hown : s.vm.findClass RX8 = some m.cls := hown
  have hS : va_S A s.heap s.heap [] := va_S.rf
  have hl : lv_has ls 2 [(0, .ref (q 0)), (1, .int x1)] := hl
  rw [fX8_addByte] at hf
  refine lv_aload_n hx hb dX8_addByte_0 rfl (lv_at hl 0 rfl) ?_
  refine va_get (D := D) (ci := 7) (v := .int (sc 2)) (C := RX8) (T := TX8) (N := 21) hx hb hts (fun w h => List.mem_cons_of_mem _ (List.mem_append_right _ h)) hown hK hP 0 rfl rfl 7 (by decide) (hts (.fieldLink RX8 79 "DeltaWindowsModel" "many" "I") (List.mem_of_getElem? (i := 1) rfl)) (fun _ h9 => h9) rfl dX8_addByte_1 ?_
  refine lv_if_le (tgt := 40) hx hb dX8_addByte_4 (by decide) (fun c1 => ?_) (fun c1 => ?_)
  · rw [if_pos c1] at hf
    refine lv_aload_n hx hb dX8_addByte_40 rfl (lv_at hl 0 rfl) ?_
    refine lv_iconst (v := (1 : Int32)) hx hb dX8_addByte_41 (by decide) ?_
    refine lv_iconst (v := (1 : Int32)) hx hb dX8_addByte_42 (by decide) ?_
    refine lv_iconst (v := (0 : Int32)) hx hb dX8_addByte_43 (by decide) ?_
    obtain ⟨R2, hc3, hf⟩ := b_inv hf
    have hk := kall (wc' := (wM q cA R2.1 R2.2)) hP hD hS hA rfl
    refine k_goV (va_runV (As := [.int (1 : Int32), .int (1 : Int32), .int (0 : Int32)]) (rest := []) ⟨hx, hb, hml, hown, hts⟩ (kX8_instruct l D q cA sc ar (1 : Int32) (1 : Int32) (0 : Int32) hc3 _) (cwV 3 hts gX8_addByte_X8_instruct rfl rfl rfl (by decide +kernel) ⟨Nat.le_of_ble_eq_true rfl, Nat.le_of_ble_eq_true rfl⟩) (k_preV (q0 := 0) (ci := 7) hk hK NT_bl NT_u rfl rfl rfl) rfl rfl hl.1 rfl (lv_room (Nat.le_of_ble_eq_true rfl)) dX8_addByte_44 ⟨Nat.zero_le _, Nat.zero_le _⟩) hk hS (fun H locs hP hD hS => ?_)
    refine lv_aload_n hx hb dX8_addByte_47 rfl (lv_at hl 0 rfl) ?_
    refine lv_iconst (v := (0 : Int32)) hx hb dX8_addByte_48 (by decide) ?_
    refine lv_iload_n hx hb dX8_addByte_49 rfl (lv_at hl 1 rfl) ?_
    obtain ⟨R4, hc5, hf⟩ := b_inv hf
    have hk := kall (wc' := (wM q cA R2.1 R4)) hP hD hS hA rfl
    refine k_goV (va_runV (As := [.int (0 : Int32), .int x1]) (rest := []) ⟨hx, hb, hml, hown, hts⟩ (kX8_write l D q cA R2.1 R2.2 (0 : Int32) x1 hc5 _) (cwV 2 hts gX8_addByte_X8_write rfl rfl rfl (by decide +kernel) ⟨Nat.le_of_ble_eq_true rfl, Nat.le_of_ble_eq_true rfl⟩) (k_preV (q0 := 0) (ci := 7) hk hK NT_bl NT_u rfl rfl rfl) rfl rfl hl.1 rfl (lv_room (Nat.le_of_ble_eq_true rfl)) dX8_addByte_50 ⟨Nat.zero_le _, Nat.zero_le _⟩) hk hS (fun H locs hP hD hS => ?_)
    obtain rfl := Option.some.inj hf
    exact k_retV hx hb hr hlocks hP hS dX8_addByte_53
  · rw [if_neg c1] at hf
    refine lv_aload_n hx hb dX8_addByte_7 rfl (lv_at hl 0 rfl) ?_
    refine va_get (D := D) (ci := 7) (v := .ref (q 6)) (C := RX8) (T := TX8) (N := 21) hx hb hts (fun w h => List.mem_cons_of_mem _ (List.mem_append_right _ h)) hown hK hP 0 rfl rfl 8 (by decide) (hts (.fieldLink RX8 25 "DeltaWindowsModel" "kind" "[I") (List.mem_of_getElem? (i := 2) rfl)) (fun _ h9 => h9) rfl dX8_addByte_8 ?_
    refine lv_aload_n hx hb dX8_addByte_11 rfl (lv_at hl 0 rfl) ?_
    refine va_get (D := D) (ci := 7) (v := .int (sc 2)) (C := RX8) (T := TX8) (N := 21) hx hb hts (fun w h => List.mem_cons_of_mem _ (List.mem_append_right _ h)) hown hK hP 0 rfl rfl 7 (by decide) (hts (.fieldLink RX8 79 "DeltaWindowsModel" "many" "I") (List.mem_of_getElem? (i := 1) rfl)) (fun _ h9 => h9) rfl dX8_addByte_12 ?_
    refine lv_iconst (v := (1 : Int32)) hx hb dX8_addByte_15 (by decide) ?_
    refine lv_isub hx hb dX8_addByte_16 ?_
    obtain ⟨g6, hf⟩ := g_inv hf
    refine va_iald (f := (ar 5)) hx hb hK hP 6 5 rfl rfl (inb_vp g6) dX8_addByte_17 ?_
    refine lv_iconst (v := (1 : Int32)) hx hb dX8_addByte_18 (by decide) ?_
    refine lv_icmp_ne (tgt := 40) hx hb dX8_addByte_19 (by decide) (fun c7 => ?_) (fun c7 => ?_)
    · rw [if_neg c7] at hf
      refine lv_aload_n hx hb dX8_addByte_40 rfl (lv_at hl 0 rfl) ?_
      refine lv_iconst (v := (1 : Int32)) hx hb dX8_addByte_41 (by decide) ?_
      refine lv_iconst (v := (1 : Int32)) hx hb dX8_addByte_42 (by decide) ?_
      refine lv_iconst (v := (0 : Int32)) hx hb dX8_addByte_43 (by decide) ?_
      obtain ⟨R8, hc9, hf⟩ := b_inv hf
      have hk := kall (wc' := (wM q cA R8.1 R8.2)) hP hD hS hA rfl
      refine k_goV (va_runV (As := [.int (1 : Int32), .int (1 : Int32), .int (0 : Int32)]) (rest := []) ⟨hx, hb, hml, hown, hts⟩ (kX8_instruct l D q cA sc ar (1 : Int32) (1 : Int32) (0 : Int32) hc9 _) (cwV 3 hts gX8_addByte_X8_instruct rfl rfl rfl (by decide +kernel) ⟨Nat.le_of_ble_eq_true rfl, Nat.le_of_ble_eq_true rfl⟩) (k_preV (q0 := 0) (ci := 7) hk hK NT_bl NT_u rfl rfl rfl) rfl rfl hl.1 rfl (lv_room (Nat.le_of_ble_eq_true rfl)) dX8_addByte_44 ⟨Nat.zero_le _, Nat.zero_le _⟩) hk hS (fun H locs hP hD hS => ?_)
      refine lv_aload_n hx hb dX8_addByte_47 rfl (lv_at hl 0 rfl) ?_
      refine lv_iconst (v := (0 : Int32)) hx hb dX8_addByte_48 (by decide) ?_
      refine lv_iload_n hx hb dX8_addByte_49 rfl (lv_at hl 1 rfl) ?_
      obtain ⟨R10, hc11, hf⟩ := b_inv hf
      have hk := kall (wc' := (wM q cA R8.1 R10)) hP hD hS hA rfl
      refine k_goV (va_runV (As := [.int (0 : Int32), .int x1]) (rest := []) ⟨hx, hb, hml, hown, hts⟩ (kX8_write l D q cA R8.1 R8.2 (0 : Int32) x1 hc11 _) (cwV 2 hts gX8_addByte_X8_write rfl rfl rfl (by decide +kernel) ⟨Nat.le_of_ble_eq_true rfl, Nat.le_of_ble_eq_true rfl⟩) (k_preV (q0 := 0) (ci := 7) hk hK NT_bl NT_u rfl rfl rfl) rfl rfl hl.1 rfl (lv_room (Nat.le_of_ble_eq_true rfl)) dX8_addByte_50 ⟨Nat.zero_le _, Nat.zero_le _⟩) hk hS (fun H locs hP hD hS => ?_)
      obtain rfl := Option.some.inj hf
      exact k_retV hx hb hr hlocks hP hS dX8_addByte_53
    · rw [if_pos c7] at hf
      refine lv_aload_n hx hb dX8_addByte_22 rfl (lv_at hl 0 rfl) ?_
      refine va_get (D := D) (ci := 7) (v := .ref (q 7)) (C := RX8) (T := TX8) (N := 21) hx hb hts (fun w h => List.mem_cons_of_mem _ (List.mem_append_right _ h)) hown hK hP 0 rfl rfl 9 (by decide) (hts (.fieldLink RX8 28 "DeltaWindowsModel" "size" "[I") (List.mem_of_getElem? (i := 3) rfl)) (fun _ h9 => h9) rfl dX8_addByte_23 ?_
      refine lv_aload_n hx hb dX8_addByte_26 rfl (lv_at hl 0 rfl) ?_
      refine va_get (D := D) (ci := 7) (v := .int (sc 2)) (C := RX8) (T := TX8) (N := 21) hx hb hts (fun w h => List.mem_cons_of_mem _ (List.mem_append_right _ h)) hown hK hP 0 rfl rfl 7 (by decide) (hts (.fieldLink RX8 79 "DeltaWindowsModel" "many" "I") (List.mem_of_getElem? (i := 1) rfl)) (fun _ h9 => h9) rfl dX8_addByte_27 ?_
      refine lv_iconst (v := (1 : Int32)) hx hb dX8_addByte_30 (by decide) ?_
      refine lv_isub hx hb dX8_addByte_31 ?_
      refine lv_dup2_11 hx hb dX8_addByte_32 rfl rfl ?_
      obtain ⟨g12, hf⟩ := g_inv hf
      refine va_iald (f := (ar 6)) hx hb hK hP 7 6 rfl rfl (inb_vp g12) dX8_addByte_33 ?_
      refine lv_iconst (v := (1 : Int32)) hx hb dX8_addByte_34 (by decide) ?_
      refine lv_iadd hx hb dX8_addByte_35 ?_
      obtain ⟨g13, hf⟩ := g_inv hf
      refine va_iast (f := (ar 6)) hx hb hK hP hD hS 7 6 rfl rfl (inb_vp g13) dX8_addByte_36 (fun H locs hP hD hS => ?_)
      have hP : va_P D vwCl (wM q cA sc (va_up ar 6 (upd (ar 6) ((sc 2) - (1 : Int32)).toNatClampNeg (((ar 6) ((sc 2) - (1 : Int32)).toNatClampNeg) + (1 : Int32))))) H := va_P_eq (wM_a6 q cA sc ar (upd (ar 6) ((sc 2) - (1 : Int32)).toNatClampNeg (((ar 6) ((sc 2) - (1 : Int32)).toNatClampNeg) + (1 : Int32)))) hP
      have hD : va_D A (wM q cA sc (va_up ar 6 (upd (ar 6) ((sc 2) - (1 : Int32)).toNatClampNeg (((ar 6) ((sc 2) - (1 : Int32)).toNatClampNeg) + (1 : Int32))))) := va_D_eq (wM_a6 q cA sc ar (upd (ar 6) ((sc 2) - (1 : Int32)).toNatClampNeg (((ar 6) ((sc 2) - (1 : Int32)).toNatClampNeg) + (1 : Int32)))) hD
      refine lv_goto (tgt := 47) hx hb dX8_addByte_37 (by decide) ?_
      refine lv_aload_n hx hb dX8_addByte_47 rfl (lv_at hl 0 rfl) ?_
      refine lv_iconst (v := (0 : Int32)) hx hb dX8_addByte_48 (by decide) ?_
      refine lv_iload_n hx hb dX8_addByte_49 rfl (lv_at hl 1 rfl) ?_
      obtain ⟨R14, hc15, hf⟩ := b_inv hf
      have hk := kall (wc' := (wM q cA sc R14)) hP hD hS hA rfl
      refine k_goV (va_runV (As := [.int (0 : Int32), .int x1]) (rest := []) ⟨hx, hb, hml, hown, hts⟩ (kX8_write l D q cA sc (va_up ar 6 (upd (ar 6) ((sc 2) - (1 : Int32)).toNatClampNeg (((ar 6) ((sc 2) - (1 : Int32)).toNatClampNeg) + (1 : Int32)))) (0 : Int32) x1 hc15 _) (cwV 2 hts gX8_addByte_X8_write rfl rfl rfl (by decide +kernel) ⟨Nat.le_of_ble_eq_true rfl, Nat.le_of_ble_eq_true rfl⟩) (k_preV (q0 := 0) (ci := 7) hk hK NT_bl NT_u rfl rfl rfl) rfl rfl hl.1 rfl (lv_room (Nat.le_of_ble_eq_true rfl)) dX8_addByte_50 ⟨Nat.zero_le _, Nat.zero_le _⟩) hk hS (fun H locs hP hD hS => ?_)
      obtain rfl := Option.some.inj hf
      exact k_retV hx hb hr hlocks hP hS dX8_addByte_53

noncomputable def fX8_distance (sc : Nat → Int32) (ar : Nat → Nat → Int32) (x1 : Int32) (x2 : Int32) (x3 : Int32) : Option (Int32) :=
  if x1 = 0 then
    some x2
  else
    if x1 = (1 : Int32) then
      some (x3 - x2)
    else
      if inb (x1 - (2 : Int32)) 4 = true then
      some (x2 - ((ar 2) (x1 - (2 : Int32)).toNatClampNeg))
      else none

set_option maxHeartbeats 4000000 in
set_option maxRecDepth 100000 in
theorem kX8_distance (l : Launch) (D : va_G) (q : Nat → Nat) (cA : Nat → ClassId) (sc : Nat → Int32) (ar : Nat → Nat → Int32) (x1 : Int32) (x2 : Int32) (x3 : Int32) {R : Int32} (hf : fX8_distance sc ar x1 x2 x3 = some R) : MI l yX8_distance wsX8_distance (rmD 0) D ([.ref (q 0), .int x1, .int x2, .int x3] : List Value) (wM q cA sc ar) (tM cA) NT R (wM q cA sc ar) := by
  refine MI.mk (cc := cX8_distance) (maxL := 4) (ret := (some .int)) (by first | decide | decide +kernel) rfl (Nat.le_of_ble_eq_true rfl) ?_
  intro p e s m below meth cd A ls hE
  obtain ⟨hx, hb, hr, hml, hts, hown, hlocks, hP, hK, hD, hA, hN, hAe, hl⟩ := hE
  have hown : s.vm.findClass RX8 = some m.cls := hown
  have hS : va_S A s.heap s.heap [] := va_S.rf
  have hl : lv_has ls 4 [(0, .ref (q 0)), (1, .int x1), (2, .int x2), (3, .int x3)] := hl
  rw [fX8_distance] at hf
  refine lv_iload_n hx hb dX8_distance_0 rfl (lv_at hl 1 rfl) ?_
  refine lv_if_ne (tgt := 8) hx hb dX8_distance_1 (by decide) (fun c1 => ?_) (fun c1 => ?_)
  · rw [if_neg c1] at hf
    refine lv_iload_n hx hb dX8_distance_8 rfl (lv_at hl 1 rfl) ?_
    refine lv_iconst (v := (1 : Int32)) hx hb dX8_distance_9 (by decide) ?_
    refine lv_icmp_ne (tgt := 19) hx hb dX8_distance_10 (by decide) (fun c2 => ?_) (fun c2 => ?_)
    · rw [if_neg c2] at hf
      refine lv_iload_n hx hb dX8_distance_19 rfl (lv_at hl 2 rfl) ?_
      refine lv_aload_n hx hb dX8_distance_20 rfl (lv_at hl 0 rfl) ?_
      refine va_get (D := D) (ci := 7) (v := .ref (q 3)) (C := RX8) (T := TX8) (N := 21) hx hb hts (fun w h => List.mem_cons_of_mem _ (List.mem_append_right _ h)) hown hK hP 0 rfl rfl 3 (by decide) (hts (.fieldLink RX8 16 "DeltaWindowsModel" "near" "[I") (List.mem_of_getElem? (i := 1) rfl)) (fun _ h9 => h9) rfl dX8_distance_21 ?_
      refine lv_iload_n hx hb dX8_distance_24 rfl (lv_at hl 1 rfl) ?_
      refine lv_iconst (v := (2 : Int32)) hx hb dX8_distance_25 (by decide) ?_
      refine lv_isub hx hb dX8_distance_26 ?_
      obtain ⟨g3, hf⟩ := g_inv hf
      refine va_iald (f := (ar 2)) hx hb hK hP 3 2 rfl rfl (inb_vp g3) dX8_distance_27 ?_
      refine lv_isub hx hb dX8_distance_28 ?_
      obtain rfl := Option.some.inj hf
      exact k_retI hx hb hr hlocks hP hS dX8_distance_29
    · rw [if_pos c2] at hf
      refine lv_iload_n hx hb dX8_distance_13 rfl (lv_at hl 3 rfl) ?_
      refine lv_iload_n hx hb dX8_distance_14 rfl (lv_at hl 2 rfl) ?_
      refine lv_isub hx hb dX8_distance_15 ?_
      refine lv_goto (tgt := 29) hx hb dX8_distance_16 (by decide) ?_
      obtain rfl := Option.some.inj hf
      exact k_retI hx hb hr hlocks hP hS dX8_distance_29
  · rw [if_pos c1] at hf
    refine lv_iload_n hx hb dX8_distance_4 rfl (lv_at hl 2 rfl) ?_
    refine lv_goto (tgt := 29) hx hb dX8_distance_5 (by decide) ?_
    obtain rfl := Option.some.inj hf
    exact k_retI hx hb hr hlocks hP hS dX8_distance_29

noncomputable def fX8_copy_L6 (sc : Nat → Int32) (ar : Nat → Nat → Int32) (v1 : Int32) (v2 : Int32) (v3 : Int32) : Nat → (Int32) → (Int32) → Option (Int32)
  | 0, _, _ => none
  | k + 1, v4, v5 =>
    if (6 : Int32) ≤ v5 then
      some v4
    else
      (fX8_distance sc ar v5 v1 v3).bind fun R2 =>
      if R2 < 0 then
        fX8_copy_L6 sc ar v1 v2 v3 k v4 (v5 + (1 : Int32))
      else
        (fX8_distance sc ar v5 v1 v3).bind fun R5 =>
        (fX8_distance sc ar v4 v1 v3).bind fun R7 =>
        if R7 ≤ R5 then
          fX8_copy_L6 sc ar v1 v2 v3 k v4 (v5 + (1 : Int32))
        else
          fX8_copy_L6 sc ar v1 v2 v3 k v5 (v5 + (1 : Int32))

noncomputable def fX8_copy (sc : Nat → Int32) (ar : Nat → Nat → Int32) (x1 : Int32) (x2 : Int32) (x3 : Int32) : Option ((Nat → Int32) × (Nat → Nat → Int32)) :=
  (fX8_copy_L6 sc ar x1 x2 x3 FU (0 : Int32) (1 : Int32)).bind fun R10 =>
  if inb (x1 - x1 / (768 : Int32) * (768 : Int32)) 768 = true then
  if ((ar 3) (x1 - x1 / (768 : Int32) * (768 : Int32)).toNatClampNeg) = x1 then
    (fX8_write sc ar (2 : Int32) ((x1 - x1 / (768 : Int32) * (768 : Int32)) - (x1 - x1 / (768 : Int32) * (768 : Int32)) / (256 : Int32) * (256 : Int32))).bind fun R22 =>
    (fX8_instruct sc R22 (3 : Int32) x2 ((6 : Int32) + ((x1 - x1 / (768 : Int32) * (768 : Int32)) / (256 : Int32)))).bind fun R24 =>
    (fX8_note R24.1 R24.2 x1).bind fun R26 =>
    some (R26.1, R26.2)
  else
    (fX8_distance sc ar R10 x1 x3).bind fun R14 =>
    (fX8_writeInteger sc ar (2 : Int32) R14).bind fun R16 =>
    (fX8_instruct sc R16 (3 : Int32) x2 R10).bind fun R18 =>
    (fX8_note R18.1 R18.2 x1).bind fun R20 =>
    some (R20.1, R20.2)
  else none

set_option maxHeartbeats 4000000 in
set_option maxRecDepth 100000 in
theorem kX8_copy (l : Launch) (D : va_G) (q : Nat → Nat) (cA : Nat → ClassId) (sc : Nat → Int32) (ar : Nat → Nat → Int32) (x1 : Int32) (x2 : Int32) (x3 : Int32) {R : (Nat → Int32) × (Nat → Nat → Int32)} (hf : fX8_copy sc ar x1 x2 x3 = some R) : MV l yX8_copy wsX8_copy (rmD 2) D ([.ref (q 0), .int x1, .int x2, .int x3] : List Value) (wM q cA sc ar) (tM cA) NT (wM q cA R.1 R.2) := by
  refine MV.mk (cc := cX8_copy) (maxL := 6) (ret := none) (by first | decide | decide +kernel) rfl (Nat.le_of_ble_eq_true rfl) ?_
  intro p e s m below meth cd A ls hE
  obtain ⟨hx, hb, hr, hml, hts, hown, hlocks, hP, hK, hD, hA, hN, hAe, hl⟩ := hE
  have hown : s.vm.findClass RX8 = some m.cls := hown
  have hS : va_S A s.heap s.heap [] := va_S.rf
  have hl : lv_has ls 6 [(0, .ref (q 0)), (1, .int x1), (2, .int x2), (3, .int x3)] := hl
  rw [fX8_copy] at hf
  refine lv_iconst (v := (0 : Int32)) hx hb dX8_copy_0 (by decide) ?_
  refine lv_istore (lv' := [(4, .int (0 : Int32)), (0, .ref (q 0)), (1, .int x1), (2, .int x2), (3, .int x3)]) hx hb dX8_copy_1 hl (by decide) rfl (fun ls hl => ?_)
  refine lv_iconst (v := (1 : Int32)) hx hb dX8_copy_3 (by decide) ?_
  refine lv_istore (lv' := [(5, .int (1 : Int32)), (4, .int (0 : Int32)), (0, .ref (q 0)), (1, .int x1), (2, .int x2), (3, .int x3)]) hx hb dX8_copy_4 hl (by decide) rfl (fun ls hl => ?_)
  have lp28 : ∀ (sc : Nat → Int32) (ar : Nat → Nat → Int32) (v1 : Int32) (v2 : Int32) (v3 : Int32), ∀ (k : Nat) (v4 : Int32) (v5 : Int32) (H : Heap) (locs : List Loc) (ls : Array Slot) (o : Int32), lv_has ls 6 [(4, .int v4), (5, .int v5), (1, .int v1), (2, .int v2), (3, .int v3), (0, .ref (q 0))] → va_P D vwCl (wM q cA sc ar) H → va_D A (wM q cA sc ar) → va_S A s.heap H locs → fX8_copy_L6 sc ar v1 v2 v3 k v4 v5 = some o → (∀ (H : Heap) (locs : List Loc) (ls : Array Slot), lv_has ls 6 [(4, .int o), (1, .int v1), (2, .int v2), (3, .int v3), (0, .ref (q 0))] → va_P D vwCl (wM q cA sc ar) H → va_D A (wM q cA sc ar) → va_S A s.heap H locs → W p l e (headSpec wsX8_copy (rmD 2)).room s m ([.ref (q 0), .int x1, .int x2, .int x3] : List Value).toArray below meth cd H locs 0 0 (QV D below ([.ref (q 0), .int x1, .int x2, .int x3] : List Value).toArray s A (wM q cA R.1 R.2)) (F0 m 58 ls [])) → W p l e (headSpec wsX8_copy (rmD 2)).room s m ([.ref (q 0), .int x1, .int x2, .int x3] : List Value).toArray below meth cd H locs 0 0 (QV D below ([.ref (q 0), .int x1, .int x2, .int x3] : List Value).toArray s A (wM q cA R.1 R.2)) (F0 m 6 ls []) := by
    intro sc ar v1 v2 v3
    intro k
    induction k with
    | zero =>
      intro v4 v5 H locs ls o hl hP hD hS hf
      exact absurd hf (by simp [fX8_copy_L6])
    | succ k ih =>
      intro v4 v5 H locs ls o hl hP hD hS hf kont
      rw [fX8_copy_L6] at hf
      refine lv_iload hx hb dX8_copy_6 (lv_at hl 1 rfl) ?_
      refine lv_bipush (v := (6 : Int32)) hx hb dX8_copy_8 (by decide) ?_
      refine lv_icmp_ge (tgt := 58) hx hb dX8_copy_10 (by decide) (fun c1 => ?_) (fun c1 => ?_)
      · rw [if_pos c1] at hf
        obtain rfl := Option.some.inj hf
        exact kont _ _ _ (lv_sub hl [0, 2, 3, 4, 5] rfl) hP hD hS
      · rw [if_neg c1] at hf
        refine lv_aload_n hx hb dX8_copy_13 rfl (lv_at hl 5 rfl) ?_
        refine lv_iload hx hb dX8_copy_14 (lv_at hl 1 rfl) ?_
        refine lv_iload_n hx hb dX8_copy_16 rfl (lv_at hl 2 rfl) ?_
        refine lv_iload_n hx hb dX8_copy_17 rfl (lv_at hl 4 rfl) ?_
        obtain ⟨R2, hc3, hf⟩ := b_inv hf
        have hk := kall (wc' := (wM q cA sc ar)) hP hD hS hA rfl
        refine k_goI (va_runV (As := [.int v5, .int v1, .int v3]) (rest := []) ⟨hx, hb, hml, hown, hts⟩ (kX8_distance l D q cA sc ar v5 v1 v3 hc3 _) (cwV 3 hts gX8_copy_X8_distance rfl rfl rfl (by decide +kernel) ⟨Nat.le_of_ble_eq_true rfl, Nat.le_of_ble_eq_true rfl⟩) (k_preV (q0 := 0) (ci := 7) hk hK NT_bl NT_u rfl rfl rfl) rfl rfl hl.1 rfl (lv_room (Nat.le_of_ble_eq_true rfl)) dX8_copy_18 ⟨Nat.zero_le _, Nat.zero_le _⟩) hk hS (fun H locs hP hD hS => ?_)
        refine lv_if_lt (tgt := 48) hx hb dX8_copy_21 (by decide) (fun c4 => ?_) (fun c4 => ?_)
        · rw [if_pos c4] at hf
          refine lv_iload hx hb dX8_copy_48 (lv_at hl 0 rfl) ?_
          refine lv_istore (lv' := [(4, .int v4), (5, .int v5), (1, .int v1), (2, .int v2), (3, .int v3), (0, .ref (q 0))]) hx hb dX8_copy_50 hl (by decide) rfl (fun ls hl => ?_)
          refine lv_iinc (v := (v5 + (1 : Int32))) (lv' := [(5, .int (v5 + (1 : Int32))), (4, .int v4), (1, .int v1), (2, .int v2), (3, .int v3), (0, .ref (q 0))]) hx hb dX8_copy_52 hl (k := 1) rfl rfl (by decide) rfl (fun ls hl => ?_)
          refine lv_goto (tgt := 6) hx hb dX8_copy_55 (by decide) ?_
          exact ih v4 (v5 + (1 : Int32)) _ _ _ o (lv_sub hl [1, 0, 2, 3, 4, 5] rfl) hP hD hS hf kont
        · rw [if_neg c4] at hf
          refine lv_aload_n hx hb dX8_copy_24 rfl (lv_at hl 5 rfl) ?_
          refine lv_iload hx hb dX8_copy_25 (lv_at hl 1 rfl) ?_
          refine lv_iload_n hx hb dX8_copy_27 rfl (lv_at hl 2 rfl) ?_
          refine lv_iload_n hx hb dX8_copy_28 rfl (lv_at hl 4 rfl) ?_
          obtain ⟨R5, hc6, hf⟩ := b_inv hf
          have hk := kall (wc' := (wM q cA sc ar)) hP hD hS hA rfl
          refine k_goI (va_runV (As := [.int v5, .int v1, .int v3]) (rest := []) ⟨hx, hb, hml, hown, hts⟩ (kX8_distance l D q cA sc ar v5 v1 v3 hc6 _) (cwV 3 hts gX8_copy_X8_distance rfl rfl rfl (by decide +kernel) ⟨Nat.le_of_ble_eq_true rfl, Nat.le_of_ble_eq_true rfl⟩) (k_preV (q0 := 0) (ci := 7) hk hK NT_bl NT_u rfl rfl rfl) rfl rfl hl.1 rfl (lv_room (Nat.le_of_ble_eq_true rfl)) dX8_copy_29 ⟨Nat.zero_le _, Nat.zero_le _⟩) hk hS (fun H locs hP hD hS => ?_)
          refine lv_aload_n hx hb dX8_copy_32 rfl (lv_at hl 5 rfl) ?_
          refine lv_iload hx hb dX8_copy_33 (lv_at hl 0 rfl) ?_
          refine lv_iload_n hx hb dX8_copy_35 rfl (lv_at hl 2 rfl) ?_
          refine lv_iload_n hx hb dX8_copy_36 rfl (lv_at hl 4 rfl) ?_
          obtain ⟨R7, hc8, hf⟩ := b_inv hf
          have hk := kall (wc' := (wM q cA sc ar)) hP hD hS hA rfl
          refine k_goI (va_runV (As := [.int v4, .int v1, .int v3]) (rest := [.int R5]) ⟨hx, hb, hml, hown, hts⟩ (kX8_distance l D q cA sc ar v4 v1 v3 hc8 _) (cwV 3 hts gX8_copy_X8_distance rfl rfl rfl (by decide +kernel) ⟨Nat.le_of_ble_eq_true rfl, Nat.le_of_ble_eq_true rfl⟩) (k_preV (q0 := 0) (ci := 7) hk hK NT_bl NT_u rfl rfl rfl) rfl rfl hl.1 rfl (lv_room (Nat.le_of_ble_eq_true rfl)) dX8_copy_37 ⟨Nat.zero_le _, Nat.zero_le _⟩) hk hS (fun H locs hP hD hS => ?_)
          refine lv_icmp_ge (tgt := 48) hx hb dX8_copy_40 (by decide) (fun c9 => ?_) (fun c9 => ?_)
          · rw [if_pos c9] at hf
            refine lv_iload hx hb dX8_copy_48 (lv_at hl 0 rfl) ?_
            refine lv_istore (lv' := [(4, .int v4), (5, .int v5), (1, .int v1), (2, .int v2), (3, .int v3), (0, .ref (q 0))]) hx hb dX8_copy_50 hl (by decide) rfl (fun ls hl => ?_)
            refine lv_iinc (v := (v5 + (1 : Int32))) (lv' := [(5, .int (v5 + (1 : Int32))), (4, .int v4), (1, .int v1), (2, .int v2), (3, .int v3), (0, .ref (q 0))]) hx hb dX8_copy_52 hl (k := 1) rfl rfl (by decide) rfl (fun ls hl => ?_)
            refine lv_goto (tgt := 6) hx hb dX8_copy_55 (by decide) ?_
            exact ih v4 (v5 + (1 : Int32)) _ _ _ o (lv_sub hl [1, 0, 2, 3, 4, 5] rfl) hP hD hS hf kont
          · rw [if_neg c9] at hf
            refine lv_iload hx hb dX8_copy_43 (lv_at hl 1 rfl) ?_
            refine lv_goto (tgt := 50) hx hb dX8_copy_45 (by decide) ?_
            refine lv_istore (lv' := [(4, .int v5), (5, .int v5), (1, .int v1), (2, .int v2), (3, .int v3), (0, .ref (q 0))]) hx hb dX8_copy_50 hl (by decide) rfl (fun ls hl => ?_)
            refine lv_iinc (v := (v5 + (1 : Int32))) (lv' := [(5, .int (v5 + (1 : Int32))), (4, .int v5), (1, .int v1), (2, .int v2), (3, .int v3), (0, .ref (q 0))]) hx hb dX8_copy_52 hl (k := 1) rfl rfl (by decide) rfl (fun ls hl => ?_)
            refine lv_goto (tgt := 6) hx hb dX8_copy_55 (by decide) ?_
            exact ih v5 (v5 + (1 : Int32)) _ _ _ o (lv_sub hl [1, 0, 2, 3, 4, 5] rfl) hP hD hS hf kont
  obtain ⟨R10, hc11, hf⟩ := b_inv hf
  refine lp28 sc ar x1 x2 x3 FU (0 : Int32) (1 : Int32) _ _ _ R10 (lv_sub hl [1, 0, 3, 4, 5, 2] rfl) hP hD hS hc11 (fun H locs ls hl hP hD hS => ?_)
  refine lv_aload_n hx hb dX8_copy_58 rfl (lv_at hl 4 rfl) ?_
  refine va_get (D := D) (ci := 7) (v := .ref (q 4)) (C := RX8) (T := TX8) (N := 21) hx hb hts (fun w h => List.mem_cons_of_mem _ (List.mem_append_right _ h)) hown hK hP 0 rfl rfl 4 (by decide) (hts (.fieldLink RX8 19 "DeltaWindowsModel" "same" "[I") (List.mem_of_getElem? (i := 1) rfl)) (fun _ h9 => h9) rfl dX8_copy_59 ?_
  refine lv_iload_n hx hb dX8_copy_62 rfl (lv_at hl 1 rfl) ?_
  refine lv_sipush (v := (768 : Int32)) hx hb dX8_copy_63 (by decide) ?_
  refine lv_irem hx hb dX8_copy_66 (by decide) ?_
  obtain ⟨g12, hf⟩ := g_inv hf
  refine va_iald (f := (ar 3)) hx hb hK hP 4 3 rfl rfl (inb_vp g12) dX8_copy_67 ?_
  refine lv_iload_n hx hb dX8_copy_68 rfl (lv_at hl 1 rfl) ?_
  refine lv_icmp_ne (tgt := 103) hx hb dX8_copy_69 (by decide) (fun c13 => ?_) (fun c13 => ?_)
  · rw [if_neg c13] at hf
    refine lv_aload_n hx hb dX8_copy_103 rfl (lv_at hl 4 rfl) ?_
    refine lv_iconst (v := (2 : Int32)) hx hb dX8_copy_104 (by decide) ?_
    refine lv_aload_n hx hb dX8_copy_105 rfl (lv_at hl 4 rfl) ?_
    refine lv_iload hx hb dX8_copy_106 (lv_at hl 0 rfl) ?_
    refine lv_iload_n hx hb dX8_copy_108 rfl (lv_at hl 1 rfl) ?_
    refine lv_iload_n hx hb dX8_copy_109 rfl (lv_at hl 3 rfl) ?_
    obtain ⟨R14, hc15, hf⟩ := b_inv hf
    have hk := kall (wc' := (wM q cA sc ar)) hP hD hS hA rfl
    refine k_goI (va_runV (As := [.int R10, .int x1, .int x3]) (rest := [.int (2 : Int32), .ref (q 0)]) ⟨hx, hb, hml, hown, hts⟩ (kX8_distance l D q cA sc ar R10 x1 x3 hc15 _) (cwV 3 hts gX8_copy_X8_distance rfl rfl rfl (by decide +kernel) ⟨Nat.le_of_ble_eq_true rfl, Nat.le_of_ble_eq_true rfl⟩) (k_preV (q0 := 0) (ci := 7) hk hK NT_bl NT_u rfl rfl rfl) rfl rfl hl.1 rfl (lv_room (Nat.le_of_ble_eq_true rfl)) dX8_copy_110 ⟨Nat.zero_le _, Nat.zero_le _⟩) hk hS (fun H locs hP hD hS => ?_)
    obtain ⟨R16, hc17, hf⟩ := b_inv hf
    have hk := kall (wc' := (wM q cA sc R16)) hP hD hS hA rfl
    refine k_goV (va_runV (As := [.int (2 : Int32), .int R14]) (rest := []) ⟨hx, hb, hml, hown, hts⟩ (kX8_writeInteger l D q cA sc ar (2 : Int32) R14 hc17 _) (cwV 2 hts gX8_copy_X8_writeInteger rfl rfl rfl (by decide +kernel) ⟨Nat.le_of_ble_eq_true rfl, Nat.le_of_ble_eq_true rfl⟩) (k_preV (q0 := 0) (ci := 7) hk hK NT_bl NT_u rfl rfl rfl) rfl rfl hl.1 rfl (lv_room (Nat.le_of_ble_eq_true rfl)) dX8_copy_113 ⟨Nat.zero_le _, Nat.zero_le _⟩) hk hS (fun H locs hP hD hS => ?_)
    refine lv_aload_n hx hb dX8_copy_116 rfl (lv_at hl 4 rfl) ?_
    refine lv_iconst (v := (3 : Int32)) hx hb dX8_copy_117 (by decide) ?_
    refine lv_iload_n hx hb dX8_copy_118 rfl (lv_at hl 2 rfl) ?_
    refine lv_iload hx hb dX8_copy_119 (lv_at hl 0 rfl) ?_
    obtain ⟨R18, hc19, hf⟩ := b_inv hf
    have hk := kall (wc' := (wM q cA R18.1 R18.2)) hP hD hS hA rfl
    refine k_goV (va_runV (As := [.int (3 : Int32), .int x2, .int R10]) (rest := []) ⟨hx, hb, hml, hown, hts⟩ (kX8_instruct l D q cA sc R16 (3 : Int32) x2 R10 hc19 _) (cwV 3 hts gX8_copy_X8_instruct rfl rfl rfl (by decide +kernel) ⟨Nat.le_of_ble_eq_true rfl, Nat.le_of_ble_eq_true rfl⟩) (k_preV (q0 := 0) (ci := 7) hk hK NT_bl NT_u rfl rfl rfl) rfl rfl hl.1 rfl (lv_room (Nat.le_of_ble_eq_true rfl)) dX8_copy_121 ⟨Nat.zero_le _, Nat.zero_le _⟩) hk hS (fun H locs hP hD hS => ?_)
    refine lv_aload_n hx hb dX8_copy_124 rfl (lv_at hl 4 rfl) ?_
    refine lv_iload_n hx hb dX8_copy_125 rfl (lv_at hl 1 rfl) ?_
    obtain ⟨R20, hc21, hf⟩ := b_inv hf
    have hk := kall (wc' := (wM q cA R20.1 R20.2)) hP hD hS hA rfl
    refine k_goV (va_runV (As := [.int x1]) (rest := []) ⟨hx, hb, hml, hown, hts⟩ (kX8_note l D q cA R18.1 R18.2 x1 hc21 _) (cwV 1 hts gX8_copy_X8_note rfl rfl rfl (by decide +kernel) ⟨Nat.le_of_ble_eq_true rfl, Nat.le_of_ble_eq_true rfl⟩) (k_preV (q0 := 0) (ci := 7) hk hK NT_bl NT_u rfl rfl rfl) rfl rfl hl.1 rfl (lv_room (Nat.le_of_ble_eq_true rfl)) dX8_copy_126 ⟨Nat.zero_le _, Nat.zero_le _⟩) hk hS (fun H locs hP hD hS => ?_)
    obtain rfl := Option.some.inj hf
    exact k_retV hx hb hr hlocks hP hS dX8_copy_129
  · rw [if_pos c13] at hf
    refine lv_bipush (v := (6 : Int32)) hx hb dX8_copy_72 (by decide) ?_
    refine lv_iload_n hx hb dX8_copy_74 rfl (lv_at hl 1 rfl) ?_
    refine lv_sipush (v := (768 : Int32)) hx hb dX8_copy_75 (by decide) ?_
    refine lv_irem hx hb dX8_copy_78 (by decide) ?_
    refine lv_sipush (v := (256 : Int32)) hx hb dX8_copy_79 (by decide) ?_
    refine lv_idiv hx hb dX8_copy_82 (by decide) ?_
    refine lv_iadd hx hb dX8_copy_83 ?_
    refine lv_istore (lv' := [(4, .int ((6 : Int32) + ((x1 - x1 / (768 : Int32) * (768 : Int32)) / (256 : Int32)))), (1, .int x1), (2, .int x2), (3, .int x3), (0, .ref (q 0))]) hx hb dX8_copy_84 hl (by decide) rfl (fun ls hl => ?_)
    refine lv_aload_n hx hb dX8_copy_86 rfl (lv_at hl 4 rfl) ?_
    refine lv_iconst (v := (2 : Int32)) hx hb dX8_copy_87 (by decide) ?_
    refine lv_iload_n hx hb dX8_copy_88 rfl (lv_at hl 1 rfl) ?_
    refine lv_sipush (v := (768 : Int32)) hx hb dX8_copy_89 (by decide) ?_
    refine lv_irem hx hb dX8_copy_92 (by decide) ?_
    refine lv_sipush (v := (256 : Int32)) hx hb dX8_copy_93 (by decide) ?_
    refine lv_irem hx hb dX8_copy_96 (by decide) ?_
    obtain ⟨R22, hc23, hf⟩ := b_inv hf
    have hk := kall (wc' := (wM q cA sc R22)) hP hD hS hA rfl
    refine k_goV (va_runV (As := [.int (2 : Int32), .int ((x1 - x1 / (768 : Int32) * (768 : Int32)) - (x1 - x1 / (768 : Int32) * (768 : Int32)) / (256 : Int32) * (256 : Int32))]) (rest := []) ⟨hx, hb, hml, hown, hts⟩ (kX8_write l D q cA sc ar (2 : Int32) ((x1 - x1 / (768 : Int32) * (768 : Int32)) - (x1 - x1 / (768 : Int32) * (768 : Int32)) / (256 : Int32) * (256 : Int32)) hc23 _) (cwV 2 hts gX8_copy_X8_write rfl rfl rfl (by decide +kernel) ⟨Nat.le_of_ble_eq_true rfl, Nat.le_of_ble_eq_true rfl⟩) (k_preV (q0 := 0) (ci := 7) hk hK NT_bl NT_u rfl rfl rfl) rfl rfl hl.1 rfl (lv_room (Nat.le_of_ble_eq_true rfl)) dX8_copy_97 ⟨Nat.zero_le _, Nat.zero_le _⟩) hk hS (fun H locs hP hD hS => ?_)
    refine lv_goto (tgt := 116) hx hb dX8_copy_100 (by decide) ?_
    refine lv_aload_n hx hb dX8_copy_116 rfl (lv_at hl 4 rfl) ?_
    refine lv_iconst (v := (3 : Int32)) hx hb dX8_copy_117 (by decide) ?_
    refine lv_iload_n hx hb dX8_copy_118 rfl (lv_at hl 2 rfl) ?_
    refine lv_iload hx hb dX8_copy_119 (lv_at hl 0 rfl) ?_
    obtain ⟨R24, hc25, hf⟩ := b_inv hf
    have hk := kall (wc' := (wM q cA R24.1 R24.2)) hP hD hS hA rfl
    refine k_goV (va_runV (As := [.int (3 : Int32), .int x2, .int ((6 : Int32) + ((x1 - x1 / (768 : Int32) * (768 : Int32)) / (256 : Int32)))]) (rest := []) ⟨hx, hb, hml, hown, hts⟩ (kX8_instruct l D q cA sc R22 (3 : Int32) x2 ((6 : Int32) + ((x1 - x1 / (768 : Int32) * (768 : Int32)) / (256 : Int32))) hc25 _) (cwV 3 hts gX8_copy_X8_instruct rfl rfl rfl (by decide +kernel) ⟨Nat.le_of_ble_eq_true rfl, Nat.le_of_ble_eq_true rfl⟩) (k_preV (q0 := 0) (ci := 7) hk hK NT_bl NT_u rfl rfl rfl) rfl rfl hl.1 rfl (lv_room (Nat.le_of_ble_eq_true rfl)) dX8_copy_121 ⟨Nat.zero_le _, Nat.zero_le _⟩) hk hS (fun H locs hP hD hS => ?_)
    refine lv_aload_n hx hb dX8_copy_124 rfl (lv_at hl 4 rfl) ?_
    refine lv_iload_n hx hb dX8_copy_125 rfl (lv_at hl 1 rfl) ?_
    obtain ⟨R26, hc27, hf⟩ := b_inv hf
    have hk := kall (wc' := (wM q cA R26.1 R26.2)) hP hD hS hA rfl
    refine k_goV (va_runV (As := [.int x1]) (rest := []) ⟨hx, hb, hml, hown, hts⟩ (kX8_note l D q cA R24.1 R24.2 x1 hc27 _) (cwV 1 hts gX8_copy_X8_note rfl rfl rfl (by decide +kernel) ⟨Nat.le_of_ble_eq_true rfl, Nat.le_of_ble_eq_true rfl⟩) (k_preV (q0 := 0) (ci := 7) hk hK NT_bl NT_u rfl rfl rfl) rfl rfl hl.1 rfl (lv_room (Nat.le_of_ble_eq_true rfl)) dX8_copy_126 ⟨Nat.zero_le _, Nat.zero_le _⟩) hk hS (fun H locs hP hD hS => ?_)
    obtain rfl := Option.some.inj hf
    exact k_retV hx hb hr hlocks hP hS dX8_copy_129

noncomputable def fX8_findInstructions_L28 (sc : Nat → Int32) (ar : Nat → Nat → Int32) (v1 : Int32) (v2 : Int32) (v3 : Int32) (v4 : Int32) : Nat → (Int32) → (Int32) → (Int32) → Option (Int32 × Int32)
  | 0, _, _, _ => none
  | k + 1, v5, v6, v7 =>
    if v4 ≤ v7 then
      some (v5, v6)
    else
      (fX8_reach sc ar v1 v2 v3 v7).bind fun R4 =>
      if R4 ≤ v6 then
        if R4 ≤ v6 then
          fX8_findInstructions_L28 sc ar v1 v2 v3 v4 k v5 v6 (v7 + (1 : Int32))
        else
          fX8_findInstructions_L28 sc ar v1 v2 v3 v4 k v5 R4 (v7 + (1 : Int32))
      else
        if R4 ≤ v6 then
          fX8_findInstructions_L28 sc ar v1 v2 v3 v4 k v7 v6 (v7 + (1 : Int32))
        else
          fX8_findInstructions_L28 sc ar v1 v2 v3 v4 k v7 R4 (v7 + (1 : Int32))

noncomputable def fX8_findInstructions_L2 (v1 : Int32) (v2 : Int32) : Nat → (Int32) → (Nat → Int32) → (Nat → Nat → Int32) → Option ((Nat → Int32) × (Nat → Nat → Int32))
  | 0, _, _, _ => none
  | k + 1, v3, sc, ar =>
    if v2 ≤ v3 then
      some (sc, ar)
    else
      if inb (0 : Int32) 5 = true then
      (fX8_findInstructions_L28 sc ar v1 v2 v3 ((((ar 1) (0 : Int32).toNatClampNeg) + v3) - v1) FU (-1 : Int32) (0 : Int32) (0 : Int32)).bind fun R9 =>
      (fX8_runFrom sc ar v3 v2).bind fun R11 =>
      if R11 < (4 : Int32) then
        if R9.2 < (4 : Int32) then
          if inb ((1000 : Int32) + v3) 5000 = true then
          (fX8_addByte sc ar ((ar 0) ((1000 : Int32) + v3).toNatClampNeg)).bind fun R16 =>
          fX8_findInstructions_L2 v1 v2 k (v3 + (1 : Int32)) R16.1 R16.2
          else none
        else
          (fX8_copy sc ar R9.1 R9.2 ((((ar 1) (0 : Int32).toNatClampNeg) + v3) - v1)).bind fun R18 =>
          fX8_findInstructions_L2 v1 v2 k (v3 + R9.2) R18.1 R18.2
      else
        if R11 < R9.2 then
          if R9.2 < (4 : Int32) then
            if inb ((1000 : Int32) + v3) 5000 = true then
            (fX8_addByte sc ar ((ar 0) ((1000 : Int32) + v3).toNatClampNeg)).bind fun R23 =>
            fX8_findInstructions_L2 v1 v2 k (v3 + (1 : Int32)) R23.1 R23.2
            else none
          else
            (fX8_copy sc ar R9.1 R9.2 ((((ar 1) (0 : Int32).toNatClampNeg) + v3) - v1)).bind fun R25 =>
            fX8_findInstructions_L2 v1 v2 k (v3 + R9.2) R25.1 R25.2
        else
          (fX8_instruct sc ar (2 : Int32) R11 (0 : Int32)).bind fun R27 =>
          if inb ((1000 : Int32) + v3) 5000 = true then
          (fX8_write R27.1 R27.2 (0 : Int32) ((R27.2 0) ((1000 : Int32) + v3).toNatClampNeg)).bind fun R30 =>
          fX8_findInstructions_L2 v1 v2 k (v3 + R11) R27.1 R30
          else none
      else none

noncomputable def fX8_findInstructions (sc : Nat → Int32) (ar : Nat → Nat → Int32) (x1 : Int32) (x2 : Int32) : Option ((Nat → Int32) × (Nat → Nat → Int32)) :=
  (fX8_findInstructions_L2 x1 x2 FU x1 sc ar).bind fun R32 =>
  some (R32.1, R32.2)

set_option maxHeartbeats 4000000 in
set_option maxRecDepth 100000 in
theorem kX8_findInstructions (l : Launch) (D : va_G) (q : Nat → Nat) (cA : Nat → ClassId) (sc : Nat → Int32) (ar : Nat → Nat → Int32) (x1 : Int32) (x2 : Int32) {R : (Nat → Int32) × (Nat → Nat → Int32)} (hf : fX8_findInstructions sc ar x1 x2 = some R) : MV l yX8_findInstructions wsX8_findInstructions (rmD 3) D ([.ref (q 0), .int x1, .int x2] : List Value) (wM q cA sc ar) (tM cA) NT (wM q cA R.1 R.2) := by
  refine MV.mk (cc := cX8_findInstructions) (maxL := 9) (ret := none) (by first | decide | decide +kernel) rfl (Nat.le_of_ble_eq_true rfl) ?_
  intro p e s m below meth cd A ls hE
  obtain ⟨hx, hb, hr, hml, hts, hown, hlocks, hP, hK, hD, hA, hN, hAe, hl⟩ := hE
  have hown : s.vm.findClass RX8 = some m.cls := hown
  have hS : va_S A s.heap s.heap [] := va_S.rf
  have hl : lv_has ls 9 [(0, .ref (q 0)), (1, .int x1), (2, .int x2)] := hl
  rw [fX8_findInstructions] at hf
  refine lv_iload_n hx hb dX8_findInstructions_0 rfl (lv_at hl 1 rfl) ?_
  refine lv_istore_n (lv' := [(3, .int x1), (0, .ref (q 0)), (1, .int x1), (2, .int x2)]) hx hb dX8_findInstructions_1 rfl hl (by decide) rfl (fun ls hl => ?_)
  have lp34 : ∀ (v1 : Int32) (v2 : Int32), ∀ (k : Nat) (v3 : Int32) (sc : Nat → Int32) (ar : Nat → Nat → Int32) (H : Heap) (locs : List Loc) (ls : Array Slot) (o : (Nat → Int32) × (Nat → Nat → Int32)), lv_has ls 9 [(3, .int v3), (1, .int v1), (2, .int v2), (0, .ref (q 0))] → va_P D vwCl (wM q cA sc ar) H → va_D A (wM q cA sc ar) → va_S A s.heap H locs → fX8_findInstructions_L2 v1 v2 k v3 sc ar = some o → (∀ (H : Heap) (locs : List Loc) (ls : Array Slot), lv_has ls 9 [] → va_P D vwCl (wM q cA o.1 o.2) H → va_D A (wM q cA o.1 o.2) → va_S A s.heap H locs → W p l e (headSpec wsX8_findInstructions (rmD 3)).room s m ([.ref (q 0), .int x1, .int x2] : List Value).toArray below meth cd H locs 0 0 (QV D below ([.ref (q 0), .int x1, .int x2] : List Value).toArray s A (wM q cA R.1 R.2)) (F0 m 180 ls [])) → W p l e (headSpec wsX8_findInstructions (rmD 3)).room s m ([.ref (q 0), .int x1, .int x2] : List Value).toArray below meth cd H locs 0 0 (QV D below ([.ref (q 0), .int x1, .int x2] : List Value).toArray s A (wM q cA R.1 R.2)) (F0 m 2 ls []) := by
    intro v1 v2
    intro k
    induction k with
    | zero =>
      intro v3 sc ar H locs ls o hl hP hD hS hf
      exact absurd hf (by simp [fX8_findInstructions_L2])
    | succ k ih =>
      intro v3 sc ar H locs ls o hl hP hD hS hf kont
      rw [fX8_findInstructions_L2] at hf
      refine lv_iload_n hx hb dX8_findInstructions_2 rfl (lv_at hl 0 rfl) ?_
      refine lv_iload_n hx hb dX8_findInstructions_3 rfl (lv_at hl 2 rfl) ?_
      refine lv_icmp_ge (tgt := 180) hx hb dX8_findInstructions_4 (by decide) (fun c1 => ?_) (fun c1 => ?_)
      · rw [if_pos c1] at hf
        obtain rfl := Option.some.inj hf
        exact kont _ _ _ (lv_sub hl [] rfl) hP hD hS
      · rw [if_neg c1] at hf
        refine lv_aload_n hx hb dX8_findInstructions_7 rfl (lv_at hl 3 rfl) ?_
        refine va_get (D := D) (ci := 7) (v := .ref (q 2)) (C := RX8) (T := TX8) (N := 21) hx hb hts (fun w h => List.mem_cons_of_mem _ (List.mem_append_right _ h)) hown hK hP 0 rfl rfl 1 (by decide) (hts (.fieldLink RX8 13 "DeltaWindowsModel" "length" "[I") (List.mem_of_getElem? (i := 1) rfl)) (fun _ h9 => h9) rfl dX8_findInstructions_8 ?_
        refine lv_iconst (v := (0 : Int32)) hx hb dX8_findInstructions_11 (by decide) ?_
        obtain ⟨g2, hf⟩ := g_inv hf
        refine va_iald (f := (ar 1)) hx hb hK hP 2 1 rfl rfl (inb_vp g2) dX8_findInstructions_12 ?_
        refine lv_iload_n hx hb dX8_findInstructions_13 rfl (lv_at hl 0 rfl) ?_
        refine lv_iadd hx hb dX8_findInstructions_14 ?_
        refine lv_iload_n hx hb dX8_findInstructions_15 rfl (lv_at hl 1 rfl) ?_
        refine lv_isub hx hb dX8_findInstructions_16 ?_
        refine lv_istore (lv' := [(4, .int ((((ar 1) (0 : Int32).toNatClampNeg) + v3) - v1)), (3, .int v3), (1, .int v1), (2, .int v2), (0, .ref (q 0))]) hx hb dX8_findInstructions_17 hl (by decide) rfl (fun ls hl => ?_)
        refine lv_iconst (v := (-1 : Int32)) hx hb dX8_findInstructions_19 (by decide) ?_
        refine lv_istore (lv' := [(5, .int (-1 : Int32)), (4, .int ((((ar 1) (0 : Int32).toNatClampNeg) + v3) - v1)), (3, .int v3), (1, .int v1), (2, .int v2), (0, .ref (q 0))]) hx hb dX8_findInstructions_20 hl (by decide) rfl (fun ls hl => ?_)
        refine lv_iconst (v := (0 : Int32)) hx hb dX8_findInstructions_22 (by decide) ?_
        refine lv_istore (lv' := [(6, .int (0 : Int32)), (5, .int (-1 : Int32)), (4, .int ((((ar 1) (0 : Int32).toNatClampNeg) + v3) - v1)), (3, .int v3), (1, .int v1), (2, .int v2), (0, .ref (q 0))]) hx hb dX8_findInstructions_23 hl (by decide) rfl (fun ls hl => ?_)
        refine lv_iconst (v := (0 : Int32)) hx hb dX8_findInstructions_25 (by decide) ?_
        refine lv_istore (lv' := [(7, .int (0 : Int32)), (6, .int (0 : Int32)), (5, .int (-1 : Int32)), (4, .int ((((ar 1) (0 : Int32).toNatClampNeg) + v3) - v1)), (3, .int v3), (1, .int v1), (2, .int v2), (0, .ref (q 0))]) hx hb dX8_findInstructions_26 hl (by decide) rfl (fun ls hl => ?_)
        have lp35 : ∀ (sc : Nat → Int32) (ar : Nat → Nat → Int32) (v1 : Int32) (v2 : Int32) (v3 : Int32) (v4 : Int32), ∀ (k : Nat) (v5 : Int32) (v6 : Int32) (v7 : Int32) (H : Heap) (locs : List Loc) (ls : Array Slot) (o : Int32 × Int32), lv_has ls 9 [(5, .int v5), (6, .int v6), (7, .int v7), (1, .int v1), (2, .int v2), (3, .int v3), (4, .int v4), (0, .ref (q 0))] → va_P D vwCl (wM q cA sc ar) H → va_D A (wM q cA sc ar) → va_S A s.heap H locs → fX8_findInstructions_L28 sc ar v1 v2 v3 v4 k v5 v6 v7 = some o → (∀ (H : Heap) (locs : List Loc) (ls : Array Slot), lv_has ls 9 [(5, .int o.1), (6, .int o.2), (1, .int v1), (2, .int v2), (3, .int v3), (4, .int v4), (0, .ref (q 0))] → va_P D vwCl (wM q cA sc ar) H → va_D A (wM q cA sc ar) → va_S A s.heap H locs → W p l e (headSpec wsX8_findInstructions (rmD 3)).room s m ([.ref (q 0), .int x1, .int x2] : List Value).toArray below meth cd H locs 0 0 (QV D below ([.ref (q 0), .int x1, .int x2] : List Value).toArray s A (wM q cA R.1 R.2)) (F0 m 84 ls [])) → W p l e (headSpec wsX8_findInstructions (rmD 3)).room s m ([.ref (q 0), .int x1, .int x2] : List Value).toArray below meth cd H locs 0 0 (QV D below ([.ref (q 0), .int x1, .int x2] : List Value).toArray s A (wM q cA R.1 R.2)) (F0 m 28 ls []) := by
          intro sc ar v1 v2 v3 v4
          intro k
          induction k with
          | zero =>
            intro v5 v6 v7 H locs ls o hl hP hD hS hf
            exact absurd hf (by simp [fX8_findInstructions_L28])
          | succ k ih =>
            intro v5 v6 v7 H locs ls o hl hP hD hS hf kont
            rw [fX8_findInstructions_L28] at hf
            refine lv_iload hx hb dX8_findInstructions_28 (lv_at hl 2 rfl) ?_
            refine lv_iload hx hb dX8_findInstructions_30 (lv_at hl 6 rfl) ?_
            refine lv_icmp_ge (tgt := 84) hx hb dX8_findInstructions_32 (by decide) (fun c3 => ?_) (fun c3 => ?_)
            · rw [if_pos c3] at hf
              obtain rfl := Option.some.inj hf
              exact kont _ _ _ (lv_sub hl [0, 1, 3, 4, 5, 6, 7] rfl) hP hD hS
            · rw [if_neg c3] at hf
              refine lv_aload_n hx hb dX8_findInstructions_35 rfl (lv_at hl 7 rfl) ?_
              refine lv_iload_n hx hb dX8_findInstructions_36 rfl (lv_at hl 3 rfl) ?_
              refine lv_iload_n hx hb dX8_findInstructions_37 rfl (lv_at hl 4 rfl) ?_
              refine lv_iload_n hx hb dX8_findInstructions_38 rfl (lv_at hl 5 rfl) ?_
              refine lv_iload hx hb dX8_findInstructions_39 (lv_at hl 2 rfl) ?_
              obtain ⟨R4, hc5, hf⟩ := b_inv hf
              have hk := kall (wc' := (wM q cA sc ar)) hP hD hS hA rfl
              refine k_goI (va_runV (As := [.int v1, .int v2, .int v3, .int v7]) (rest := []) ⟨hx, hb, hml, hown, hts⟩ (kX8_reach l D q cA sc ar v1 v2 v3 v7 hc5 _) (cwV 4 hts gX8_findInstructions_X8_reach rfl rfl rfl (by decide +kernel) ⟨Nat.le_of_ble_eq_true rfl, Nat.le_of_ble_eq_true rfl⟩) (k_preV (q0 := 0) (ci := 7) hk hK NT_bl NT_u rfl rfl rfl) rfl rfl hl.1 rfl (lv_room (Nat.le_of_ble_eq_true rfl)) dX8_findInstructions_41 ⟨Nat.zero_le _, Nat.zero_le _⟩) hk hS (fun H locs hP hD hS => ?_)
              refine lv_istore (lv' := [(8, .int R4), (5, .int v5), (6, .int v6), (7, .int v7), (1, .int v1), (2, .int v2), (3, .int v3), (4, .int v4), (0, .ref (q 0))]) hx hb dX8_findInstructions_44 hl (by decide) rfl (fun ls hl => ?_)
              refine lv_iload hx hb dX8_findInstructions_46 (lv_at hl 0 rfl) ?_
              refine lv_iload hx hb dX8_findInstructions_48 (lv_at hl 2 rfl) ?_
              refine lv_icmp_le (tgt := 58) hx hb dX8_findInstructions_50 (by decide) (fun c6 => ?_) (fun c6 => ?_)
              · rw [if_pos c6] at hf
                refine lv_iload hx hb dX8_findInstructions_58 (lv_at hl 1 rfl) ?_
                refine lv_istore (lv' := [(5, .int v5), (8, .int R4), (6, .int v6), (7, .int v7), (1, .int v1), (2, .int v2), (3, .int v3), (4, .int v4), (0, .ref (q 0))]) hx hb dX8_findInstructions_60 hl (by decide) rfl (fun ls hl => ?_)
                refine lv_iload hx hb dX8_findInstructions_62 (lv_at hl 1 rfl) ?_
                refine lv_iload hx hb dX8_findInstructions_64 (lv_at hl 2 rfl) ?_
                refine lv_icmp_le (tgt := 74) hx hb dX8_findInstructions_66 (by decide) (fun c7 => ?_) (fun c7 => ?_)
                · rw [if_pos c7] at hf
                  refine lv_iload hx hb dX8_findInstructions_74 (lv_at hl 2 rfl) ?_
                  refine lv_istore (lv' := [(6, .int v6), (5, .int v5), (8, .int R4), (7, .int v7), (1, .int v1), (2, .int v2), (3, .int v3), (4, .int v4), (0, .ref (q 0))]) hx hb dX8_findInstructions_76 hl (by decide) rfl (fun ls hl => ?_)
                  refine lv_iinc (v := (v7 + (1 : Int32))) (lv' := [(7, .int (v7 + (1 : Int32))), (6, .int v6), (5, .int v5), (8, .int R4), (1, .int v1), (2, .int v2), (3, .int v3), (4, .int v4), (0, .ref (q 0))]) hx hb dX8_findInstructions_78 hl (k := 3) rfl rfl (by decide) rfl (fun ls hl => ?_)
                  refine lv_goto (tgt := 28) hx hb dX8_findInstructions_81 (by decide) ?_
                  exact ih v5 v6 (v7 + (1 : Int32)) _ _ _ o (lv_sub hl [2, 1, 0, 4, 5, 6, 7, 8] rfl) hP hD hS hf kont
                · rw [if_neg c7] at hf
                  refine lv_iload hx hb dX8_findInstructions_69 (lv_at hl 1 rfl) ?_
                  refine lv_goto (tgt := 76) hx hb dX8_findInstructions_71 (by decide) ?_
                  refine lv_istore (lv' := [(6, .int R4), (5, .int v5), (8, .int R4), (7, .int v7), (1, .int v1), (2, .int v2), (3, .int v3), (4, .int v4), (0, .ref (q 0))]) hx hb dX8_findInstructions_76 hl (by decide) rfl (fun ls hl => ?_)
                  refine lv_iinc (v := (v7 + (1 : Int32))) (lv' := [(7, .int (v7 + (1 : Int32))), (6, .int R4), (5, .int v5), (8, .int R4), (1, .int v1), (2, .int v2), (3, .int v3), (4, .int v4), (0, .ref (q 0))]) hx hb dX8_findInstructions_78 hl (k := 3) rfl rfl (by decide) rfl (fun ls hl => ?_)
                  refine lv_goto (tgt := 28) hx hb dX8_findInstructions_81 (by decide) ?_
                  exact ih v5 R4 (v7 + (1 : Int32)) _ _ _ o (lv_sub hl [2, 1, 0, 4, 5, 6, 7, 8] rfl) hP hD hS hf kont
              · rw [if_neg c6] at hf
                refine lv_iload hx hb dX8_findInstructions_53 (lv_at hl 3 rfl) ?_
                refine lv_goto (tgt := 60) hx hb dX8_findInstructions_55 (by decide) ?_
                refine lv_istore (lv' := [(5, .int v7), (8, .int R4), (6, .int v6), (7, .int v7), (1, .int v1), (2, .int v2), (3, .int v3), (4, .int v4), (0, .ref (q 0))]) hx hb dX8_findInstructions_60 hl (by decide) rfl (fun ls hl => ?_)
                refine lv_iload hx hb dX8_findInstructions_62 (lv_at hl 1 rfl) ?_
                refine lv_iload hx hb dX8_findInstructions_64 (lv_at hl 2 rfl) ?_
                refine lv_icmp_le (tgt := 74) hx hb dX8_findInstructions_66 (by decide) (fun c8 => ?_) (fun c8 => ?_)
                · rw [if_pos c8] at hf
                  refine lv_iload hx hb dX8_findInstructions_74 (lv_at hl 2 rfl) ?_
                  refine lv_istore (lv' := [(6, .int v6), (5, .int v7), (8, .int R4), (7, .int v7), (1, .int v1), (2, .int v2), (3, .int v3), (4, .int v4), (0, .ref (q 0))]) hx hb dX8_findInstructions_76 hl (by decide) rfl (fun ls hl => ?_)
                  refine lv_iinc (v := (v7 + (1 : Int32))) (lv' := [(7, .int (v7 + (1 : Int32))), (6, .int v6), (5, .int v7), (8, .int R4), (1, .int v1), (2, .int v2), (3, .int v3), (4, .int v4), (0, .ref (q 0))]) hx hb dX8_findInstructions_78 hl (k := 3) rfl rfl (by decide) rfl (fun ls hl => ?_)
                  refine lv_goto (tgt := 28) hx hb dX8_findInstructions_81 (by decide) ?_
                  exact ih v7 v6 (v7 + (1 : Int32)) _ _ _ o (lv_sub hl [2, 1, 0, 4, 5, 6, 7, 8] rfl) hP hD hS hf kont
                · rw [if_neg c8] at hf
                  refine lv_iload hx hb dX8_findInstructions_69 (lv_at hl 1 rfl) ?_
                  refine lv_goto (tgt := 76) hx hb dX8_findInstructions_71 (by decide) ?_
                  refine lv_istore (lv' := [(6, .int R4), (5, .int v7), (8, .int R4), (7, .int v7), (1, .int v1), (2, .int v2), (3, .int v3), (4, .int v4), (0, .ref (q 0))]) hx hb dX8_findInstructions_76 hl (by decide) rfl (fun ls hl => ?_)
                  refine lv_iinc (v := (v7 + (1 : Int32))) (lv' := [(7, .int (v7 + (1 : Int32))), (6, .int R4), (5, .int v7), (8, .int R4), (1, .int v1), (2, .int v2), (3, .int v3), (4, .int v4), (0, .ref (q 0))]) hx hb dX8_findInstructions_78 hl (k := 3) rfl rfl (by decide) rfl (fun ls hl => ?_)
                  refine lv_goto (tgt := 28) hx hb dX8_findInstructions_81 (by decide) ?_
                  exact ih v7 R4 (v7 + (1 : Int32)) _ _ _ o (lv_sub hl [2, 1, 0, 4, 5, 6, 7, 8] rfl) hP hD hS hf kont
        obtain ⟨R9, hc10, hf⟩ := b_inv hf
        refine lp35 sc ar v1 v2 v3 ((((ar 1) (0 : Int32).toNatClampNeg) + v3) - v1) FU (-1 : Int32) (0 : Int32) (0 : Int32) _ _ _ R9 (lv_sub hl [2, 1, 0, 5, 6, 4, 3, 7] rfl) hP hD hS hc10 (fun H locs ls hl hP hD hS => ?_)
        refine lv_aload_n hx hb dX8_findInstructions_84 rfl (lv_at hl 6 rfl) ?_
        refine lv_iload_n hx hb dX8_findInstructions_85 rfl (lv_at hl 4 rfl) ?_
        refine lv_iload_n hx hb dX8_findInstructions_86 rfl (lv_at hl 3 rfl) ?_
        obtain ⟨R11, hc12, hf⟩ := b_inv hf
        have hk := kall (wc' := (wM q cA sc ar)) hP hD hS hA rfl
        refine k_goI (va_runV (As := [.int v3, .int v2]) (rest := []) ⟨hx, hb, hml, hown, hts⟩ (kX8_runFrom l D q cA sc ar v3 v2 hc12 _) (cwV 2 hts gX8_findInstructions_X8_runFrom rfl rfl rfl (by decide +kernel) ⟨Nat.le_of_ble_eq_true rfl, Nat.le_of_ble_eq_true rfl⟩) (k_preV (q0 := 0) (ci := 7) hk hK NT_bl NT_u rfl rfl rfl) rfl rfl hl.1 rfl (lv_room (Nat.le_of_ble_eq_true rfl)) dX8_findInstructions_87 ⟨Nat.zero_le _, Nat.zero_le _⟩) hk hS (fun H locs hP hD hS => ?_)
        refine lv_istore (lv' := [(7, .int R11), (5, .int R9.1), (6, .int R9.2), (1, .int v1), (2, .int v2), (3, .int v3), (4, .int ((((ar 1) (0 : Int32).toNatClampNeg) + v3) - v1)), (0, .ref (q 0))]) hx hb dX8_findInstructions_90 hl (by decide) rfl (fun ls hl => ?_)
        refine lv_iload hx hb dX8_findInstructions_92 (lv_at hl 0 rfl) ?_
        refine lv_iconst (v := (4 : Int32)) hx hb dX8_findInstructions_94 (by decide) ?_
        refine lv_icmp_lt (tgt := 136) hx hb dX8_findInstructions_95 (by decide) (fun c13 => ?_) (fun c13 => ?_)
        · rw [if_pos c13] at hf
          refine lv_iload hx hb dX8_findInstructions_136 (lv_at hl 2 rfl) ?_
          refine lv_iconst (v := (4 : Int32)) hx hb dX8_findInstructions_138 (by decide) ?_
          refine lv_icmp_lt (tgt := 160) hx hb dX8_findInstructions_139 (by decide) (fun c14 => ?_) (fun c14 => ?_)
          · rw [if_pos c14] at hf
            refine lv_aload_n hx hb dX8_findInstructions_160 rfl (lv_at hl 7 rfl) ?_
            refine lv_aload_n hx hb dX8_findInstructions_161 rfl (lv_at hl 7 rfl) ?_
            refine va_get (D := D) (ci := 7) (v := .ref (q 1)) (C := RX8) (T := TX8) (N := 21) hx hb hts (fun w h => List.mem_cons_of_mem _ (List.mem_append_right _ h)) hown hK hP 0 rfl rfl 0 (by decide) (hts (.fieldLink RX8 7 "DeltaWindowsModel" "cell" "[I") (List.mem_of_getElem? (i := 2) rfl)) (fun _ h9 => h9) rfl dX8_findInstructions_162 ?_
            refine lv_sipush (v := (1000 : Int32)) hx hb dX8_findInstructions_165 (by decide) ?_
            refine lv_iload_n hx hb dX8_findInstructions_168 rfl (lv_at hl 5 rfl) ?_
            refine lv_iadd hx hb dX8_findInstructions_169 ?_
            obtain ⟨g15, hf⟩ := g_inv hf
            refine va_iald (f := (ar 0)) hx hb hK hP 1 0 rfl rfl (inb_vp g15) dX8_findInstructions_170 ?_
            obtain ⟨R16, hc17, hf⟩ := b_inv hf
            have hk := kall (wc' := (wM q cA R16.1 R16.2)) hP hD hS hA rfl
            refine k_goV (va_runV (As := [.int ((ar 0) ((1000 : Int32) + v3).toNatClampNeg)]) (rest := []) ⟨hx, hb, hml, hown, hts⟩ (kX8_addByte l D q cA sc ar ((ar 0) ((1000 : Int32) + v3).toNatClampNeg) hc17 _) (cwV 1 hts gX8_findInstructions_X8_addByte rfl rfl rfl (by decide +kernel) ⟨Nat.le_of_ble_eq_true rfl, Nat.le_of_ble_eq_true rfl⟩) (k_preV (q0 := 0) (ci := 7) hk hK NT_bl NT_u rfl rfl rfl) rfl rfl hl.1 rfl (lv_room (Nat.le_of_ble_eq_true rfl)) dX8_findInstructions_171 ⟨Nat.zero_le _, Nat.zero_le _⟩) hk hS (fun H locs hP hD hS => ?_)
            refine lv_iinc (v := (v3 + (1 : Int32))) (lv' := [(3, .int (v3 + (1 : Int32))), (7, .int R11), (5, .int R9.1), (6, .int R9.2), (1, .int v1), (2, .int v2), (4, .int ((((ar 1) (0 : Int32).toNatClampNeg) + v3) - v1)), (0, .ref (q 0))]) hx hb dX8_findInstructions_174 hl (k := 5) rfl rfl (by decide) rfl (fun ls hl => ?_)
            refine lv_goto (tgt := 2) hx hb dX8_findInstructions_177 (by decide) ?_
            exact ih (v3 + (1 : Int32)) R16.1 R16.2 _ _ _ o (lv_sub hl [0, 4, 5, 7] rfl) hP hD hS hf kont
          · rw [if_neg c14] at hf
            refine lv_aload_n hx hb dX8_findInstructions_142 rfl (lv_at hl 7 rfl) ?_
            refine lv_iload hx hb dX8_findInstructions_143 (lv_at hl 1 rfl) ?_
            refine lv_iload hx hb dX8_findInstructions_145 (lv_at hl 2 rfl) ?_
            refine lv_iload hx hb dX8_findInstructions_147 (lv_at hl 6 rfl) ?_
            obtain ⟨R18, hc19, hf⟩ := b_inv hf
            have hk := kall (wc' := (wM q cA R18.1 R18.2)) hP hD hS hA rfl
            refine k_goV (va_runV (As := [.int R9.1, .int R9.2, .int ((((ar 1) (0 : Int32).toNatClampNeg) + v3) - v1)]) (rest := []) ⟨hx, hb, hml, hown, hts⟩ (kX8_copy l D q cA sc ar R9.1 R9.2 ((((ar 1) (0 : Int32).toNatClampNeg) + v3) - v1) hc19 _) (cwV 3 hts gX8_findInstructions_X8_copy rfl rfl rfl (by decide +kernel) ⟨Nat.le_of_ble_eq_true rfl, Nat.le_of_ble_eq_true rfl⟩) (k_preV (q0 := 0) (ci := 7) hk hK NT_bl NT_u rfl rfl rfl) rfl rfl hl.1 rfl (lv_room (Nat.le_of_ble_eq_true rfl)) dX8_findInstructions_149 ⟨Nat.zero_le _, Nat.zero_le _⟩) hk hS (fun H locs hP hD hS => ?_)
            refine lv_iload_n hx hb dX8_findInstructions_152 rfl (lv_at hl 5 rfl) ?_
            refine lv_iload hx hb dX8_findInstructions_153 (lv_at hl 2 rfl) ?_
            refine lv_iadd hx hb dX8_findInstructions_155 ?_
            refine lv_istore_n (lv' := [(3, .int (v3 + R9.2)), (7, .int R11), (5, .int R9.1), (6, .int R9.2), (1, .int v1), (2, .int v2), (4, .int ((((ar 1) (0 : Int32).toNatClampNeg) + v3) - v1)), (0, .ref (q 0))]) hx hb dX8_findInstructions_156 rfl hl (by decide) rfl (fun ls hl => ?_)
            refine lv_goto (tgt := 177) hx hb dX8_findInstructions_157 (by decide) ?_
            refine lv_goto (tgt := 2) hx hb dX8_findInstructions_177 (by decide) ?_
            exact ih (v3 + R9.2) R18.1 R18.2 _ _ _ o (lv_sub hl [0, 4, 5, 7] rfl) hP hD hS hf kont
        · rw [if_neg c13] at hf
          refine lv_iload hx hb dX8_findInstructions_98 (lv_at hl 0 rfl) ?_
          refine lv_iload hx hb dX8_findInstructions_100 (lv_at hl 2 rfl) ?_
          refine lv_icmp_lt (tgt := 136) hx hb dX8_findInstructions_102 (by decide) (fun c20 => ?_) (fun c20 => ?_)
          · rw [if_pos c20] at hf
            refine lv_iload hx hb dX8_findInstructions_136 (lv_at hl 2 rfl) ?_
            refine lv_iconst (v := (4 : Int32)) hx hb dX8_findInstructions_138 (by decide) ?_
            refine lv_icmp_lt (tgt := 160) hx hb dX8_findInstructions_139 (by decide) (fun c21 => ?_) (fun c21 => ?_)
            · rw [if_pos c21] at hf
              refine lv_aload_n hx hb dX8_findInstructions_160 rfl (lv_at hl 7 rfl) ?_
              refine lv_aload_n hx hb dX8_findInstructions_161 rfl (lv_at hl 7 rfl) ?_
              refine va_get (D := D) (ci := 7) (v := .ref (q 1)) (C := RX8) (T := TX8) (N := 21) hx hb hts (fun w h => List.mem_cons_of_mem _ (List.mem_append_right _ h)) hown hK hP 0 rfl rfl 0 (by decide) (hts (.fieldLink RX8 7 "DeltaWindowsModel" "cell" "[I") (List.mem_of_getElem? (i := 2) rfl)) (fun _ h9 => h9) rfl dX8_findInstructions_162 ?_
              refine lv_sipush (v := (1000 : Int32)) hx hb dX8_findInstructions_165 (by decide) ?_
              refine lv_iload_n hx hb dX8_findInstructions_168 rfl (lv_at hl 5 rfl) ?_
              refine lv_iadd hx hb dX8_findInstructions_169 ?_
              obtain ⟨g22, hf⟩ := g_inv hf
              refine va_iald (f := (ar 0)) hx hb hK hP 1 0 rfl rfl (inb_vp g22) dX8_findInstructions_170 ?_
              obtain ⟨R23, hc24, hf⟩ := b_inv hf
              have hk := kall (wc' := (wM q cA R23.1 R23.2)) hP hD hS hA rfl
              refine k_goV (va_runV (As := [.int ((ar 0) ((1000 : Int32) + v3).toNatClampNeg)]) (rest := []) ⟨hx, hb, hml, hown, hts⟩ (kX8_addByte l D q cA sc ar ((ar 0) ((1000 : Int32) + v3).toNatClampNeg) hc24 _) (cwV 1 hts gX8_findInstructions_X8_addByte rfl rfl rfl (by decide +kernel) ⟨Nat.le_of_ble_eq_true rfl, Nat.le_of_ble_eq_true rfl⟩) (k_preV (q0 := 0) (ci := 7) hk hK NT_bl NT_u rfl rfl rfl) rfl rfl hl.1 rfl (lv_room (Nat.le_of_ble_eq_true rfl)) dX8_findInstructions_171 ⟨Nat.zero_le _, Nat.zero_le _⟩) hk hS (fun H locs hP hD hS => ?_)
              refine lv_iinc (v := (v3 + (1 : Int32))) (lv' := [(3, .int (v3 + (1 : Int32))), (7, .int R11), (5, .int R9.1), (6, .int R9.2), (1, .int v1), (2, .int v2), (4, .int ((((ar 1) (0 : Int32).toNatClampNeg) + v3) - v1)), (0, .ref (q 0))]) hx hb dX8_findInstructions_174 hl (k := 5) rfl rfl (by decide) rfl (fun ls hl => ?_)
              refine lv_goto (tgt := 2) hx hb dX8_findInstructions_177 (by decide) ?_
              exact ih (v3 + (1 : Int32)) R23.1 R23.2 _ _ _ o (lv_sub hl [0, 4, 5, 7] rfl) hP hD hS hf kont
            · rw [if_neg c21] at hf
              refine lv_aload_n hx hb dX8_findInstructions_142 rfl (lv_at hl 7 rfl) ?_
              refine lv_iload hx hb dX8_findInstructions_143 (lv_at hl 1 rfl) ?_
              refine lv_iload hx hb dX8_findInstructions_145 (lv_at hl 2 rfl) ?_
              refine lv_iload hx hb dX8_findInstructions_147 (lv_at hl 6 rfl) ?_
              obtain ⟨R25, hc26, hf⟩ := b_inv hf
              have hk := kall (wc' := (wM q cA R25.1 R25.2)) hP hD hS hA rfl
              refine k_goV (va_runV (As := [.int R9.1, .int R9.2, .int ((((ar 1) (0 : Int32).toNatClampNeg) + v3) - v1)]) (rest := []) ⟨hx, hb, hml, hown, hts⟩ (kX8_copy l D q cA sc ar R9.1 R9.2 ((((ar 1) (0 : Int32).toNatClampNeg) + v3) - v1) hc26 _) (cwV 3 hts gX8_findInstructions_X8_copy rfl rfl rfl (by decide +kernel) ⟨Nat.le_of_ble_eq_true rfl, Nat.le_of_ble_eq_true rfl⟩) (k_preV (q0 := 0) (ci := 7) hk hK NT_bl NT_u rfl rfl rfl) rfl rfl hl.1 rfl (lv_room (Nat.le_of_ble_eq_true rfl)) dX8_findInstructions_149 ⟨Nat.zero_le _, Nat.zero_le _⟩) hk hS (fun H locs hP hD hS => ?_)
              refine lv_iload_n hx hb dX8_findInstructions_152 rfl (lv_at hl 5 rfl) ?_
              refine lv_iload hx hb dX8_findInstructions_153 (lv_at hl 2 rfl) ?_
              refine lv_iadd hx hb dX8_findInstructions_155 ?_
              refine lv_istore_n (lv' := [(3, .int (v3 + R9.2)), (7, .int R11), (5, .int R9.1), (6, .int R9.2), (1, .int v1), (2, .int v2), (4, .int ((((ar 1) (0 : Int32).toNatClampNeg) + v3) - v1)), (0, .ref (q 0))]) hx hb dX8_findInstructions_156 rfl hl (by decide) rfl (fun ls hl => ?_)
              refine lv_goto (tgt := 177) hx hb dX8_findInstructions_157 (by decide) ?_
              refine lv_goto (tgt := 2) hx hb dX8_findInstructions_177 (by decide) ?_
              exact ih (v3 + R9.2) R25.1 R25.2 _ _ _ o (lv_sub hl [0, 4, 5, 7] rfl) hP hD hS hf kont
          · rw [if_neg c20] at hf
            refine lv_aload_n hx hb dX8_findInstructions_105 rfl (lv_at hl 7 rfl) ?_
            refine lv_iconst (v := (2 : Int32)) hx hb dX8_findInstructions_106 (by decide) ?_
            refine lv_iload hx hb dX8_findInstructions_107 (lv_at hl 0 rfl) ?_
            refine lv_iconst (v := (0 : Int32)) hx hb dX8_findInstructions_109 (by decide) ?_
            obtain ⟨R27, hc28, hf⟩ := b_inv hf
            have hk := kall (wc' := (wM q cA R27.1 R27.2)) hP hD hS hA rfl
            refine k_goV (va_runV (As := [.int (2 : Int32), .int R11, .int (0 : Int32)]) (rest := []) ⟨hx, hb, hml, hown, hts⟩ (kX8_instruct l D q cA sc ar (2 : Int32) R11 (0 : Int32) hc28 _) (cwV 3 hts gX8_findInstructions_X8_instruct rfl rfl rfl (by decide +kernel) ⟨Nat.le_of_ble_eq_true rfl, Nat.le_of_ble_eq_true rfl⟩) (k_preV (q0 := 0) (ci := 7) hk hK NT_bl NT_u rfl rfl rfl) rfl rfl hl.1 rfl (lv_room (Nat.le_of_ble_eq_true rfl)) dX8_findInstructions_110 ⟨Nat.zero_le _, Nat.zero_le _⟩) hk hS (fun H locs hP hD hS => ?_)
            refine lv_aload_n hx hb dX8_findInstructions_113 rfl (lv_at hl 7 rfl) ?_
            refine lv_iconst (v := (0 : Int32)) hx hb dX8_findInstructions_114 (by decide) ?_
            refine lv_aload_n hx hb dX8_findInstructions_115 rfl (lv_at hl 7 rfl) ?_
            refine va_get (D := D) (ci := 7) (v := .ref (q 1)) (C := RX8) (T := TX8) (N := 21) hx hb hts (fun w h => List.mem_cons_of_mem _ (List.mem_append_right _ h)) hown hK hP 0 rfl rfl 0 (by decide) (hts (.fieldLink RX8 7 "DeltaWindowsModel" "cell" "[I") (List.mem_of_getElem? (i := 2) rfl)) (fun _ h9 => h9) rfl dX8_findInstructions_116 ?_
            refine lv_sipush (v := (1000 : Int32)) hx hb dX8_findInstructions_119 (by decide) ?_
            refine lv_iload_n hx hb dX8_findInstructions_122 rfl (lv_at hl 5 rfl) ?_
            refine lv_iadd hx hb dX8_findInstructions_123 ?_
            obtain ⟨g29, hf⟩ := g_inv hf
            refine va_iald (f := (R27.2 0)) hx hb hK hP 1 0 rfl rfl (inb_vp g29) dX8_findInstructions_124 ?_
            obtain ⟨R30, hc31, hf⟩ := b_inv hf
            have hk := kall (wc' := (wM q cA R27.1 R30)) hP hD hS hA rfl
            refine k_goV (va_runV (As := [.int (0 : Int32), .int ((R27.2 0) ((1000 : Int32) + v3).toNatClampNeg)]) (rest := []) ⟨hx, hb, hml, hown, hts⟩ (kX8_write l D q cA R27.1 R27.2 (0 : Int32) ((R27.2 0) ((1000 : Int32) + v3).toNatClampNeg) hc31 _) (cwV 2 hts gX8_findInstructions_X8_write rfl rfl rfl (by decide +kernel) ⟨Nat.le_of_ble_eq_true rfl, Nat.le_of_ble_eq_true rfl⟩) (k_preV (q0 := 0) (ci := 7) hk hK NT_bl NT_u rfl rfl rfl) rfl rfl hl.1 rfl (lv_room (Nat.le_of_ble_eq_true rfl)) dX8_findInstructions_125 ⟨Nat.zero_le _, Nat.zero_le _⟩) hk hS (fun H locs hP hD hS => ?_)
            refine lv_iload_n hx hb dX8_findInstructions_128 rfl (lv_at hl 5 rfl) ?_
            refine lv_iload hx hb dX8_findInstructions_129 (lv_at hl 0 rfl) ?_
            refine lv_iadd hx hb dX8_findInstructions_131 ?_
            refine lv_istore_n (lv' := [(3, .int (v3 + R11)), (7, .int R11), (5, .int R9.1), (6, .int R9.2), (1, .int v1), (2, .int v2), (4, .int ((((ar 1) (0 : Int32).toNatClampNeg) + v3) - v1)), (0, .ref (q 0))]) hx hb dX8_findInstructions_132 rfl hl (by decide) rfl (fun ls hl => ?_)
            refine lv_goto (tgt := 177) hx hb dX8_findInstructions_133 (by decide) ?_
            refine lv_goto (tgt := 2) hx hb dX8_findInstructions_177 (by decide) ?_
            exact ih (v3 + R11) R27.1 R30 _ _ _ o (lv_sub hl [0, 4, 5, 7] rfl) hP hD hS hf kont
  obtain ⟨R32, hc33, hf⟩ := b_inv hf
  refine lp34 x1 x2 FU x1 sc ar _ _ _ R32 (lv_sub hl [0, 2, 3, 1] rfl) hP hD hS hc33 (fun H locs ls hl hP hD hS => ?_)
  obtain rfl := Option.some.inj hf
  exact k_retV hx hb hr hlocks hP hS dX8_findInstructions_180

noncomputable def fX8_writeCodes_L2 (sc : Nat → Int32) : Nat → (Int32) → (Nat → Nat → Int32) → Option ((Nat → Nat → Int32))
  | 0, _, _ => none
  | k + 1, v1, ar =>
    if (sc 2) ≤ v1 then
      some ar
    else
      (if (sc 2) ≤ (v1 + (1 : Int32)) then
          some (-1 : Int32)
        else
          if inb v1 64 = true then
          if inb v1 64 = true then
          if inb v1 64 = true then
          if inb (v1 + (1 : Int32)) 64 = true then
          if inb (v1 + (1 : Int32)) 64 = true then
          if inb (v1 + (1 : Int32)) 64 = true then
          (fX8_find ((ar 5) v1.toNatClampNeg) ((ar 6) v1.toNatClampNeg) ((ar 7) v1.toNatClampNeg) ((ar 5) (v1 + (1 : Int32)).toNatClampNeg) ((ar 6) (v1 + (1 : Int32)).toNatClampNeg) ((ar 7) (v1 + (1 : Int32)).toNatClampNeg)).bind fun R10 =>
          some R10
          else none
          else none
          else none
          else none
          else none
          else none : Option (Int32)).bind fun R12 =>
      if inb v1 64 = true then
      if inb v1 64 = true then
      if inb v1 64 = true then
      (fX8_find ((ar 5) v1.toNatClampNeg) ((ar 6) v1.toNatClampNeg) ((ar 7) v1.toNatClampNeg) (0 : Int32) (0 : Int32) (0 : Int32)).bind fun R16 =>
      if R12 < 0 then
        if R16 < 0 then
          if inb v1 64 = true then
          if inb v1 64 = true then
          (fX8_find ((ar 5) v1.toNatClampNeg) (0 : Int32) ((ar 7) v1.toNatClampNeg) (0 : Int32) (0 : Int32) (0 : Int32)).bind fun R22 =>
          (fX8_write sc ar (1 : Int32) R22).bind fun R24 =>
          if inb v1 64 = true then
          (fX8_writeInteger sc R24 (1 : Int32) ((R24 6) v1.toNatClampNeg)).bind fun R27 =>
          if R12 < 0 then
            fX8_writeCodes_L2 sc k (v1 + (1 : Int32)) R27
          else
            fX8_writeCodes_L2 sc k (v1 + (2 : Int32)) R27
          else none
          else none
          else none
        else
          (fX8_write sc ar (1 : Int32) R16).bind fun R30 =>
          if R12 < 0 then
            fX8_writeCodes_L2 sc k (v1 + (1 : Int32)) R30
          else
            fX8_writeCodes_L2 sc k (v1 + (2 : Int32)) R30
      else
        (fX8_write sc ar (1 : Int32) R12).bind fun R33 =>
        if R12 < 0 then
          fX8_writeCodes_L2 sc k (v1 + (1 : Int32)) R33
        else
          fX8_writeCodes_L2 sc k (v1 + (2 : Int32)) R33
      else none
      else none
      else none

noncomputable def fX8_writeCodes (sc : Nat → Int32) (ar : Nat → Nat → Int32) : Option ((Nat → Nat → Int32)) :=
  (fX8_writeCodes_L2 sc FU (0 : Int32) ar).bind fun R36 =>
  some R36

set_option maxHeartbeats 4000000 in
set_option maxRecDepth 100000 in
theorem kX8_writeCodes (l : Launch) (D : va_G) (q : Nat → Nat) (cA : Nat → ClassId) (sc : Nat → Int32) (ar : Nat → Nat → Int32) {R : (Nat → Nat → Int32)} (hf : fX8_writeCodes sc ar = some R) : MV l yX8_writeCodes wsX8_writeCodes (rmD 2) D ([.ref (q 0)] : List Value) (wM q cA sc ar) (tM cA) NT (wM q cA sc R) := by
  refine MV.mk (cc := cX8_writeCodes) (maxL := 4) (ret := none) (by first | decide | decide +kernel) rfl (Nat.le_of_ble_eq_true rfl) ?_
  intro p e s m below meth cd A ls hE
  obtain ⟨hx, hb, hr, hml, hts, hown, hlocks, hP, hK, hD, hA, hN, hAe, hl⟩ := hE
  have hown : s.vm.findClass RX8 = some m.cls := hown
  have hS : va_S A s.heap s.heap [] := va_S.rf
  have hl : lv_has ls 4 [(0, .ref (q 0))] := hl
  rw [fX8_writeCodes] at hf
  refine lv_iconst (v := (0 : Int32)) hx hb dX8_writeCodes_0 (by decide) ?_
  refine lv_istore_n (lv' := [(1, .int (0 : Int32)), (0, .ref (q 0))]) hx hb dX8_writeCodes_1 rfl hl (by decide) rfl (fun ls hl => ?_)
  have lp38 : ∀ (sc : Nat → Int32), ∀ (k : Nat) (v1 : Int32) (ar : Nat → Nat → Int32) (H : Heap) (locs : List Loc) (ls : Array Slot) (o : (Nat → Nat → Int32)), lv_has ls 4 [(1, .int v1), (0, .ref (q 0))] → va_P D vwCl (wM q cA sc ar) H → va_D A (wM q cA sc ar) → va_S A s.heap H locs → fX8_writeCodes_L2 sc k v1 ar = some o → (∀ (H : Heap) (locs : List Loc) (ls : Array Slot), lv_has ls 4 [] → va_P D vwCl (wM q cA sc o) H → va_D A (wM q cA sc o) → va_S A s.heap H locs → W p l e (headSpec wsX8_writeCodes (rmD 2)).room s m ([.ref (q 0)] : List Value).toArray below meth cd H locs 0 0 (QV D below ([.ref (q 0)] : List Value).toArray s A (wM q cA sc R)) (F0 m 173 ls [])) → W p l e (headSpec wsX8_writeCodes (rmD 2)).room s m ([.ref (q 0)] : List Value).toArray below meth cd H locs 0 0 (QV D below ([.ref (q 0)] : List Value).toArray s A (wM q cA sc R)) (F0 m 2 ls []) := by
    intro sc
    intro k
    induction k with
    | zero =>
      intro v1 ar H locs ls o hl hP hD hS hf
      exact absurd hf (by simp [fX8_writeCodes_L2])
    | succ k ih =>
      intro v1 ar H locs ls o hl hP hD hS hf kont
      rw [fX8_writeCodes_L2] at hf
      refine lv_iload_n hx hb dX8_writeCodes_2 rfl (lv_at hl 0 rfl) ?_
      refine lv_aload_n hx hb dX8_writeCodes_3 rfl (lv_at hl 1 rfl) ?_
      refine va_get (D := D) (ci := 7) (v := .int (sc 2)) (C := RX8) (T := TX8) (N := 21) hx hb hts (fun w h => List.mem_cons_of_mem _ (List.mem_append_right _ h)) hown hK hP 0 rfl rfl 7 (by decide) (hts (.fieldLink RX8 79 "DeltaWindowsModel" "many" "I") (List.mem_of_getElem? (i := 1) rfl)) (fun _ h9 => h9) rfl dX8_writeCodes_4 ?_
      refine lv_icmp_ge (tgt := 173) hx hb dX8_writeCodes_7 (by decide) (fun c1 => ?_) (fun c1 => ?_)
      · rw [if_pos c1] at hf
        obtain rfl := Option.some.inj hf
        exact kont _ _ _ (lv_sub hl [] rfl) hP hD hS
      · rw [if_neg c1] at hf
        refine lv_iload_n hx hb dX8_writeCodes_10 rfl (lv_at hl 0 rfl) ?_
        refine lv_iconst (v := (1 : Int32)) hx hb dX8_writeCodes_11 (by decide) ?_
        refine lv_iadd hx hb dX8_writeCodes_12 ?_
        refine lv_aload_n hx hb dX8_writeCodes_13 rfl (lv_at hl 1 rfl) ?_
        refine va_get (D := D) (ci := 7) (v := .int (sc 2)) (C := RX8) (T := TX8) (N := 21) hx hb hts (fun w h => List.mem_cons_of_mem _ (List.mem_append_right _ h)) hown hK hP 0 rfl rfl 7 (by decide) (hts (.fieldLink RX8 79 "DeltaWindowsModel" "many" "I") (List.mem_of_getElem? (i := 1) rfl)) (fun _ h9 => h9) rfl dX8_writeCodes_14 ?_
        obtain ⟨R12, hj39, hf⟩ := b_inv hf
        have kont : ∀ (H : Heap) (locs : List Loc) (ls : Array Slot), lv_has ls 4 [(0, .ref (q 0)), (1, .int v1)] → va_P D vwCl (wM q cA sc ar) H → va_D A (wM q cA sc ar) → va_S A s.heap H locs → W p l e (headSpec wsX8_writeCodes (rmD 2)).room s m ([.ref (q 0)] : List Value).toArray below meth cd H locs 0 0 (QV D below ([.ref (q 0)] : List Value).toArray s A (wM q cA sc R)) (F0 m 69 ls [.int R12]) := by
          intro H locs ls hl hP hD hS
          refine lv_istore_n (lv' := [(2, .int R12), (0, .ref (q 0)), (1, .int v1)]) hx hb dX8_writeCodes_69 rfl hl (by decide) rfl (fun ls hl => ?_)
          refine lv_aload_n hx hb dX8_writeCodes_70 rfl (lv_at hl 1 rfl) ?_
          refine va_get (D := D) (ci := 7) (v := .ref (q 6)) (C := RX8) (T := TX8) (N := 21) hx hb hts (fun w h => List.mem_cons_of_mem _ (List.mem_append_right _ h)) hown hK hP 0 rfl rfl 8 (by decide) (hts (.fieldLink RX8 25 "DeltaWindowsModel" "kind" "[I") (List.mem_of_getElem? (i := 2) rfl)) (fun _ h9 => h9) rfl dX8_writeCodes_71 ?_
          refine lv_iload_n hx hb dX8_writeCodes_74 rfl (lv_at hl 2 rfl) ?_
          obtain ⟨g13, hf⟩ := g_inv hf
          refine va_iald (f := (ar 5)) hx hb hK hP 6 5 rfl rfl (inb_vp g13) dX8_writeCodes_75 ?_
          refine lv_aload_n hx hb dX8_writeCodes_76 rfl (lv_at hl 1 rfl) ?_
          refine va_get (D := D) (ci := 7) (v := .ref (q 7)) (C := RX8) (T := TX8) (N := 21) hx hb hts (fun w h => List.mem_cons_of_mem _ (List.mem_append_right _ h)) hown hK hP 0 rfl rfl 9 (by decide) (hts (.fieldLink RX8 28 "DeltaWindowsModel" "size" "[I") (List.mem_of_getElem? (i := 3) rfl)) (fun _ h9 => h9) rfl dX8_writeCodes_77 ?_
          refine lv_iload_n hx hb dX8_writeCodes_80 rfl (lv_at hl 2 rfl) ?_
          obtain ⟨g14, hf⟩ := g_inv hf
          refine va_iald (f := (ar 6)) hx hb hK hP 7 6 rfl rfl (inb_vp g14) dX8_writeCodes_81 ?_
          refine lv_aload_n hx hb dX8_writeCodes_82 rfl (lv_at hl 1 rfl) ?_
          refine va_get (D := D) (ci := 7) (v := .ref (q 8)) (C := RX8) (T := TX8) (N := 21) hx hb hts (fun w h => List.mem_cons_of_mem _ (List.mem_append_right _ h)) hown hK hP 0 rfl rfl 10 (by decide) (hts (.fieldLink RX8 31 "DeltaWindowsModel" "mode" "[I") (List.mem_of_getElem? (i := 4) rfl)) (fun _ h9 => h9) rfl dX8_writeCodes_83 ?_
          refine lv_iload_n hx hb dX8_writeCodes_86 rfl (lv_at hl 2 rfl) ?_
          obtain ⟨g15, hf⟩ := g_inv hf
          refine va_iald (f := (ar 7)) hx hb hK hP 8 7 rfl rfl (inb_vp g15) dX8_writeCodes_87 ?_
          refine lv_iconst (v := (0 : Int32)) hx hb dX8_writeCodes_88 (by decide) ?_
          refine lv_iconst (v := (0 : Int32)) hx hb dX8_writeCodes_89 (by decide) ?_
          refine lv_iconst (v := (0 : Int32)) hx hb dX8_writeCodes_90 (by decide) ?_
          obtain ⟨R16, hc17, hf⟩ := b_inv hf
          have hk := kcut (wc := ([] : va_W)) (wc' := ([] : va_W)) (wf := (wM q cA sc ar)) hP hD hS hA [] rfl (by decide) rfl rfl
          refine k_goI (va_runS (As := [.int ((ar 5) v1.toNatClampNeg), .int ((ar 6) v1.toNatClampNeg), .int ((ar 7) v1.toNatClampNeg), .int (0 : Int32), .int (0 : Int32), .int (0 : Int32)]) (rest := []) ⟨hx, hb, hml, hown, hts⟩ (kX8_find l D ((ar 5) v1.toNatClampNeg) ((ar 6) v1.toNatClampNeg) ((ar 7) v1.toNatClampNeg) (0 : Int32) (0 : Int32) (0 : Int32) hc17 _) ⟨callB_of 6 hts ggX8_writeCodes_X8_find rfl rfl rfl (hts (.initialized RX8) (List.mem_of_getElem? (i := 7) rfl)) (hts (.methodLink RX8 109 yX8_find) (List.mem_of_getElem? (i := 5) rfl)) (by decide +kernel) ⟨Nat.le_of_ble_eq_true rfl, Nat.le_of_ble_eq_true rfl⟩, (hts (.static yX8_find) (List.mem_of_getElem? (i := 6) rfl))⟩ (k_preS hk (hK.sub [] rfl) NT_bl NT_u) rfl rfl hl.1 rfl (lv_room (Nat.le_of_ble_eq_true rfl)) dX8_writeCodes_91 ⟨Nat.zero_le _, Nat.zero_le _⟩) hk hS (fun H locs hP hD hS => ?_)
          refine lv_istore_n (lv' := [(3, .int R16), (2, .int R12), (0, .ref (q 0)), (1, .int v1)]) hx hb dX8_writeCodes_94 rfl hl (by decide) rfl (fun ls hl => ?_)
          refine lv_iload_n hx hb dX8_writeCodes_95 rfl (lv_at hl 1 rfl) ?_
          refine lv_if_lt (tgt := 108) hx hb dX8_writeCodes_96 (by decide) (fun c18 => ?_) (fun c18 => ?_)
          · rw [if_pos c18] at hf
            refine lv_iload_n hx hb dX8_writeCodes_108 rfl (lv_at hl 0 rfl) ?_
            refine lv_if_lt (tgt := 121) hx hb dX8_writeCodes_109 (by decide) (fun c19 => ?_) (fun c19 => ?_)
            · rw [if_pos c19] at hf
              refine lv_aload_n hx hb dX8_writeCodes_121 rfl (lv_at hl 2 rfl) ?_
              refine lv_iconst (v := (1 : Int32)) hx hb dX8_writeCodes_122 (by decide) ?_
              refine lv_aload_n hx hb dX8_writeCodes_123 rfl (lv_at hl 2 rfl) ?_
              refine va_get (D := D) (ci := 7) (v := .ref (q 6)) (C := RX8) (T := TX8) (N := 21) hx hb hts (fun w h => List.mem_cons_of_mem _ (List.mem_append_right _ h)) hown hK hP 0 rfl rfl 8 (by decide) (hts (.fieldLink RX8 25 "DeltaWindowsModel" "kind" "[I") (List.mem_of_getElem? (i := 2) rfl)) (fun _ h9 => h9) rfl dX8_writeCodes_124 ?_
              refine lv_iload_n hx hb dX8_writeCodes_127 rfl (lv_at hl 3 rfl) ?_
              obtain ⟨g20, hf⟩ := g_inv hf
              refine va_iald (f := (ar 5)) hx hb hK hP 6 5 rfl rfl (inb_vp g20) dX8_writeCodes_128 ?_
              refine lv_iconst (v := (0 : Int32)) hx hb dX8_writeCodes_129 (by decide) ?_
              refine lv_aload_n hx hb dX8_writeCodes_130 rfl (lv_at hl 2 rfl) ?_
              refine va_get (D := D) (ci := 7) (v := .ref (q 8)) (C := RX8) (T := TX8) (N := 21) hx hb hts (fun w h => List.mem_cons_of_mem _ (List.mem_append_right _ h)) hown hK hP 0 rfl rfl 10 (by decide) (hts (.fieldLink RX8 31 "DeltaWindowsModel" "mode" "[I") (List.mem_of_getElem? (i := 4) rfl)) (fun _ h9 => h9) rfl dX8_writeCodes_131 ?_
              refine lv_iload_n hx hb dX8_writeCodes_134 rfl (lv_at hl 3 rfl) ?_
              obtain ⟨g21, hf⟩ := g_inv hf
              refine va_iald (f := (ar 7)) hx hb hK hP 8 7 rfl rfl (inb_vp g21) dX8_writeCodes_135 ?_
              refine lv_iconst (v := (0 : Int32)) hx hb dX8_writeCodes_136 (by decide) ?_
              refine lv_iconst (v := (0 : Int32)) hx hb dX8_writeCodes_137 (by decide) ?_
              refine lv_iconst (v := (0 : Int32)) hx hb dX8_writeCodes_138 (by decide) ?_
              obtain ⟨R22, hc23, hf⟩ := b_inv hf
              have hk := kcut (wc := ([] : va_W)) (wc' := ([] : va_W)) (wf := (wM q cA sc ar)) hP hD hS hA [] rfl (by decide) rfl rfl
              refine k_goI (va_runS (As := [.int ((ar 5) v1.toNatClampNeg), .int (0 : Int32), .int ((ar 7) v1.toNatClampNeg), .int (0 : Int32), .int (0 : Int32), .int (0 : Int32)]) (rest := [.int (1 : Int32), .ref (q 0)]) ⟨hx, hb, hml, hown, hts⟩ (kX8_find l D ((ar 5) v1.toNatClampNeg) (0 : Int32) ((ar 7) v1.toNatClampNeg) (0 : Int32) (0 : Int32) (0 : Int32) hc23 _) ⟨callB_of 6 hts ggX8_writeCodes_X8_find rfl rfl rfl (hts (.initialized RX8) (List.mem_of_getElem? (i := 7) rfl)) (hts (.methodLink RX8 109 yX8_find) (List.mem_of_getElem? (i := 5) rfl)) (by decide +kernel) ⟨Nat.le_of_ble_eq_true rfl, Nat.le_of_ble_eq_true rfl⟩, (hts (.static yX8_find) (List.mem_of_getElem? (i := 6) rfl))⟩ (k_preS hk (hK.sub [] rfl) NT_bl NT_u) rfl rfl hl.1 rfl (lv_room (Nat.le_of_ble_eq_true rfl)) dX8_writeCodes_139 ⟨Nat.zero_le _, Nat.zero_le _⟩) hk hS (fun H locs hP hD hS => ?_)
              obtain ⟨R24, hc25, hf⟩ := b_inv hf
              have hk := kall (wc' := (wM q cA sc R24)) hP hD hS hA rfl
              refine k_goV (va_runV (As := [.int (1 : Int32), .int R22]) (rest := []) ⟨hx, hb, hml, hown, hts⟩ (kX8_write l D q cA sc ar (1 : Int32) R22 hc25 _) (cwV 2 hts gX8_writeCodes_X8_write rfl rfl rfl (by decide +kernel) ⟨Nat.le_of_ble_eq_true rfl, Nat.le_of_ble_eq_true rfl⟩) (k_preV (q0 := 0) (ci := 7) hk hK NT_bl NT_u rfl rfl rfl) rfl rfl hl.1 rfl (lv_room (Nat.le_of_ble_eq_true rfl)) dX8_writeCodes_142 ⟨Nat.zero_le _, Nat.zero_le _⟩) hk hS (fun H locs hP hD hS => ?_)
              refine lv_aload_n hx hb dX8_writeCodes_145 rfl (lv_at hl 2 rfl) ?_
              refine lv_iconst (v := (1 : Int32)) hx hb dX8_writeCodes_146 (by decide) ?_
              refine lv_aload_n hx hb dX8_writeCodes_147 rfl (lv_at hl 2 rfl) ?_
              refine va_get (D := D) (ci := 7) (v := .ref (q 7)) (C := RX8) (T := TX8) (N := 21) hx hb hts (fun w h => List.mem_cons_of_mem _ (List.mem_append_right _ h)) hown hK hP 0 rfl rfl 9 (by decide) (hts (.fieldLink RX8 28 "DeltaWindowsModel" "size" "[I") (List.mem_of_getElem? (i := 3) rfl)) (fun _ h9 => h9) rfl dX8_writeCodes_148 ?_
              refine lv_iload_n hx hb dX8_writeCodes_151 rfl (lv_at hl 3 rfl) ?_
              obtain ⟨g26, hf⟩ := g_inv hf
              refine va_iald (f := (R24 6)) hx hb hK hP 7 6 rfl rfl (inb_vp g26) dX8_writeCodes_152 ?_
              obtain ⟨R27, hc28, hf⟩ := b_inv hf
              have hk := kall (wc' := (wM q cA sc R27)) hP hD hS hA rfl
              refine k_goV (va_runV (As := [.int (1 : Int32), .int ((R24 6) v1.toNatClampNeg)]) (rest := []) ⟨hx, hb, hml, hown, hts⟩ (kX8_writeInteger l D q cA sc R24 (1 : Int32) ((R24 6) v1.toNatClampNeg) hc28 _) (cwV 2 hts gX8_writeCodes_X8_writeInteger rfl rfl rfl (by decide +kernel) ⟨Nat.le_of_ble_eq_true rfl, Nat.le_of_ble_eq_true rfl⟩) (k_preV (q0 := 0) (ci := 7) hk hK NT_bl NT_u rfl rfl rfl) rfl rfl hl.1 rfl (lv_room (Nat.le_of_ble_eq_true rfl)) dX8_writeCodes_153 ⟨Nat.zero_le _, Nat.zero_le _⟩) hk hS (fun H locs hP hD hS => ?_)
              refine lv_iload_n hx hb dX8_writeCodes_156 rfl (lv_at hl 1 rfl) ?_
              refine lv_if_lt (tgt := 166) hx hb dX8_writeCodes_157 (by decide) (fun c29 => ?_) (fun c29 => ?_)
              · rw [if_pos c29] at hf
                refine lv_iload_n hx hb dX8_writeCodes_166 rfl (lv_at hl 3 rfl) ?_
                refine lv_iconst (v := (1 : Int32)) hx hb dX8_writeCodes_167 (by decide) ?_
                refine lv_iadd hx hb dX8_writeCodes_168 ?_
                refine lv_istore_n (lv' := [(1, .int (v1 + (1 : Int32))), (3, .int R16), (2, .int R12), (0, .ref (q 0))]) hx hb dX8_writeCodes_169 rfl hl (by decide) rfl (fun ls hl => ?_)
                refine lv_goto (tgt := 2) hx hb dX8_writeCodes_170 (by decide) ?_
                exact ih (v1 + (1 : Int32)) R27 _ _ _ o (lv_sub hl [0, 3] rfl) hP hD hS hf kont
              · rw [if_neg c29] at hf
                refine lv_iload_n hx hb dX8_writeCodes_160 rfl (lv_at hl 3 rfl) ?_
                refine lv_iconst (v := (2 : Int32)) hx hb dX8_writeCodes_161 (by decide) ?_
                refine lv_iadd hx hb dX8_writeCodes_162 ?_
                refine lv_goto (tgt := 169) hx hb dX8_writeCodes_163 (by decide) ?_
                refine lv_istore_n (lv' := [(1, .int (v1 + (2 : Int32))), (3, .int R16), (2, .int R12), (0, .ref (q 0))]) hx hb dX8_writeCodes_169 rfl hl (by decide) rfl (fun ls hl => ?_)
                refine lv_goto (tgt := 2) hx hb dX8_writeCodes_170 (by decide) ?_
                exact ih (v1 + (2 : Int32)) R27 _ _ _ o (lv_sub hl [0, 3] rfl) hP hD hS hf kont
            · rw [if_neg c19] at hf
              refine lv_aload_n hx hb dX8_writeCodes_112 rfl (lv_at hl 2 rfl) ?_
              refine lv_iconst (v := (1 : Int32)) hx hb dX8_writeCodes_113 (by decide) ?_
              refine lv_iload_n hx hb dX8_writeCodes_114 rfl (lv_at hl 0 rfl) ?_
              obtain ⟨R30, hc31, hf⟩ := b_inv hf
              have hk := kall (wc' := (wM q cA sc R30)) hP hD hS hA rfl
              refine k_goV (va_runV (As := [.int (1 : Int32), .int R16]) (rest := []) ⟨hx, hb, hml, hown, hts⟩ (kX8_write l D q cA sc ar (1 : Int32) R16 hc31 _) (cwV 2 hts gX8_writeCodes_X8_write rfl rfl rfl (by decide +kernel) ⟨Nat.le_of_ble_eq_true rfl, Nat.le_of_ble_eq_true rfl⟩) (k_preV (q0 := 0) (ci := 7) hk hK NT_bl NT_u rfl rfl rfl) rfl rfl hl.1 rfl (lv_room (Nat.le_of_ble_eq_true rfl)) dX8_writeCodes_115 ⟨Nat.zero_le _, Nat.zero_le _⟩) hk hS (fun H locs hP hD hS => ?_)
              refine lv_goto (tgt := 156) hx hb dX8_writeCodes_118 (by decide) ?_
              refine lv_iload_n hx hb dX8_writeCodes_156 rfl (lv_at hl 1 rfl) ?_
              refine lv_if_lt (tgt := 166) hx hb dX8_writeCodes_157 (by decide) (fun c32 => ?_) (fun c32 => ?_)
              · rw [if_pos c32] at hf
                refine lv_iload_n hx hb dX8_writeCodes_166 rfl (lv_at hl 3 rfl) ?_
                refine lv_iconst (v := (1 : Int32)) hx hb dX8_writeCodes_167 (by decide) ?_
                refine lv_iadd hx hb dX8_writeCodes_168 ?_
                refine lv_istore_n (lv' := [(1, .int (v1 + (1 : Int32))), (3, .int R16), (2, .int R12), (0, .ref (q 0))]) hx hb dX8_writeCodes_169 rfl hl (by decide) rfl (fun ls hl => ?_)
                refine lv_goto (tgt := 2) hx hb dX8_writeCodes_170 (by decide) ?_
                exact ih (v1 + (1 : Int32)) R30 _ _ _ o (lv_sub hl [0, 3] rfl) hP hD hS hf kont
              · rw [if_neg c32] at hf
                refine lv_iload_n hx hb dX8_writeCodes_160 rfl (lv_at hl 3 rfl) ?_
                refine lv_iconst (v := (2 : Int32)) hx hb dX8_writeCodes_161 (by decide) ?_
                refine lv_iadd hx hb dX8_writeCodes_162 ?_
                refine lv_goto (tgt := 169) hx hb dX8_writeCodes_163 (by decide) ?_
                refine lv_istore_n (lv' := [(1, .int (v1 + (2 : Int32))), (3, .int R16), (2, .int R12), (0, .ref (q 0))]) hx hb dX8_writeCodes_169 rfl hl (by decide) rfl (fun ls hl => ?_)
                refine lv_goto (tgt := 2) hx hb dX8_writeCodes_170 (by decide) ?_
                exact ih (v1 + (2 : Int32)) R30 _ _ _ o (lv_sub hl [0, 3] rfl) hP hD hS hf kont
          · rw [if_neg c18] at hf
            refine lv_aload_n hx hb dX8_writeCodes_99 rfl (lv_at hl 2 rfl) ?_
            refine lv_iconst (v := (1 : Int32)) hx hb dX8_writeCodes_100 (by decide) ?_
            refine lv_iload_n hx hb dX8_writeCodes_101 rfl (lv_at hl 1 rfl) ?_
            obtain ⟨R33, hc34, hf⟩ := b_inv hf
            have hk := kall (wc' := (wM q cA sc R33)) hP hD hS hA rfl
            refine k_goV (va_runV (As := [.int (1 : Int32), .int R12]) (rest := []) ⟨hx, hb, hml, hown, hts⟩ (kX8_write l D q cA sc ar (1 : Int32) R12 hc34 _) (cwV 2 hts gX8_writeCodes_X8_write rfl rfl rfl (by decide +kernel) ⟨Nat.le_of_ble_eq_true rfl, Nat.le_of_ble_eq_true rfl⟩) (k_preV (q0 := 0) (ci := 7) hk hK NT_bl NT_u rfl rfl rfl) rfl rfl hl.1 rfl (lv_room (Nat.le_of_ble_eq_true rfl)) dX8_writeCodes_102 ⟨Nat.zero_le _, Nat.zero_le _⟩) hk hS (fun H locs hP hD hS => ?_)
            refine lv_goto (tgt := 156) hx hb dX8_writeCodes_105 (by decide) ?_
            refine lv_iload_n hx hb dX8_writeCodes_156 rfl (lv_at hl 1 rfl) ?_
            refine lv_if_lt (tgt := 166) hx hb dX8_writeCodes_157 (by decide) (fun c35 => ?_) (fun c35 => ?_)
            · rw [if_pos c35] at hf
              refine lv_iload_n hx hb dX8_writeCodes_166 rfl (lv_at hl 3 rfl) ?_
              refine lv_iconst (v := (1 : Int32)) hx hb dX8_writeCodes_167 (by decide) ?_
              refine lv_iadd hx hb dX8_writeCodes_168 ?_
              refine lv_istore_n (lv' := [(1, .int (v1 + (1 : Int32))), (3, .int R16), (2, .int R12), (0, .ref (q 0))]) hx hb dX8_writeCodes_169 rfl hl (by decide) rfl (fun ls hl => ?_)
              refine lv_goto (tgt := 2) hx hb dX8_writeCodes_170 (by decide) ?_
              exact ih (v1 + (1 : Int32)) R33 _ _ _ o (lv_sub hl [0, 3] rfl) hP hD hS hf kont
            · rw [if_neg c35] at hf
              refine lv_iload_n hx hb dX8_writeCodes_160 rfl (lv_at hl 3 rfl) ?_
              refine lv_iconst (v := (2 : Int32)) hx hb dX8_writeCodes_161 (by decide) ?_
              refine lv_iadd hx hb dX8_writeCodes_162 ?_
              refine lv_goto (tgt := 169) hx hb dX8_writeCodes_163 (by decide) ?_
              refine lv_istore_n (lv' := [(1, .int (v1 + (2 : Int32))), (3, .int R16), (2, .int R12), (0, .ref (q 0))]) hx hb dX8_writeCodes_169 rfl hl (by decide) rfl (fun ls hl => ?_)
              refine lv_goto (tgt := 2) hx hb dX8_writeCodes_170 (by decide) ?_
              exact ih (v1 + (2 : Int32)) R33 _ _ _ o (lv_sub hl [0, 3] rfl) hP hD hS hf kont
        refine lv_icmp_ge (tgt := 68) hx hb dX8_writeCodes_17 (by decide) (fun c3 => ?_) (fun c3 => ?_)
        · rw [if_pos c3] at hj39
          refine lv_iconst (v := (-1 : Int32)) hx hb dX8_writeCodes_68 (by decide) ?_
          obtain rfl := Option.some.inj hj39
          exact kont _ _ _ (lv_sub hl [1, 0] rfl) hP hD hS
        · rw [if_neg c3] at hj39
          refine lv_aload_n hx hb dX8_writeCodes_20 rfl (lv_at hl 1 rfl) ?_
          refine va_get (D := D) (ci := 7) (v := .ref (q 6)) (C := RX8) (T := TX8) (N := 21) hx hb hts (fun w h => List.mem_cons_of_mem _ (List.mem_append_right _ h)) hown hK hP 0 rfl rfl 8 (by decide) (hts (.fieldLink RX8 25 "DeltaWindowsModel" "kind" "[I") (List.mem_of_getElem? (i := 2) rfl)) (fun _ h9 => h9) rfl dX8_writeCodes_21 ?_
          refine lv_iload_n hx hb dX8_writeCodes_24 rfl (lv_at hl 0 rfl) ?_
          obtain ⟨g4, hj39⟩ := g_inv hj39
          refine va_iald (f := (ar 5)) hx hb hK hP 6 5 rfl rfl (inb_vp g4) dX8_writeCodes_25 ?_
          refine lv_aload_n hx hb dX8_writeCodes_26 rfl (lv_at hl 1 rfl) ?_
          refine va_get (D := D) (ci := 7) (v := .ref (q 7)) (C := RX8) (T := TX8) (N := 21) hx hb hts (fun w h => List.mem_cons_of_mem _ (List.mem_append_right _ h)) hown hK hP 0 rfl rfl 9 (by decide) (hts (.fieldLink RX8 28 "DeltaWindowsModel" "size" "[I") (List.mem_of_getElem? (i := 3) rfl)) (fun _ h9 => h9) rfl dX8_writeCodes_27 ?_
          refine lv_iload_n hx hb dX8_writeCodes_30 rfl (lv_at hl 0 rfl) ?_
          obtain ⟨g5, hj39⟩ := g_inv hj39
          refine va_iald (f := (ar 6)) hx hb hK hP 7 6 rfl rfl (inb_vp g5) dX8_writeCodes_31 ?_
          refine lv_aload_n hx hb dX8_writeCodes_32 rfl (lv_at hl 1 rfl) ?_
          refine va_get (D := D) (ci := 7) (v := .ref (q 8)) (C := RX8) (T := TX8) (N := 21) hx hb hts (fun w h => List.mem_cons_of_mem _ (List.mem_append_right _ h)) hown hK hP 0 rfl rfl 10 (by decide) (hts (.fieldLink RX8 31 "DeltaWindowsModel" "mode" "[I") (List.mem_of_getElem? (i := 4) rfl)) (fun _ h9 => h9) rfl dX8_writeCodes_33 ?_
          refine lv_iload_n hx hb dX8_writeCodes_36 rfl (lv_at hl 0 rfl) ?_
          obtain ⟨g6, hj39⟩ := g_inv hj39
          refine va_iald (f := (ar 7)) hx hb hK hP 8 7 rfl rfl (inb_vp g6) dX8_writeCodes_37 ?_
          refine lv_aload_n hx hb dX8_writeCodes_38 rfl (lv_at hl 1 rfl) ?_
          refine va_get (D := D) (ci := 7) (v := .ref (q 6)) (C := RX8) (T := TX8) (N := 21) hx hb hts (fun w h => List.mem_cons_of_mem _ (List.mem_append_right _ h)) hown hK hP 0 rfl rfl 8 (by decide) (hts (.fieldLink RX8 25 "DeltaWindowsModel" "kind" "[I") (List.mem_of_getElem? (i := 2) rfl)) (fun _ h9 => h9) rfl dX8_writeCodes_39 ?_
          refine lv_iload_n hx hb dX8_writeCodes_42 rfl (lv_at hl 0 rfl) ?_
          refine lv_iconst (v := (1 : Int32)) hx hb dX8_writeCodes_43 (by decide) ?_
          refine lv_iadd hx hb dX8_writeCodes_44 ?_
          obtain ⟨g7, hj39⟩ := g_inv hj39
          refine va_iald (f := (ar 5)) hx hb hK hP 6 5 rfl rfl (inb_vp g7) dX8_writeCodes_45 ?_
          refine lv_aload_n hx hb dX8_writeCodes_46 rfl (lv_at hl 1 rfl) ?_
          refine va_get (D := D) (ci := 7) (v := .ref (q 7)) (C := RX8) (T := TX8) (N := 21) hx hb hts (fun w h => List.mem_cons_of_mem _ (List.mem_append_right _ h)) hown hK hP 0 rfl rfl 9 (by decide) (hts (.fieldLink RX8 28 "DeltaWindowsModel" "size" "[I") (List.mem_of_getElem? (i := 3) rfl)) (fun _ h9 => h9) rfl dX8_writeCodes_47 ?_
          refine lv_iload_n hx hb dX8_writeCodes_50 rfl (lv_at hl 0 rfl) ?_
          refine lv_iconst (v := (1 : Int32)) hx hb dX8_writeCodes_51 (by decide) ?_
          refine lv_iadd hx hb dX8_writeCodes_52 ?_
          obtain ⟨g8, hj39⟩ := g_inv hj39
          refine va_iald (f := (ar 6)) hx hb hK hP 7 6 rfl rfl (inb_vp g8) dX8_writeCodes_53 ?_
          refine lv_aload_n hx hb dX8_writeCodes_54 rfl (lv_at hl 1 rfl) ?_
          refine va_get (D := D) (ci := 7) (v := .ref (q 8)) (C := RX8) (T := TX8) (N := 21) hx hb hts (fun w h => List.mem_cons_of_mem _ (List.mem_append_right _ h)) hown hK hP 0 rfl rfl 10 (by decide) (hts (.fieldLink RX8 31 "DeltaWindowsModel" "mode" "[I") (List.mem_of_getElem? (i := 4) rfl)) (fun _ h9 => h9) rfl dX8_writeCodes_55 ?_
          refine lv_iload_n hx hb dX8_writeCodes_58 rfl (lv_at hl 0 rfl) ?_
          refine lv_iconst (v := (1 : Int32)) hx hb dX8_writeCodes_59 (by decide) ?_
          refine lv_iadd hx hb dX8_writeCodes_60 ?_
          obtain ⟨g9, hj39⟩ := g_inv hj39
          refine va_iald (f := (ar 7)) hx hb hK hP 8 7 rfl rfl (inb_vp g9) dX8_writeCodes_61 ?_
          obtain ⟨R10, hc11, hj39⟩ := b_inv hj39
          have hk := kcut (wc := ([] : va_W)) (wc' := ([] : va_W)) (wf := (wM q cA sc ar)) hP hD hS hA [] rfl (by decide) rfl rfl
          refine k_goI (va_runS (As := [.int ((ar 5) v1.toNatClampNeg), .int ((ar 6) v1.toNatClampNeg), .int ((ar 7) v1.toNatClampNeg), .int ((ar 5) (v1 + (1 : Int32)).toNatClampNeg), .int ((ar 6) (v1 + (1 : Int32)).toNatClampNeg), .int ((ar 7) (v1 + (1 : Int32)).toNatClampNeg)]) (rest := []) ⟨hx, hb, hml, hown, hts⟩ (kX8_find l D ((ar 5) v1.toNatClampNeg) ((ar 6) v1.toNatClampNeg) ((ar 7) v1.toNatClampNeg) ((ar 5) (v1 + (1 : Int32)).toNatClampNeg) ((ar 6) (v1 + (1 : Int32)).toNatClampNeg) ((ar 7) (v1 + (1 : Int32)).toNatClampNeg) hc11 _) ⟨callB_of 6 hts ggX8_writeCodes_X8_find rfl rfl rfl (hts (.initialized RX8) (List.mem_of_getElem? (i := 7) rfl)) (hts (.methodLink RX8 109 yX8_find) (List.mem_of_getElem? (i := 5) rfl)) (by decide +kernel) ⟨Nat.le_of_ble_eq_true rfl, Nat.le_of_ble_eq_true rfl⟩, (hts (.static yX8_find) (List.mem_of_getElem? (i := 6) rfl))⟩ (k_preS hk (hK.sub [] rfl) NT_bl NT_u) rfl rfl hl.1 rfl (lv_room (Nat.le_of_ble_eq_true rfl)) dX8_writeCodes_62 ⟨Nat.zero_le _, Nat.zero_le _⟩) hk hS (fun H locs hP hD hS => ?_)
          refine lv_goto (tgt := 69) hx hb dX8_writeCodes_65 (by decide) ?_
          obtain rfl := Option.some.inj hj39
          exact kont _ _ _ (lv_sub hl [1, 0] rfl) hP hD hS
  obtain ⟨R36, hc37, hf⟩ := b_inv hf
  refine lp38 sc FU (0 : Int32) ar _ _ _ R36 (lv_sub hl [0, 1] rfl) hP hD hS hc37 (fun H locs ls hl hP hD hS => ?_)
  obtain rfl := Option.some.inj hf
  exact k_retV hx hb hr hlocks hP hS dX8_writeCodes_173

noncomputable def fX8_window_L14 (sc : Nat → Int32) (v1 : Int32) (v2 : Int32) (v3 : Int32) : Nat → (Int32) → (Nat → Nat → Int32) → Option ((Nat → Nat → Int32))
  | 0, _, _ => none
  | k + 1, v4, ar =>
    if (3 : Int32) ≤ v4 then
      some ar
    else
      if inb v4 3 = true then
      fX8_window_L14 sc v1 v2 v3 k (v4 + (1 : Int32)) (va_up ar 9 (upd (ar 9) v4.toNatClampNeg (0 : Int32)))
      else none

noncomputable def fX8_window_L90 (sc : Nat → Int32) (ar : Nat → Nat → Int32) (v1 : Int32) (v2 : Int32) : Nat → (Int32) → (Int32) → Option (Int32)
  | 0, _, _ => none
  | k + 1, v3, v4 =>
    if (3 : Int32) ≤ v4 then
      some v3
    else
      if inb v4 3 = true then
      if inb v4 3 = true then
      (fX8_bytesOf ((ar 9) v4.toNatClampNeg)).bind fun R29 =>
      fX8_window_L90 sc ar v1 v2 k ((v3 + ((ar 9) v4.toNatClampNeg)) + R29) (v4 + (1 : Int32))
      else none
      else none

noncomputable def fX8_window_L153 (sc : Nat → Int32) : Nat → (Int32) → (Nat → Nat → Int32) → Option ((Nat → Nat → Int32))
  | 0, _, _ => none
  | k + 1, v4, ar =>
    if (3 : Int32) ≤ v4 then
      some ar
    else
      if inb v4 3 = true then
      (fX8_appendInteger sc ar ((ar 9) v4.toNatClampNeg)).bind fun R43 =>
      fX8_window_L153 sc k (v4 + (1 : Int32)) R43
      else none

noncomputable def fX8_window_L188 (sc : Nat → Int32) (v4 : Int32) : Nat → (Int32) → (Nat → Nat → Int32) → Option ((Nat → Nat → Int32))
  | 0, _, _ => none
  | k + 1, v5, ar =>
    if inb v4 3 = true then
    if ((ar 9) v4.toNatClampNeg) ≤ v5 then
      some ar
    else
      if inb (((400 : Int32) * v4) + v5) 1200 = true then
      (fX8_append sc ar (2 : Int32) ((ar 8) (((400 : Int32) * v4) + v5).toNatClampNeg)).bind fun R51 =>
      fX8_window_L188 sc v4 k (v5 + (1 : Int32)) R51
      else none
    else none

noncomputable def fX8_window_L179 (sc : Nat → Int32) : Nat → (Int32) → (Nat → Nat → Int32) → Option ((Nat → Nat → Int32))
  | 0, _, _ => none
  | k + 1, v4, ar =>
    if (3 : Int32) ≤ v4 then
      some ar
    else
      (fX8_window_L188 sc v4 FU (0 : Int32) ar).bind fun R53 =>
      fX8_window_L179 sc k (v4 + (1 : Int32)) R53

noncomputable def fX8_window (sc : Nat → Int32) (ar : Nat → Nat → Int32) (x1 : Int32) (x2 : Int32) : Option ((Nat → Int32) × (Nat → Nat → Int32)) :=
  (fX8_forget sc ar).bind fun R1 =>
  (fX8_window_L14 (va_up R1.1 2 (0 : Int32)) x1 x2 (0 : Int32) FU (0 : Int32) R1.2).bind fun R5 =>
  (fX8_findInstructions (va_up R1.1 2 (0 : Int32)) R5 x1 x2).bind fun R7 =>
  (fX8_writeCodes R7.1 R7.2).bind fun R9 =>
  if inb (0 : Int32) 5 = true then
  (if ((R9 1) (0 : Int32).toNatClampNeg) ≤ 0 then
      some (0 : Int32)
    else
      some (1 : Int32) : Option (Int32)).bind fun R14 =>
  (fX8_append R7.1 R9 (2 : Int32) R14).bind fun R15 =>
  if inb (0 : Int32) 5 = true then
  (if ((R15 1) (0 : Int32).toNatClampNeg) ≤ 0 then
      some R15
    else
      if inb (0 : Int32) 5 = true then
      (fX8_appendInteger R7.1 R15 ((R15 1) (0 : Int32).toNatClampNeg)).bind fun R21 =>
      (fX8_appendInteger R7.1 R21 (0 : Int32)).bind fun R23 =>
      some R23
      else none : Option ((Nat → Nat → Int32))).bind fun R25 =>
  (fX8_window_L90 R7.1 R25 x1 x2 FU (0 : Int32) (0 : Int32)).bind fun R31 =>
  (fX8_bytesOf (x2 - x1)).bind fun R33 =>
  (fX8_appendInteger R7.1 R25 ((R31 + R33) + (1 : Int32))).bind fun R35 =>
  (fX8_appendInteger R7.1 R35 (x2 - x1)).bind fun R37 =>
  (fX8_append R7.1 R37 (2 : Int32) (0 : Int32)).bind fun R39 =>
  (fX8_window_L153 R7.1 FU (0 : Int32) R39).bind fun R45 =>
  (fX8_window_L179 R7.1 FU (0 : Int32) R45).bind fun R55 =>
  some (R7.1, R55)
  else none
  else none

set_option maxHeartbeats 4000000 in
set_option maxRecDepth 100000 in
theorem kX8_window (l : Launch) (D : va_G) (q : Nat → Nat) (cA : Nat → ClassId) (sc : Nat → Int32) (ar : Nat → Nat → Int32) (x1 : Int32) (x2 : Int32) {R : (Nat → Int32) × (Nat → Nat → Int32)} (hf : fX8_window sc ar x1 x2 = some R) : MV l yX8_window wsX8_window (rmD 4) D ([.ref (q 0), .int x1, .int x2] : List Value) (wM q cA sc ar) (tM cA) NT (wM q cA R.1 R.2) := by
  refine MV.mk (cc := cX8_window) (maxL := 6) (ret := none) (by first | decide | decide +kernel) rfl (Nat.le_of_ble_eq_true rfl) ?_
  intro p e s m below meth cd A ls hE
  obtain ⟨hx, hb, hr, hml, hts, hown, hlocks, hP, hK, hD, hA, hN, hAe, hl⟩ := hE
  have hown : s.vm.findClass RX8 = some m.cls := hown
  have hS : va_S A s.heap s.heap [] := va_S.rf
  have hl : lv_has ls 6 [(0, .ref (q 0)), (1, .int x1), (2, .int x2)] := hl
  rw [fX8_window] at hf
  refine lv_aload_n hx hb dX8_window_0 rfl (lv_at hl 0 rfl) ?_
  obtain ⟨R1, hc2, hf⟩ := b_inv hf
  have hk := kall (wc' := (wM q cA R1.1 R1.2)) hP hD hS hA rfl
  refine k_goV (va_runV (As := []) (rest := []) ⟨hx, hb, hml, hown, hts⟩ (kX8_forget l D q cA sc ar hc2 _) (cwV 0 hts gX8_window_X8_forget rfl rfl rfl (by decide +kernel) ⟨Nat.le_of_ble_eq_true rfl, Nat.le_of_ble_eq_true rfl⟩) (k_preV (q0 := 0) (ci := 7) hk hK NT_bl NT_u rfl rfl rfl) rfl rfl hl.1 rfl (lv_room (Nat.le_of_ble_eq_true rfl)) dX8_window_1 ⟨Nat.zero_le _, Nat.zero_le _⟩) hk hS (fun H locs hP hD hS => ?_)
  refine lv_aload_n hx hb dX8_window_4 rfl (lv_at hl 0 rfl) ?_
  refine lv_iconst (v := (0 : Int32)) hx hb dX8_window_5 (by decide) ?_
  refine va_put (D := D) (ci := 7) (v := .int (0 : Int32)) (ty := .int) (C := RX8) (T := TX8) (N := 21) hx hb hts (fun w h => List.mem_cons_of_mem _ (List.mem_append_right _ h)) tyX8 tyX8_ok nmX8 hown hK hP hD hS 0 rfl rfl 7 (by decide) (hts (.fieldLink RX8 79 "DeltaWindowsModel" "many" "I") (List.mem_of_getElem? (i := 1) rfl)) (fun _ h9 => h9) rfl (by decide +kernel) rfl rfl (Nat.le_of_ble_eq_true rfl) dX8_window_6 (fun H locs hP hD hS => ?_)
  have hP : va_P D vwCl (wM q cA (va_up R1.1 2 (0 : Int32)) R1.2) H := va_P_eq (wM_s2 q cA R1.1 R1.2 (0 : Int32)) hP
  have hD : va_D A (wM q cA (va_up R1.1 2 (0 : Int32)) R1.2) := va_D_eq (wM_s2 q cA R1.1 R1.2 (0 : Int32)) hD
  refine lv_iconst (v := (0 : Int32)) hx hb dX8_window_9 (by decide) ?_
  refine lv_istore_n (lv' := [(3, .int (0 : Int32)), (0, .ref (q 0)), (1, .int x1), (2, .int x2)]) hx hb dX8_window_10 rfl hl (by decide) rfl (fun ls hl => ?_)
  refine lv_iconst (v := (0 : Int32)) hx hb dX8_window_11 (by decide) ?_
  refine lv_istore (lv' := [(4, .int (0 : Int32)), (3, .int (0 : Int32)), (0, .ref (q 0)), (1, .int x1), (2, .int x2)]) hx hb dX8_window_12 hl (by decide) rfl (fun ls hl => ?_)
  have lp57 : ∀ (sc : Nat → Int32) (v1 : Int32) (v2 : Int32) (v3 : Int32), ∀ (k : Nat) (v4 : Int32) (ar : Nat → Nat → Int32) (H : Heap) (locs : List Loc) (ls : Array Slot) (o : (Nat → Nat → Int32)), lv_has ls 6 [(4, .int v4), (1, .int v1), (2, .int v2), (3, .int v3), (0, .ref (q 0))] → va_P D vwCl (wM q cA sc ar) H → va_D A (wM q cA sc ar) → va_S A s.heap H locs → fX8_window_L14 sc v1 v2 v3 k v4 ar = some o → (∀ (H : Heap) (locs : List Loc) (ls : Array Slot), lv_has ls 6 [(1, .int v1), (2, .int v2), (3, .int v3), (0, .ref (q 0))] → va_P D vwCl (wM q cA sc o) H → va_D A (wM q cA sc o) → va_S A s.heap H locs → W p l e (headSpec wsX8_window (rmD 4)).room s m ([.ref (q 0), .int x1, .int x2] : List Value).toArray below meth cd H locs 0 0 (QV D below ([.ref (q 0), .int x1, .int x2] : List Value).toArray s A (wM q cA R.1 R.2)) (F0 m 34 ls [])) → W p l e (headSpec wsX8_window (rmD 4)).room s m ([.ref (q 0), .int x1, .int x2] : List Value).toArray below meth cd H locs 0 0 (QV D below ([.ref (q 0), .int x1, .int x2] : List Value).toArray s A (wM q cA R.1 R.2)) (F0 m 14 ls []) := by
    intro sc v1 v2 v3
    intro k
    induction k with
    | zero =>
      intro v4 ar H locs ls o hl hP hD hS hf
      exact absurd hf (by simp [fX8_window_L14])
    | succ k ih =>
      intro v4 ar H locs ls o hl hP hD hS hf kont
      rw [fX8_window_L14] at hf
      refine lv_iload hx hb dX8_window_14 (lv_at hl 0 rfl) ?_
      refine lv_iconst (v := (3 : Int32)) hx hb dX8_window_16 (by decide) ?_
      refine lv_icmp_ge (tgt := 34) hx hb dX8_window_17 (by decide) (fun c3 => ?_) (fun c3 => ?_)
      · rw [if_pos c3] at hf
        obtain rfl := Option.some.inj hf
        exact kont _ _ _ (lv_sub hl [1, 2, 3, 4] rfl) hP hD hS
      · rw [if_neg c3] at hf
        refine lv_aload_n hx hb dX8_window_20 rfl (lv_at hl 4 rfl) ?_
        refine va_get (D := D) (ci := 7) (v := .ref (q 10)) (C := RX8) (T := TX8) (N := 21) hx hb hts (fun w h => List.mem_cons_of_mem _ (List.mem_append_right _ h)) hown hK hP 0 rfl rfl 12 (by decide) (hts (.fieldLink RX8 37 "DeltaWindowsModel" "written" "[I") (List.mem_of_getElem? (i := 2) rfl)) (fun _ h9 => h9) rfl dX8_window_21 ?_
        refine lv_iload hx hb dX8_window_24 (lv_at hl 0 rfl) ?_
        refine lv_iconst (v := (0 : Int32)) hx hb dX8_window_26 (by decide) ?_
        obtain ⟨g4, hf⟩ := g_inv hf
        refine va_iast (f := (ar 9)) hx hb hK hP hD hS 10 9 rfl rfl (inb_vp g4) dX8_window_27 (fun H locs hP hD hS => ?_)
        have hP : va_P D vwCl (wM q cA sc (va_up ar 9 (upd (ar 9) v4.toNatClampNeg (0 : Int32)))) H := va_P_eq (wM_a9 q cA sc ar (upd (ar 9) v4.toNatClampNeg (0 : Int32))) hP
        have hD : va_D A (wM q cA sc (va_up ar 9 (upd (ar 9) v4.toNatClampNeg (0 : Int32)))) := va_D_eq (wM_a9 q cA sc ar (upd (ar 9) v4.toNatClampNeg (0 : Int32))) hD
        refine lv_iinc (v := (v4 + (1 : Int32))) (lv' := [(4, .int (v4 + (1 : Int32))), (1, .int v1), (2, .int v2), (3, .int v3), (0, .ref (q 0))]) hx hb dX8_window_28 hl (k := 0) rfl rfl (by decide) rfl (fun ls hl => ?_)
        refine lv_goto (tgt := 14) hx hb dX8_window_31 (by decide) ?_
        exact ih (v4 + (1 : Int32)) (va_up ar 9 (upd (ar 9) v4.toNatClampNeg (0 : Int32))) _ _ _ o (lv_sub hl [0, 1, 2, 3, 4] rfl) hP hD hS hf kont
  obtain ⟨R5, hc6, hf⟩ := b_inv hf
  refine lp57 (va_up R1.1 2 (0 : Int32)) x1 x2 (0 : Int32) FU (0 : Int32) R1.2 _ _ _ R5 (lv_sub hl [0, 3, 4, 1, 2] rfl) hP hD hS hc6 (fun H locs ls hl hP hD hS => ?_)
  refine lv_aload_n hx hb dX8_window_34 rfl (lv_at hl 3 rfl) ?_
  refine lv_iload_n hx hb dX8_window_35 rfl (lv_at hl 0 rfl) ?_
  refine lv_iload_n hx hb dX8_window_36 rfl (lv_at hl 1 rfl) ?_
  obtain ⟨R7, hc8, hf⟩ := b_inv hf
  have hk := kall (wc' := (wM q cA R7.1 R7.2)) hP hD hS hA rfl
  refine k_goV (va_runV (As := [.int x1, .int x2]) (rest := []) ⟨hx, hb, hml, hown, hts⟩ (kX8_findInstructions l D q cA (va_up R1.1 2 (0 : Int32)) R5 x1 x2 hc8 _) (cwV 2 hts gX8_window_X8_findInstructions rfl rfl rfl (by decide +kernel) ⟨Nat.le_of_ble_eq_true rfl, Nat.le_of_ble_eq_true rfl⟩) (k_preV (q0 := 0) (ci := 7) hk hK NT_bl NT_u rfl rfl rfl) rfl rfl hl.1 rfl (lv_room (Nat.le_of_ble_eq_true rfl)) dX8_window_37 ⟨Nat.zero_le _, Nat.zero_le _⟩) hk hS (fun H locs hP hD hS => ?_)
  refine lv_aload_n hx hb dX8_window_40 rfl (lv_at hl 3 rfl) ?_
  obtain ⟨R9, hc10, hf⟩ := b_inv hf
  have hk := kall (wc' := (wM q cA R7.1 R9)) hP hD hS hA rfl
  refine k_goV (va_runV (As := []) (rest := []) ⟨hx, hb, hml, hown, hts⟩ (kX8_writeCodes l D q cA R7.1 R7.2 hc10 _) (cwV 0 hts gX8_window_X8_writeCodes rfl rfl rfl (by decide +kernel) ⟨Nat.le_of_ble_eq_true rfl, Nat.le_of_ble_eq_true rfl⟩) (k_preV (q0 := 0) (ci := 7) hk hK NT_bl NT_u rfl rfl rfl) rfl rfl hl.1 rfl (lv_room (Nat.le_of_ble_eq_true rfl)) dX8_window_41 ⟨Nat.zero_le _, Nat.zero_le _⟩) hk hS (fun H locs hP hD hS => ?_)
  refine lv_aload_n hx hb dX8_window_44 rfl (lv_at hl 3 rfl) ?_
  refine lv_iconst (v := (2 : Int32)) hx hb dX8_window_45 (by decide) ?_
  refine lv_aload_n hx hb dX8_window_46 rfl (lv_at hl 3 rfl) ?_
  refine va_get (D := D) (ci := 7) (v := .ref (q 2)) (C := RX8) (T := TX8) (N := 21) hx hb hts (fun w h => List.mem_cons_of_mem _ (List.mem_append_right _ h)) hown hK hP 0 rfl rfl 1 (by decide) (hts (.fieldLink RX8 13 "DeltaWindowsModel" "length" "[I") (List.mem_of_getElem? (i := 3) rfl)) (fun _ h9 => h9) rfl dX8_window_47 ?_
  refine lv_iconst (v := (0 : Int32)) hx hb dX8_window_50 (by decide) ?_
  obtain ⟨g11, hf⟩ := g_inv hf
  refine va_iald (f := (R9 1)) hx hb hK hP 2 1 rfl rfl (inb_vp g11) dX8_window_51 ?_
  obtain ⟨R14, hj58, hf⟩ := b_inv hf
  have kont : ∀ (H : Heap) (locs : List Loc) (ls : Array Slot), lv_has ls 6 [(0, .ref (q 0)), (1, .int x1), (2, .int x2), (3, .int (0 : Int32))] → va_P D vwCl (wM q cA R7.1 R9) H → va_D A (wM q cA R7.1 R9) → va_S A s.heap H locs → W p l e (headSpec wsX8_window (rmD 4)).room s m ([.ref (q 0), .int x1, .int x2] : List Value).toArray below meth cd H locs 0 0 (QV D below ([.ref (q 0), .int x1, .int x2] : List Value).toArray s A (wM q cA R.1 R.2)) (F0 m 60 ls [.int R14, .int (2 : Int32), .ref (q 0)]) := by
    intro H locs ls hl hP hD hS
    obtain ⟨R15, hc16, hf⟩ := b_inv hf
    have hk := kall (wc' := (wM q cA R7.1 R15)) hP hD hS hA rfl
    refine k_goV (va_runV (As := [.int (2 : Int32), .int R14]) (rest := []) ⟨hx, hb, hml, hown, hts⟩ (kX8_append l D q cA R7.1 R9 (2 : Int32) R14 hc16 _) (cwV 2 hts gX8_window_X8_append rfl rfl rfl (by decide +kernel) ⟨Nat.le_of_ble_eq_true rfl, Nat.le_of_ble_eq_true rfl⟩) (k_preV (q0 := 0) (ci := 7) hk hK NT_bl NT_u rfl rfl rfl) rfl rfl hl.1 rfl (lv_room (Nat.le_of_ble_eq_true rfl)) dX8_window_60 ⟨Nat.zero_le _, Nat.zero_le _⟩) hk hS (fun H locs hP hD hS => ?_)
    refine lv_aload_n hx hb dX8_window_63 rfl (lv_at hl 0 rfl) ?_
    refine va_get (D := D) (ci := 7) (v := .ref (q 2)) (C := RX8) (T := TX8) (N := 21) hx hb hts (fun w h => List.mem_cons_of_mem _ (List.mem_append_right _ h)) hown hK hP 0 rfl rfl 1 (by decide) (hts (.fieldLink RX8 13 "DeltaWindowsModel" "length" "[I") (List.mem_of_getElem? (i := 3) rfl)) (fun _ h9 => h9) rfl dX8_window_64 ?_
    refine lv_iconst (v := (0 : Int32)) hx hb dX8_window_67 (by decide) ?_
    obtain ⟨g17, hf⟩ := g_inv hf
    refine va_iald (f := (R15 1)) hx hb hK hP 2 1 rfl rfl (inb_vp g17) dX8_window_68 ?_
    obtain ⟨R25, hj59, hf⟩ := b_inv hf
    have kont : ∀ (H : Heap) (locs : List Loc) (ls : Array Slot), lv_has ls 6 [(0, .ref (q 0)), (1, .int x1), (2, .int x2), (3, .int (0 : Int32))] → va_P D vwCl (wM q cA R7.1 R25) H → va_D A (wM q cA R7.1 R25) → va_S A s.heap H locs → W p l e (headSpec wsX8_window (rmD 4)).room s m ([.ref (q 0), .int x1, .int x2] : List Value).toArray below meth cd H locs 0 0 (QV D below ([.ref (q 0), .int x1, .int x2] : List Value).toArray s A (wM q cA R.1 R.2)) (F0 m 87 ls []) := by
      intro H locs ls hl hP hD hS
      refine lv_iconst (v := (0 : Int32)) hx hb dX8_window_87 (by decide) ?_
      refine lv_istore (lv' := [(4, .int (0 : Int32)), (0, .ref (q 0)), (1, .int x1), (2, .int x2), (3, .int (0 : Int32))]) hx hb dX8_window_88 hl (by decide) rfl (fun ls hl => ?_)
      have lp60 : ∀ (sc : Nat → Int32) (ar : Nat → Nat → Int32) (v1 : Int32) (v2 : Int32), ∀ (k : Nat) (v3 : Int32) (v4 : Int32) (H : Heap) (locs : List Loc) (ls : Array Slot) (o : Int32), lv_has ls 6 [(3, .int v3), (4, .int v4), (1, .int v1), (2, .int v2), (0, .ref (q 0))] → va_P D vwCl (wM q cA sc ar) H → va_D A (wM q cA sc ar) → va_S A s.heap H locs → fX8_window_L90 sc ar v1 v2 k v3 v4 = some o → (∀ (H : Heap) (locs : List Loc) (ls : Array Slot), lv_has ls 6 [(3, .int o), (1, .int v1), (2, .int v2), (0, .ref (q 0))] → va_P D vwCl (wM q cA sc ar) H → va_D A (wM q cA sc ar) → va_S A s.heap H locs → W p l e (headSpec wsX8_window (rmD 4)).room s m ([.ref (q 0), .int x1, .int x2] : List Value).toArray below meth cd H locs 0 0 (QV D below ([.ref (q 0), .int x1, .int x2] : List Value).toArray s A (wM q cA R.1 R.2)) (F0 m 123 ls [])) → W p l e (headSpec wsX8_window (rmD 4)).room s m ([.ref (q 0), .int x1, .int x2] : List Value).toArray below meth cd H locs 0 0 (QV D below ([.ref (q 0), .int x1, .int x2] : List Value).toArray s A (wM q cA R.1 R.2)) (F0 m 90 ls []) := by
        intro sc ar v1 v2
        intro k
        induction k with
        | zero =>
          intro v3 v4 H locs ls o hl hP hD hS hf
          exact absurd hf (by simp [fX8_window_L90])
        | succ k ih =>
          intro v3 v4 H locs ls o hl hP hD hS hf kont
          rw [fX8_window_L90] at hf
          refine lv_iload hx hb dX8_window_90 (lv_at hl 1 rfl) ?_
          refine lv_iconst (v := (3 : Int32)) hx hb dX8_window_92 (by decide) ?_
          refine lv_icmp_ge (tgt := 123) hx hb dX8_window_93 (by decide) (fun c26 => ?_) (fun c26 => ?_)
          · rw [if_pos c26] at hf
            obtain rfl := Option.some.inj hf
            exact kont _ _ _ (lv_sub hl [0, 2, 3, 4] rfl) hP hD hS
          · rw [if_neg c26] at hf
            refine lv_iload_n hx hb dX8_window_96 rfl (lv_at hl 0 rfl) ?_
            refine lv_aload_n hx hb dX8_window_97 rfl (lv_at hl 4 rfl) ?_
            refine va_get (D := D) (ci := 7) (v := .ref (q 10)) (C := RX8) (T := TX8) (N := 21) hx hb hts (fun w h => List.mem_cons_of_mem _ (List.mem_append_right _ h)) hown hK hP 0 rfl rfl 12 (by decide) (hts (.fieldLink RX8 37 "DeltaWindowsModel" "written" "[I") (List.mem_of_getElem? (i := 2) rfl)) (fun _ h9 => h9) rfl dX8_window_98 ?_
            refine lv_iload hx hb dX8_window_101 (lv_at hl 1 rfl) ?_
            obtain ⟨g27, hf⟩ := g_inv hf
            refine va_iald (f := (ar 9)) hx hb hK hP 10 9 rfl rfl (inb_vp g27) dX8_window_103 ?_
            refine lv_iadd hx hb dX8_window_104 ?_
            refine lv_aload_n hx hb dX8_window_105 rfl (lv_at hl 4 rfl) ?_
            refine va_get (D := D) (ci := 7) (v := .ref (q 10)) (C := RX8) (T := TX8) (N := 21) hx hb hts (fun w h => List.mem_cons_of_mem _ (List.mem_append_right _ h)) hown hK hP 0 rfl rfl 12 (by decide) (hts (.fieldLink RX8 37 "DeltaWindowsModel" "written" "[I") (List.mem_of_getElem? (i := 2) rfl)) (fun _ h9 => h9) rfl dX8_window_106 ?_
            refine lv_iload hx hb dX8_window_109 (lv_at hl 1 rfl) ?_
            obtain ⟨g28, hf⟩ := g_inv hf
            refine va_iald (f := (ar 9)) hx hb hK hP 10 9 rfl rfl (inb_vp g28) dX8_window_111 ?_
            obtain ⟨R29, hc30, hf⟩ := b_inv hf
            have hk := kcut (wc := ([] : va_W)) (wc' := ([] : va_W)) (wf := (wM q cA sc ar)) hP hD hS hA [] rfl (by decide) rfl rfl
            refine k_goI (va_runS (As := [.int ((ar 9) v4.toNatClampNeg)]) (rest := [.int (v3 + ((ar 9) v4.toNatClampNeg))]) ⟨hx, hb, hml, hown, hts⟩ (kX8_bytesOf l D ((ar 9) v4.toNatClampNeg) hc30 _) ⟨callB_of 1 hts ggX8_window_X8_bytesOf rfl rfl rfl (hts (.initialized RX8) (List.mem_of_getElem? (i := 8) rfl)) (hts (.methodLink RX8 66 yX8_bytesOf) (List.mem_of_getElem? (i := 53) rfl)) (by decide +kernel) ⟨Nat.le_of_ble_eq_true rfl, Nat.le_of_ble_eq_true rfl⟩, (hts (.static yX8_bytesOf) (List.mem_of_getElem? (i := 54) rfl))⟩ (k_preS hk (hK.sub [] rfl) NT_bl NT_u) rfl rfl hl.1 rfl (lv_room (Nat.le_of_ble_eq_true rfl)) dX8_window_112 ⟨Nat.zero_le _, Nat.zero_le _⟩) hk hS (fun H locs hP hD hS => ?_)
            refine lv_iadd hx hb dX8_window_115 ?_
            refine lv_istore_n (lv' := [(3, .int ((v3 + ((ar 9) v4.toNatClampNeg)) + R29)), (4, .int v4), (1, .int v1), (2, .int v2), (0, .ref (q 0))]) hx hb dX8_window_116 rfl hl (by decide) rfl (fun ls hl => ?_)
            refine lv_iinc (v := (v4 + (1 : Int32))) (lv' := [(4, .int (v4 + (1 : Int32))), (3, .int ((v3 + ((ar 9) v4.toNatClampNeg)) + R29)), (1, .int v1), (2, .int v2), (0, .ref (q 0))]) hx hb dX8_window_117 hl (k := 1) rfl rfl (by decide) rfl (fun ls hl => ?_)
            refine lv_goto (tgt := 90) hx hb dX8_window_120 (by decide) ?_
            exact ih ((v3 + ((ar 9) v4.toNatClampNeg)) + R29) (v4 + (1 : Int32)) _ _ _ o (lv_sub hl [1, 0, 2, 3, 4] rfl) hP hD hS hf kont
      obtain ⟨R31, hc32, hf⟩ := b_inv hf
      refine lp60 R7.1 R25 x1 x2 FU (0 : Int32) (0 : Int32) _ _ _ R31 (lv_sub hl [4, 0, 2, 3, 1] rfl) hP hD hS hc32 (fun H locs ls hl hP hD hS => ?_)
      refine lv_aload_n hx hb dX8_window_123 rfl (lv_at hl 3 rfl) ?_
      refine lv_iload_n hx hb dX8_window_124 rfl (lv_at hl 0 rfl) ?_
      refine lv_iload_n hx hb dX8_window_125 rfl (lv_at hl 2 rfl) ?_
      refine lv_iload_n hx hb dX8_window_126 rfl (lv_at hl 1 rfl) ?_
      refine lv_isub hx hb dX8_window_127 ?_
      obtain ⟨R33, hc34, hf⟩ := b_inv hf
      have hk := kcut (wc := ([] : va_W)) (wc' := ([] : va_W)) (wf := (wM q cA R7.1 R25)) hP hD hS hA [] rfl (by decide) rfl rfl
      refine k_goI (va_runS (As := [.int (x2 - x1)]) (rest := [.int R31, .ref (q 0)]) ⟨hx, hb, hml, hown, hts⟩ (kX8_bytesOf l D (x2 - x1) hc34 _) ⟨callB_of 1 hts ggX8_window_X8_bytesOf rfl rfl rfl (hts (.initialized RX8) (List.mem_of_getElem? (i := 8) rfl)) (hts (.methodLink RX8 66 yX8_bytesOf) (List.mem_of_getElem? (i := 53) rfl)) (by decide +kernel) ⟨Nat.le_of_ble_eq_true rfl, Nat.le_of_ble_eq_true rfl⟩, (hts (.static yX8_bytesOf) (List.mem_of_getElem? (i := 54) rfl))⟩ (k_preS hk (hK.sub [] rfl) NT_bl NT_u) rfl rfl hl.1 rfl (lv_room (Nat.le_of_ble_eq_true rfl)) dX8_window_128 ⟨Nat.zero_le _, Nat.zero_le _⟩) hk hS (fun H locs hP hD hS => ?_)
      refine lv_iadd hx hb dX8_window_131 ?_
      refine lv_iconst (v := (1 : Int32)) hx hb dX8_window_132 (by decide) ?_
      refine lv_iadd hx hb dX8_window_133 ?_
      obtain ⟨R35, hc36, hf⟩ := b_inv hf
      have hk := kall (wc' := (wM q cA R7.1 R35)) hP hD hS hA rfl
      refine k_goV (va_runV (As := [.int ((R31 + R33) + (1 : Int32))]) (rest := []) ⟨hx, hb, hml, hown, hts⟩ (kX8_appendInteger l D q cA R7.1 R25 ((R31 + R33) + (1 : Int32)) hc36 _) (cwV 1 hts gX8_window_X8_appendInteger rfl rfl rfl (by decide +kernel) ⟨Nat.le_of_ble_eq_true rfl, Nat.le_of_ble_eq_true rfl⟩) (k_preV (q0 := 0) (ci := 7) hk hK NT_bl NT_u rfl rfl rfl) rfl rfl hl.1 rfl (lv_room (Nat.le_of_ble_eq_true rfl)) dX8_window_134 ⟨Nat.zero_le _, Nat.zero_le _⟩) hk hS (fun H locs hP hD hS => ?_)
      refine lv_aload_n hx hb dX8_window_137 rfl (lv_at hl 3 rfl) ?_
      refine lv_iload_n hx hb dX8_window_138 rfl (lv_at hl 2 rfl) ?_
      refine lv_iload_n hx hb dX8_window_139 rfl (lv_at hl 1 rfl) ?_
      refine lv_isub hx hb dX8_window_140 ?_
      obtain ⟨R37, hc38, hf⟩ := b_inv hf
      have hk := kall (wc' := (wM q cA R7.1 R37)) hP hD hS hA rfl
      refine k_goV (va_runV (As := [.int (x2 - x1)]) (rest := []) ⟨hx, hb, hml, hown, hts⟩ (kX8_appendInteger l D q cA R7.1 R35 (x2 - x1) hc38 _) (cwV 1 hts gX8_window_X8_appendInteger rfl rfl rfl (by decide +kernel) ⟨Nat.le_of_ble_eq_true rfl, Nat.le_of_ble_eq_true rfl⟩) (k_preV (q0 := 0) (ci := 7) hk hK NT_bl NT_u rfl rfl rfl) rfl rfl hl.1 rfl (lv_room (Nat.le_of_ble_eq_true rfl)) dX8_window_141 ⟨Nat.zero_le _, Nat.zero_le _⟩) hk hS (fun H locs hP hD hS => ?_)
      refine lv_aload_n hx hb dX8_window_144 rfl (lv_at hl 3 rfl) ?_
      refine lv_iconst (v := (2 : Int32)) hx hb dX8_window_145 (by decide) ?_
      refine lv_iconst (v := (0 : Int32)) hx hb dX8_window_146 (by decide) ?_
      obtain ⟨R39, hc40, hf⟩ := b_inv hf
      have hk := kall (wc' := (wM q cA R7.1 R39)) hP hD hS hA rfl
      refine k_goV (va_runV (As := [.int (2 : Int32), .int (0 : Int32)]) (rest := []) ⟨hx, hb, hml, hown, hts⟩ (kX8_append l D q cA R7.1 R37 (2 : Int32) (0 : Int32) hc40 _) (cwV 2 hts gX8_window_X8_append rfl rfl rfl (by decide +kernel) ⟨Nat.le_of_ble_eq_true rfl, Nat.le_of_ble_eq_true rfl⟩) (k_preV (q0 := 0) (ci := 7) hk hK NT_bl NT_u rfl rfl rfl) rfl rfl hl.1 rfl (lv_room (Nat.le_of_ble_eq_true rfl)) dX8_window_147 ⟨Nat.zero_le _, Nat.zero_le _⟩) hk hS (fun H locs hP hD hS => ?_)
      refine lv_iconst (v := (0 : Int32)) hx hb dX8_window_150 (by decide) ?_
      refine lv_istore (lv' := [(4, .int (0 : Int32)), (3, .int R31), (1, .int x1), (2, .int x2), (0, .ref (q 0))]) hx hb dX8_window_151 hl (by decide) rfl (fun ls hl => ?_)
      have lp61 : ∀ (sc : Nat → Int32), ∀ (k : Nat) (v4 : Int32) (ar : Nat → Nat → Int32) (H : Heap) (locs : List Loc) (ls : Array Slot) (o : (Nat → Nat → Int32)), lv_has ls 6 [(4, .int v4), (0, .ref (q 0))] → va_P D vwCl (wM q cA sc ar) H → va_D A (wM q cA sc ar) → va_S A s.heap H locs → fX8_window_L153 sc k v4 ar = some o → (∀ (H : Heap) (locs : List Loc) (ls : Array Slot), lv_has ls 6 [(0, .ref (q 0))] → va_P D vwCl (wM q cA sc o) H → va_D A (wM q cA sc o) → va_S A s.heap H locs → W p l e (headSpec wsX8_window (rmD 4)).room s m ([.ref (q 0), .int x1, .int x2] : List Value).toArray below meth cd H locs 0 0 (QV D below ([.ref (q 0), .int x1, .int x2] : List Value).toArray s A (wM q cA R.1 R.2)) (F0 m 176 ls [])) → W p l e (headSpec wsX8_window (rmD 4)).room s m ([.ref (q 0), .int x1, .int x2] : List Value).toArray below meth cd H locs 0 0 (QV D below ([.ref (q 0), .int x1, .int x2] : List Value).toArray s A (wM q cA R.1 R.2)) (F0 m 153 ls []) := by
        intro sc
        intro k
        induction k with
        | zero =>
          intro v4 ar H locs ls o hl hP hD hS hf
          exact absurd hf (by simp [fX8_window_L153])
        | succ k ih =>
          intro v4 ar H locs ls o hl hP hD hS hf kont
          rw [fX8_window_L153] at hf
          refine lv_iload hx hb dX8_window_153 (lv_at hl 0 rfl) ?_
          refine lv_iconst (v := (3 : Int32)) hx hb dX8_window_155 (by decide) ?_
          refine lv_icmp_ge (tgt := 176) hx hb dX8_window_156 (by decide) (fun c41 => ?_) (fun c41 => ?_)
          · rw [if_pos c41] at hf
            obtain rfl := Option.some.inj hf
            exact kont _ _ _ (lv_sub hl [1] rfl) hP hD hS
          · rw [if_neg c41] at hf
            refine lv_aload_n hx hb dX8_window_159 rfl (lv_at hl 1 rfl) ?_
            refine lv_aload_n hx hb dX8_window_160 rfl (lv_at hl 1 rfl) ?_
            refine va_get (D := D) (ci := 7) (v := .ref (q 10)) (C := RX8) (T := TX8) (N := 21) hx hb hts (fun w h => List.mem_cons_of_mem _ (List.mem_append_right _ h)) hown hK hP 0 rfl rfl 12 (by decide) (hts (.fieldLink RX8 37 "DeltaWindowsModel" "written" "[I") (List.mem_of_getElem? (i := 2) rfl)) (fun _ h9 => h9) rfl dX8_window_161 ?_
            refine lv_iload hx hb dX8_window_164 (lv_at hl 0 rfl) ?_
            obtain ⟨g42, hf⟩ := g_inv hf
            refine va_iald (f := (ar 9)) hx hb hK hP 10 9 rfl rfl (inb_vp g42) dX8_window_166 ?_
            obtain ⟨R43, hc44, hf⟩ := b_inv hf
            have hk := kall (wc' := (wM q cA sc R43)) hP hD hS hA rfl
            refine k_goV (va_runV (As := [.int ((ar 9) v4.toNatClampNeg)]) (rest := []) ⟨hx, hb, hml, hown, hts⟩ (kX8_appendInteger l D q cA sc ar ((ar 9) v4.toNatClampNeg) hc44 _) (cwV 1 hts gX8_window_X8_appendInteger rfl rfl rfl (by decide +kernel) ⟨Nat.le_of_ble_eq_true rfl, Nat.le_of_ble_eq_true rfl⟩) (k_preV (q0 := 0) (ci := 7) hk hK NT_bl NT_u rfl rfl rfl) rfl rfl hl.1 rfl (lv_room (Nat.le_of_ble_eq_true rfl)) dX8_window_167 ⟨Nat.zero_le _, Nat.zero_le _⟩) hk hS (fun H locs hP hD hS => ?_)
            refine lv_iinc (v := (v4 + (1 : Int32))) (lv' := [(4, .int (v4 + (1 : Int32))), (0, .ref (q 0))]) hx hb dX8_window_170 hl (k := 0) rfl rfl (by decide) rfl (fun ls hl => ?_)
            refine lv_goto (tgt := 153) hx hb dX8_window_173 (by decide) ?_
            exact ih (v4 + (1 : Int32)) R43 _ _ _ o (lv_sub hl [0, 1] rfl) hP hD hS hf kont
      obtain ⟨R45, hc46, hf⟩ := b_inv hf
      refine lp61 R7.1 FU (0 : Int32) R39 _ _ _ R45 (lv_sub hl [0, 4] rfl) hP hD hS hc46 (fun H locs ls hl hP hD hS => ?_)
      refine lv_iconst (v := (0 : Int32)) hx hb dX8_window_176 (by decide) ?_
      refine lv_istore (lv' := [(4, .int (0 : Int32)), (0, .ref (q 0))]) hx hb dX8_window_177 hl (by decide) rfl (fun ls hl => ?_)
      have lp62 : ∀ (sc : Nat → Int32), ∀ (k : Nat) (v4 : Int32) (ar : Nat → Nat → Int32) (H : Heap) (locs : List Loc) (ls : Array Slot) (o : (Nat → Nat → Int32)), lv_has ls 6 [(4, .int v4), (0, .ref (q 0))] → va_P D vwCl (wM q cA sc ar) H → va_D A (wM q cA sc ar) → va_S A s.heap H locs → fX8_window_L179 sc k v4 ar = some o → (∀ (H : Heap) (locs : List Loc) (ls : Array Slot), lv_has ls 6 [] → va_P D vwCl (wM q cA sc o) H → va_D A (wM q cA sc o) → va_S A s.heap H locs → W p l e (headSpec wsX8_window (rmD 4)).room s m ([.ref (q 0), .int x1, .int x2] : List Value).toArray below meth cd H locs 0 0 (QV D below ([.ref (q 0), .int x1, .int x2] : List Value).toArray s A (wM q cA R.1 R.2)) (F0 m 231 ls [])) → W p l e (headSpec wsX8_window (rmD 4)).room s m ([.ref (q 0), .int x1, .int x2] : List Value).toArray below meth cd H locs 0 0 (QV D below ([.ref (q 0), .int x1, .int x2] : List Value).toArray s A (wM q cA R.1 R.2)) (F0 m 179 ls []) := by
        intro sc
        intro k
        induction k with
        | zero =>
          intro v4 ar H locs ls o hl hP hD hS hf
          exact absurd hf (by simp [fX8_window_L179])
        | succ k ih =>
          intro v4 ar H locs ls o hl hP hD hS hf kont
          rw [fX8_window_L179] at hf
          refine lv_iload hx hb dX8_window_179 (lv_at hl 0 rfl) ?_
          refine lv_iconst (v := (3 : Int32)) hx hb dX8_window_181 (by decide) ?_
          refine lv_icmp_ge (tgt := 231) hx hb dX8_window_182 (by decide) (fun c47 => ?_) (fun c47 => ?_)
          · rw [if_pos c47] at hf
            obtain rfl := Option.some.inj hf
            exact kont _ _ _ (lv_sub hl [] rfl) hP hD hS
          · rw [if_neg c47] at hf
            refine lv_iconst (v := (0 : Int32)) hx hb dX8_window_185 (by decide) ?_
            refine lv_istore (lv' := [(5, .int (0 : Int32)), (4, .int v4), (0, .ref (q 0))]) hx hb dX8_window_186 hl (by decide) rfl (fun ls hl => ?_)
            have lp63 : ∀ (sc : Nat → Int32) (v4 : Int32), ∀ (k : Nat) (v5 : Int32) (ar : Nat → Nat → Int32) (H : Heap) (locs : List Loc) (ls : Array Slot) (o : (Nat → Nat → Int32)), lv_has ls 6 [(5, .int v5), (4, .int v4), (0, .ref (q 0))] → va_P D vwCl (wM q cA sc ar) H → va_D A (wM q cA sc ar) → va_S A s.heap H locs → fX8_window_L188 sc v4 k v5 ar = some o → (∀ (H : Heap) (locs : List Loc) (ls : Array Slot), lv_has ls 6 [(4, .int v4), (0, .ref (q 0))] → va_P D vwCl (wM q cA sc o) H → va_D A (wM q cA sc o) → va_S A s.heap H locs → W p l e (headSpec wsX8_window (rmD 4)).room s m ([.ref (q 0), .int x1, .int x2] : List Value).toArray below meth cd H locs 0 0 (QV D below ([.ref (q 0), .int x1, .int x2] : List Value).toArray s A (wM q cA R.1 R.2)) (F0 m 225 ls [])) → W p l e (headSpec wsX8_window (rmD 4)).room s m ([.ref (q 0), .int x1, .int x2] : List Value).toArray below meth cd H locs 0 0 (QV D below ([.ref (q 0), .int x1, .int x2] : List Value).toArray s A (wM q cA R.1 R.2)) (F0 m 188 ls []) := by
              intro sc v4
              intro k
              induction k with
              | zero =>
                intro v5 ar H locs ls o hl hP hD hS hf
                exact absurd hf (by simp [fX8_window_L188])
              | succ k ih =>
                intro v5 ar H locs ls o hl hP hD hS hf kont
                rw [fX8_window_L188] at hf
                refine lv_iload hx hb dX8_window_188 (lv_at hl 0 rfl) ?_
                refine lv_aload_n hx hb dX8_window_190 rfl (lv_at hl 2 rfl) ?_
                refine va_get (D := D) (ci := 7) (v := .ref (q 10)) (C := RX8) (T := TX8) (N := 21) hx hb hts (fun w h => List.mem_cons_of_mem _ (List.mem_append_right _ h)) hown hK hP 0 rfl rfl 12 (by decide) (hts (.fieldLink RX8 37 "DeltaWindowsModel" "written" "[I") (List.mem_of_getElem? (i := 2) rfl)) (fun _ h9 => h9) rfl dX8_window_191 ?_
                refine lv_iload hx hb dX8_window_194 (lv_at hl 1 rfl) ?_
                obtain ⟨g48, hf⟩ := g_inv hf
                refine va_iald (f := (ar 9)) hx hb hK hP 10 9 rfl rfl (inb_vp g48) dX8_window_196 ?_
                refine lv_icmp_ge (tgt := 225) hx hb dX8_window_197 (by decide) (fun c49 => ?_) (fun c49 => ?_)
                · rw [if_pos c49] at hf
                  obtain rfl := Option.some.inj hf
                  exact kont _ _ _ (lv_sub hl [1, 2] rfl) hP hD hS
                · rw [if_neg c49] at hf
                  refine lv_aload_n hx hb dX8_window_200 rfl (lv_at hl 2 rfl) ?_
                  refine lv_iconst (v := (2 : Int32)) hx hb dX8_window_201 (by decide) ?_
                  refine lv_aload_n hx hb dX8_window_202 rfl (lv_at hl 2 rfl) ?_
                  refine va_get (D := D) (ci := 7) (v := .ref (q 9)) (C := RX8) (T := TX8) (N := 21) hx hb hts (fun w h => List.mem_cons_of_mem _ (List.mem_append_right _ h)) hown hK hP 0 rfl rfl 11 (by decide) (hts (.fieldLink RX8 34 "DeltaWindowsModel" "section" "[I") (List.mem_of_getElem? (i := 4) rfl)) (fun _ h9 => h9) rfl dX8_window_203 ?_
                  refine lv_sipush (v := (400 : Int32)) hx hb dX8_window_206 (by decide) ?_
                  refine lv_iload hx hb dX8_window_209 (lv_at hl 1 rfl) ?_
                  refine lv_imul hx hb dX8_window_211 ?_
                  refine lv_iload hx hb dX8_window_212 (lv_at hl 0 rfl) ?_
                  refine lv_iadd hx hb dX8_window_214 ?_
                  obtain ⟨g50, hf⟩ := g_inv hf
                  refine va_iald (f := (ar 8)) hx hb hK hP 9 8 rfl rfl (inb_vp g50) dX8_window_215 ?_
                  obtain ⟨R51, hc52, hf⟩ := b_inv hf
                  have hk := kall (wc' := (wM q cA sc R51)) hP hD hS hA rfl
                  refine k_goV (va_runV (As := [.int (2 : Int32), .int ((ar 8) (((400 : Int32) * v4) + v5).toNatClampNeg)]) (rest := []) ⟨hx, hb, hml, hown, hts⟩ (kX8_append l D q cA sc ar (2 : Int32) ((ar 8) (((400 : Int32) * v4) + v5).toNatClampNeg) hc52 _) (cwV 2 hts gX8_window_X8_append rfl rfl rfl (by decide +kernel) ⟨Nat.le_of_ble_eq_true rfl, Nat.le_of_ble_eq_true rfl⟩) (k_preV (q0 := 0) (ci := 7) hk hK NT_bl NT_u rfl rfl rfl) rfl rfl hl.1 rfl (lv_room (Nat.le_of_ble_eq_true rfl)) dX8_window_216 ⟨Nat.zero_le _, Nat.zero_le _⟩) hk hS (fun H locs hP hD hS => ?_)
                  refine lv_iinc (v := (v5 + (1 : Int32))) (lv' := [(5, .int (v5 + (1 : Int32))), (4, .int v4), (0, .ref (q 0))]) hx hb dX8_window_219 hl (k := 0) rfl rfl (by decide) rfl (fun ls hl => ?_)
                  refine lv_goto (tgt := 188) hx hb dX8_window_222 (by decide) ?_
                  exact ih (v5 + (1 : Int32)) R51 _ _ _ o (lv_sub hl [0, 1, 2] rfl) hP hD hS hf kont
            obtain ⟨R53, hc54, hf⟩ := b_inv hf
            refine lp63 sc v4 FU (0 : Int32) ar _ _ _ R53 (lv_sub hl [0, 1, 2] rfl) hP hD hS hc54 (fun H locs ls hl hP hD hS => ?_)
            refine lv_iinc (v := (v4 + (1 : Int32))) (lv' := [(4, .int (v4 + (1 : Int32))), (0, .ref (q 0))]) hx hb dX8_window_225 hl (k := 0) rfl rfl (by decide) rfl (fun ls hl => ?_)
            refine lv_goto (tgt := 179) hx hb dX8_window_228 (by decide) ?_
            exact ih (v4 + (1 : Int32)) R53 _ _ _ o (lv_sub hl [0, 1] rfl) hP hD hS hf kont
      obtain ⟨R55, hc56, hf⟩ := b_inv hf
      refine lp62 R7.1 FU (0 : Int32) R45 _ _ _ R55 (lv_sub hl [0, 1] rfl) hP hD hS hc56 (fun H locs ls hl hP hD hS => ?_)
      obtain rfl := Option.some.inj hf
      exact k_retV hx hb hr hlocks hP hS dX8_window_231
    refine lv_if_le (tgt := 87) hx hb dX8_window_69 (by decide) (fun c19 => ?_) (fun c19 => ?_)
    · rw [if_pos c19] at hj59
      obtain rfl := Option.some.inj hj59
      exact kont _ _ _ (lv_sub hl [0, 1, 2, 3] rfl) hP hD hS
    · rw [if_neg c19] at hj59
      refine lv_aload_n hx hb dX8_window_72 rfl (lv_at hl 0 rfl) ?_
      refine lv_aload_n hx hb dX8_window_73 rfl (lv_at hl 0 rfl) ?_
      refine va_get (D := D) (ci := 7) (v := .ref (q 2)) (C := RX8) (T := TX8) (N := 21) hx hb hts (fun w h => List.mem_cons_of_mem _ (List.mem_append_right _ h)) hown hK hP 0 rfl rfl 1 (by decide) (hts (.fieldLink RX8 13 "DeltaWindowsModel" "length" "[I") (List.mem_of_getElem? (i := 3) rfl)) (fun _ h9 => h9) rfl dX8_window_74 ?_
      refine lv_iconst (v := (0 : Int32)) hx hb dX8_window_77 (by decide) ?_
      obtain ⟨g20, hj59⟩ := g_inv hj59
      refine va_iald (f := (R15 1)) hx hb hK hP 2 1 rfl rfl (inb_vp g20) dX8_window_78 ?_
      obtain ⟨R21, hc22, hj59⟩ := b_inv hj59
      have hk := kall (wc' := (wM q cA R7.1 R21)) hP hD hS hA rfl
      refine k_goV (va_runV (As := [.int ((R15 1) (0 : Int32).toNatClampNeg)]) (rest := []) ⟨hx, hb, hml, hown, hts⟩ (kX8_appendInteger l D q cA R7.1 R15 ((R15 1) (0 : Int32).toNatClampNeg) hc22 _) (cwV 1 hts gX8_window_X8_appendInteger rfl rfl rfl (by decide +kernel) ⟨Nat.le_of_ble_eq_true rfl, Nat.le_of_ble_eq_true rfl⟩) (k_preV (q0 := 0) (ci := 7) hk hK NT_bl NT_u rfl rfl rfl) rfl rfl hl.1 rfl (lv_room (Nat.le_of_ble_eq_true rfl)) dX8_window_79 ⟨Nat.zero_le _, Nat.zero_le _⟩) hk hS (fun H locs hP hD hS => ?_)
      refine lv_aload_n hx hb dX8_window_82 rfl (lv_at hl 0 rfl) ?_
      refine lv_iconst (v := (0 : Int32)) hx hb dX8_window_83 (by decide) ?_
      obtain ⟨R23, hc24, hj59⟩ := b_inv hj59
      have hk := kall (wc' := (wM q cA R7.1 R23)) hP hD hS hA rfl
      refine k_goV (va_runV (As := [.int (0 : Int32)]) (rest := []) ⟨hx, hb, hml, hown, hts⟩ (kX8_appendInteger l D q cA R7.1 R21 (0 : Int32) hc24 _) (cwV 1 hts gX8_window_X8_appendInteger rfl rfl rfl (by decide +kernel) ⟨Nat.le_of_ble_eq_true rfl, Nat.le_of_ble_eq_true rfl⟩) (k_preV (q0 := 0) (ci := 7) hk hK NT_bl NT_u rfl rfl rfl) rfl rfl hl.1 rfl (lv_room (Nat.le_of_ble_eq_true rfl)) dX8_window_84 ⟨Nat.zero_le _, Nat.zero_le _⟩) hk hS (fun H locs hP hD hS => ?_)
      obtain rfl := Option.some.inj hj59
      exact kont _ _ _ (lv_sub hl [0, 1, 2, 3] rfl) hP hD hS
  refine lv_if_le (tgt := 59) hx hb dX8_window_52 (by decide) (fun c13 => ?_) (fun c13 => ?_)
  · rw [if_pos c13] at hj58
    refine lv_iconst (v := (0 : Int32)) hx hb dX8_window_59 (by decide) ?_
    obtain rfl := Option.some.inj hj58
    exact kont _ _ _ (lv_sub hl [3, 0, 1, 2] rfl) hP hD hS
  · rw [if_neg c13] at hj58
    refine lv_iconst (v := (1 : Int32)) hx hb dX8_window_55 (by decide) ?_
    refine lv_goto (tgt := 60) hx hb dX8_window_56 (by decide) ?_
    obtain rfl := Option.some.inj hj58
    exact kont _ _ _ (lv_sub hl [3, 0, 1, 2] rfl) hP hD hS

noncomputable def fX8_encode_L26 (sc : Nat → Int32) (v1 : Int32) : Nat → (Int32) → (Nat → Nat → Int32) → Option ((Nat → Nat → Int32))
  | 0, _, _ => none
  | k + 1, v2, ar =>
    if (5 : Int32) ≤ v2 then
      some ar
    else
      (fX8_head v2).bind fun R7 =>
      (fX8_append sc ar (2 : Int32) R7).bind fun R9 =>
      fX8_encode_L26 sc v1 k (v2 + (1 : Int32)) R9

noncomputable def fX8_encode_L48 (v1 : Int32) : Nat → (Int32) → (Nat → Int32) → (Nat → Nat → Int32) → Option ((Nat → Int32) × (Nat → Nat → Int32))
  | 0, _, _, _ => none
  | k + 1, v2, sc, ar =>
    if inb (1 : Int32) 5 = true then
    if ((ar 1) (1 : Int32).toNatClampNeg) ≤ v2 then
      some (sc, ar)
    else
      if inb (1 : Int32) 5 = true then
      if ((ar 1) (1 : Int32).toNatClampNeg) ≤ (v2 + v1) then
        if inb (1 : Int32) 5 = true then
        (fX8_window sc ar v2 ((ar 1) (1 : Int32).toNatClampNeg)).bind fun R18 =>
        fX8_encode_L48 v1 k (v2 + v1) R18.1 R18.2
        else none
      else
        (fX8_window sc ar v2 (v2 + v1)).bind fun R20 =>
        fX8_encode_L48 v1 k (v2 + v1) R20.1 R20.2
      else none
    else none

noncomputable def fX8_encode (sc : Nat → Int32) (ar : Nat → Nat → Int32) (x1 : Int32) : Option (Int32 × (Nat → Int32) × (Nat → Nat → Int32)) :=
  if x1 < (1 : Int32) then
    some ((-1 : Int32), sc, ar)
  else
    if x1 ≤ (64 : Int32) then
      (fX8_forget sc ar).bind fun R3 =>
      if inb (2 : Int32) 5 = true then
      (fX8_encode_L26 R3.1 x1 FU (0 : Int32) (va_up R3.2 1 (upd (R3.2 1) (2 : Int32).toNatClampNeg (0 : Int32)))).bind fun R11 =>
      (fX8_encode_L48 x1 FU (0 : Int32) R3.1 R11).bind fun R22 =>
      (fX8_show R22.1 R22.2 (0 : Int32)).bind fun R24 =>
      if inb (2 : Int32) 5 = true then
      some (((R24 1) (2 : Int32).toNatClampNeg), R22.1, R24)
      else none
      else none
    else
      some ((-1 : Int32), sc, ar)

set_option maxHeartbeats 4000000 in
set_option maxRecDepth 100000 in
theorem kX8_encode (l : Launch) (D : va_G) (q : Nat → Nat) (cA : Nat → ClassId) (sc : Nat → Int32) (ar : Nat → Nat → Int32) (x1 : Int32) {R : Int32 × (Nat → Int32) × (Nat → Nat → Int32)} (hf : fX8_encode sc ar x1 = some R) : MI l yX8_encode wsX8_encode (rmD 5) D ([.ref (q 0), .int x1] : List Value) (wM q cA sc ar) (tM cA) NT R.1 (wM q cA R.2.1 R.2.2) := by
  refine MI.mk (cc := cX8_encode) (maxL := 3) (ret := (some .int)) (by first | decide | decide +kernel) rfl (Nat.le_of_ble_eq_true rfl) ?_
  intro p e s m below meth cd A ls hE
  obtain ⟨hx, hb, hr, hml, hts, hown, hlocks, hP, hK, hD, hA, hN, hAe, hl⟩ := hE
  have hown : s.vm.findClass RX8 = some m.cls := hown
  have hS : va_S A s.heap s.heap [] := va_S.rf
  have hl : lv_has ls 3 [(0, .ref (q 0)), (1, .int x1)] := hl
  rw [fX8_encode] at hf
  refine lv_iload_n hx hb dX8_encode_0 rfl (lv_at hl 1 rfl) ?_
  refine lv_iconst (v := (1 : Int32)) hx hb dX8_encode_1 (by decide) ?_
  refine lv_icmp_lt (tgt := 11) hx hb dX8_encode_2 (by decide) (fun c1 => ?_) (fun c1 => ?_)
  · rw [if_pos c1] at hf
    refine lv_iconst (v := (-1 : Int32)) hx hb dX8_encode_11 (by decide) ?_
    obtain rfl := Option.some.inj hf
    exact k_retI hx hb hr hlocks hP hS dX8_encode_12
  · rw [if_neg c1] at hf
    refine lv_iload_n hx hb dX8_encode_5 rfl (lv_at hl 1 rfl) ?_
    refine lv_bipush (v := (64 : Int32)) hx hb dX8_encode_6 (by decide) ?_
    refine lv_icmp_le (tgt := 13) hx hb dX8_encode_8 (by decide) (fun c2 => ?_) (fun c2 => ?_)
    · rw [if_pos c2] at hf
      refine lv_aload_n hx hb dX8_encode_13 rfl (lv_at hl 0 rfl) ?_
      obtain ⟨R3, hc4, hf⟩ := b_inv hf
      have hk := kall (wc' := (wM q cA R3.1 R3.2)) hP hD hS hA rfl
      refine k_goV (va_runV (As := []) (rest := []) ⟨hx, hb, hml, hown, hts⟩ (kX8_forget l D q cA sc ar hc4 _) (cwV 0 hts gX8_encode_X8_forget rfl rfl rfl (by decide +kernel) ⟨Nat.le_of_ble_eq_true rfl, Nat.le_of_ble_eq_true rfl⟩) (k_preV (q0 := 0) (ci := 7) hk hK NT_bl NT_u rfl rfl rfl) rfl rfl hl.1 rfl (lv_room (Nat.le_of_ble_eq_true rfl)) dX8_encode_14 ⟨Nat.zero_le _, Nat.zero_le _⟩) hk hS (fun H locs hP hD hS => ?_)
      refine lv_aload_n hx hb dX8_encode_17 rfl (lv_at hl 0 rfl) ?_
      refine va_get (D := D) (ci := 7) (v := .ref (q 2)) (C := RX8) (T := TX8) (N := 21) hx hb hts (fun w h => List.mem_cons_of_mem _ (List.mem_append_right _ h)) hown hK hP 0 rfl rfl 1 (by decide) (hts (.fieldLink RX8 13 "DeltaWindowsModel" "length" "[I") (List.mem_of_getElem? (i := 1) rfl)) (fun _ h9 => h9) rfl dX8_encode_18 ?_
      refine lv_iconst (v := (2 : Int32)) hx hb dX8_encode_21 (by decide) ?_
      refine lv_iconst (v := (0 : Int32)) hx hb dX8_encode_22 (by decide) ?_
      obtain ⟨g5, hf⟩ := g_inv hf
      refine va_iast (f := (R3.2 1)) hx hb hK hP hD hS 2 1 rfl rfl (inb_vp g5) dX8_encode_23 (fun H locs hP hD hS => ?_)
      have hP : va_P D vwCl (wM q cA R3.1 (va_up R3.2 1 (upd (R3.2 1) (2 : Int32).toNatClampNeg (0 : Int32)))) H := va_P_eq (wM_a1 q cA R3.1 R3.2 (upd (R3.2 1) (2 : Int32).toNatClampNeg (0 : Int32))) hP
      have hD : va_D A (wM q cA R3.1 (va_up R3.2 1 (upd (R3.2 1) (2 : Int32).toNatClampNeg (0 : Int32)))) := va_D_eq (wM_a1 q cA R3.1 R3.2 (upd (R3.2 1) (2 : Int32).toNatClampNeg (0 : Int32))) hD
      refine lv_iconst (v := (0 : Int32)) hx hb dX8_encode_24 (by decide) ?_
      refine lv_istore_n (lv' := [(2, .int (0 : Int32)), (0, .ref (q 0)), (1, .int x1)]) hx hb dX8_encode_25 rfl hl (by decide) rfl (fun ls hl => ?_)
      have lp27 : ∀ (sc : Nat → Int32) (v1 : Int32), ∀ (k : Nat) (v2 : Int32) (ar : Nat → Nat → Int32) (H : Heap) (locs : List Loc) (ls : Array Slot) (o : (Nat → Nat → Int32)), lv_has ls 3 [(2, .int v2), (1, .int v1), (0, .ref (q 0))] → va_P D vwCl (wM q cA sc ar) H → va_D A (wM q cA sc ar) → va_S A s.heap H locs → fX8_encode_L26 sc v1 k v2 ar = some o → (∀ (H : Heap) (locs : List Loc) (ls : Array Slot), lv_has ls 3 [(1, .int v1), (0, .ref (q 0))] → va_P D vwCl (wM q cA sc o) H → va_D A (wM q cA sc o) → va_S A s.heap H locs → W p l e (headSpec wsX8_encode (rmD 5)).room s m ([.ref (q 0), .int x1] : List Value).toArray below meth cd H locs 0 0 (QI D below ([.ref (q 0), .int x1] : List Value).toArray s A R.1 (wM q cA R.2.1 R.2.2)) (F0 m 46 ls [])) → W p l e (headSpec wsX8_encode (rmD 5)).room s m ([.ref (q 0), .int x1] : List Value).toArray below meth cd H locs 0 0 (QI D below ([.ref (q 0), .int x1] : List Value).toArray s A R.1 (wM q cA R.2.1 R.2.2)) (F0 m 26 ls []) := by
        intro sc v1
        intro k
        induction k with
        | zero =>
          intro v2 ar H locs ls o hl hP hD hS hf
          exact absurd hf (by simp [fX8_encode_L26])
        | succ k ih =>
          intro v2 ar H locs ls o hl hP hD hS hf kont
          rw [fX8_encode_L26] at hf
          refine lv_iload_n hx hb dX8_encode_26 rfl (lv_at hl 0 rfl) ?_
          refine lv_iconst (v := (5 : Int32)) hx hb dX8_encode_27 (by decide) ?_
          refine lv_icmp_ge (tgt := 46) hx hb dX8_encode_28 (by decide) (fun c6 => ?_) (fun c6 => ?_)
          · rw [if_pos c6] at hf
            obtain rfl := Option.some.inj hf
            exact kont _ _ _ (lv_sub hl [1, 2] rfl) hP hD hS
          · rw [if_neg c6] at hf
            refine lv_aload_n hx hb dX8_encode_31 rfl (lv_at hl 2 rfl) ?_
            refine lv_iconst (v := (2 : Int32)) hx hb dX8_encode_32 (by decide) ?_
            refine lv_iload_n hx hb dX8_encode_33 rfl (lv_at hl 0 rfl) ?_
            obtain ⟨R7, hc8, hf⟩ := b_inv hf
            have hk := kcut (wc := ([] : va_W)) (wc' := ([] : va_W)) (wf := (wM q cA sc ar)) hP hD hS hA [] rfl (by decide) rfl rfl
            refine k_goI (va_runS (As := [.int v2]) (rest := [.int (2 : Int32), .ref (q 0)]) ⟨hx, hb, hml, hown, hts⟩ (kX8_head l D v2 hc8 _) ⟨callB_of 1 hts ggX8_encode_X8_head rfl rfl rfl (hts (.initialized RX8) (List.mem_of_getElem? (i := 5) rfl)) (hts (.methodLink RX8 125 yX8_head) (List.mem_of_getElem? (i := 10) rfl)) (by decide +kernel) ⟨Nat.le_of_ble_eq_true rfl, Nat.le_of_ble_eq_true rfl⟩, (hts (.static yX8_head) (List.mem_of_getElem? (i := 11) rfl))⟩ (k_preS hk (hK.sub [] rfl) NT_bl NT_u) rfl rfl hl.1 rfl (lv_room (Nat.le_of_ble_eq_true rfl)) dX8_encode_34 ⟨Nat.zero_le _, Nat.zero_le _⟩) hk hS (fun H locs hP hD hS => ?_)
            obtain ⟨R9, hc10, hf⟩ := b_inv hf
            have hk := kall (wc' := (wM q cA sc R9)) hP hD hS hA rfl
            refine k_goV (va_runV (As := [.int (2 : Int32), .int R7]) (rest := []) ⟨hx, hb, hml, hown, hts⟩ (kX8_append l D q cA sc ar (2 : Int32) R7 hc10 _) (cwV 2 hts gX8_encode_X8_append rfl rfl rfl (by decide +kernel) ⟨Nat.le_of_ble_eq_true rfl, Nat.le_of_ble_eq_true rfl⟩) (k_preV (q0 := 0) (ci := 7) hk hK NT_bl NT_u rfl rfl rfl) rfl rfl hl.1 rfl (lv_room (Nat.le_of_ble_eq_true rfl)) dX8_encode_37 ⟨Nat.zero_le _, Nat.zero_le _⟩) hk hS (fun H locs hP hD hS => ?_)
            refine lv_iinc (v := (v2 + (1 : Int32))) (lv' := [(2, .int (v2 + (1 : Int32))), (1, .int v1), (0, .ref (q 0))]) hx hb dX8_encode_40 hl (k := 0) rfl rfl (by decide) rfl (fun ls hl => ?_)
            refine lv_goto (tgt := 26) hx hb dX8_encode_43 (by decide) ?_
            exact ih (v2 + (1 : Int32)) R9 _ _ _ o (lv_sub hl [0, 1, 2] rfl) hP hD hS hf kont
      obtain ⟨R11, hc12, hf⟩ := b_inv hf
      refine lp27 R3.1 x1 FU (0 : Int32) (va_up R3.2 1 (upd (R3.2 1) (2 : Int32).toNatClampNeg (0 : Int32))) _ _ _ R11 (lv_sub hl [0, 2, 1] rfl) hP hD hS hc12 (fun H locs ls hl hP hD hS => ?_)
      refine lv_iconst (v := (0 : Int32)) hx hb dX8_encode_46 (by decide) ?_
      refine lv_istore_n (lv' := [(2, .int (0 : Int32)), (1, .int x1), (0, .ref (q 0))]) hx hb dX8_encode_47 rfl hl (by decide) rfl (fun ls hl => ?_)
      have lp28 : ∀ (v1 : Int32), ∀ (k : Nat) (v2 : Int32) (sc : Nat → Int32) (ar : Nat → Nat → Int32) (H : Heap) (locs : List Loc) (ls : Array Slot) (o : (Nat → Int32) × (Nat → Nat → Int32)), lv_has ls 3 [(2, .int v2), (1, .int v1), (0, .ref (q 0))] → va_P D vwCl (wM q cA sc ar) H → va_D A (wM q cA sc ar) → va_S A s.heap H locs → fX8_encode_L48 v1 k v2 sc ar = some o → (∀ (H : Heap) (locs : List Loc) (ls : Array Slot), lv_has ls 3 [(0, .ref (q 0))] → va_P D vwCl (wM q cA o.1 o.2) H → va_D A (wM q cA o.1 o.2) → va_S A s.heap H locs → W p l e (headSpec wsX8_encode (rmD 5)).room s m ([.ref (q 0), .int x1] : List Value).toArray below meth cd H locs 0 0 (QI D below ([.ref (q 0), .int x1] : List Value).toArray s A R.1 (wM q cA R.2.1 R.2.2)) (F0 m 94 ls [])) → W p l e (headSpec wsX8_encode (rmD 5)).room s m ([.ref (q 0), .int x1] : List Value).toArray below meth cd H locs 0 0 (QI D below ([.ref (q 0), .int x1] : List Value).toArray s A R.1 (wM q cA R.2.1 R.2.2)) (F0 m 48 ls []) := by
        intro v1
        intro k
        induction k with
        | zero =>
          intro v2 sc ar H locs ls o hl hP hD hS hf
          exact absurd hf (by simp [fX8_encode_L48])
        | succ k ih =>
          intro v2 sc ar H locs ls o hl hP hD hS hf kont
          rw [fX8_encode_L48] at hf
          refine lv_iload_n hx hb dX8_encode_48 rfl (lv_at hl 0 rfl) ?_
          refine lv_aload_n hx hb dX8_encode_49 rfl (lv_at hl 2 rfl) ?_
          refine va_get (D := D) (ci := 7) (v := .ref (q 2)) (C := RX8) (T := TX8) (N := 21) hx hb hts (fun w h => List.mem_cons_of_mem _ (List.mem_append_right _ h)) hown hK hP 0 rfl rfl 1 (by decide) (hts (.fieldLink RX8 13 "DeltaWindowsModel" "length" "[I") (List.mem_of_getElem? (i := 1) rfl)) (fun _ h9 => h9) rfl dX8_encode_50 ?_
          refine lv_iconst (v := (1 : Int32)) hx hb dX8_encode_53 (by decide) ?_
          obtain ⟨g13, hf⟩ := g_inv hf
          refine va_iald (f := (ar 1)) hx hb hK hP 2 1 rfl rfl (inb_vp g13) dX8_encode_54 ?_
          refine lv_icmp_ge (tgt := 94) hx hb dX8_encode_55 (by decide) (fun c14 => ?_) (fun c14 => ?_)
          · rw [if_pos c14] at hf
            obtain rfl := Option.some.inj hf
            exact kont _ _ _ (lv_sub hl [2] rfl) hP hD hS
          · rw [if_neg c14] at hf
            refine lv_aload_n hx hb dX8_encode_58 rfl (lv_at hl 2 rfl) ?_
            refine lv_iload_n hx hb dX8_encode_59 rfl (lv_at hl 0 rfl) ?_
            refine lv_iload_n hx hb dX8_encode_60 rfl (lv_at hl 0 rfl) ?_
            refine lv_iload_n hx hb dX8_encode_61 rfl (lv_at hl 1 rfl) ?_
            refine lv_iadd hx hb dX8_encode_62 ?_
            refine lv_aload_n hx hb dX8_encode_63 rfl (lv_at hl 2 rfl) ?_
            refine va_get (D := D) (ci := 7) (v := .ref (q 2)) (C := RX8) (T := TX8) (N := 21) hx hb hts (fun w h => List.mem_cons_of_mem _ (List.mem_append_right _ h)) hown hK hP 0 rfl rfl 1 (by decide) (hts (.fieldLink RX8 13 "DeltaWindowsModel" "length" "[I") (List.mem_of_getElem? (i := 1) rfl)) (fun _ h9 => h9) rfl dX8_encode_64 ?_
            refine lv_iconst (v := (1 : Int32)) hx hb dX8_encode_67 (by decide) ?_
            obtain ⟨g15, hf⟩ := g_inv hf
            refine va_iald (f := (ar 1)) hx hb hK hP 2 1 rfl rfl (inb_vp g15) dX8_encode_68 ?_
            refine lv_icmp_ge (tgt := 78) hx hb dX8_encode_69 (by decide) (fun c16 => ?_) (fun c16 => ?_)
            · rw [if_pos c16] at hf
              refine lv_aload_n hx hb dX8_encode_78 rfl (lv_at hl 2 rfl) ?_
              refine va_get (D := D) (ci := 7) (v := .ref (q 2)) (C := RX8) (T := TX8) (N := 21) hx hb hts (fun w h => List.mem_cons_of_mem _ (List.mem_append_right _ h)) hown hK hP 0 rfl rfl 1 (by decide) (hts (.fieldLink RX8 13 "DeltaWindowsModel" "length" "[I") (List.mem_of_getElem? (i := 1) rfl)) (fun _ h9 => h9) rfl dX8_encode_79 ?_
              refine lv_iconst (v := (1 : Int32)) hx hb dX8_encode_82 (by decide) ?_
              obtain ⟨g17, hf⟩ := g_inv hf
              refine va_iald (f := (ar 1)) hx hb hK hP 2 1 rfl rfl (inb_vp g17) dX8_encode_83 ?_
              obtain ⟨R18, hc19, hf⟩ := b_inv hf
              have hk := kall (wc' := (wM q cA R18.1 R18.2)) hP hD hS hA rfl
              refine k_goV (va_runV (As := [.int v2, .int ((ar 1) (1 : Int32).toNatClampNeg)]) (rest := []) ⟨hx, hb, hml, hown, hts⟩ (kX8_window l D q cA sc ar v2 ((ar 1) (1 : Int32).toNatClampNeg) hc19 _) (cwV 2 hts gX8_encode_X8_window rfl rfl rfl (by decide +kernel) ⟨Nat.le_of_ble_eq_true rfl, Nat.le_of_ble_eq_true rfl⟩) (k_preV (q0 := 0) (ci := 7) hk hK NT_bl NT_u rfl rfl rfl) rfl rfl hl.1 rfl (lv_room (Nat.le_of_ble_eq_true rfl)) dX8_encode_84 ⟨Nat.zero_le _, Nat.zero_le _⟩) hk hS (fun H locs hP hD hS => ?_)
              refine lv_iload_n hx hb dX8_encode_87 rfl (lv_at hl 0 rfl) ?_
              refine lv_iload_n hx hb dX8_encode_88 rfl (lv_at hl 1 rfl) ?_
              refine lv_iadd hx hb dX8_encode_89 ?_
              refine lv_istore_n (lv' := [(2, .int (v2 + v1)), (1, .int v1), (0, .ref (q 0))]) hx hb dX8_encode_90 rfl hl (by decide) rfl (fun ls hl => ?_)
              refine lv_goto (tgt := 48) hx hb dX8_encode_91 (by decide) ?_
              exact ih (v2 + v1) R18.1 R18.2 _ _ _ o (lv_sub hl [0, 1, 2] rfl) hP hD hS hf kont
            · rw [if_neg c16] at hf
              refine lv_iload_n hx hb dX8_encode_72 rfl (lv_at hl 0 rfl) ?_
              refine lv_iload_n hx hb dX8_encode_73 rfl (lv_at hl 1 rfl) ?_
              refine lv_iadd hx hb dX8_encode_74 ?_
              refine lv_goto (tgt := 84) hx hb dX8_encode_75 (by decide) ?_
              obtain ⟨R20, hc21, hf⟩ := b_inv hf
              have hk := kall (wc' := (wM q cA R20.1 R20.2)) hP hD hS hA rfl
              refine k_goV (va_runV (As := [.int v2, .int (v2 + v1)]) (rest := []) ⟨hx, hb, hml, hown, hts⟩ (kX8_window l D q cA sc ar v2 (v2 + v1) hc21 _) (cwV 2 hts gX8_encode_X8_window rfl rfl rfl (by decide +kernel) ⟨Nat.le_of_ble_eq_true rfl, Nat.le_of_ble_eq_true rfl⟩) (k_preV (q0 := 0) (ci := 7) hk hK NT_bl NT_u rfl rfl rfl) rfl rfl hl.1 rfl (lv_room (Nat.le_of_ble_eq_true rfl)) dX8_encode_84 ⟨Nat.zero_le _, Nat.zero_le _⟩) hk hS (fun H locs hP hD hS => ?_)
              refine lv_iload_n hx hb dX8_encode_87 rfl (lv_at hl 0 rfl) ?_
              refine lv_iload_n hx hb dX8_encode_88 rfl (lv_at hl 1 rfl) ?_
              refine lv_iadd hx hb dX8_encode_89 ?_
              refine lv_istore_n (lv' := [(2, .int (v2 + v1)), (1, .int v1), (0, .ref (q 0))]) hx hb dX8_encode_90 rfl hl (by decide) rfl (fun ls hl => ?_)
              refine lv_goto (tgt := 48) hx hb dX8_encode_91 (by decide) ?_
              exact ih (v2 + v1) R20.1 R20.2 _ _ _ o (lv_sub hl [0, 1, 2] rfl) hP hD hS hf kont
      obtain ⟨R22, hc23, hf⟩ := b_inv hf
      refine lp28 x1 FU (0 : Int32) R3.1 R11 _ _ _ R22 (lv_sub hl [0, 1, 2] rfl) hP hD hS hc23 (fun H locs ls hl hP hD hS => ?_)
      refine lv_aload_n hx hb dX8_encode_94 rfl (lv_at hl 0 rfl) ?_
      refine lv_iconst (v := (0 : Int32)) hx hb dX8_encode_95 (by decide) ?_
      obtain ⟨R24, hc25, hf⟩ := b_inv hf
      have hk := kall (wc' := (wM q cA R22.1 R24)) hP hD hS hA rfl
      refine k_goV (va_runV (As := [.int (0 : Int32)]) (rest := []) ⟨hx, hb, hml, hown, hts⟩ (kX8_show l D q cA R22.1 R22.2 (0 : Int32) hc25 _) (cwV 1 hts gX8_encode_X8_show rfl rfl rfl (by decide +kernel) ⟨Nat.le_of_ble_eq_true rfl, Nat.le_of_ble_eq_true rfl⟩) (k_preV (q0 := 0) (ci := 7) hk hK NT_bl NT_u rfl rfl rfl) rfl rfl hl.1 rfl (lv_room (Nat.le_of_ble_eq_true rfl)) dX8_encode_96 ⟨Nat.zero_le _, Nat.zero_le _⟩) hk hS (fun H locs hP hD hS => ?_)
      refine lv_aload_n hx hb dX8_encode_99 rfl (lv_at hl 0 rfl) ?_
      refine va_get (D := D) (ci := 7) (v := .ref (q 2)) (C := RX8) (T := TX8) (N := 21) hx hb hts (fun w h => List.mem_cons_of_mem _ (List.mem_append_right _ h)) hown hK hP 0 rfl rfl 1 (by decide) (hts (.fieldLink RX8 13 "DeltaWindowsModel" "length" "[I") (List.mem_of_getElem? (i := 1) rfl)) (fun _ h9 => h9) rfl dX8_encode_100 ?_
      refine lv_iconst (v := (2 : Int32)) hx hb dX8_encode_103 (by decide) ?_
      obtain ⟨g26, hf⟩ := g_inv hf
      refine va_iald (f := (R24 1)) hx hb hK hP 2 1 rfl rfl (inb_vp g26) dX8_encode_104 ?_
      obtain rfl := Option.some.inj hf
      exact k_retI hx hb hr hlocks hP hS dX8_encode_105
    · rw [if_neg c2] at hf
      refine lv_iconst (v := (-1 : Int32)) hx hb dX8_encode_11 (by decide) ?_
      obtain rfl := Option.some.inj hf
      exact k_retI hx hb hr hlocks hP hS dX8_encode_12
