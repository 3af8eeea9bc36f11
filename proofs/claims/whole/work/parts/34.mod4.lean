noncomputable def fX8_next (sc : Nat → Int32) (ar : Nat → Nat → Int32) (x1 : Int32) : Option (Int32 × (Nat → Int32) × (Nat → Nat → Int32)) :=
  if inb x1 4 = true then
  if inb x1 4 = true then
  if ((ar 10) x1.toNatClampNeg) < ((ar 11) x1.toNatClampNeg) then
    if inb x1 4 = true then
    if inb x1 4 = true then
    if inb x1 4 = true then
    if inb (((2000 : Int32) + ((upd (ar 10) x1.toNatClampNeg (((ar 10) x1.toNatClampNeg) + (1 : Int32))) x1.toNatClampNeg)) - (1 : Int32)) 5000 = true then
    some (((ar 0) (((2000 : Int32) + ((upd (ar 10) x1.toNatClampNeg (((ar 10) x1.toNatClampNeg) + (1 : Int32))) x1.toNatClampNeg)) - (1 : Int32)).toNatClampNeg), sc, (va_up ar 10 (upd (ar 10) x1.toNatClampNeg (((ar 10) x1.toNatClampNeg) + (1 : Int32)))))
    else none
    else none
    else none
    else none
  else
    some ((0 : Int32), (va_up sc 3 (1 : Int32)), ar)
  else none
  else none

set_option maxHeartbeats 4000000 in
set_option maxRecDepth 100000 in
theorem kX8_next (l : Launch) (D : va_G) (q : Nat → Nat) (cA : Nat → ClassId) (sc : Nat → Int32) (ar : Nat → Nat → Int32) (x1 : Int32) {R : Int32 × (Nat → Int32) × (Nat → Nat → Int32)} (hf : fX8_next sc ar x1 = some R) : MI l yX8_next wsX8_next (rmD 0) D ([.ref (q 0), .int x1] : List Value) (wM q cA sc ar) (tM cA) NT R.1 (wM q cA R.2.1 R.2.2) := by
  refine MI.mk (cc := cX8_next) (maxL := 2) (ret := (some .int)) (by first | decide | decide +kernel) rfl (Nat.le_of_ble_eq_true rfl) ?_
  intro p e s m below meth cd A ls hE
  obtain ⟨hx, hb, hr, hml, hts, hown, hlocks, hP, hK, hD, hA, hN, hAe, hl⟩ := hE
  have hown : s.vm.findClass RX8 = some m.cls := hown
  have hS : va_S A s.heap s.heap [] := va_S.rf
  have hl : lv_has ls 2 [(0, .ref (q 0)), (1, .int x1)] := hl
  rw [fX8_next] at hf
  refine lv_aload_n hx hb dX8_next_0 rfl (lv_at hl 0 rfl) ?_
  refine va_get (D := D) (ci := 7) (v := .ref (q 11)) (C := RX8) (T := TX8) (N := 21) hx hb hts (fun w h => List.mem_cons_of_mem _ (List.mem_append_right _ h)) hown hK hP 0 rfl rfl 13 (by decide) (hts (.fieldLink RX8 40 "DeltaWindowsModel" "place" "[I") (List.mem_of_getElem? (i := 1) rfl)) (fun _ h9 => h9) rfl dX8_next_1 ?_
  refine lv_iload_n hx hb dX8_next_4 rfl (lv_at hl 1 rfl) ?_
  obtain ⟨g1, hf⟩ := g_inv hf
  refine va_iald (f := (ar 10)) hx hb hK hP 11 10 rfl rfl (inb_vp g1) dX8_next_5 ?_
  refine lv_aload_n hx hb dX8_next_6 rfl (lv_at hl 0 rfl) ?_
  refine va_get (D := D) (ci := 7) (v := .ref (q 12)) (C := RX8) (T := TX8) (N := 21) hx hb hts (fun w h => List.mem_cons_of_mem _ (List.mem_append_right _ h)) hown hK hP 0 rfl rfl 14 (by decide) (hts (.fieldLink RX8 43 "DeltaWindowsModel" "stop" "[I") (List.mem_of_getElem? (i := 2) rfl)) (fun _ h9 => h9) rfl dX8_next_7 ?_
  refine lv_iload_n hx hb dX8_next_10 rfl (lv_at hl 1 rfl) ?_
  obtain ⟨g2, hf⟩ := g_inv hf
  refine va_iald (f := (ar 11)) hx hb hK hP 12 11 rfl rfl (inb_vp g2) dX8_next_11 ?_
  refine lv_icmp_lt (tgt := 22) hx hb dX8_next_12 (by decide) (fun c3 => ?_) (fun c3 => ?_)
  · rw [if_pos c3] at hf
    refine lv_aload_n hx hb dX8_next_22 rfl (lv_at hl 0 rfl) ?_
    refine va_get (D := D) (ci := 7) (v := .ref (q 11)) (C := RX8) (T := TX8) (N := 21) hx hb hts (fun w h => List.mem_cons_of_mem _ (List.mem_append_right _ h)) hown hK hP 0 rfl rfl 13 (by decide) (hts (.fieldLink RX8 40 "DeltaWindowsModel" "place" "[I") (List.mem_of_getElem? (i := 1) rfl)) (fun _ h9 => h9) rfl dX8_next_23 ?_
    refine lv_iload_n hx hb dX8_next_26 rfl (lv_at hl 1 rfl) ?_
    refine lv_dup2_11 hx hb dX8_next_27 rfl rfl ?_
    obtain ⟨g4, hf⟩ := g_inv hf
    refine va_iald (f := (ar 10)) hx hb hK hP 11 10 rfl rfl (inb_vp g4) dX8_next_28 ?_
    refine lv_iconst (v := (1 : Int32)) hx hb dX8_next_29 (by decide) ?_
    refine lv_iadd hx hb dX8_next_30 ?_
    obtain ⟨g5, hf⟩ := g_inv hf
    refine va_iast (f := (ar 10)) hx hb hK hP hD hS 11 10 rfl rfl (inb_vp g5) dX8_next_31 (fun H locs hP hD hS => ?_)
    have hP : va_P D vwCl (wM q cA sc (va_up ar 10 (upd (ar 10) x1.toNatClampNeg (((ar 10) x1.toNatClampNeg) + (1 : Int32))))) H := va_P_eq (wM_a10 q cA sc ar (upd (ar 10) x1.toNatClampNeg (((ar 10) x1.toNatClampNeg) + (1 : Int32)))) hP
    have hD : va_D A (wM q cA sc (va_up ar 10 (upd (ar 10) x1.toNatClampNeg (((ar 10) x1.toNatClampNeg) + (1 : Int32))))) := va_D_eq (wM_a10 q cA sc ar (upd (ar 10) x1.toNatClampNeg (((ar 10) x1.toNatClampNeg) + (1 : Int32)))) hD
    refine lv_aload_n hx hb dX8_next_32 rfl (lv_at hl 0 rfl) ?_
    refine va_get (D := D) (ci := 7) (v := .ref (q 1)) (C := RX8) (T := TX8) (N := 21) hx hb hts (fun w h => List.mem_cons_of_mem _ (List.mem_append_right _ h)) hown hK hP 0 rfl rfl 0 (by decide) (hts (.fieldLink RX8 7 "DeltaWindowsModel" "cell" "[I") (List.mem_of_getElem? (i := 4) rfl)) (fun _ h9 => h9) rfl dX8_next_33 ?_
    refine lv_sipush (v := (2000 : Int32)) hx hb dX8_next_36 (by decide) ?_
    refine lv_aload_n hx hb dX8_next_39 rfl (lv_at hl 0 rfl) ?_
    refine va_get (D := D) (ci := 7) (v := .ref (q 11)) (C := RX8) (T := TX8) (N := 21) hx hb hts (fun w h => List.mem_cons_of_mem _ (List.mem_append_right _ h)) hown hK hP 0 rfl rfl 13 (by decide) (hts (.fieldLink RX8 40 "DeltaWindowsModel" "place" "[I") (List.mem_of_getElem? (i := 1) rfl)) (fun _ h9 => h9) rfl dX8_next_40 ?_
    refine lv_iload_n hx hb dX8_next_43 rfl (lv_at hl 1 rfl) ?_
    obtain ⟨g6, hf⟩ := g_inv hf
    refine va_iald (f := (upd (ar 10) x1.toNatClampNeg (((ar 10) x1.toNatClampNeg) + (1 : Int32)))) hx hb hK hP 11 10 rfl rfl (inb_vp g6) dX8_next_44 ?_
    refine lv_iadd hx hb dX8_next_45 ?_
    refine lv_iconst (v := (1 : Int32)) hx hb dX8_next_46 (by decide) ?_
    refine lv_isub hx hb dX8_next_47 ?_
    obtain ⟨g7, hf⟩ := g_inv hf
    refine va_iald (f := (ar 0)) hx hb hK hP 1 0 rfl rfl (inb_vp g7) dX8_next_48 ?_
    obtain rfl := Option.some.inj hf
    exact k_retI hx hb hr hlocks hP hS dX8_next_49
  · rw [if_neg c3] at hf
    refine lv_aload_n hx hb dX8_next_15 rfl (lv_at hl 0 rfl) ?_
    refine lv_iconst (v := (1 : Int32)) hx hb dX8_next_16 (by decide) ?_
    refine va_put (D := D) (ci := 7) (v := .int (1 : Int32)) (ty := .boolean) (C := RX8) (T := TX8) (N := 21) hx hb hts (fun w h => List.mem_cons_of_mem _ (List.mem_append_right _ h)) tyX8 tyX8_ok nmX8 hown hK hP hD hS 0 rfl rfl 15 (by decide) (hts (.fieldLink RX8 134 "DeltaWindowsModel" "bad" "Z") (List.mem_of_getElem? (i := 3) rfl)) (fun _ h9 => h9) rfl (by decide +kernel) rfl rfl (Nat.le_of_ble_eq_true rfl) dX8_next_17 (fun H locs hP hD hS => ?_)
    have hP : va_P D vwCl (wM q cA (va_up sc 3 (1 : Int32)) ar) H := va_P_eq (wM_s3 q cA sc ar (1 : Int32)) hP
    have hD : va_D A (wM q cA (va_up sc 3 (1 : Int32)) ar) := va_D_eq (wM_s3 q cA sc ar (1 : Int32)) hD
    refine lv_iconst (v := (0 : Int32)) hx hb dX8_next_20 (by decide) ?_
    obtain rfl := Option.some.inj hf
    exact k_retI hx hb hr hlocks hP hS dX8_next_21

noncomputable def fX8_nextInteger_L5 (v1 : Int32) : Nat → (Int64) → (Int32) → (Nat → Int32) → (Nat → Nat → Int32) → Option (((Nat → Int32) × (Nat → Nat → Int32)) ⊕ (Int32 × (Nat → Int32) × (Nat → Nat → Int32)))
  | 0, _, _, _, _ => none
  | k + 1, v2, v4, sc, ar =>
    if (5 : Int32) ≤ v4 then
      some (Sum.inl (sc, ar))
    else
      if (sc 3) = 0 then
        (fX8_next sc ar v1).bind fun R3 =>
        if (128 : Int32) ≤ R3.1 then
          fX8_nextInteger_L5 v1 k ((v2 * (128 : Int64)) + (R3.1 - R3.1 / (128 : Int32) * (128 : Int32)).toInt64) (v4 + (1 : Int32)) R3.2.1 R3.2.2
        else
          if (R3.2.1 3) = 0 then
            if (lg_cmp ((v2 * (128 : Int64)) + (R3.1 - R3.1 / (128 : Int32) * (128 : Int32)).toInt64) (2147483647 : Int64)) ≤ 0 then
              some (Sum.inr (((v2 * (128 : Int64)) + (R3.1 - R3.1 / (128 : Int32) * (128 : Int32)).toInt64).toInt32, (va_up R3.2.1 3 (0 : Int32)), R3.2.2))
            else
              some (Sum.inr ((0 : Int32), (va_up R3.2.1 3 (1 : Int32)), R3.2.2))
          else
            some (Sum.inr ((0 : Int32), (va_up R3.2.1 3 (1 : Int32)), R3.2.2))
      else
        some (Sum.inl (sc, ar))

noncomputable def fX8_nextInteger (sc : Nat → Int32) (ar : Nat → Nat → Int32) (x1 : Int32) : Option (Int32 × (Nat → Int32) × (Nat → Nat → Int32)) :=
  (fX8_nextInteger_L5 x1 FU (0 : Int64) (0 : Int32) sc ar).bind fun R11o => Sum.elim (fun R11 =>
    some ((0 : Int32), (va_up R11.1 3 (1 : Int32)), R11.2)) (fun r => some r) R11o

set_option maxHeartbeats 4000000 in
set_option maxRecDepth 100000 in
theorem kX8_nextInteger (l : Launch) (D : va_G) (q : Nat → Nat) (cA : Nat → ClassId) (sc : Nat → Int32) (ar : Nat → Nat → Int32) (x1 : Int32) {R : Int32 × (Nat → Int32) × (Nat → Nat → Int32)} (hf : fX8_nextInteger sc ar x1 = some R) : MI l yX8_nextInteger wsX8_nextInteger (rmD 1) D ([.ref (q 0), .int x1] : List Value) (wM q cA sc ar) (tM cA) NT R.1 (wM q cA R.2.1 R.2.2) := by
  refine MI.mk (cc := cX8_nextInteger) (maxL := 6) (ret := (some .int)) (by first | decide | decide +kernel) rfl (Nat.le_of_ble_eq_true rfl) ?_
  intro p e s m below meth cd A ls hE
  obtain ⟨hx, hb, hr, hml, hts, hown, hlocks, hP, hK, hD, hA, hN, hAe, hl⟩ := hE
  have hown : s.vm.findClass RX8 = some m.cls := hown
  have hS : va_S A s.heap s.heap [] := va_S.rf
  have hl : lv_has ls 6 [(0, .ref (q 0)), (1, .int x1)] := hl
  rw [fX8_nextInteger] at hf
  refine lv_lconst (v := (0 : Int64)) hx hb dX8_nextInteger_0 (by decide) ?_
  refine lv_lstore_n (lv' := [(2, .long (0 : Int64)), (0, .ref (q 0)), (1, .int x1)]) hx hb dX8_nextInteger_1 rfl hl (by decide) rfl (fun ls hl => ?_)
  refine lv_iconst (v := (0 : Int32)) hx hb dX8_nextInteger_2 (by decide) ?_
  refine lv_istore (lv' := [(4, .int (0 : Int32)), (2, .long (0 : Int64)), (0, .ref (q 0)), (1, .int x1)]) hx hb dX8_nextInteger_3 hl (by decide) rfl (fun ls hl => ?_)
  have lp13 : ∀ (v1 : Int32), ∀ (k : Nat) (v2 : Int64) (v4 : Int32) (sc : Nat → Int32) (ar : Nat → Nat → Int32) (H : Heap) (locs : List Loc) (ls : Array Slot) (o : ((Nat → Int32) × (Nat → Nat → Int32)) ⊕ (Int32 × (Nat → Int32) × (Nat → Nat → Int32))), lv_has ls 6 [(2, .long v2), (4, .int v4), (1, .int v1), (0, .ref (q 0))] → va_P D vwCl (wM q cA sc ar) H → va_D A (wM q cA sc ar) → va_S A s.heap H locs → fX8_nextInteger_L5 v1 k v2 v4 sc ar = some o → (∀ o1 : (Nat → Int32) × (Nat → Nat → Int32), o = Sum.inl o1 → (∀ (H : Heap) (locs : List Loc) (ls : Array Slot), lv_has ls 6 [(0, .ref (q 0))] → va_P D vwCl (wM q cA o1.1 o1.2) H → va_D A (wM q cA o1.1 o1.2) → va_S A s.heap H locs → W p l e (headSpec wsX8_nextInteger (rmD 1)).room s m ([.ref (q 0), .int x1] : List Value).toArray below meth cd H locs 0 0 (QI D below ([.ref (q 0), .int x1] : List Value).toArray s A R.1 (wM q cA R.2.1 R.2.2)) (F0 m 91 ls []))) → (∀ r, o = Sum.inr r → some r = some R) → W p l e (headSpec wsX8_nextInteger (rmD 1)).room s m ([.ref (q 0), .int x1] : List Value).toArray below meth cd H locs 0 0 (QI D below ([.ref (q 0), .int x1] : List Value).toArray s A R.1 (wM q cA R.2.1 R.2.2)) (F0 m 5 ls []) := by
    intro v1
    intro k
    induction k with
    | zero =>
      intro v2 v4 sc ar H locs ls o hl hP hD hS hf
      exact absurd hf (by simp [fX8_nextInteger_L5])
    | succ k ih =>
      intro v2 v4 sc ar H locs ls o hl hP hD hS hf kont kr
      rw [fX8_nextInteger_L5] at hf
      refine lv_iload hx hb dX8_nextInteger_5 (lv_at hl 1 rfl) ?_
      refine lv_iconst (v := (5 : Int32)) hx hb dX8_nextInteger_7 (by decide) ?_
      refine lv_icmp_ge (tgt := 91) hx hb dX8_nextInteger_8 (by decide) (fun c1 => ?_) (fun c1 => ?_)
      · rw [if_pos c1] at hf
        obtain rfl := Option.some.inj hf
        exact kont _ rfl _ _ _ (lv_sub hl [3] rfl) hP hD hS
      · rw [if_neg c1] at hf
        refine lv_aload_n hx hb dX8_nextInteger_11 rfl (lv_at hl 3 rfl) ?_
        refine va_get (D := D) (ci := 7) (v := .int (sc 3)) (C := RX8) (T := TX8) (N := 21) hx hb hts (fun w h => List.mem_cons_of_mem _ (List.mem_append_right _ h)) hown hK hP 0 rfl rfl 15 (by decide) (hts (.fieldLink RX8 134 "DeltaWindowsModel" "bad" "Z") (List.mem_of_getElem? (i := 1) rfl)) (fun _ h9 => h9) rfl dX8_nextInteger_12 ?_
        refine lv_if_ne (tgt := 91) hx hb dX8_nextInteger_15 (by decide) (fun c2 => ?_) (fun c2 => ?_)
        · rw [if_neg c2] at hf
          obtain rfl := Option.some.inj hf
          exact kont _ rfl _ _ _ (lv_sub hl [3] rfl) hP hD hS
        · rw [if_pos c2] at hf
          refine lv_aload_n hx hb dX8_nextInteger_18 rfl (lv_at hl 3 rfl) ?_
          refine lv_iload_n hx hb dX8_nextInteger_19 rfl (lv_at hl 2 rfl) ?_
          obtain ⟨R3, hc4, hf⟩ := b_inv hf
          have hk := kall (wc' := (wM q cA R3.2.1 R3.2.2)) hP hD hS hA rfl
          refine k_goI (va_runV (As := [.int v1]) (rest := []) ⟨hx, hb, hml, hown, hts⟩ (kX8_next l D q cA sc ar v1 hc4 _) (cwV 1 hts gX8_nextInteger_X8_next rfl rfl rfl (by decide +kernel) ⟨Nat.le_of_ble_eq_true rfl, Nat.le_of_ble_eq_true rfl⟩) (k_preV (q0 := 0) (ci := 7) hk hK NT_bl NT_u rfl rfl rfl) rfl rfl hl.1 rfl (lv_room (Nat.le_of_ble_eq_true rfl)) dX8_nextInteger_20 ⟨Nat.zero_le _, Nat.zero_le _⟩) hk hS (fun H locs hP hD hS => ?_)
          refine lv_istore (lv' := [(5, .int R3.1), (2, .long v2), (4, .int v4), (1, .int v1), (0, .ref (q 0))]) hx hb dX8_nextInteger_23 hl (by decide) rfl (fun ls hl => ?_)
          refine lv_lload_n hx hb dX8_nextInteger_25 rfl (lv_at hl 1 rfl) ?_
          refine lv_ldc2 (v := (128 : Int64)) hx hb hown (hts (.constantLong RX8 141 (128)) (List.mem_of_getElem? (i := 2) rfl)) dX8_nextInteger_26 ?_
          refine lv_lmul hx hb dX8_nextInteger_29 ?_
          refine lv_iload hx hb dX8_nextInteger_30 (lv_at hl 0 rfl) ?_
          refine lv_sipush (v := (128 : Int32)) hx hb dX8_nextInteger_32 (by decide) ?_
          refine lv_irem hx hb dX8_nextInteger_35 (by decide) ?_
          refine lv_i2l (v := (R3.1 - R3.1 / (128 : Int32) * (128 : Int32)).toInt64) hx hb dX8_nextInteger_36 rfl ?_
          refine lv_ladd hx hb dX8_nextInteger_37 ?_
          refine lv_lstore_n (lv' := [(2, .long ((v2 * (128 : Int64)) + (R3.1 - R3.1 / (128 : Int32) * (128 : Int32)).toInt64)), (5, .int R3.1), (4, .int v4), (1, .int v1), (0, .ref (q 0))]) hx hb dX8_nextInteger_38 rfl hl (by decide) rfl (fun ls hl => ?_)
          refine lv_iload hx hb dX8_nextInteger_39 (lv_at hl 1 rfl) ?_
          refine lv_sipush (v := (128 : Int32)) hx hb dX8_nextInteger_41 (by decide) ?_
          refine lv_icmp_ge (tgt := 85) hx hb dX8_nextInteger_44 (by decide) (fun c5 => ?_) (fun c5 => ?_)
          · rw [if_pos c5] at hf
            refine lv_iinc (v := (v4 + (1 : Int32))) (lv' := [(4, .int (v4 + (1 : Int32))), (2, .long ((v2 * (128 : Int64)) + (R3.1 - R3.1 / (128 : Int32) * (128 : Int32)).toInt64)), (5, .int R3.1), (1, .int v1), (0, .ref (q 0))]) hx hb dX8_nextInteger_85 hl (k := 2) rfl rfl (by decide) rfl (fun ls hl => ?_)
            refine lv_goto (tgt := 5) hx hb dX8_nextInteger_88 (by decide) ?_
            exact ih ((v2 * (128 : Int64)) + (R3.1 - R3.1 / (128 : Int32) * (128 : Int32)).toInt64) (v4 + (1 : Int32)) R3.2.1 R3.2.2 _ _ _ o (lv_sub hl [1, 0, 3, 4] rfl) hP hD hS hf kont kr
          · rw [if_neg c5] at hf
            refine lv_aload_n hx hb dX8_nextInteger_47 rfl (lv_at hl 4 rfl) ?_
            refine lv_aload_n hx hb dX8_nextInteger_48 rfl (lv_at hl 4 rfl) ?_
            refine va_get (D := D) (ci := 7) (v := .int (R3.2.1 3)) (C := RX8) (T := TX8) (N := 21) hx hb hts (fun w h => List.mem_cons_of_mem _ (List.mem_append_right _ h)) hown hK hP 0 rfl rfl 15 (by decide) (hts (.fieldLink RX8 134 "DeltaWindowsModel" "bad" "Z") (List.mem_of_getElem? (i := 1) rfl)) (fun _ h9 => h9) rfl dX8_nextInteger_49 ?_
            refine lv_if_ne (tgt := 63) hx hb dX8_nextInteger_52 (by decide) (fun c6 => ?_) (fun c6 => ?_)
            · rw [if_neg c6] at hf
              refine lv_iconst (v := (1 : Int32)) hx hb dX8_nextInteger_63 (by decide) ?_
              refine lv_goto (tgt := 68) hx hb dX8_nextInteger_64 (by decide) ?_
              refine va_put (D := D) (ci := 7) (v := .int (1 : Int32)) (ty := .boolean) (C := RX8) (T := TX8) (N := 21) hx hb hts (fun w h => List.mem_cons_of_mem _ (List.mem_append_right _ h)) tyX8 tyX8_ok nmX8 hown hK hP hD hS 0 rfl rfl 15 (by decide) (hts (.fieldLink RX8 134 "DeltaWindowsModel" "bad" "Z") (List.mem_of_getElem? (i := 1) rfl)) (fun _ h9 => h9) rfl (by decide +kernel) rfl rfl (Nat.le_of_ble_eq_true rfl) dX8_nextInteger_68 (fun H locs hP hD hS => ?_)
              have hP : va_P D vwCl (wM q cA (va_up R3.2.1 3 (1 : Int32)) R3.2.2) H := va_P_eq (wM_s3 q cA R3.2.1 R3.2.2 (1 : Int32)) hP
              have hD : va_D A (wM q cA (va_up R3.2.1 3 (1 : Int32)) R3.2.2) := va_D_eq (wM_s3 q cA R3.2.1 R3.2.2 (1 : Int32)) hD
              refine lv_aload_n hx hb dX8_nextInteger_71 rfl (lv_at hl 4 rfl) ?_
              refine va_get (D := D) (ci := 7) (v := .int (1 : Int32)) (C := RX8) (T := TX8) (N := 21) hx hb hts (fun w h => List.mem_cons_of_mem _ (List.mem_append_right _ h)) hown hK hP 0 rfl rfl 15 (by decide) (hts (.fieldLink RX8 134 "DeltaWindowsModel" "bad" "Z") (List.mem_of_getElem? (i := 1) rfl)) (fun _ h9 => h9) rfl dX8_nextInteger_72 ?_
              refine lv_if_eq (tgt := 82) hx hb dX8_nextInteger_75 (by decide) (fun c7 => absurd c7 (by decide)) (fun _ => ?_)
              refine lv_iconst (v := (0 : Int32)) hx hb dX8_nextInteger_78 (by decide) ?_
              refine lv_goto (tgt := 84) hx hb dX8_nextInteger_79 (by decide) ?_
              obtain rfl := Option.some.inj hf
              have hf9 := kr _ rfl
              obtain rfl := Option.some.inj hf9
              exact k_retI hx hb hr hlocks hP hS dX8_nextInteger_84
            · rw [if_pos c6] at hf
              refine lv_lload_n hx hb dX8_nextInteger_55 rfl (lv_at hl 0 rfl) ?_
              refine lv_ldc2 (v := (2147483647 : Int64)) hx hb hown (hts (.constantLong RX8 143 (2147483647)) (List.mem_of_getElem? (i := 3) rfl)) dX8_nextInteger_56 ?_
              refine W.lcmp hx hb dX8_nextInteger_59 ?_
              refine lv_if_le (tgt := 67) hx hb dX8_nextInteger_60 (by decide) (fun c8 => ?_) (fun c8 => ?_)
              · rw [if_pos c8] at hf
                refine lv_iconst (v := (0 : Int32)) hx hb dX8_nextInteger_67 (by decide) ?_
                refine va_put (D := D) (ci := 7) (v := .int (0 : Int32)) (ty := .boolean) (C := RX8) (T := TX8) (N := 21) hx hb hts (fun w h => List.mem_cons_of_mem _ (List.mem_append_right _ h)) tyX8 tyX8_ok nmX8 hown hK hP hD hS 0 rfl rfl 15 (by decide) (hts (.fieldLink RX8 134 "DeltaWindowsModel" "bad" "Z") (List.mem_of_getElem? (i := 1) rfl)) (fun _ h9 => h9) rfl (by decide +kernel) rfl rfl (Nat.le_of_ble_eq_true rfl) dX8_nextInteger_68 (fun H locs hP hD hS => ?_)
                have hP : va_P D vwCl (wM q cA (va_up R3.2.1 3 (0 : Int32)) R3.2.2) H := va_P_eq (wM_s3 q cA R3.2.1 R3.2.2 (0 : Int32)) hP
                have hD : va_D A (wM q cA (va_up R3.2.1 3 (0 : Int32)) R3.2.2) := va_D_eq (wM_s3 q cA R3.2.1 R3.2.2 (0 : Int32)) hD
                refine lv_aload_n hx hb dX8_nextInteger_71 rfl (lv_at hl 4 rfl) ?_
                refine va_get (D := D) (ci := 7) (v := .int (0 : Int32)) (C := RX8) (T := TX8) (N := 21) hx hb hts (fun w h => List.mem_cons_of_mem _ (List.mem_append_right _ h)) hown hK hP 0 rfl rfl 15 (by decide) (hts (.fieldLink RX8 134 "DeltaWindowsModel" "bad" "Z") (List.mem_of_getElem? (i := 1) rfl)) (fun _ h9 => h9) rfl dX8_nextInteger_72 ?_
                refine lv_if_eq (tgt := 82) hx hb dX8_nextInteger_75 (by decide) (fun _ => ?_) (fun c9 => absurd c9 (by decide))
                refine lv_lload_n hx hb dX8_nextInteger_82 rfl (lv_at hl 0 rfl) ?_
                refine lv_l2i (v := ((v2 * (128 : Int64)) + (R3.1 - R3.1 / (128 : Int32) * (128 : Int32)).toInt64).toInt32) hx hb dX8_nextInteger_83 rfl ?_
                obtain rfl := Option.some.inj hf
                have hf9 := kr _ rfl
                obtain rfl := Option.some.inj hf9
                exact k_retI hx hb hr hlocks hP hS dX8_nextInteger_84
              · rw [if_neg c8] at hf
                refine lv_iconst (v := (1 : Int32)) hx hb dX8_nextInteger_63 (by decide) ?_
                refine lv_goto (tgt := 68) hx hb dX8_nextInteger_64 (by decide) ?_
                refine va_put (D := D) (ci := 7) (v := .int (1 : Int32)) (ty := .boolean) (C := RX8) (T := TX8) (N := 21) hx hb hts (fun w h => List.mem_cons_of_mem _ (List.mem_append_right _ h)) tyX8 tyX8_ok nmX8 hown hK hP hD hS 0 rfl rfl 15 (by decide) (hts (.fieldLink RX8 134 "DeltaWindowsModel" "bad" "Z") (List.mem_of_getElem? (i := 1) rfl)) (fun _ h9 => h9) rfl (by decide +kernel) rfl rfl (Nat.le_of_ble_eq_true rfl) dX8_nextInteger_68 (fun H locs hP hD hS => ?_)
                have hP : va_P D vwCl (wM q cA (va_up R3.2.1 3 (1 : Int32)) R3.2.2) H := va_P_eq (wM_s3 q cA R3.2.1 R3.2.2 (1 : Int32)) hP
                have hD : va_D A (wM q cA (va_up R3.2.1 3 (1 : Int32)) R3.2.2) := va_D_eq (wM_s3 q cA R3.2.1 R3.2.2 (1 : Int32)) hD
                refine lv_aload_n hx hb dX8_nextInteger_71 rfl (lv_at hl 4 rfl) ?_
                refine va_get (D := D) (ci := 7) (v := .int (1 : Int32)) (C := RX8) (T := TX8) (N := 21) hx hb hts (fun w h => List.mem_cons_of_mem _ (List.mem_append_right _ h)) hown hK hP 0 rfl rfl 15 (by decide) (hts (.fieldLink RX8 134 "DeltaWindowsModel" "bad" "Z") (List.mem_of_getElem? (i := 1) rfl)) (fun _ h9 => h9) rfl dX8_nextInteger_72 ?_
                refine lv_if_eq (tgt := 82) hx hb dX8_nextInteger_75 (by decide) (fun c10 => absurd c10 (by decide)) (fun _ => ?_)
                refine lv_iconst (v := (0 : Int32)) hx hb dX8_nextInteger_78 (by decide) ?_
                refine lv_goto (tgt := 84) hx hb dX8_nextInteger_79 (by decide) ?_
                obtain rfl := Option.some.inj hf
                have hf9 := kr _ rfl
                obtain rfl := Option.some.inj hf9
                exact k_retI hx hb hr hlocks hP hS dX8_nextInteger_84
  obtain ⟨R11o, hc12, hf⟩ := b_inv hf
  refine lp13 x1 FU (0 : Int64) (0 : Int32) sc ar _ _ _ R11o (lv_sub hl [1, 0, 3, 2] rfl) hP hD hS hc12 (fun R11 ho H locs ls hl hP hD hS => ?_) (fun r ho => ?_)
  · subst ho
    simp only [Sum.elim_inl] at hf
    refine lv_aload_n hx hb dX8_nextInteger_91 rfl (lv_at hl 0 rfl) ?_
    refine lv_iconst (v := (1 : Int32)) hx hb dX8_nextInteger_92 (by decide) ?_
    refine va_put (D := D) (ci := 7) (v := .int (1 : Int32)) (ty := .boolean) (C := RX8) (T := TX8) (N := 21) hx hb hts (fun w h => List.mem_cons_of_mem _ (List.mem_append_right _ h)) tyX8 tyX8_ok nmX8 hown hK hP hD hS 0 rfl rfl 15 (by decide) (hts (.fieldLink RX8 134 "DeltaWindowsModel" "bad" "Z") (List.mem_of_getElem? (i := 1) rfl)) (fun _ h9 => h9) rfl (by decide +kernel) rfl rfl (Nat.le_of_ble_eq_true rfl) dX8_nextInteger_93 (fun H locs hP hD hS => ?_)
    have hP : va_P D vwCl (wM q cA (va_up R11.1 3 (1 : Int32)) R11.2) H := va_P_eq (wM_s3 q cA R11.1 R11.2 (1 : Int32)) hP
    have hD : va_D A (wM q cA (va_up R11.1 3 (1 : Int32)) R11.2) := va_D_eq (wM_s3 q cA R11.1 R11.2 (1 : Int32)) hD
    refine lv_iconst (v := (0 : Int32)) hx hb dX8_nextInteger_96 (by decide) ?_
    obtain rfl := Option.some.inj hf
    exact k_retI hx hb hr hlocks hP hS dX8_nextInteger_97
  · subst ho
    simpa only [Sum.elim_inr] using hf

noncomputable def fX8_made (sc : Nat → Int32) (ar : Nat → Nat → Int32) : Option (Int32) :=
  if inb (4 : Int32) 5 = true then
  some (((ar 1) (4 : Int32).toNatClampNeg) - (sc 7))
  else none

set_option maxHeartbeats 4000000 in
set_option maxRecDepth 100000 in
theorem kX8_made (l : Launch) (D : va_G) (q : Nat → Nat) (cA : Nat → ClassId) (sc : Nat → Int32) (ar : Nat → Nat → Int32) {R : Int32} (hf : fX8_made sc ar = some R) : MI l yX8_made wsX8_made (rmD 0) D ([.ref (q 0)] : List Value) (wM q cA sc ar) (tM cA) NT R (wM q cA sc ar) := by
  refine MI.mk (cc := cX8_made) (maxL := 1) (ret := (some .int)) (by first | decide | decide +kernel) rfl (Nat.le_of_ble_eq_true rfl) ?_
  intro p e s m below meth cd A ls hE
  obtain ⟨hx, hb, hr, hml, hts, hown, hlocks, hP, hK, hD, hA, hN, hAe, hl⟩ := hE
  have hown : s.vm.findClass RX8 = some m.cls := hown
  have hS : va_S A s.heap s.heap [] := va_S.rf
  have hl : lv_has ls 1 [(0, .ref (q 0))] := hl
  rw [fX8_made] at hf
  refine lv_aload_n hx hb dX8_made_0 rfl (lv_at hl 0 rfl) ?_
  refine va_get (D := D) (ci := 7) (v := .ref (q 2)) (C := RX8) (T := TX8) (N := 21) hx hb hts (fun w h => List.mem_cons_of_mem _ (List.mem_append_right _ h)) hown hK hP 0 rfl rfl 1 (by decide) (hts (.fieldLink RX8 13 "DeltaWindowsModel" "length" "[I") (List.mem_of_getElem? (i := 1) rfl)) (fun _ h9 => h9) rfl dX8_made_1 ?_
  refine lv_iconst (v := (4 : Int32)) hx hb dX8_made_4 (by decide) ?_
  obtain ⟨g1, hf⟩ := g_inv hf
  refine va_iald (f := (ar 1)) hx hb hK hP 2 1 rfl rfl (inb_vp g1) dX8_made_5 ?_
  refine lv_aload_n hx hb dX8_made_6 rfl (lv_at hl 0 rfl) ?_
  refine va_get (D := D) (ci := 7) (v := .int (sc 7)) (C := RX8) (T := TX8) (N := 21) hx hb hts (fun w h => List.mem_cons_of_mem _ (List.mem_append_right _ h)) hown hK hP 0 rfl rfl 19 (by decide) (hts (.fieldLink RX8 145 "DeltaWindowsModel" "base" "I") (List.mem_of_getElem? (i := 2) rfl)) (fun _ h9 => h9) rfl dX8_made_7 ?_
  refine lv_isub hx hb dX8_made_10 ?_
  obtain rfl := Option.some.inj hf
  exact k_retI hx hb hr hlocks hP hS dX8_made_11

noncomputable def fX8_here (sc : Nat → Int32) (ar : Nat → Nat → Int32) : Option (Int32) :=
  (fX8_made sc ar).bind fun R1 =>
  some ((sc 5) + R1)

set_option maxHeartbeats 4000000 in
set_option maxRecDepth 100000 in
theorem kX8_here (l : Launch) (D : va_G) (q : Nat → Nat) (cA : Nat → ClassId) (sc : Nat → Int32) (ar : Nat → Nat → Int32) {R : Int32} (hf : fX8_here sc ar = some R) : MI l yX8_here wsX8_here (rmD 1) D ([.ref (q 0)] : List Value) (wM q cA sc ar) (tM cA) NT R (wM q cA sc ar) := by
  refine MI.mk (cc := cX8_here) (maxL := 1) (ret := (some .int)) (by first | decide | decide +kernel) rfl (Nat.le_of_ble_eq_true rfl) ?_
  intro p e s m below meth cd A ls hE
  obtain ⟨hx, hb, hr, hml, hts, hown, hlocks, hP, hK, hD, hA, hN, hAe, hl⟩ := hE
  have hown : s.vm.findClass RX8 = some m.cls := hown
  have hS : va_S A s.heap s.heap [] := va_S.rf
  have hl : lv_has ls 1 [(0, .ref (q 0))] := hl
  rw [fX8_here] at hf
  refine lv_aload_n hx hb dX8_here_0 rfl (lv_at hl 0 rfl) ?_
  refine va_get (D := D) (ci := 7) (v := .int (sc 5)) (C := RX8) (T := TX8) (N := 21) hx hb hts (fun w h => List.mem_cons_of_mem _ (List.mem_append_right _ h)) hown hK hP 0 rfl rfl 17 (by decide) (hts (.fieldLink RX8 148 "DeltaWindowsModel" "segmentLength" "I") (List.mem_of_getElem? (i := 1) rfl)) (fun _ h9 => h9) rfl dX8_here_1 ?_
  refine lv_aload_n hx hb dX8_here_4 rfl (lv_at hl 0 rfl) ?_
  obtain ⟨R1, hc2, hf⟩ := b_inv hf
  have hk := kall (wc' := (wM q cA sc ar)) hP hD hS hA rfl
  refine k_goI (va_runV (As := []) (rest := [.int (sc 5)]) ⟨hx, hb, hml, hown, hts⟩ (kX8_made l D q cA sc ar hc2 _) (cwV 0 hts gX8_here_X8_made rfl rfl rfl (by decide +kernel) ⟨Nat.le_of_ble_eq_true rfl, Nat.le_of_ble_eq_true rfl⟩) (k_preV (q0 := 0) (ci := 7) hk hK NT_bl NT_u rfl rfl rfl) rfl rfl hl.1 rfl (lv_room (Nat.le_of_ble_eq_true rfl)) dX8_here_5 ⟨Nat.zero_le _, Nat.zero_le _⟩) hk hS (fun H locs hP hD hS => ?_)
  refine lv_iadd hx hb dX8_here_8 ?_
  obtain rfl := Option.some.inj hf
  exact k_retI hx hb hr hlocks hP hS dX8_here_9

noncomputable def fX8_readString (sc : Nat → Int32) (ar : Nat → Nat → Int32) (x1 : Int32) : Option (Int32) :=
  if x1 < (sc 5) then
    if (sc 4) = (1 : Int32) then
      if inb ((sc 6) + x1) 5000 = true then
      some ((ar 0) ((sc 6) + x1).toNatClampNeg)
      else none
    else
      if inb (((4000 : Int32) + (sc 6)) + x1) 5000 = true then
      some ((ar 0) (((4000 : Int32) + (sc 6)) + x1).toNatClampNeg)
      else none
  else
    if inb ((((4000 : Int32) + (sc 7)) + x1) - (sc 5)) 5000 = true then
    some ((ar 0) ((((4000 : Int32) + (sc 7)) + x1) - (sc 5)).toNatClampNeg)
    else none

set_option maxHeartbeats 4000000 in
set_option maxRecDepth 100000 in
theorem kX8_readString (l : Launch) (D : va_G) (q : Nat → Nat) (cA : Nat → ClassId) (sc : Nat → Int32) (ar : Nat → Nat → Int32) (x1 : Int32) {R : Int32} (hf : fX8_readString sc ar x1 = some R) : MI l yX8_readString wsX8_readString (rmD 0) D ([.ref (q 0), .int x1] : List Value) (wM q cA sc ar) (tM cA) NT R (wM q cA sc ar) := by
  refine MI.mk (cc := cX8_readString) (maxL := 2) (ret := (some .int)) (by first | decide | decide +kernel) rfl (Nat.le_of_ble_eq_true rfl) ?_
  intro p e s m below meth cd A ls hE
  obtain ⟨hx, hb, hr, hml, hts, hown, hlocks, hP, hK, hD, hA, hN, hAe, hl⟩ := hE
  have hown : s.vm.findClass RX8 = some m.cls := hown
  have hS : va_S A s.heap s.heap [] := va_S.rf
  have hl : lv_has ls 2 [(0, .ref (q 0)), (1, .int x1)] := hl
  rw [fX8_readString] at hf
  refine lv_iload_n hx hb dX8_readString_0 rfl (lv_at hl 1 rfl) ?_
  refine lv_aload_n hx hb dX8_readString_1 rfl (lv_at hl 0 rfl) ?_
  refine va_get (D := D) (ci := 7) (v := .int (sc 5)) (C := RX8) (T := TX8) (N := 21) hx hb hts (fun w h => List.mem_cons_of_mem _ (List.mem_append_right _ h)) hown hK hP 0 rfl rfl 17 (by decide) (hts (.fieldLink RX8 148 "DeltaWindowsModel" "segmentLength" "I") (List.mem_of_getElem? (i := 1) rfl)) (fun _ h9 => h9) rfl dX8_readString_2 ?_
  refine lv_icmp_lt (tgt := 29) hx hb dX8_readString_5 (by decide) (fun c1 => ?_) (fun c1 => ?_)
  · rw [if_pos c1] at hf
    refine lv_aload_n hx hb dX8_readString_29 rfl (lv_at hl 0 rfl) ?_
    refine va_get (D := D) (ci := 7) (v := .int (sc 4)) (C := RX8) (T := TX8) (N := 21) hx hb hts (fun w h => List.mem_cons_of_mem _ (List.mem_append_right _ h)) hown hK hP 0 rfl rfl 16 (by decide) (hts (.fieldLink RX8 155 "DeltaWindowsModel" "segment" "I") (List.mem_of_getElem? (i := 4) rfl)) (fun _ h9 => h9) rfl dX8_readString_30 ?_
    refine lv_iconst (v := (1 : Int32)) hx hb dX8_readString_33 (by decide) ?_
    refine lv_icmp_ne (tgt := 51) hx hb dX8_readString_34 (by decide) (fun c2 => ?_) (fun c2 => ?_)
    · rw [if_neg c2] at hf
      refine lv_aload_n hx hb dX8_readString_51 rfl (lv_at hl 0 rfl) ?_
      refine va_get (D := D) (ci := 7) (v := .ref (q 1)) (C := RX8) (T := TX8) (N := 21) hx hb hts (fun w h => List.mem_cons_of_mem _ (List.mem_append_right _ h)) hown hK hP 0 rfl rfl 0 (by decide) (hts (.fieldLink RX8 7 "DeltaWindowsModel" "cell" "[I") (List.mem_of_getElem? (i := 2) rfl)) (fun _ h9 => h9) rfl dX8_readString_52 ?_
      refine lv_sipush (v := (4000 : Int32)) hx hb dX8_readString_55 (by decide) ?_
      refine lv_aload_n hx hb dX8_readString_58 rfl (lv_at hl 0 rfl) ?_
      refine va_get (D := D) (ci := 7) (v := .int (sc 6)) (C := RX8) (T := TX8) (N := 21) hx hb hts (fun w h => List.mem_cons_of_mem _ (List.mem_append_right _ h)) hown hK hP 0 rfl rfl 18 (by decide) (hts (.fieldLink RX8 158 "DeltaWindowsModel" "segmentPlace" "I") (List.mem_of_getElem? (i := 5) rfl)) (fun _ h9 => h9) rfl dX8_readString_59 ?_
      refine lv_iadd hx hb dX8_readString_62 ?_
      refine lv_iload_n hx hb dX8_readString_63 rfl (lv_at hl 1 rfl) ?_
      refine lv_iadd hx hb dX8_readString_64 ?_
      obtain ⟨g3, hf⟩ := g_inv hf
      refine va_iald (f := (ar 0)) hx hb hK hP 1 0 rfl rfl (inb_vp g3) dX8_readString_65 ?_
      obtain rfl := Option.some.inj hf
      exact k_retI hx hb hr hlocks hP hS dX8_readString_66
    · rw [if_pos c2] at hf
      refine lv_aload_n hx hb dX8_readString_37 rfl (lv_at hl 0 rfl) ?_
      refine va_get (D := D) (ci := 7) (v := .ref (q 1)) (C := RX8) (T := TX8) (N := 21) hx hb hts (fun w h => List.mem_cons_of_mem _ (List.mem_append_right _ h)) hown hK hP 0 rfl rfl 0 (by decide) (hts (.fieldLink RX8 7 "DeltaWindowsModel" "cell" "[I") (List.mem_of_getElem? (i := 2) rfl)) (fun _ h9 => h9) rfl dX8_readString_38 ?_
      refine lv_aload_n hx hb dX8_readString_41 rfl (lv_at hl 0 rfl) ?_
      refine va_get (D := D) (ci := 7) (v := .int (sc 6)) (C := RX8) (T := TX8) (N := 21) hx hb hts (fun w h => List.mem_cons_of_mem _ (List.mem_append_right _ h)) hown hK hP 0 rfl rfl 18 (by decide) (hts (.fieldLink RX8 158 "DeltaWindowsModel" "segmentPlace" "I") (List.mem_of_getElem? (i := 5) rfl)) (fun _ h9 => h9) rfl dX8_readString_42 ?_
      refine lv_iload_n hx hb dX8_readString_45 rfl (lv_at hl 1 rfl) ?_
      refine lv_iadd hx hb dX8_readString_46 ?_
      obtain ⟨g4, hf⟩ := g_inv hf
      refine va_iald (f := (ar 0)) hx hb hK hP 1 0 rfl rfl (inb_vp g4) dX8_readString_47 ?_
      refine lv_goto (tgt := 66) hx hb dX8_readString_48 (by decide) ?_
      obtain rfl := Option.some.inj hf
      exact k_retI hx hb hr hlocks hP hS dX8_readString_66
  · rw [if_neg c1] at hf
    refine lv_aload_n hx hb dX8_readString_8 rfl (lv_at hl 0 rfl) ?_
    refine va_get (D := D) (ci := 7) (v := .ref (q 1)) (C := RX8) (T := TX8) (N := 21) hx hb hts (fun w h => List.mem_cons_of_mem _ (List.mem_append_right _ h)) hown hK hP 0 rfl rfl 0 (by decide) (hts (.fieldLink RX8 7 "DeltaWindowsModel" "cell" "[I") (List.mem_of_getElem? (i := 2) rfl)) (fun _ h9 => h9) rfl dX8_readString_9 ?_
    refine lv_sipush (v := (4000 : Int32)) hx hb dX8_readString_12 (by decide) ?_
    refine lv_aload_n hx hb dX8_readString_15 rfl (lv_at hl 0 rfl) ?_
    refine va_get (D := D) (ci := 7) (v := .int (sc 7)) (C := RX8) (T := TX8) (N := 21) hx hb hts (fun w h => List.mem_cons_of_mem _ (List.mem_append_right _ h)) hown hK hP 0 rfl rfl 19 (by decide) (hts (.fieldLink RX8 145 "DeltaWindowsModel" "base" "I") (List.mem_of_getElem? (i := 3) rfl)) (fun _ h9 => h9) rfl dX8_readString_16 ?_
    refine lv_iadd hx hb dX8_readString_19 ?_
    refine lv_iload_n hx hb dX8_readString_20 rfl (lv_at hl 1 rfl) ?_
    refine lv_iadd hx hb dX8_readString_21 ?_
    refine lv_aload_n hx hb dX8_readString_22 rfl (lv_at hl 0 rfl) ?_
    refine va_get (D := D) (ci := 7) (v := .int (sc 5)) (C := RX8) (T := TX8) (N := 21) hx hb hts (fun w h => List.mem_cons_of_mem _ (List.mem_append_right _ h)) hown hK hP 0 rfl rfl 17 (by decide) (hts (.fieldLink RX8 148 "DeltaWindowsModel" "segmentLength" "I") (List.mem_of_getElem? (i := 1) rfl)) (fun _ h9 => h9) rfl dX8_readString_23 ?_
    refine lv_isub hx hb dX8_readString_26 ?_
    obtain ⟨g5, hf⟩ := g_inv hf
    refine va_iald (f := (ar 0)) hx hb hK hP 1 0 rfl rfl (inb_vp g5) dX8_readString_27 ?_
    obtain rfl := Option.some.inj hf
    exact k_retI hx hb hr hlocks hP hS dX8_readString_28

noncomputable def fX8_address (sc : Nat → Int32) (ar : Nat → Nat → Int32) (x1 : Int32) : Option (Int32 × (Nat → Int32) × (Nat → Nat → Int32)) :=
  (if x1 ≤ (5 : Int32) then
      (fX8_nextInteger sc ar (2 : Int32)).bind fun R3 =>
      if x1 = 0 then
        some (R3.1.toInt64, R3.2.1, R3.2.2)
      else
        if x1 = (1 : Int32) then
          (fX8_here R3.2.1 R3.2.2).bind fun R8 =>
          some ((R8.toInt64 - R3.1.toInt64), R3.2.1, R3.2.2)
        else
          if inb (x1 - (2 : Int32)) 4 = true then
          some ((((R3.2.2 2) (x1 - (2 : Int32)).toNatClampNeg).toInt64 + R3.1.toInt64), R3.2.1, R3.2.2)
          else none
    else
      (fX8_next sc ar (2 : Int32)).bind fun R10 =>
      if inb (((256 : Int32) * (x1 - (6 : Int32))) + R10.1) 768 = true then
      some (((R10.2.2 3) (((256 : Int32) * (x1 - (6 : Int32))) + R10.1).toNatClampNeg).toInt64, R10.2.1, R10.2.2)
      else none : Option (Int64 × (Nat → Int32) × (Nat → Nat → Int32))).bind fun R13 =>
  if (R13.2.1 3) = 0 then
    if (lg_cmp R13.1 (0 : Int64)) < 0 then
      some ((0 : Int32), (va_up R13.2.1 3 (1 : Int32)), R13.2.2)
    else
      (fX8_here R13.2.1 R13.2.2).bind fun R18 =>
      if (lg_cmp R13.1 R18.toInt64) < 0 then
        some (R13.1.toInt32, (va_up R13.2.1 3 (0 : Int32)), R13.2.2)
      else
        some ((0 : Int32), (va_up R13.2.1 3 (1 : Int32)), R13.2.2)
  else
    some ((0 : Int32), (va_up R13.2.1 3 (1 : Int32)), R13.2.2)

set_option maxHeartbeats 4000000 in
set_option maxRecDepth 100000 in
theorem kX8_address (l : Launch) (D : va_G) (q : Nat → Nat) (cA : Nat → ClassId) (sc : Nat → Int32) (ar : Nat → Nat → Int32) (x1 : Int32) {R : Int32 × (Nat → Int32) × (Nat → Nat → Int32)} (hf : fX8_address sc ar x1 = some R) : MI l yX8_address wsX8_address (rmD 2) D ([.ref (q 0), .int x1] : List Value) (wM q cA sc ar) (tM cA) NT R.1 (wM q cA R.2.1 R.2.2) := by
  refine MI.mk (cc := cX8_address) (maxL := 6) (ret := (some .int)) (by first | decide | decide +kernel) rfl (Nat.le_of_ble_eq_true rfl) ?_
  intro p e s m below meth cd A ls hE
  obtain ⟨hx, hb, hr, hml, hts, hown, hlocks, hP, hK, hD, hA, hN, hAe, hl⟩ := hE
  have hown : s.vm.findClass RX8 = some m.cls := hown
  have hS : va_S A s.heap s.heap [] := va_S.rf
  have hl : lv_has ls 6 [(0, .ref (q 0)), (1, .int x1)] := hl
  rw [fX8_address] at hf
  refine lv_lconst (v := (0 : Int64)) hx hb dX8_address_0 (by decide) ?_
  refine lv_lstore_n (lv' := [(2, .long (0 : Int64)), (0, .ref (q 0)), (1, .int x1)]) hx hb dX8_address_1 rfl hl (by decide) rfl (fun ls hl => ?_)
  refine lv_iload_n hx hb dX8_address_2 rfl (lv_at hl 2 rfl) ?_
  refine lv_iconst (v := (5 : Int32)) hx hb dX8_address_3 (by decide) ?_
  obtain ⟨R13, hj23, hf⟩ := b_inv hf
  have kont : ∀ (H : Heap) (locs : List Loc) (ls : Array Slot), lv_has ls 6 [(0, .ref (q 0)), (2, .long R13.1)] → va_P D vwCl (wM q cA R13.2.1 R13.2.2) H → va_D A (wM q cA R13.2.1 R13.2.2) → va_S A s.heap H locs → W p l e (headSpec wsX8_address (rmD 2)).room s m ([.ref (q 0), .int x1] : List Value).toArray below meth cd H locs 0 0 (QI D below ([.ref (q 0), .int x1] : List Value).toArray s A R.1 (wM q cA R.2.1 R.2.2)) (F0 m 81 ls []) := by
    intro H locs ls hl hP hD hS
    refine lv_aload_n hx hb dX8_address_81 rfl (lv_at hl 0 rfl) ?_
    refine lv_aload_n hx hb dX8_address_82 rfl (lv_at hl 0 rfl) ?_
    refine va_get (D := D) (ci := 7) (v := .int (R13.2.1 3)) (C := RX8) (T := TX8) (N := 21) hx hb hts (fun w h => List.mem_cons_of_mem _ (List.mem_append_right _ h)) hown hK hP 0 rfl rfl 15 (by decide) (hts (.fieldLink RX8 134 "DeltaWindowsModel" "bad" "Z") (List.mem_of_getElem? (i := 3) rfl)) (fun _ h9 => h9) rfl dX8_address_83 ?_
    refine lv_if_ne (tgt := 105) hx hb dX8_address_86 (by decide) (fun c14 => ?_) (fun c14 => ?_)
    · rw [if_neg c14] at hf
      refine lv_iconst (v := (1 : Int32)) hx hb dX8_address_105 (by decide) ?_
      refine lv_goto (tgt := 110) hx hb dX8_address_106 (by decide) ?_
      refine va_put (D := D) (ci := 7) (v := .int (1 : Int32)) (ty := .boolean) (C := RX8) (T := TX8) (N := 21) hx hb hts (fun w h => List.mem_cons_of_mem _ (List.mem_append_right _ h)) tyX8 tyX8_ok nmX8 hown hK hP hD hS 0 rfl rfl 15 (by decide) (hts (.fieldLink RX8 134 "DeltaWindowsModel" "bad" "Z") (List.mem_of_getElem? (i := 3) rfl)) (fun _ h9 => h9) rfl (by decide +kernel) rfl rfl (Nat.le_of_ble_eq_true rfl) dX8_address_110 (fun H locs hP hD hS => ?_)
      have hP : va_P D vwCl (wM q cA (va_up R13.2.1 3 (1 : Int32)) R13.2.2) H := va_P_eq (wM_s3 q cA R13.2.1 R13.2.2 (1 : Int32)) hP
      have hD : va_D A (wM q cA (va_up R13.2.1 3 (1 : Int32)) R13.2.2) := va_D_eq (wM_s3 q cA R13.2.1 R13.2.2 (1 : Int32)) hD
      refine lv_aload_n hx hb dX8_address_113 rfl (lv_at hl 0 rfl) ?_
      refine va_get (D := D) (ci := 7) (v := .int (1 : Int32)) (C := RX8) (T := TX8) (N := 21) hx hb hts (fun w h => List.mem_cons_of_mem _ (List.mem_append_right _ h)) hown hK hP 0 rfl rfl 15 (by decide) (hts (.fieldLink RX8 134 "DeltaWindowsModel" "bad" "Z") (List.mem_of_getElem? (i := 3) rfl)) (fun _ h9 => h9) rfl dX8_address_114 ?_
      refine lv_if_eq (tgt := 124) hx hb dX8_address_117 (by decide) (fun c15 => absurd c15 (by decide)) (fun _ => ?_)
      refine lv_iconst (v := (0 : Int32)) hx hb dX8_address_120 (by decide) ?_
      refine lv_goto (tgt := 126) hx hb dX8_address_121 (by decide) ?_
      obtain rfl := Option.some.inj hf
      exact k_retI hx hb hr hlocks hP hS dX8_address_126
    · rw [if_pos c14] at hf
      refine lv_lload_n hx hb dX8_address_89 rfl (lv_at hl 1 rfl) ?_
      refine lv_lconst (v := (0 : Int64)) hx hb dX8_address_90 (by decide) ?_
      refine W.lcmp hx hb dX8_address_91 ?_
      refine lv_if_lt (tgt := 105) hx hb dX8_address_92 (by decide) (fun c16 => ?_) (fun c16 => ?_)
      · rw [if_pos c16] at hf
        refine lv_iconst (v := (1 : Int32)) hx hb dX8_address_105 (by decide) ?_
        refine lv_goto (tgt := 110) hx hb dX8_address_106 (by decide) ?_
        refine va_put (D := D) (ci := 7) (v := .int (1 : Int32)) (ty := .boolean) (C := RX8) (T := TX8) (N := 21) hx hb hts (fun w h => List.mem_cons_of_mem _ (List.mem_append_right _ h)) tyX8 tyX8_ok nmX8 hown hK hP hD hS 0 rfl rfl 15 (by decide) (hts (.fieldLink RX8 134 "DeltaWindowsModel" "bad" "Z") (List.mem_of_getElem? (i := 3) rfl)) (fun _ h9 => h9) rfl (by decide +kernel) rfl rfl (Nat.le_of_ble_eq_true rfl) dX8_address_110 (fun H locs hP hD hS => ?_)
        have hP : va_P D vwCl (wM q cA (va_up R13.2.1 3 (1 : Int32)) R13.2.2) H := va_P_eq (wM_s3 q cA R13.2.1 R13.2.2 (1 : Int32)) hP
        have hD : va_D A (wM q cA (va_up R13.2.1 3 (1 : Int32)) R13.2.2) := va_D_eq (wM_s3 q cA R13.2.1 R13.2.2 (1 : Int32)) hD
        refine lv_aload_n hx hb dX8_address_113 rfl (lv_at hl 0 rfl) ?_
        refine va_get (D := D) (ci := 7) (v := .int (1 : Int32)) (C := RX8) (T := TX8) (N := 21) hx hb hts (fun w h => List.mem_cons_of_mem _ (List.mem_append_right _ h)) hown hK hP 0 rfl rfl 15 (by decide) (hts (.fieldLink RX8 134 "DeltaWindowsModel" "bad" "Z") (List.mem_of_getElem? (i := 3) rfl)) (fun _ h9 => h9) rfl dX8_address_114 ?_
        refine lv_if_eq (tgt := 124) hx hb dX8_address_117 (by decide) (fun c17 => absurd c17 (by decide)) (fun _ => ?_)
        refine lv_iconst (v := (0 : Int32)) hx hb dX8_address_120 (by decide) ?_
        refine lv_goto (tgt := 126) hx hb dX8_address_121 (by decide) ?_
        obtain rfl := Option.some.inj hf
        exact k_retI hx hb hr hlocks hP hS dX8_address_126
      · rw [if_neg c16] at hf
        refine lv_lload_n hx hb dX8_address_95 rfl (lv_at hl 1 rfl) ?_
        refine lv_aload_n hx hb dX8_address_96 rfl (lv_at hl 0 rfl) ?_
        obtain ⟨R18, hc19, hf⟩ := b_inv hf
        have hk := kall (wc' := (wM q cA R13.2.1 R13.2.2)) hP hD hS hA rfl
        refine k_goI (va_runV (As := []) (rest := [.long R13.1, .ref (q 0)]) ⟨hx, hb, hml, hown, hts⟩ (kX8_here l D q cA R13.2.1 R13.2.2 hc19 _) (cwV 0 hts gX8_address_X8_here rfl rfl rfl (by decide +kernel) ⟨Nat.le_of_ble_eq_true rfl, Nat.le_of_ble_eq_true rfl⟩) (k_preV (q0 := 0) (ci := 7) hk hK NT_bl NT_u rfl rfl rfl) rfl rfl hl.1 rfl (lv_room (Nat.le_of_ble_eq_true rfl)) dX8_address_97 ⟨Nat.zero_le _, Nat.zero_le _⟩) hk hS (fun H locs hP hD hS => ?_)
        refine lv_i2l (v := R18.toInt64) hx hb dX8_address_100 rfl ?_
        refine W.lcmp hx hb dX8_address_101 ?_
        refine lv_if_lt (tgt := 109) hx hb dX8_address_102 (by decide) (fun c20 => ?_) (fun c20 => ?_)
        · rw [if_pos c20] at hf
          refine lv_iconst (v := (0 : Int32)) hx hb dX8_address_109 (by decide) ?_
          refine va_put (D := D) (ci := 7) (v := .int (0 : Int32)) (ty := .boolean) (C := RX8) (T := TX8) (N := 21) hx hb hts (fun w h => List.mem_cons_of_mem _ (List.mem_append_right _ h)) tyX8 tyX8_ok nmX8 hown hK hP hD hS 0 rfl rfl 15 (by decide) (hts (.fieldLink RX8 134 "DeltaWindowsModel" "bad" "Z") (List.mem_of_getElem? (i := 3) rfl)) (fun _ h9 => h9) rfl (by decide +kernel) rfl rfl (Nat.le_of_ble_eq_true rfl) dX8_address_110 (fun H locs hP hD hS => ?_)
          have hP : va_P D vwCl (wM q cA (va_up R13.2.1 3 (0 : Int32)) R13.2.2) H := va_P_eq (wM_s3 q cA R13.2.1 R13.2.2 (0 : Int32)) hP
          have hD : va_D A (wM q cA (va_up R13.2.1 3 (0 : Int32)) R13.2.2) := va_D_eq (wM_s3 q cA R13.2.1 R13.2.2 (0 : Int32)) hD
          refine lv_aload_n hx hb dX8_address_113 rfl (lv_at hl 0 rfl) ?_
          refine va_get (D := D) (ci := 7) (v := .int (0 : Int32)) (C := RX8) (T := TX8) (N := 21) hx hb hts (fun w h => List.mem_cons_of_mem _ (List.mem_append_right _ h)) hown hK hP 0 rfl rfl 15 (by decide) (hts (.fieldLink RX8 134 "DeltaWindowsModel" "bad" "Z") (List.mem_of_getElem? (i := 3) rfl)) (fun _ h9 => h9) rfl dX8_address_114 ?_
          refine lv_if_eq (tgt := 124) hx hb dX8_address_117 (by decide) (fun _ => ?_) (fun c21 => absurd c21 (by decide))
          refine lv_lload_n hx hb dX8_address_124 rfl (lv_at hl 1 rfl) ?_
          refine lv_l2i (v := R13.1.toInt32) hx hb dX8_address_125 rfl ?_
          obtain rfl := Option.some.inj hf
          exact k_retI hx hb hr hlocks hP hS dX8_address_126
        · rw [if_neg c20] at hf
          refine lv_iconst (v := (1 : Int32)) hx hb dX8_address_105 (by decide) ?_
          refine lv_goto (tgt := 110) hx hb dX8_address_106 (by decide) ?_
          refine va_put (D := D) (ci := 7) (v := .int (1 : Int32)) (ty := .boolean) (C := RX8) (T := TX8) (N := 21) hx hb hts (fun w h => List.mem_cons_of_mem _ (List.mem_append_right _ h)) tyX8 tyX8_ok nmX8 hown hK hP hD hS 0 rfl rfl 15 (by decide) (hts (.fieldLink RX8 134 "DeltaWindowsModel" "bad" "Z") (List.mem_of_getElem? (i := 3) rfl)) (fun _ h9 => h9) rfl (by decide +kernel) rfl rfl (Nat.le_of_ble_eq_true rfl) dX8_address_110 (fun H locs hP hD hS => ?_)
          have hP : va_P D vwCl (wM q cA (va_up R13.2.1 3 (1 : Int32)) R13.2.2) H := va_P_eq (wM_s3 q cA R13.2.1 R13.2.2 (1 : Int32)) hP
          have hD : va_D A (wM q cA (va_up R13.2.1 3 (1 : Int32)) R13.2.2) := va_D_eq (wM_s3 q cA R13.2.1 R13.2.2 (1 : Int32)) hD
          refine lv_aload_n hx hb dX8_address_113 rfl (lv_at hl 0 rfl) ?_
          refine va_get (D := D) (ci := 7) (v := .int (1 : Int32)) (C := RX8) (T := TX8) (N := 21) hx hb hts (fun w h => List.mem_cons_of_mem _ (List.mem_append_right _ h)) hown hK hP 0 rfl rfl 15 (by decide) (hts (.fieldLink RX8 134 "DeltaWindowsModel" "bad" "Z") (List.mem_of_getElem? (i := 3) rfl)) (fun _ h9 => h9) rfl dX8_address_114 ?_
          refine lv_if_eq (tgt := 124) hx hb dX8_address_117 (by decide) (fun c22 => absurd c22 (by decide)) (fun _ => ?_)
          refine lv_iconst (v := (0 : Int32)) hx hb dX8_address_120 (by decide) ?_
          refine lv_goto (tgt := 126) hx hb dX8_address_121 (by decide) ?_
          obtain rfl := Option.some.inj hf
          exact k_retI hx hb hr hlocks hP hS dX8_address_126
  refine lv_icmp_le (tgt := 35) hx hb dX8_address_4 (by decide) (fun c2 => ?_) (fun c2 => ?_)
  · rw [if_pos c2] at hj23
    refine lv_aload_n hx hb dX8_address_35 rfl (lv_at hl 1 rfl) ?_
    refine lv_iconst (v := (2 : Int32)) hx hb dX8_address_36 (by decide) ?_
    obtain ⟨R3, hc4, hj23⟩ := b_inv hj23
    have hk := kall (wc' := (wM q cA R3.2.1 R3.2.2)) hP hD hS hA rfl
    refine k_goI (va_runV (As := [.int (2 : Int32)]) (rest := []) ⟨hx, hb, hml, hown, hts⟩ (kX8_nextInteger l D q cA sc ar (2 : Int32) hc4 _) (cwV 1 hts gX8_address_X8_nextInteger rfl rfl rfl (by decide +kernel) ⟨Nat.le_of_ble_eq_true rfl, Nat.le_of_ble_eq_true rfl⟩) (k_preV (q0 := 0) (ci := 7) hk hK NT_bl NT_u rfl rfl rfl) rfl rfl hl.1 rfl (lv_room (Nat.le_of_ble_eq_true rfl)) dX8_address_37 ⟨Nat.zero_le _, Nat.zero_le _⟩) hk hS (fun H locs hP hD hS => ?_)
    refine lv_i2l (v := R3.1.toInt64) hx hb dX8_address_40 rfl ?_
    refine lv_lstore (lv' := [(4, .long R3.1.toInt64), (2, .long (0 : Int64)), (0, .ref (q 0)), (1, .int x1)]) hx hb dX8_address_41 hl (by decide) rfl (fun ls hl => ?_)
    refine lv_iload_n hx hb dX8_address_43 rfl (lv_at hl 3 rfl) ?_
    refine lv_if_ne (tgt := 52) hx hb dX8_address_44 (by decide) (fun c5 => ?_) (fun c5 => ?_)
    · rw [if_neg c5] at hj23
      refine lv_iload_n hx hb dX8_address_52 rfl (lv_at hl 3 rfl) ?_
      refine lv_iconst (v := (1 : Int32)) hx hb dX8_address_53 (by decide) ?_
      refine lv_icmp_ne (tgt := 68) hx hb dX8_address_54 (by decide) (fun c6 => ?_) (fun c6 => ?_)
      · rw [if_neg c6] at hj23
        refine lv_aload_n hx hb dX8_address_68 rfl (lv_at hl 2 rfl) ?_
        refine va_get (D := D) (ci := 7) (v := .ref (q 3)) (C := RX8) (T := TX8) (N := 21) hx hb hts (fun w h => List.mem_cons_of_mem _ (List.mem_append_right _ h)) hown hK hP 0 rfl rfl 3 (by decide) (hts (.fieldLink RX8 16 "DeltaWindowsModel" "near" "[I") (List.mem_of_getElem? (i := 2) rfl)) (fun _ h9 => h9) rfl dX8_address_69 ?_
        refine lv_iload_n hx hb dX8_address_72 rfl (lv_at hl 3 rfl) ?_
        refine lv_iconst (v := (2 : Int32)) hx hb dX8_address_73 (by decide) ?_
        refine lv_isub hx hb dX8_address_74 ?_
        obtain ⟨g7, hj23⟩ := g_inv hj23
        refine va_iald (f := (R3.2.2 2)) hx hb hK hP 3 2 rfl rfl (inb_vp g7) dX8_address_75 ?_
        refine lv_i2l (v := ((R3.2.2 2) (x1 - (2 : Int32)).toNatClampNeg).toInt64) hx hb dX8_address_76 rfl ?_
        refine lv_lload hx hb dX8_address_77 (lv_at hl 0 rfl) ?_
        refine lv_ladd hx hb dX8_address_79 ?_
        refine lv_lstore_n (lv' := [(2, .long (((R3.2.2 2) (x1 - (2 : Int32)).toNatClampNeg).toInt64 + R3.1.toInt64)), (4, .long R3.1.toInt64), (0, .ref (q 0)), (1, .int x1)]) hx hb dX8_address_80 rfl hl (by decide) rfl (fun ls hl => ?_)
        obtain rfl := Option.some.inj hj23
        exact kont _ _ _ (lv_sub hl [2, 0] rfl) hP hD hS
      · rw [if_pos c6] at hj23
        refine lv_aload_n hx hb dX8_address_57 rfl (lv_at hl 2 rfl) ?_
        obtain ⟨R8, hc9, hj23⟩ := b_inv hj23
        have hk := kall (wc' := (wM q cA R3.2.1 R3.2.2)) hP hD hS hA rfl
        refine k_goI (va_runV (As := []) (rest := []) ⟨hx, hb, hml, hown, hts⟩ (kX8_here l D q cA R3.2.1 R3.2.2 hc9 _) (cwV 0 hts gX8_address_X8_here rfl rfl rfl (by decide +kernel) ⟨Nat.le_of_ble_eq_true rfl, Nat.le_of_ble_eq_true rfl⟩) (k_preV (q0 := 0) (ci := 7) hk hK NT_bl NT_u rfl rfl rfl) rfl rfl hl.1 rfl (lv_room (Nat.le_of_ble_eq_true rfl)) dX8_address_58 ⟨Nat.zero_le _, Nat.zero_le _⟩) hk hS (fun H locs hP hD hS => ?_)
        refine lv_i2l (v := R8.toInt64) hx hb dX8_address_61 rfl ?_
        refine lv_lload hx hb dX8_address_62 (lv_at hl 0 rfl) ?_
        refine lv_lsub hx hb dX8_address_64 ?_
        refine lv_goto (tgt := 80) hx hb dX8_address_65 (by decide) ?_
        refine lv_lstore_n (lv' := [(2, .long (R8.toInt64 - R3.1.toInt64)), (4, .long R3.1.toInt64), (0, .ref (q 0)), (1, .int x1)]) hx hb dX8_address_80 rfl hl (by decide) rfl (fun ls hl => ?_)
        obtain rfl := Option.some.inj hj23
        exact kont _ _ _ (lv_sub hl [2, 0] rfl) hP hD hS
    · rw [if_pos c5] at hj23
      refine lv_lload hx hb dX8_address_47 (lv_at hl 0 rfl) ?_
      refine lv_goto (tgt := 80) hx hb dX8_address_49 (by decide) ?_
      refine lv_lstore_n (lv' := [(2, .long R3.1.toInt64), (4, .long R3.1.toInt64), (0, .ref (q 0)), (1, .int x1)]) hx hb dX8_address_80 rfl hl (by decide) rfl (fun ls hl => ?_)
      obtain rfl := Option.some.inj hj23
      exact kont _ _ _ (lv_sub hl [2, 0] rfl) hP hD hS
  · rw [if_neg c2] at hj23
    refine lv_aload_n hx hb dX8_address_7 rfl (lv_at hl 1 rfl) ?_
    refine lv_iconst (v := (2 : Int32)) hx hb dX8_address_8 (by decide) ?_
    obtain ⟨R10, hc11, hj23⟩ := b_inv hj23
    have hk := kall (wc' := (wM q cA R10.2.1 R10.2.2)) hP hD hS hA rfl
    refine k_goI (va_runV (As := [.int (2 : Int32)]) (rest := []) ⟨hx, hb, hml, hown, hts⟩ (kX8_next l D q cA sc ar (2 : Int32) hc11 _) (cwV 1 hts gX8_address_X8_next rfl rfl rfl (by decide +kernel) ⟨Nat.le_of_ble_eq_true rfl, Nat.le_of_ble_eq_true rfl⟩) (k_preV (q0 := 0) (ci := 7) hk hK NT_bl NT_u rfl rfl rfl) rfl rfl hl.1 rfl (lv_room (Nat.le_of_ble_eq_true rfl)) dX8_address_9 ⟨Nat.zero_le _, Nat.zero_le _⟩) hk hS (fun H locs hP hD hS => ?_)
    refine lv_istore (lv' := [(4, .int R10.1), (2, .long (0 : Int64)), (0, .ref (q 0)), (1, .int x1)]) hx hb dX8_address_12 hl (by decide) rfl (fun ls hl => ?_)
    refine lv_aload_n hx hb dX8_address_14 rfl (lv_at hl 2 rfl) ?_
    refine va_get (D := D) (ci := 7) (v := .ref (q 4)) (C := RX8) (T := TX8) (N := 21) hx hb hts (fun w h => List.mem_cons_of_mem _ (List.mem_append_right _ h)) hown hK hP 0 rfl rfl 4 (by decide) (hts (.fieldLink RX8 19 "DeltaWindowsModel" "same" "[I") (List.mem_of_getElem? (i := 1) rfl)) (fun _ h9 => h9) rfl dX8_address_15 ?_
    refine lv_sipush (v := (256 : Int32)) hx hb dX8_address_18 (by decide) ?_
    refine lv_iload_n hx hb dX8_address_21 rfl (lv_at hl 3 rfl) ?_
    refine lv_bipush (v := (6 : Int32)) hx hb dX8_address_22 (by decide) ?_
    refine lv_isub hx hb dX8_address_24 ?_
    refine lv_imul hx hb dX8_address_25 ?_
    refine lv_iload hx hb dX8_address_26 (lv_at hl 0 rfl) ?_
    refine lv_iadd hx hb dX8_address_28 ?_
    obtain ⟨g12, hj23⟩ := g_inv hj23
    refine va_iald (f := (R10.2.2 3)) hx hb hK hP 4 3 rfl rfl (inb_vp g12) dX8_address_29 ?_
    refine lv_i2l (v := ((R10.2.2 3) (((256 : Int32) * (x1 - (6 : Int32))) + R10.1).toNatClampNeg).toInt64) hx hb dX8_address_30 rfl ?_
    refine lv_lstore_n (lv' := [(2, .long ((R10.2.2 3) (((256 : Int32) * (x1 - (6 : Int32))) + R10.1).toNatClampNeg).toInt64), (4, .int R10.1), (0, .ref (q 0)), (1, .int x1)]) hx hb dX8_address_31 rfl hl (by decide) rfl (fun ls hl => ?_)
    refine lv_goto (tgt := 81) hx hb dX8_address_32 (by decide) ?_
    obtain rfl := Option.some.inj hj23
    exact kont _ _ _ (lv_sub hl [2, 0] rfl) hP hD hS

noncomputable def fX8_perform_L91 (v1 : Int32) (v2 : Int32) : Nat → (Int32) → (Int32) → (Nat → Int32) → (Nat → Nat → Int32) → Option ((Nat → Int32) × (Nat → Nat → Int32))
  | 0, _, _, _, _ => none
  | k + 1, v4, v5, sc, ar =>
    if v2 ≤ v5 then
      some (sc, ar)
    else
      if (sc 3) = 0 then
        if v1 = (1 : Int32) then
          (fX8_next sc ar (0 : Int32)).bind fun R9 =>
          (fX8_append R9.2.1 R9.2.2 (4 : Int32) R9.1).bind fun R11 =>
          fX8_perform_L91 v1 v2 k R9.1 (v5 + (1 : Int32)) R9.2.1 R11
        else
          if v5 = 0 then
            (fX8_next sc ar (0 : Int32)).bind fun R16 =>
            (fX8_append R16.2.1 R16.2.2 (4 : Int32) R16.1).bind fun R18 =>
            fX8_perform_L91 v1 v2 k R16.1 (v5 + (1 : Int32)) R16.2.1 R18
          else
            (fX8_append sc ar (4 : Int32) v4).bind fun R14 =>
            fX8_perform_L91 v1 v2 k v4 (v5 + (1 : Int32)) sc R14
      else
        some (sc, ar)

noncomputable def fX8_perform_L38 (sc : Nat → Int32) (v2 : Int32) (v4 : Int32) : Nat → (Int32) → (Nat → Nat → Int32) → Option ((Nat → Nat → Int32))
  | 0, _, _ => none
  | k + 1, v5, ar =>
    if v2 ≤ v5 then
      some ar
    else
      if (sc 3) = 0 then
        (fX8_readString sc ar (v4 + v5)).bind fun R26 =>
        (fX8_append sc ar (4 : Int32) R26).bind fun R28 =>
        fX8_perform_L38 sc v2 v4 k (v5 + (1 : Int32)) R28
      else
        some ar

noncomputable def fX8_perform (sc : Nat → Int32) (ar : Nat → Nat → Int32) (x1 : Int32) (x2 : Int32) (x3 : Int32) : Option ((Nat → Int32) × (Nat → Nat → Int32)) :=
  if x2 = 0 then
    some ((va_up sc 3 (1 : Int32)), ar)
  else
    (fX8_made sc ar).bind fun R2 =>
    if x2 ≤ ((sc 8) - R2) then
      if x1 = (3 : Int32) then
        (fX8_address sc ar x3).bind fun R22 =>
        (fX8_perform_L38 R22.2.1 x2 R22.1 FU (0 : Int32) R22.2.2).bind fun R30 =>
        if (R22.2.1 3) = 0 then
          (fX8_note R22.2.1 R30 R22.1).bind fun R33 =>
          some (R33.1, R33.2)
        else
          some (R22.2.1, R30)
      else
        (fX8_perform_L91 x1 x2 FU (0 : Int32) (0 : Int32) sc ar).bind fun R20 =>
        some (R20.1, R20.2)
    else
      some ((va_up sc 3 (1 : Int32)), ar)

set_option maxHeartbeats 4000000 in
set_option maxRecDepth 100000 in
theorem kX8_perform (l : Launch) (D : va_G) (q : Nat → Nat) (cA : Nat → ClassId) (sc : Nat → Int32) (ar : Nat → Nat → Int32) (x1 : Int32) (x2 : Int32) (x3 : Int32) {R : (Nat → Int32) × (Nat → Nat → Int32)} (hf : fX8_perform sc ar x1 x2 x3 = some R) : MV l yX8_perform wsX8_perform (rmD 3) D ([.ref (q 0), .int x1, .int x2, .int x3] : List Value) (wM q cA sc ar) (tM cA) NT (wM q cA R.1 R.2) := by
  refine MV.mk (cc := cX8_perform) (maxL := 6) (ret := none) (by first | decide | decide +kernel) rfl (Nat.le_of_ble_eq_true rfl) ?_
  intro p e s m below meth cd A ls hE
  obtain ⟨hx, hb, hr, hml, hts, hown, hlocks, hP, hK, hD, hA, hN, hAe, hl⟩ := hE
  have hown : s.vm.findClass RX8 = some m.cls := hown
  have hS : va_S A s.heap s.heap [] := va_S.rf
  have hl : lv_has ls 6 [(0, .ref (q 0)), (1, .int x1), (2, .int x2), (3, .int x3)] := hl
  rw [fX8_perform] at hf
  refine lv_iload_n hx hb dX8_perform_0 rfl (lv_at hl 2 rfl) ?_
  refine lv_if_eq (tgt := 17) hx hb dX8_perform_1 (by decide) (fun c1 => ?_) (fun c1 => ?_)
  · rw [if_pos c1] at hf
    refine lv_aload_n hx hb dX8_perform_17 rfl (lv_at hl 0 rfl) ?_
    refine lv_iconst (v := (1 : Int32)) hx hb dX8_perform_18 (by decide) ?_
    refine va_put (D := D) (ci := 7) (v := .int (1 : Int32)) (ty := .boolean) (C := RX8) (T := TX8) (N := 21) hx hb hts (fun w h => List.mem_cons_of_mem _ (List.mem_append_right _ h)) tyX8 tyX8_ok nmX8 hown hK hP hD hS 0 rfl rfl 15 (by decide) (hts (.fieldLink RX8 134 "DeltaWindowsModel" "bad" "Z") (List.mem_of_getElem? (i := 2) rfl)) (fun _ h9 => h9) rfl (by decide +kernel) rfl rfl (Nat.le_of_ble_eq_true rfl) dX8_perform_19 (fun H locs hP hD hS => ?_)
    have hP : va_P D vwCl (wM q cA (va_up sc 3 (1 : Int32)) ar) H := va_P_eq (wM_s3 q cA sc ar (1 : Int32)) hP
    have hD : va_D A (wM q cA (va_up sc 3 (1 : Int32)) ar) := va_D_eq (wM_s3 q cA sc ar (1 : Int32)) hD
    obtain rfl := Option.some.inj hf
    exact k_retV hx hb hr hlocks hP hS dX8_perform_22
  · rw [if_neg c1] at hf
    refine lv_iload_n hx hb dX8_perform_4 rfl (lv_at hl 2 rfl) ?_
    refine lv_aload_n hx hb dX8_perform_5 rfl (lv_at hl 0 rfl) ?_
    refine va_get (D := D) (ci := 7) (v := .int (sc 8)) (C := RX8) (T := TX8) (N := 21) hx hb hts (fun w h => List.mem_cons_of_mem _ (List.mem_append_right _ h)) hown hK hP 0 rfl rfl 20 (by decide) (hts (.fieldLink RX8 167 "DeltaWindowsModel" "due" "I") (List.mem_of_getElem? (i := 1) rfl)) (fun _ h9 => h9) rfl dX8_perform_6 ?_
    refine lv_aload_n hx hb dX8_perform_9 rfl (lv_at hl 0 rfl) ?_
    obtain ⟨R2, hc3, hf⟩ := b_inv hf
    have hk := kall (wc' := (wM q cA sc ar)) hP hD hS hA rfl
    refine k_goI (va_runV (As := []) (rest := [.int (sc 8), .int x2]) ⟨hx, hb, hml, hown, hts⟩ (kX8_made l D q cA sc ar hc3 _) (cwV 0 hts gX8_perform_X8_made rfl rfl rfl (by decide +kernel) ⟨Nat.le_of_ble_eq_true rfl, Nat.le_of_ble_eq_true rfl⟩) (k_preV (q0 := 0) (ci := 7) hk hK NT_bl NT_u rfl rfl rfl) rfl rfl hl.1 rfl (lv_room (Nat.le_of_ble_eq_true rfl)) dX8_perform_10 ⟨Nat.zero_le _, Nat.zero_le _⟩) hk hS (fun H locs hP hD hS => ?_)
    refine lv_isub hx hb dX8_perform_13 ?_
    refine lv_icmp_le (tgt := 23) hx hb dX8_perform_14 (by decide) (fun c4 => ?_) (fun c4 => ?_)
    · rw [if_pos c4] at hf
      refine lv_iload_n hx hb dX8_perform_23 rfl (lv_at hl 1 rfl) ?_
      refine lv_iconst (v := (3 : Int32)) hx hb dX8_perform_24 (by decide) ?_
      refine lv_icmp_ne (tgt := 85) hx hb dX8_perform_25 (by decide) (fun c5 => ?_) (fun c5 => ?_)
      · rw [if_neg c5] at hf
        refine lv_iconst (v := (0 : Int32)) hx hb dX8_perform_85 (by decide) ?_
        refine lv_istore (lv' := [(4, .int (0 : Int32)), (0, .ref (q 0)), (1, .int x1), (2, .int x2), (3, .int x3)]) hx hb dX8_perform_86 hl (by decide) rfl (fun ls hl => ?_)
        refine lv_iconst (v := (0 : Int32)) hx hb dX8_perform_88 (by decide) ?_
        refine lv_istore (lv' := [(5, .int (0 : Int32)), (4, .int (0 : Int32)), (0, .ref (q 0)), (1, .int x1), (2, .int x2), (3, .int x3)]) hx hb dX8_perform_89 hl (by decide) rfl (fun ls hl => ?_)
        have lp35 : ∀ (v1 : Int32) (v2 : Int32), ∀ (k : Nat) (v4 : Int32) (v5 : Int32) (sc : Nat → Int32) (ar : Nat → Nat → Int32) (H : Heap) (locs : List Loc) (ls : Array Slot) (o : (Nat → Int32) × (Nat → Nat → Int32)), lv_has ls 6 [(4, .int v4), (5, .int v5), (1, .int v1), (2, .int v2), (0, .ref (q 0))] → va_P D vwCl (wM q cA sc ar) H → va_D A (wM q cA sc ar) → va_S A s.heap H locs → fX8_perform_L91 v1 v2 k v4 v5 sc ar = some o → (∀ (H : Heap) (locs : List Loc) (ls : Array Slot), lv_has ls 6 [] → va_P D vwCl (wM q cA o.1 o.2) H → va_D A (wM q cA o.1 o.2) → va_S A s.heap H locs → W p l e (headSpec wsX8_perform (rmD 3)).room s m ([.ref (q 0), .int x1, .int x2, .int x3] : List Value).toArray below meth cd H locs 0 0 (QV D below ([.ref (q 0), .int x1, .int x2, .int x3] : List Value).toArray s A (wM q cA R.1 R.2)) (F0 m 139 ls [])) → W p l e (headSpec wsX8_perform (rmD 3)).room s m ([.ref (q 0), .int x1, .int x2, .int x3] : List Value).toArray below meth cd H locs 0 0 (QV D below ([.ref (q 0), .int x1, .int x2, .int x3] : List Value).toArray s A (wM q cA R.1 R.2)) (F0 m 91 ls []) := by
          intro v1 v2
          intro k
          induction k with
          | zero =>
            intro v4 v5 sc ar H locs ls o hl hP hD hS hf
            exact absurd hf (by simp [fX8_perform_L91])
          | succ k ih =>
            intro v4 v5 sc ar H locs ls o hl hP hD hS hf kont
            rw [fX8_perform_L91] at hf
            refine lv_iload hx hb dX8_perform_91 (lv_at hl 1 rfl) ?_
            refine lv_iload_n hx hb dX8_perform_93 rfl (lv_at hl 3 rfl) ?_
            refine lv_icmp_ge (tgt := 139) hx hb dX8_perform_94 (by decide) (fun c6 => ?_) (fun c6 => ?_)
            · rw [if_pos c6] at hf
              obtain rfl := Option.some.inj hf
              exact kont _ _ _ (lv_sub hl [] rfl) hP hD hS
            · rw [if_neg c6] at hf
              refine lv_aload_n hx hb dX8_perform_97 rfl (lv_at hl 4 rfl) ?_
              refine va_get (D := D) (ci := 7) (v := .int (sc 3)) (C := RX8) (T := TX8) (N := 21) hx hb hts (fun w h => List.mem_cons_of_mem _ (List.mem_append_right _ h)) hown hK hP 0 rfl rfl 15 (by decide) (hts (.fieldLink RX8 134 "DeltaWindowsModel" "bad" "Z") (List.mem_of_getElem? (i := 2) rfl)) (fun _ h9 => h9) rfl dX8_perform_98 ?_
              refine lv_if_ne (tgt := 139) hx hb dX8_perform_101 (by decide) (fun c7 => ?_) (fun c7 => ?_)
              · rw [if_neg c7] at hf
                obtain rfl := Option.some.inj hf
                exact kont _ _ _ (lv_sub hl [] rfl) hP hD hS
              · rw [if_pos c7] at hf
                refine lv_iload_n hx hb dX8_perform_104 rfl (lv_at hl 2 rfl) ?_
                refine lv_iconst (v := (1 : Int32)) hx hb dX8_perform_105 (by decide) ?_
                refine lv_icmp_eq (tgt := 114) hx hb dX8_perform_106 (by decide) (fun c8 => ?_) (fun c8 => ?_)
                · rw [if_pos c8] at hf
                  refine lv_aload_n hx hb dX8_perform_114 rfl (lv_at hl 4 rfl) ?_
                  refine lv_iconst (v := (0 : Int32)) hx hb dX8_perform_115 (by decide) ?_
                  obtain ⟨R9, hc10, hf⟩ := b_inv hf
                  have hk := kall (wc' := (wM q cA R9.2.1 R9.2.2)) hP hD hS hA rfl
                  refine k_goI (va_runV (As := [.int (0 : Int32)]) (rest := []) ⟨hx, hb, hml, hown, hts⟩ (kX8_next l D q cA sc ar (0 : Int32) hc10 _) (cwV 1 hts gX8_perform_X8_next rfl rfl rfl (by decide +kernel) ⟨Nat.le_of_ble_eq_true rfl, Nat.le_of_ble_eq_true rfl⟩) (k_preV (q0 := 0) (ci := 7) hk hK NT_bl NT_u rfl rfl rfl) rfl rfl hl.1 rfl (lv_room (Nat.le_of_ble_eq_true rfl)) dX8_perform_116 ⟨Nat.zero_le _, Nat.zero_le _⟩) hk hS (fun H locs hP hD hS => ?_)
                  refine lv_goto (tgt := 124) hx hb dX8_perform_119 (by decide) ?_
                  refine lv_istore (lv' := [(4, .int R9.1), (5, .int v5), (1, .int v1), (2, .int v2), (0, .ref (q 0))]) hx hb dX8_perform_124 hl (by decide) rfl (fun ls hl => ?_)
                  refine lv_aload_n hx hb dX8_perform_126 rfl (lv_at hl 4 rfl) ?_
                  refine lv_iconst (v := (4 : Int32)) hx hb dX8_perform_127 (by decide) ?_
                  refine lv_iload hx hb dX8_perform_128 (lv_at hl 0 rfl) ?_
                  obtain ⟨R11, hc12, hf⟩ := b_inv hf
                  have hk := kall (wc' := (wM q cA R9.2.1 R11)) hP hD hS hA rfl
                  refine k_goV (va_runV (As := [.int (4 : Int32), .int R9.1]) (rest := []) ⟨hx, hb, hml, hown, hts⟩ (kX8_append l D q cA R9.2.1 R9.2.2 (4 : Int32) R9.1 hc12 _) (cwV 2 hts gX8_perform_X8_append rfl rfl rfl (by decide +kernel) ⟨Nat.le_of_ble_eq_true rfl, Nat.le_of_ble_eq_true rfl⟩) (k_preV (q0 := 0) (ci := 7) hk hK NT_bl NT_u rfl rfl rfl) rfl rfl hl.1 rfl (lv_room (Nat.le_of_ble_eq_true rfl)) dX8_perform_130 ⟨Nat.zero_le _, Nat.zero_le _⟩) hk hS (fun H locs hP hD hS => ?_)
                  refine lv_iinc (v := (v5 + (1 : Int32))) (lv' := [(5, .int (v5 + (1 : Int32))), (4, .int R9.1), (1, .int v1), (2, .int v2), (0, .ref (q 0))]) hx hb dX8_perform_133 hl (k := 1) rfl rfl (by decide) rfl (fun ls hl => ?_)
                  refine lv_goto (tgt := 91) hx hb dX8_perform_136 (by decide) ?_
                  exact ih R9.1 (v5 + (1 : Int32)) R9.2.1 R11 _ _ _ o (lv_sub hl [1, 0, 2, 3, 4] rfl) hP hD hS hf kont
                · rw [if_neg c8] at hf
                  refine lv_iload hx hb dX8_perform_109 (lv_at hl 1 rfl) ?_
                  refine lv_if_ne (tgt := 122) hx hb dX8_perform_111 (by decide) (fun c13 => ?_) (fun c13 => ?_)
                  · rw [if_neg c13] at hf
                    refine lv_iload hx hb dX8_perform_122 (lv_at hl 0 rfl) ?_
                    refine lv_istore (lv' := [(4, .int v4), (5, .int v5), (1, .int v1), (2, .int v2), (0, .ref (q 0))]) hx hb dX8_perform_124 hl (by decide) rfl (fun ls hl => ?_)
                    refine lv_aload_n hx hb dX8_perform_126 rfl (lv_at hl 4 rfl) ?_
                    refine lv_iconst (v := (4 : Int32)) hx hb dX8_perform_127 (by decide) ?_
                    refine lv_iload hx hb dX8_perform_128 (lv_at hl 0 rfl) ?_
                    obtain ⟨R14, hc15, hf⟩ := b_inv hf
                    have hk := kall (wc' := (wM q cA sc R14)) hP hD hS hA rfl
                    refine k_goV (va_runV (As := [.int (4 : Int32), .int v4]) (rest := []) ⟨hx, hb, hml, hown, hts⟩ (kX8_append l D q cA sc ar (4 : Int32) v4 hc15 _) (cwV 2 hts gX8_perform_X8_append rfl rfl rfl (by decide +kernel) ⟨Nat.le_of_ble_eq_true rfl, Nat.le_of_ble_eq_true rfl⟩) (k_preV (q0 := 0) (ci := 7) hk hK NT_bl NT_u rfl rfl rfl) rfl rfl hl.1 rfl (lv_room (Nat.le_of_ble_eq_true rfl)) dX8_perform_130 ⟨Nat.zero_le _, Nat.zero_le _⟩) hk hS (fun H locs hP hD hS => ?_)
                    refine lv_iinc (v := (v5 + (1 : Int32))) (lv' := [(5, .int (v5 + (1 : Int32))), (4, .int v4), (1, .int v1), (2, .int v2), (0, .ref (q 0))]) hx hb dX8_perform_133 hl (k := 1) rfl rfl (by decide) rfl (fun ls hl => ?_)
                    refine lv_goto (tgt := 91) hx hb dX8_perform_136 (by decide) ?_
                    exact ih v4 (v5 + (1 : Int32)) sc R14 _ _ _ o (lv_sub hl [1, 0, 2, 3, 4] rfl) hP hD hS hf kont
                  · rw [if_pos c13] at hf
                    refine lv_aload_n hx hb dX8_perform_114 rfl (lv_at hl 4 rfl) ?_
                    refine lv_iconst (v := (0 : Int32)) hx hb dX8_perform_115 (by decide) ?_
                    obtain ⟨R16, hc17, hf⟩ := b_inv hf
                    have hk := kall (wc' := (wM q cA R16.2.1 R16.2.2)) hP hD hS hA rfl
                    refine k_goI (va_runV (As := [.int (0 : Int32)]) (rest := []) ⟨hx, hb, hml, hown, hts⟩ (kX8_next l D q cA sc ar (0 : Int32) hc17 _) (cwV 1 hts gX8_perform_X8_next rfl rfl rfl (by decide +kernel) ⟨Nat.le_of_ble_eq_true rfl, Nat.le_of_ble_eq_true rfl⟩) (k_preV (q0 := 0) (ci := 7) hk hK NT_bl NT_u rfl rfl rfl) rfl rfl hl.1 rfl (lv_room (Nat.le_of_ble_eq_true rfl)) dX8_perform_116 ⟨Nat.zero_le _, Nat.zero_le _⟩) hk hS (fun H locs hP hD hS => ?_)
                    refine lv_goto (tgt := 124) hx hb dX8_perform_119 (by decide) ?_
                    refine lv_istore (lv' := [(4, .int R16.1), (5, .int v5), (1, .int v1), (2, .int v2), (0, .ref (q 0))]) hx hb dX8_perform_124 hl (by decide) rfl (fun ls hl => ?_)
                    refine lv_aload_n hx hb dX8_perform_126 rfl (lv_at hl 4 rfl) ?_
                    refine lv_iconst (v := (4 : Int32)) hx hb dX8_perform_127 (by decide) ?_
                    refine lv_iload hx hb dX8_perform_128 (lv_at hl 0 rfl) ?_
                    obtain ⟨R18, hc19, hf⟩ := b_inv hf
                    have hk := kall (wc' := (wM q cA R16.2.1 R18)) hP hD hS hA rfl
                    refine k_goV (va_runV (As := [.int (4 : Int32), .int R16.1]) (rest := []) ⟨hx, hb, hml, hown, hts⟩ (kX8_append l D q cA R16.2.1 R16.2.2 (4 : Int32) R16.1 hc19 _) (cwV 2 hts gX8_perform_X8_append rfl rfl rfl (by decide +kernel) ⟨Nat.le_of_ble_eq_true rfl, Nat.le_of_ble_eq_true rfl⟩) (k_preV (q0 := 0) (ci := 7) hk hK NT_bl NT_u rfl rfl rfl) rfl rfl hl.1 rfl (lv_room (Nat.le_of_ble_eq_true rfl)) dX8_perform_130 ⟨Nat.zero_le _, Nat.zero_le _⟩) hk hS (fun H locs hP hD hS => ?_)
                    refine lv_iinc (v := (v5 + (1 : Int32))) (lv' := [(5, .int (v5 + (1 : Int32))), (4, .int R16.1), (1, .int v1), (2, .int v2), (0, .ref (q 0))]) hx hb dX8_perform_133 hl (k := 1) rfl rfl (by decide) rfl (fun ls hl => ?_)
                    refine lv_goto (tgt := 91) hx hb dX8_perform_136 (by decide) ?_
                    exact ih R16.1 (v5 + (1 : Int32)) R16.2.1 R18 _ _ _ o (lv_sub hl [1, 0, 2, 3, 4] rfl) hP hD hS hf kont
        obtain ⟨R20, hc21, hf⟩ := b_inv hf
        refine lp35 x1 x2 FU (0 : Int32) (0 : Int32) sc ar _ _ _ R20 (lv_sub hl [1, 0, 3, 4, 2] rfl) hP hD hS hc21 (fun H locs ls hl hP hD hS => ?_)
        obtain rfl := Option.some.inj hf
        exact k_retV hx hb hr hlocks hP hS dX8_perform_139
      · rw [if_pos c5] at hf
        refine lv_aload_n hx hb dX8_perform_28 rfl (lv_at hl 0 rfl) ?_
        refine lv_iload_n hx hb dX8_perform_29 rfl (lv_at hl 3 rfl) ?_
        obtain ⟨R22, hc23, hf⟩ := b_inv hf
        have hk := kall (wc' := (wM q cA R22.2.1 R22.2.2)) hP hD hS hA rfl
        refine k_goI (va_runV (As := [.int x3]) (rest := []) ⟨hx, hb, hml, hown, hts⟩ (kX8_address l D q cA sc ar x3 hc23 _) (cwV 1 hts gX8_perform_X8_address rfl rfl rfl (by decide +kernel) ⟨Nat.le_of_ble_eq_true rfl, Nat.le_of_ble_eq_true rfl⟩) (k_preV (q0 := 0) (ci := 7) hk hK NT_bl NT_u rfl rfl rfl) rfl rfl hl.1 rfl (lv_room (Nat.le_of_ble_eq_true rfl)) dX8_perform_30 ⟨Nat.zero_le _, Nat.zero_le _⟩) hk hS (fun H locs hP hD hS => ?_)
        refine lv_istore (lv' := [(4, .int R22.1), (0, .ref (q 0)), (1, .int x1), (2, .int x2), (3, .int x3)]) hx hb dX8_perform_33 hl (by decide) rfl (fun ls hl => ?_)
        refine lv_iconst (v := (0 : Int32)) hx hb dX8_perform_35 (by decide) ?_
        refine lv_istore (lv' := [(5, .int (0 : Int32)), (4, .int R22.1), (0, .ref (q 0)), (1, .int x1), (2, .int x2), (3, .int x3)]) hx hb dX8_perform_36 hl (by decide) rfl (fun ls hl => ?_)
        have lp36 : ∀ (sc : Nat → Int32) (v2 : Int32) (v4 : Int32), ∀ (k : Nat) (v5 : Int32) (ar : Nat → Nat → Int32) (H : Heap) (locs : List Loc) (ls : Array Slot) (o : (Nat → Nat → Int32)), lv_has ls 6 [(5, .int v5), (2, .int v2), (4, .int v4), (0, .ref (q 0))] → va_P D vwCl (wM q cA sc ar) H → va_D A (wM q cA sc ar) → va_S A s.heap H locs → fX8_perform_L38 sc v2 v4 k v5 ar = some o → (∀ (H : Heap) (locs : List Loc) (ls : Array Slot), lv_has ls 6 [(4, .int v4), (0, .ref (q 0))] → va_P D vwCl (wM q cA sc o) H → va_D A (wM q cA sc o) → va_S A s.heap H locs → W p l e (headSpec wsX8_perform (rmD 3)).room s m ([.ref (q 0), .int x1, .int x2, .int x3] : List Value).toArray below meth cd H locs 0 0 (QV D below ([.ref (q 0), .int x1, .int x2, .int x3] : List Value).toArray s A (wM q cA R.1 R.2)) (F0 m 71 ls [])) → W p l e (headSpec wsX8_perform (rmD 3)).room s m ([.ref (q 0), .int x1, .int x2, .int x3] : List Value).toArray below meth cd H locs 0 0 (QV D below ([.ref (q 0), .int x1, .int x2, .int x3] : List Value).toArray s A (wM q cA R.1 R.2)) (F0 m 38 ls []) := by
          intro sc v2 v4
          intro k
          induction k with
          | zero =>
            intro v5 ar H locs ls o hl hP hD hS hf
            exact absurd hf (by simp [fX8_perform_L38])
          | succ k ih =>
            intro v5 ar H locs ls o hl hP hD hS hf kont
            rw [fX8_perform_L38] at hf
            refine lv_iload hx hb dX8_perform_38 (lv_at hl 0 rfl) ?_
            refine lv_iload_n hx hb dX8_perform_40 rfl (lv_at hl 1 rfl) ?_
            refine lv_icmp_ge (tgt := 71) hx hb dX8_perform_41 (by decide) (fun c24 => ?_) (fun c24 => ?_)
            · rw [if_pos c24] at hf
              obtain rfl := Option.some.inj hf
              exact kont _ _ _ (lv_sub hl [2, 3] rfl) hP hD hS
            · rw [if_neg c24] at hf
              refine lv_aload_n hx hb dX8_perform_44 rfl (lv_at hl 3 rfl) ?_
              refine va_get (D := D) (ci := 7) (v := .int (sc 3)) (C := RX8) (T := TX8) (N := 21) hx hb hts (fun w h => List.mem_cons_of_mem _ (List.mem_append_right _ h)) hown hK hP 0 rfl rfl 15 (by decide) (hts (.fieldLink RX8 134 "DeltaWindowsModel" "bad" "Z") (List.mem_of_getElem? (i := 2) rfl)) (fun _ h9 => h9) rfl dX8_perform_45 ?_
              refine lv_if_ne (tgt := 71) hx hb dX8_perform_48 (by decide) (fun c25 => ?_) (fun c25 => ?_)
              · rw [if_neg c25] at hf
                obtain rfl := Option.some.inj hf
                exact kont _ _ _ (lv_sub hl [2, 3] rfl) hP hD hS
              · rw [if_pos c25] at hf
                refine lv_aload_n hx hb dX8_perform_51 rfl (lv_at hl 3 rfl) ?_
                refine lv_iconst (v := (4 : Int32)) hx hb dX8_perform_52 (by decide) ?_
                refine lv_aload_n hx hb dX8_perform_53 rfl (lv_at hl 3 rfl) ?_
                refine lv_iload hx hb dX8_perform_54 (lv_at hl 2 rfl) ?_
                refine lv_iload hx hb dX8_perform_56 (lv_at hl 0 rfl) ?_
                refine lv_iadd hx hb dX8_perform_58 ?_
                obtain ⟨R26, hc27, hf⟩ := b_inv hf
                have hk := kall (wc' := (wM q cA sc ar)) hP hD hS hA rfl
                refine k_goI (va_runV (As := [.int (v4 + v5)]) (rest := [.int (4 : Int32), .ref (q 0)]) ⟨hx, hb, hml, hown, hts⟩ (kX8_readString l D q cA sc ar (v4 + v5) hc27 _) (cwV 1 hts gX8_perform_X8_readString rfl rfl rfl (by decide +kernel) ⟨Nat.le_of_ble_eq_true rfl, Nat.le_of_ble_eq_true rfl⟩) (k_preV (q0 := 0) (ci := 7) hk hK NT_bl NT_u rfl rfl rfl) rfl rfl hl.1 rfl (lv_room (Nat.le_of_ble_eq_true rfl)) dX8_perform_59 ⟨Nat.zero_le _, Nat.zero_le _⟩) hk hS (fun H locs hP hD hS => ?_)
                obtain ⟨R28, hc29, hf⟩ := b_inv hf
                have hk := kall (wc' := (wM q cA sc R28)) hP hD hS hA rfl
                refine k_goV (va_runV (As := [.int (4 : Int32), .int R26]) (rest := []) ⟨hx, hb, hml, hown, hts⟩ (kX8_append l D q cA sc ar (4 : Int32) R26 hc29 _) (cwV 2 hts gX8_perform_X8_append rfl rfl rfl (by decide +kernel) ⟨Nat.le_of_ble_eq_true rfl, Nat.le_of_ble_eq_true rfl⟩) (k_preV (q0 := 0) (ci := 7) hk hK NT_bl NT_u rfl rfl rfl) rfl rfl hl.1 rfl (lv_room (Nat.le_of_ble_eq_true rfl)) dX8_perform_62 ⟨Nat.zero_le _, Nat.zero_le _⟩) hk hS (fun H locs hP hD hS => ?_)
                refine lv_iinc (v := (v5 + (1 : Int32))) (lv' := [(5, .int (v5 + (1 : Int32))), (2, .int v2), (4, .int v4), (0, .ref (q 0))]) hx hb dX8_perform_65 hl (k := 0) rfl rfl (by decide) rfl (fun ls hl => ?_)
                refine lv_goto (tgt := 38) hx hb dX8_perform_68 (by decide) ?_
                exact ih (v5 + (1 : Int32)) R28 _ _ _ o (lv_sub hl [0, 1, 2, 3] rfl) hP hD hS hf kont
        obtain ⟨R30, hc31, hf⟩ := b_inv hf
        refine lp36 R22.2.1 x2 R22.1 FU (0 : Int32) R22.2.2 _ _ _ R30 (lv_sub hl [0, 4, 1, 2] rfl) hP hD hS hc31 (fun H locs ls hl hP hD hS => ?_)
        refine lv_aload_n hx hb dX8_perform_71 rfl (lv_at hl 1 rfl) ?_
        refine va_get (D := D) (ci := 7) (v := .int (R22.2.1 3)) (C := RX8) (T := TX8) (N := 21) hx hb hts (fun w h => List.mem_cons_of_mem _ (List.mem_append_right _ h)) hown hK hP 0 rfl rfl 15 (by decide) (hts (.fieldLink RX8 134 "DeltaWindowsModel" "bad" "Z") (List.mem_of_getElem? (i := 2) rfl)) (fun _ h9 => h9) rfl dX8_perform_72 ?_
        refine lv_if_ne (tgt := 84) hx hb dX8_perform_75 (by decide) (fun c32 => ?_) (fun c32 => ?_)
        · rw [if_neg c32] at hf
          obtain rfl := Option.some.inj hf
          exact k_retV hx hb hr hlocks hP hS dX8_perform_84
        · rw [if_pos c32] at hf
          refine lv_aload_n hx hb dX8_perform_78 rfl (lv_at hl 1 rfl) ?_
          refine lv_iload hx hb dX8_perform_79 (lv_at hl 0 rfl) ?_
          obtain ⟨R33, hc34, hf⟩ := b_inv hf
          have hk := kall (wc' := (wM q cA R33.1 R33.2)) hP hD hS hA rfl
          refine k_goV (va_runV (As := [.int R22.1]) (rest := []) ⟨hx, hb, hml, hown, hts⟩ (kX8_note l D q cA R22.2.1 R30 R22.1 hc34 _) (cwV 1 hts gX8_perform_X8_note rfl rfl rfl (by decide +kernel) ⟨Nat.le_of_ble_eq_true rfl, Nat.le_of_ble_eq_true rfl⟩) (k_preV (q0 := 0) (ci := 7) hk hK NT_bl NT_u rfl rfl rfl) rfl rfl hl.1 rfl (lv_room (Nat.le_of_ble_eq_true rfl)) dX8_perform_81 ⟨Nat.zero_le _, Nat.zero_le _⟩) hk hS (fun H locs hP hD hS => ?_)
          obtain rfl := Option.some.inj hf
          exact k_retV hx hb hr hlocks hP hS dX8_perform_84
    · rw [if_neg c4] at hf
      refine lv_aload_n hx hb dX8_perform_17 rfl (lv_at hl 0 rfl) ?_
      refine lv_iconst (v := (1 : Int32)) hx hb dX8_perform_18 (by decide) ?_
      refine va_put (D := D) (ci := 7) (v := .int (1 : Int32)) (ty := .boolean) (C := RX8) (T := TX8) (N := 21) hx hb hts (fun w h => List.mem_cons_of_mem _ (List.mem_append_right _ h)) tyX8 tyX8_ok nmX8 hown hK hP hD hS 0 rfl rfl 15 (by decide) (hts (.fieldLink RX8 134 "DeltaWindowsModel" "bad" "Z") (List.mem_of_getElem? (i := 2) rfl)) (fun _ h9 => h9) rfl (by decide +kernel) rfl rfl (Nat.le_of_ble_eq_true rfl) dX8_perform_19 (fun H locs hP hD hS => ?_)
      have hP : va_P D vwCl (wM q cA (va_up sc 3 (1 : Int32)) ar) H := va_P_eq (wM_s3 q cA sc ar (1 : Int32)) hP
      have hD : va_D A (wM q cA (va_up sc 3 (1 : Int32)) ar) := va_D_eq (wM_s3 q cA sc ar (1 : Int32)) hD
      obtain rfl := Option.some.inj hf
      exact k_retV hx hb hr hlocks hP hS dX8_perform_22

noncomputable def fX8_performAll_L30 (v1 : Int32) : Nat → (Int32) → (Nat → Int32) → (Nat → Nat → Int32) → Option ((Nat → Int32) × (Nat → Nat → Int32))
  | 0, _, _, _ => none
  | k + 1, v2, sc, ar =>
    if (2 : Int32) ≤ v2 then
      some (sc, ar)
    else
      if (sc 3) = 0 then
        (fX8_part v1 ((3 : Int32) * v2)).bind fun R9 =>
        (fX8_part v1 (((3 : Int32) * v2) + (1 : Int32))).bind fun R11 =>
        if R9 ≤ 0 then
          fX8_performAll_L30 v1 k (v2 + (1 : Int32)) sc ar
        else
          if R11 = 0 then
            (fX8_nextInteger sc ar (1 : Int32)).bind fun R19 =>
            (fX8_part v1 (((3 : Int32) * v2) + (2 : Int32))).bind fun R21 =>
            (fX8_perform R19.2.1 R19.2.2 R9 R19.1 R21).bind fun R23 =>
            fX8_performAll_L30 v1 k (v2 + (1 : Int32)) R23.1 R23.2
          else
            (fX8_part v1 (((3 : Int32) * v2) + (2 : Int32))).bind fun R15 =>
            (fX8_perform sc ar R9 R11 R15).bind fun R17 =>
            fX8_performAll_L30 v1 k (v2 + (1 : Int32)) R17.1 R17.2
      else
        some (sc, ar)

noncomputable def fX8_performAll_L0  : Nat → (Nat → Int32) → (Nat → Nat → Int32) → Option ((Nat → Int32) × (Nat → Nat → Int32))
  | 0, _, _ => none
  | k + 1, sc, ar =>
    if inb (1 : Int32) 4 = true then
    if inb (1 : Int32) 4 = true then
    if ((ar 11) (1 : Int32).toNatClampNeg) ≤ ((ar 10) (1 : Int32).toNatClampNeg) then
      some (sc, ar)
    else
      if (sc 3) = 0 then
        (fX8_next sc ar (1 : Int32)).bind fun R5 =>
        (fX8_performAll_L30 R5.1 FU (0 : Int32) R5.2.1 R5.2.2).bind fun R25 =>
        fX8_performAll_L0 k R25.1 R25.2
      else
        some (sc, ar)
    else none
    else none

noncomputable def fX8_performAll (sc : Nat → Int32) (ar : Nat → Nat → Int32) : Option ((Nat → Int32) × (Nat → Nat → Int32)) :=
  (fX8_performAll_L0 FU sc ar).bind fun R27 =>
  if (R27.1 3) = 0 then
    (fX8_made R27.1 R27.2).bind fun R30 =>
    if R30 = (R27.1 8) then
      if inb (0 : Int32) 4 = true then
      if inb (0 : Int32) 4 = true then
      if ((R27.2 10) (0 : Int32).toNatClampNeg) = ((R27.2 11) (0 : Int32).toNatClampNeg) then
        if inb (2 : Int32) 4 = true then
        if inb (2 : Int32) 4 = true then
        if ((R27.2 10) (2 : Int32).toNatClampNeg) = ((R27.2 11) (2 : Int32).toNatClampNeg) then
          some ((va_up R27.1 3 (0 : Int32)), R27.2)
        else
          some ((va_up R27.1 3 (1 : Int32)), R27.2)
        else none
        else none
      else
        some ((va_up R27.1 3 (1 : Int32)), R27.2)
      else none
      else none
    else
      some ((va_up R27.1 3 (1 : Int32)), R27.2)
  else
    some ((va_up R27.1 3 (1 : Int32)), R27.2)

set_option maxHeartbeats 4000000 in
set_option maxRecDepth 100000 in
theorem kX8_performAll (l : Launch) (D : va_G) (q : Nat → Nat) (cA : Nat → ClassId) (sc : Nat → Int32) (ar : Nat → Nat → Int32) {R : (Nat → Int32) × (Nat → Nat → Int32)} (hf : fX8_performAll sc ar = some R) : MV l yX8_performAll wsX8_performAll (rmD 4) D ([.ref (q 0)] : List Value) (wM q cA sc ar) (tM cA) NT (wM q cA R.1 R.2) := by
  refine MV.mk (cc := cX8_performAll) (maxL := 5) (ret := none) (by first | decide | decide +kernel) rfl (Nat.le_of_ble_eq_true rfl) ?_
  intro p e s m below meth cd A ls hE
  obtain ⟨hx, hb, hr, hml, hts, hown, hlocks, hP, hK, hD, hA, hN, hAe, hl⟩ := hE
  have hown : s.vm.findClass RX8 = some m.cls := hown
  have hS : va_S A s.heap s.heap [] := va_S.rf
  have hl : lv_has ls 5 [(0, .ref (q 0))] := hl
  rw [fX8_performAll] at hf
  have lp39 : ∀ (k : Nat) (sc : Nat → Int32) (ar : Nat → Nat → Int32) (H : Heap) (locs : List Loc) (ls : Array Slot) (o : (Nat → Int32) × (Nat → Nat → Int32)), lv_has ls 5 [(0, .ref (q 0))] → va_P D vwCl (wM q cA sc ar) H → va_D A (wM q cA sc ar) → va_S A s.heap H locs → fX8_performAll_L0 k sc ar = some o → (∀ (H : Heap) (locs : List Loc) (ls : Array Slot), lv_has ls 5 [(0, .ref (q 0))] → va_P D vwCl (wM q cA o.1 o.2) H → va_D A (wM q cA o.1 o.2) → va_S A s.heap H locs → W p l e (headSpec wsX8_performAll (rmD 4)).room s m ([.ref (q 0)] : List Value).toArray below meth cd H locs 0 0 (QV D below ([.ref (q 0)] : List Value).toArray s A (wM q cA R.1 R.2)) (F0 m 107 ls [])) → W p l e (headSpec wsX8_performAll (rmD 4)).room s m ([.ref (q 0)] : List Value).toArray below meth cd H locs 0 0 (QV D below ([.ref (q 0)] : List Value).toArray s A (wM q cA R.1 R.2)) (F0 m 0 ls []) := by
    intro k
    induction k with
    | zero =>
      intro sc ar H locs ls o hl hP hD hS hf
      exact absurd hf (by simp [fX8_performAll_L0])
    | succ k ih =>
      intro sc ar H locs ls o hl hP hD hS hf kont
      rw [fX8_performAll_L0] at hf
      refine lv_aload_n hx hb dX8_performAll_0 rfl (lv_at hl 0 rfl) ?_
      refine va_get (D := D) (ci := 7) (v := .ref (q 11)) (C := RX8) (T := TX8) (N := 21) hx hb hts (fun w h => List.mem_cons_of_mem _ (List.mem_append_right _ h)) hown hK hP 0 rfl rfl 13 (by decide) (hts (.fieldLink RX8 40 "DeltaWindowsModel" "place" "[I") (List.mem_of_getElem? (i := 1) rfl)) (fun _ h9 => h9) rfl dX8_performAll_1 ?_
      refine lv_iconst (v := (1 : Int32)) hx hb dX8_performAll_4 (by decide) ?_
      obtain ⟨g1, hf⟩ := g_inv hf
      refine va_iald (f := (ar 10)) hx hb hK hP 11 10 rfl rfl (inb_vp g1) dX8_performAll_5 ?_
      refine lv_aload_n hx hb dX8_performAll_6 rfl (lv_at hl 0 rfl) ?_
      refine va_get (D := D) (ci := 7) (v := .ref (q 12)) (C := RX8) (T := TX8) (N := 21) hx hb hts (fun w h => List.mem_cons_of_mem _ (List.mem_append_right _ h)) hown hK hP 0 rfl rfl 14 (by decide) (hts (.fieldLink RX8 43 "DeltaWindowsModel" "stop" "[I") (List.mem_of_getElem? (i := 2) rfl)) (fun _ h9 => h9) rfl dX8_performAll_7 ?_
      refine lv_iconst (v := (1 : Int32)) hx hb dX8_performAll_10 (by decide) ?_
      obtain ⟨g2, hf⟩ := g_inv hf
      refine va_iald (f := (ar 11)) hx hb hK hP 12 11 rfl rfl (inb_vp g2) dX8_performAll_11 ?_
      refine lv_icmp_ge (tgt := 107) hx hb dX8_performAll_12 (by decide) (fun c3 => ?_) (fun c3 => ?_)
      · rw [if_pos c3] at hf
        obtain rfl := Option.some.inj hf
        exact kont _ _ _ (lv_sub hl [0] rfl) hP hD hS
      · rw [if_neg c3] at hf
        refine lv_aload_n hx hb dX8_performAll_15 rfl (lv_at hl 0 rfl) ?_
        refine va_get (D := D) (ci := 7) (v := .int (sc 3)) (C := RX8) (T := TX8) (N := 21) hx hb hts (fun w h => List.mem_cons_of_mem _ (List.mem_append_right _ h)) hown hK hP 0 rfl rfl 15 (by decide) (hts (.fieldLink RX8 134 "DeltaWindowsModel" "bad" "Z") (List.mem_of_getElem? (i := 3) rfl)) (fun _ h9 => h9) rfl dX8_performAll_16 ?_
        refine lv_if_ne (tgt := 107) hx hb dX8_performAll_19 (by decide) (fun c4 => ?_) (fun c4 => ?_)
        · rw [if_neg c4] at hf
          obtain rfl := Option.some.inj hf
          exact kont _ _ _ (lv_sub hl [0] rfl) hP hD hS
        · rw [if_pos c4] at hf
          refine lv_aload_n hx hb dX8_performAll_22 rfl (lv_at hl 0 rfl) ?_
          refine lv_iconst (v := (1 : Int32)) hx hb dX8_performAll_23 (by decide) ?_
          obtain ⟨R5, hc6, hf⟩ := b_inv hf
          have hk := kall (wc' := (wM q cA R5.2.1 R5.2.2)) hP hD hS hA rfl
          refine k_goI (va_runV (As := [.int (1 : Int32)]) (rest := []) ⟨hx, hb, hml, hown, hts⟩ (kX8_next l D q cA sc ar (1 : Int32) hc6 _) (cwV 1 hts gX8_performAll_X8_next rfl rfl rfl (by decide +kernel) ⟨Nat.le_of_ble_eq_true rfl, Nat.le_of_ble_eq_true rfl⟩) (k_preV (q0 := 0) (ci := 7) hk hK NT_bl NT_u rfl rfl rfl) rfl rfl hl.1 rfl (lv_room (Nat.le_of_ble_eq_true rfl)) dX8_performAll_24 ⟨Nat.zero_le _, Nat.zero_le _⟩) hk hS (fun H locs hP hD hS => ?_)
          refine lv_istore_n (lv' := [(1, .int R5.1), (0, .ref (q 0))]) hx hb dX8_performAll_27 rfl hl (by decide) rfl (fun ls hl => ?_)
          refine lv_iconst (v := (0 : Int32)) hx hb dX8_performAll_28 (by decide) ?_
          refine lv_istore_n (lv' := [(2, .int (0 : Int32)), (1, .int R5.1), (0, .ref (q 0))]) hx hb dX8_performAll_29 rfl hl (by decide) rfl (fun ls hl => ?_)
          have lp40 : ∀ (v1 : Int32), ∀ (k : Nat) (v2 : Int32) (sc : Nat → Int32) (ar : Nat → Nat → Int32) (H : Heap) (locs : List Loc) (ls : Array Slot) (o : (Nat → Int32) × (Nat → Nat → Int32)), lv_has ls 5 [(2, .int v2), (1, .int v1), (0, .ref (q 0))] → va_P D vwCl (wM q cA sc ar) H → va_D A (wM q cA sc ar) → va_S A s.heap H locs → fX8_performAll_L30 v1 k v2 sc ar = some o → (∀ (H : Heap) (locs : List Loc) (ls : Array Slot), lv_has ls 5 [(0, .ref (q 0))] → va_P D vwCl (wM q cA o.1 o.2) H → va_D A (wM q cA o.1 o.2) → va_S A s.heap H locs → W p l e (headSpec wsX8_performAll (rmD 4)).room s m ([.ref (q 0)] : List Value).toArray below meth cd H locs 0 0 (QV D below ([.ref (q 0)] : List Value).toArray s A (wM q cA R.1 R.2)) (F0 m 104 ls [])) → W p l e (headSpec wsX8_performAll (rmD 4)).room s m ([.ref (q 0)] : List Value).toArray below meth cd H locs 0 0 (QV D below ([.ref (q 0)] : List Value).toArray s A (wM q cA R.1 R.2)) (F0 m 30 ls []) := by
            intro v1
            intro k
            induction k with
            | zero =>
              intro v2 sc ar H locs ls o hl hP hD hS hf
              exact absurd hf (by simp [fX8_performAll_L30])
            | succ k ih =>
              intro v2 sc ar H locs ls o hl hP hD hS hf kont
              rw [fX8_performAll_L30] at hf
              refine lv_iload_n hx hb dX8_performAll_30 rfl (lv_at hl 0 rfl) ?_
              refine lv_iconst (v := (2 : Int32)) hx hb dX8_performAll_31 (by decide) ?_
              refine lv_icmp_ge (tgt := 104) hx hb dX8_performAll_32 (by decide) (fun c7 => ?_) (fun c7 => ?_)
              · rw [if_pos c7] at hf
                obtain rfl := Option.some.inj hf
                exact kont _ _ _ (lv_sub hl [2] rfl) hP hD hS
              · rw [if_neg c7] at hf
                refine lv_aload_n hx hb dX8_performAll_35 rfl (lv_at hl 2 rfl) ?_
                refine va_get (D := D) (ci := 7) (v := .int (sc 3)) (C := RX8) (T := TX8) (N := 21) hx hb hts (fun w h => List.mem_cons_of_mem _ (List.mem_append_right _ h)) hown hK hP 0 rfl rfl 15 (by decide) (hts (.fieldLink RX8 134 "DeltaWindowsModel" "bad" "Z") (List.mem_of_getElem? (i := 3) rfl)) (fun _ h9 => h9) rfl dX8_performAll_36 ?_
                refine lv_if_ne (tgt := 104) hx hb dX8_performAll_39 (by decide) (fun c8 => ?_) (fun c8 => ?_)
                · rw [if_neg c8] at hf
                  obtain rfl := Option.some.inj hf
                  exact kont _ _ _ (lv_sub hl [2] rfl) hP hD hS
                · rw [if_pos c8] at hf
                  refine lv_iload_n hx hb dX8_performAll_42 rfl (lv_at hl 1 rfl) ?_
                  refine lv_iconst (v := (3 : Int32)) hx hb dX8_performAll_43 (by decide) ?_
                  refine lv_iload_n hx hb dX8_performAll_44 rfl (lv_at hl 0 rfl) ?_
                  refine lv_imul hx hb dX8_performAll_45 ?_
                  obtain ⟨R9, hc10, hf⟩ := b_inv hf
                  have hk := kcut (wc := ([] : va_W)) (wc' := ([] : va_W)) (wf := (wM q cA sc ar)) hP hD hS hA [] rfl (by decide) rfl rfl
                  refine k_goI (va_runS (As := [.int v1, .int ((3 : Int32) * v2)]) (rest := []) ⟨hx, hb, hml, hown, hts⟩ (kX8_part l D v1 ((3 : Int32) * v2) hc10 _) ⟨callB_of 2 hts ggX8_performAll_X8_part rfl rfl rfl (hts (.initialized RX8) (List.mem_of_getElem? (i := 8) rfl)) (hts (.methodLink RX8 58 yX8_part) (List.mem_of_getElem? (i := 11) rfl)) (by decide +kernel) ⟨Nat.le_of_ble_eq_true rfl, Nat.le_of_ble_eq_true rfl⟩, (hts (.static yX8_part) (List.mem_of_getElem? (i := 12) rfl))⟩ (k_preS hk (hK.sub [] rfl) NT_bl NT_u) rfl rfl hl.1 rfl (lv_room (Nat.le_of_ble_eq_true rfl)) dX8_performAll_46 ⟨Nat.zero_le _, Nat.zero_le _⟩) hk hS (fun H locs hP hD hS => ?_)
                  refine lv_istore_n (lv' := [(3, .int R9), (2, .int v2), (1, .int v1), (0, .ref (q 0))]) hx hb dX8_performAll_49 rfl hl (by decide) rfl (fun ls hl => ?_)
                  refine lv_iload_n hx hb dX8_performAll_50 rfl (lv_at hl 2 rfl) ?_
                  refine lv_iconst (v := (3 : Int32)) hx hb dX8_performAll_51 (by decide) ?_
                  refine lv_iload_n hx hb dX8_performAll_52 rfl (lv_at hl 1 rfl) ?_
                  refine lv_imul hx hb dX8_performAll_53 ?_
                  refine lv_iconst (v := (1 : Int32)) hx hb dX8_performAll_54 (by decide) ?_
                  refine lv_iadd hx hb dX8_performAll_55 ?_
                  obtain ⟨R11, hc12, hf⟩ := b_inv hf
                  have hk := kcut (wc := ([] : va_W)) (wc' := ([] : va_W)) (wf := (wM q cA sc ar)) hP hD hS hA [] rfl (by decide) rfl rfl
                  refine k_goI (va_runS (As := [.int v1, .int (((3 : Int32) * v2) + (1 : Int32))]) (rest := []) ⟨hx, hb, hml, hown, hts⟩ (kX8_part l D v1 (((3 : Int32) * v2) + (1 : Int32)) hc12 _) ⟨callB_of 2 hts ggX8_performAll_X8_part rfl rfl rfl (hts (.initialized RX8) (List.mem_of_getElem? (i := 8) rfl)) (hts (.methodLink RX8 58 yX8_part) (List.mem_of_getElem? (i := 11) rfl)) (by decide +kernel) ⟨Nat.le_of_ble_eq_true rfl, Nat.le_of_ble_eq_true rfl⟩, (hts (.static yX8_part) (List.mem_of_getElem? (i := 12) rfl))⟩ (k_preS hk (hK.sub [] rfl) NT_bl NT_u) rfl rfl hl.1 rfl (lv_room (Nat.le_of_ble_eq_true rfl)) dX8_performAll_56 ⟨Nat.zero_le _, Nat.zero_le _⟩) hk hS (fun H locs hP hD hS => ?_)
                  refine lv_istore (lv' := [(4, .int R11), (3, .int R9), (2, .int v2), (1, .int v1), (0, .ref (q 0))]) hx hb dX8_performAll_59 hl (by decide) rfl (fun ls hl => ?_)
                  refine lv_iload_n hx hb dX8_performAll_61 rfl (lv_at hl 1 rfl) ?_
                  refine lv_if_le (tgt := 98) hx hb dX8_performAll_62 (by decide) (fun c13 => ?_) (fun c13 => ?_)
                  · rw [if_pos c13] at hf
                    refine lv_iinc (v := (v2 + (1 : Int32))) (lv' := [(2, .int (v2 + (1 : Int32))), (4, .int R11), (3, .int R9), (1, .int v1), (0, .ref (q 0))]) hx hb dX8_performAll_98 hl (k := 2) rfl rfl (by decide) rfl (fun ls hl => ?_)
                    refine lv_goto (tgt := 30) hx hb dX8_performAll_101 (by decide) ?_
                    exact ih (v2 + (1 : Int32)) sc ar _ _ _ o (lv_sub hl [0, 3, 4] rfl) hP hD hS hf kont
                  · rw [if_neg c13] at hf
                    refine lv_iload hx hb dX8_performAll_65 (lv_at hl 0 rfl) ?_
                    refine lv_if_ne (tgt := 78) hx hb dX8_performAll_67 (by decide) (fun c14 => ?_) (fun c14 => ?_)
                    · rw [if_neg c14] at hf
                      refine lv_iload hx hb dX8_performAll_78 (lv_at hl 0 rfl) ?_
                      refine lv_istore (lv' := [(4, .int R11), (3, .int R9), (2, .int v2), (1, .int v1), (0, .ref (q 0))]) hx hb dX8_performAll_80 hl (by decide) rfl (fun ls hl => ?_)
                      refine lv_aload_n hx hb dX8_performAll_82 rfl (lv_at hl 4 rfl) ?_
                      refine lv_iload_n hx hb dX8_performAll_83 rfl (lv_at hl 1 rfl) ?_
                      refine lv_iload hx hb dX8_performAll_84 (lv_at hl 0 rfl) ?_
                      refine lv_iload_n hx hb dX8_performAll_86 rfl (lv_at hl 3 rfl) ?_
                      refine lv_iconst (v := (3 : Int32)) hx hb dX8_performAll_87 (by decide) ?_
                      refine lv_iload_n hx hb dX8_performAll_88 rfl (lv_at hl 2 rfl) ?_
                      refine lv_imul hx hb dX8_performAll_89 ?_
                      refine lv_iconst (v := (2 : Int32)) hx hb dX8_performAll_90 (by decide) ?_
                      refine lv_iadd hx hb dX8_performAll_91 ?_
                      obtain ⟨R15, hc16, hf⟩ := b_inv hf
                      have hk := kcut (wc := ([] : va_W)) (wc' := ([] : va_W)) (wf := (wM q cA sc ar)) hP hD hS hA [] rfl (by decide) rfl rfl
                      refine k_goI (va_runS (As := [.int v1, .int (((3 : Int32) * v2) + (2 : Int32))]) (rest := [.int R11, .int R9, .ref (q 0)]) ⟨hx, hb, hml, hown, hts⟩ (kX8_part l D v1 (((3 : Int32) * v2) + (2 : Int32)) hc16 _) ⟨callB_of 2 hts ggX8_performAll_X8_part rfl rfl rfl (hts (.initialized RX8) (List.mem_of_getElem? (i := 8) rfl)) (hts (.methodLink RX8 58 yX8_part) (List.mem_of_getElem? (i := 11) rfl)) (by decide +kernel) ⟨Nat.le_of_ble_eq_true rfl, Nat.le_of_ble_eq_true rfl⟩, (hts (.static yX8_part) (List.mem_of_getElem? (i := 12) rfl))⟩ (k_preS hk (hK.sub [] rfl) NT_bl NT_u) rfl rfl hl.1 rfl (lv_room (Nat.le_of_ble_eq_true rfl)) dX8_performAll_92 ⟨Nat.zero_le _, Nat.zero_le _⟩) hk hS (fun H locs hP hD hS => ?_)
                      obtain ⟨R17, hc18, hf⟩ := b_inv hf
                      have hk := kall (wc' := (wM q cA R17.1 R17.2)) hP hD hS hA rfl
                      refine k_goV (va_runV (As := [.int R9, .int R11, .int R15]) (rest := []) ⟨hx, hb, hml, hown, hts⟩ (kX8_perform l D q cA sc ar R9 R11 R15 hc18 _) (cwV 3 hts gX8_performAll_X8_perform rfl rfl rfl (by decide +kernel) ⟨Nat.le_of_ble_eq_true rfl, Nat.le_of_ble_eq_true rfl⟩) (k_preV (q0 := 0) (ci := 7) hk hK NT_bl NT_u rfl rfl rfl) rfl rfl hl.1 rfl (lv_room (Nat.le_of_ble_eq_true rfl)) dX8_performAll_95 ⟨Nat.zero_le _, Nat.zero_le _⟩) hk hS (fun H locs hP hD hS => ?_)
                      refine lv_iinc (v := (v2 + (1 : Int32))) (lv' := [(2, .int (v2 + (1 : Int32))), (4, .int R11), (3, .int R9), (1, .int v1), (0, .ref (q 0))]) hx hb dX8_performAll_98 hl (k := 2) rfl rfl (by decide) rfl (fun ls hl => ?_)
                      refine lv_goto (tgt := 30) hx hb dX8_performAll_101 (by decide) ?_
                      exact ih (v2 + (1 : Int32)) R17.1 R17.2 _ _ _ o (lv_sub hl [0, 3, 4] rfl) hP hD hS hf kont
                    · rw [if_pos c14] at hf
                      refine lv_aload_n hx hb dX8_performAll_70 rfl (lv_at hl 4 rfl) ?_
                      refine lv_iconst (v := (1 : Int32)) hx hb dX8_performAll_71 (by decide) ?_
                      obtain ⟨R19, hc20, hf⟩ := b_inv hf
                      have hk := kall (wc' := (wM q cA R19.2.1 R19.2.2)) hP hD hS hA rfl
                      refine k_goI (va_runV (As := [.int (1 : Int32)]) (rest := []) ⟨hx, hb, hml, hown, hts⟩ (kX8_nextInteger l D q cA sc ar (1 : Int32) hc20 _) (cwV 1 hts gX8_performAll_X8_nextInteger rfl rfl rfl (by decide +kernel) ⟨Nat.le_of_ble_eq_true rfl, Nat.le_of_ble_eq_true rfl⟩) (k_preV (q0 := 0) (ci := 7) hk hK NT_bl NT_u rfl rfl rfl) rfl rfl hl.1 rfl (lv_room (Nat.le_of_ble_eq_true rfl)) dX8_performAll_72 ⟨Nat.zero_le _, Nat.zero_le _⟩) hk hS (fun H locs hP hD hS => ?_)
                      refine lv_goto (tgt := 80) hx hb dX8_performAll_75 (by decide) ?_
                      refine lv_istore (lv' := [(4, .int R19.1), (3, .int R9), (2, .int v2), (1, .int v1), (0, .ref (q 0))]) hx hb dX8_performAll_80 hl (by decide) rfl (fun ls hl => ?_)
                      refine lv_aload_n hx hb dX8_performAll_82 rfl (lv_at hl 4 rfl) ?_
                      refine lv_iload_n hx hb dX8_performAll_83 rfl (lv_at hl 1 rfl) ?_
                      refine lv_iload hx hb dX8_performAll_84 (lv_at hl 0 rfl) ?_
                      refine lv_iload_n hx hb dX8_performAll_86 rfl (lv_at hl 3 rfl) ?_
                      refine lv_iconst (v := (3 : Int32)) hx hb dX8_performAll_87 (by decide) ?_
                      refine lv_iload_n hx hb dX8_performAll_88 rfl (lv_at hl 2 rfl) ?_
                      refine lv_imul hx hb dX8_performAll_89 ?_
                      refine lv_iconst (v := (2 : Int32)) hx hb dX8_performAll_90 (by decide) ?_
                      refine lv_iadd hx hb dX8_performAll_91 ?_
                      obtain ⟨R21, hc22, hf⟩ := b_inv hf
                      have hk := kcut (wc := ([] : va_W)) (wc' := ([] : va_W)) (wf := (wM q cA R19.2.1 R19.2.2)) hP hD hS hA [] rfl (by decide) rfl rfl
                      refine k_goI (va_runS (As := [.int v1, .int (((3 : Int32) * v2) + (2 : Int32))]) (rest := [.int R19.1, .int R9, .ref (q 0)]) ⟨hx, hb, hml, hown, hts⟩ (kX8_part l D v1 (((3 : Int32) * v2) + (2 : Int32)) hc22 _) ⟨callB_of 2 hts ggX8_performAll_X8_part rfl rfl rfl (hts (.initialized RX8) (List.mem_of_getElem? (i := 8) rfl)) (hts (.methodLink RX8 58 yX8_part) (List.mem_of_getElem? (i := 11) rfl)) (by decide +kernel) ⟨Nat.le_of_ble_eq_true rfl, Nat.le_of_ble_eq_true rfl⟩, (hts (.static yX8_part) (List.mem_of_getElem? (i := 12) rfl))⟩ (k_preS hk (hK.sub [] rfl) NT_bl NT_u) rfl rfl hl.1 rfl (lv_room (Nat.le_of_ble_eq_true rfl)) dX8_performAll_92 ⟨Nat.zero_le _, Nat.zero_le _⟩) hk hS (fun H locs hP hD hS => ?_)
                      obtain ⟨R23, hc24, hf⟩ := b_inv hf
                      have hk := kall (wc' := (wM q cA R23.1 R23.2)) hP hD hS hA rfl
                      refine k_goV (va_runV (As := [.int R9, .int R19.1, .int R21]) (rest := []) ⟨hx, hb, hml, hown, hts⟩ (kX8_perform l D q cA R19.2.1 R19.2.2 R9 R19.1 R21 hc24 _) (cwV 3 hts gX8_performAll_X8_perform rfl rfl rfl (by decide +kernel) ⟨Nat.le_of_ble_eq_true rfl, Nat.le_of_ble_eq_true rfl⟩) (k_preV (q0 := 0) (ci := 7) hk hK NT_bl NT_u rfl rfl rfl) rfl rfl hl.1 rfl (lv_room (Nat.le_of_ble_eq_true rfl)) dX8_performAll_95 ⟨Nat.zero_le _, Nat.zero_le _⟩) hk hS (fun H locs hP hD hS => ?_)
                      refine lv_iinc (v := (v2 + (1 : Int32))) (lv' := [(2, .int (v2 + (1 : Int32))), (4, .int R19.1), (3, .int R9), (1, .int v1), (0, .ref (q 0))]) hx hb dX8_performAll_98 hl (k := 2) rfl rfl (by decide) rfl (fun ls hl => ?_)
                      refine lv_goto (tgt := 30) hx hb dX8_performAll_101 (by decide) ?_
                      exact ih (v2 + (1 : Int32)) R23.1 R23.2 _ _ _ o (lv_sub hl [0, 3, 4] rfl) hP hD hS hf kont
          obtain ⟨R25, hc26, hf⟩ := b_inv hf
          refine lp40 R5.1 FU (0 : Int32) R5.2.1 R5.2.2 _ _ _ R25 (lv_sub hl [0, 1, 2] rfl) hP hD hS hc26 (fun H locs ls hl hP hD hS => ?_)
          refine lv_goto (tgt := 0) hx hb dX8_performAll_104 (by decide) ?_
          exact ih R25.1 R25.2 _ _ _ o (lv_sub hl [0] rfl) hP hD hS hf kont
  obtain ⟨R27, hc28, hf⟩ := b_inv hf
  refine lp39 FU sc ar _ _ _ R27 (lv_sub hl [0] rfl) hP hD hS hc28 (fun H locs ls hl hP hD hS => ?_)
  refine lv_aload_n hx hb dX8_performAll_107 rfl (lv_at hl 0 rfl) ?_
  refine lv_aload_n hx hb dX8_performAll_108 rfl (lv_at hl 0 rfl) ?_
  refine va_get (D := D) (ci := 7) (v := .int (R27.1 3)) (C := RX8) (T := TX8) (N := 21) hx hb hts (fun w h => List.mem_cons_of_mem _ (List.mem_append_right _ h)) hown hK hP 0 rfl rfl 15 (by decide) (hts (.fieldLink RX8 134 "DeltaWindowsModel" "bad" "Z") (List.mem_of_getElem? (i := 3) rfl)) (fun _ h9 => h9) rfl dX8_performAll_109 ?_
  refine lv_if_ne (tgt := 156) hx hb dX8_performAll_112 (by decide) (fun c29 => ?_) (fun c29 => ?_)
  · rw [if_neg c29] at hf
    refine lv_iconst (v := (1 : Int32)) hx hb dX8_performAll_156 (by decide) ?_
    refine lv_goto (tgt := 161) hx hb dX8_performAll_157 (by decide) ?_
    refine va_put (D := D) (ci := 7) (v := .int (1 : Int32)) (ty := .boolean) (C := RX8) (T := TX8) (N := 21) hx hb hts (fun w h => List.mem_cons_of_mem _ (List.mem_append_right _ h)) tyX8 tyX8_ok nmX8 hown hK hP hD hS 0 rfl rfl 15 (by decide) (hts (.fieldLink RX8 134 "DeltaWindowsModel" "bad" "Z") (List.mem_of_getElem? (i := 3) rfl)) (fun _ h9 => h9) rfl (by decide +kernel) rfl rfl (Nat.le_of_ble_eq_true rfl) dX8_performAll_161 (fun H locs hP hD hS => ?_)
    have hP : va_P D vwCl (wM q cA (va_up R27.1 3 (1 : Int32)) R27.2) H := va_P_eq (wM_s3 q cA R27.1 R27.2 (1 : Int32)) hP
    have hD : va_D A (wM q cA (va_up R27.1 3 (1 : Int32)) R27.2) := va_D_eq (wM_s3 q cA R27.1 R27.2 (1 : Int32)) hD
    obtain rfl := Option.some.inj hf
    exact k_retV hx hb hr hlocks hP hS dX8_performAll_164
  · rw [if_pos c29] at hf
    refine lv_aload_n hx hb dX8_performAll_115 rfl (lv_at hl 0 rfl) ?_
    obtain ⟨R30, hc31, hf⟩ := b_inv hf
    have hk := kall (wc' := (wM q cA R27.1 R27.2)) hP hD hS hA rfl
    refine k_goI (va_runV (As := []) (rest := [.ref (q 0)]) ⟨hx, hb, hml, hown, hts⟩ (kX8_made l D q cA R27.1 R27.2 hc31 _) (cwV 0 hts gX8_performAll_X8_made rfl rfl rfl (by decide +kernel) ⟨Nat.le_of_ble_eq_true rfl, Nat.le_of_ble_eq_true rfl⟩) (k_preV (q0 := 0) (ci := 7) hk hK NT_bl NT_u rfl rfl rfl) rfl rfl hl.1 rfl (lv_room (Nat.le_of_ble_eq_true rfl)) dX8_performAll_116 ⟨Nat.zero_le _, Nat.zero_le _⟩) hk hS (fun H locs hP hD hS => ?_)
    refine lv_aload_n hx hb dX8_performAll_119 rfl (lv_at hl 0 rfl) ?_
    refine va_get (D := D) (ci := 7) (v := .int (R27.1 8)) (C := RX8) (T := TX8) (N := 21) hx hb hts (fun w h => List.mem_cons_of_mem _ (List.mem_append_right _ h)) hown hK hP 0 rfl rfl 20 (by decide) (hts (.fieldLink RX8 167 "DeltaWindowsModel" "due" "I") (List.mem_of_getElem? (i := 4) rfl)) (fun _ h9 => h9) rfl dX8_performAll_120 ?_
    refine lv_icmp_ne (tgt := 156) hx hb dX8_performAll_123 (by decide) (fun c32 => ?_) (fun c32 => ?_)
    · rw [if_neg c32] at hf
      refine lv_iconst (v := (1 : Int32)) hx hb dX8_performAll_156 (by decide) ?_
      refine lv_goto (tgt := 161) hx hb dX8_performAll_157 (by decide) ?_
      refine va_put (D := D) (ci := 7) (v := .int (1 : Int32)) (ty := .boolean) (C := RX8) (T := TX8) (N := 21) hx hb hts (fun w h => List.mem_cons_of_mem _ (List.mem_append_right _ h)) tyX8 tyX8_ok nmX8 hown hK hP hD hS 0 rfl rfl 15 (by decide) (hts (.fieldLink RX8 134 "DeltaWindowsModel" "bad" "Z") (List.mem_of_getElem? (i := 3) rfl)) (fun _ h9 => h9) rfl (by decide +kernel) rfl rfl (Nat.le_of_ble_eq_true rfl) dX8_performAll_161 (fun H locs hP hD hS => ?_)
      have hP : va_P D vwCl (wM q cA (va_up R27.1 3 (1 : Int32)) R27.2) H := va_P_eq (wM_s3 q cA R27.1 R27.2 (1 : Int32)) hP
      have hD : va_D A (wM q cA (va_up R27.1 3 (1 : Int32)) R27.2) := va_D_eq (wM_s3 q cA R27.1 R27.2 (1 : Int32)) hD
      obtain rfl := Option.some.inj hf
      exact k_retV hx hb hr hlocks hP hS dX8_performAll_164
    · rw [if_pos c32] at hf
      refine lv_aload_n hx hb dX8_performAll_126 rfl (lv_at hl 0 rfl) ?_
      refine va_get (D := D) (ci := 7) (v := .ref (q 11)) (C := RX8) (T := TX8) (N := 21) hx hb hts (fun w h => List.mem_cons_of_mem _ (List.mem_append_right _ h)) hown hK hP 0 rfl rfl 13 (by decide) (hts (.fieldLink RX8 40 "DeltaWindowsModel" "place" "[I") (List.mem_of_getElem? (i := 1) rfl)) (fun _ h9 => h9) rfl dX8_performAll_127 ?_
      refine lv_iconst (v := (0 : Int32)) hx hb dX8_performAll_130 (by decide) ?_
      obtain ⟨g33, hf⟩ := g_inv hf
      refine va_iald (f := (R27.2 10)) hx hb hK hP 11 10 rfl rfl (inb_vp g33) dX8_performAll_131 ?_
      refine lv_aload_n hx hb dX8_performAll_132 rfl (lv_at hl 0 rfl) ?_
      refine va_get (D := D) (ci := 7) (v := .ref (q 12)) (C := RX8) (T := TX8) (N := 21) hx hb hts (fun w h => List.mem_cons_of_mem _ (List.mem_append_right _ h)) hown hK hP 0 rfl rfl 14 (by decide) (hts (.fieldLink RX8 43 "DeltaWindowsModel" "stop" "[I") (List.mem_of_getElem? (i := 2) rfl)) (fun _ h9 => h9) rfl dX8_performAll_133 ?_
      refine lv_iconst (v := (0 : Int32)) hx hb dX8_performAll_136 (by decide) ?_
      obtain ⟨g34, hf⟩ := g_inv hf
      refine va_iald (f := (R27.2 11)) hx hb hK hP 12 11 rfl rfl (inb_vp g34) dX8_performAll_137 ?_
      refine lv_icmp_ne (tgt := 156) hx hb dX8_performAll_138 (by decide) (fun c35 => ?_) (fun c35 => ?_)
      · rw [if_neg c35] at hf
        refine lv_iconst (v := (1 : Int32)) hx hb dX8_performAll_156 (by decide) ?_
        refine lv_goto (tgt := 161) hx hb dX8_performAll_157 (by decide) ?_
        refine va_put (D := D) (ci := 7) (v := .int (1 : Int32)) (ty := .boolean) (C := RX8) (T := TX8) (N := 21) hx hb hts (fun w h => List.mem_cons_of_mem _ (List.mem_append_right _ h)) tyX8 tyX8_ok nmX8 hown hK hP hD hS 0 rfl rfl 15 (by decide) (hts (.fieldLink RX8 134 "DeltaWindowsModel" "bad" "Z") (List.mem_of_getElem? (i := 3) rfl)) (fun _ h9 => h9) rfl (by decide +kernel) rfl rfl (Nat.le_of_ble_eq_true rfl) dX8_performAll_161 (fun H locs hP hD hS => ?_)
        have hP : va_P D vwCl (wM q cA (va_up R27.1 3 (1 : Int32)) R27.2) H := va_P_eq (wM_s3 q cA R27.1 R27.2 (1 : Int32)) hP
        have hD : va_D A (wM q cA (va_up R27.1 3 (1 : Int32)) R27.2) := va_D_eq (wM_s3 q cA R27.1 R27.2 (1 : Int32)) hD
        obtain rfl := Option.some.inj hf
        exact k_retV hx hb hr hlocks hP hS dX8_performAll_164
      · rw [if_pos c35] at hf
        refine lv_aload_n hx hb dX8_performAll_141 rfl (lv_at hl 0 rfl) ?_
        refine va_get (D := D) (ci := 7) (v := .ref (q 11)) (C := RX8) (T := TX8) (N := 21) hx hb hts (fun w h => List.mem_cons_of_mem _ (List.mem_append_right _ h)) hown hK hP 0 rfl rfl 13 (by decide) (hts (.fieldLink RX8 40 "DeltaWindowsModel" "place" "[I") (List.mem_of_getElem? (i := 1) rfl)) (fun _ h9 => h9) rfl dX8_performAll_142 ?_
        refine lv_iconst (v := (2 : Int32)) hx hb dX8_performAll_145 (by decide) ?_
        obtain ⟨g36, hf⟩ := g_inv hf
        refine va_iald (f := (R27.2 10)) hx hb hK hP 11 10 rfl rfl (inb_vp g36) dX8_performAll_146 ?_
        refine lv_aload_n hx hb dX8_performAll_147 rfl (lv_at hl 0 rfl) ?_
        refine va_get (D := D) (ci := 7) (v := .ref (q 12)) (C := RX8) (T := TX8) (N := 21) hx hb hts (fun w h => List.mem_cons_of_mem _ (List.mem_append_right _ h)) hown hK hP 0 rfl rfl 14 (by decide) (hts (.fieldLink RX8 43 "DeltaWindowsModel" "stop" "[I") (List.mem_of_getElem? (i := 2) rfl)) (fun _ h9 => h9) rfl dX8_performAll_148 ?_
        refine lv_iconst (v := (2 : Int32)) hx hb dX8_performAll_151 (by decide) ?_
        obtain ⟨g37, hf⟩ := g_inv hf
        refine va_iald (f := (R27.2 11)) hx hb hK hP 12 11 rfl rfl (inb_vp g37) dX8_performAll_152 ?_
        refine lv_icmp_eq (tgt := 160) hx hb dX8_performAll_153 (by decide) (fun c38 => ?_) (fun c38 => ?_)
        · rw [if_pos c38] at hf
          refine lv_iconst (v := (0 : Int32)) hx hb dX8_performAll_160 (by decide) ?_
          refine va_put (D := D) (ci := 7) (v := .int (0 : Int32)) (ty := .boolean) (C := RX8) (T := TX8) (N := 21) hx hb hts (fun w h => List.mem_cons_of_mem _ (List.mem_append_right _ h)) tyX8 tyX8_ok nmX8 hown hK hP hD hS 0 rfl rfl 15 (by decide) (hts (.fieldLink RX8 134 "DeltaWindowsModel" "bad" "Z") (List.mem_of_getElem? (i := 3) rfl)) (fun _ h9 => h9) rfl (by decide +kernel) rfl rfl (Nat.le_of_ble_eq_true rfl) dX8_performAll_161 (fun H locs hP hD hS => ?_)
          have hP : va_P D vwCl (wM q cA (va_up R27.1 3 (0 : Int32)) R27.2) H := va_P_eq (wM_s3 q cA R27.1 R27.2 (0 : Int32)) hP
          have hD : va_D A (wM q cA (va_up R27.1 3 (0 : Int32)) R27.2) := va_D_eq (wM_s3 q cA R27.1 R27.2 (0 : Int32)) hD
          obtain rfl := Option.some.inj hf
          exact k_retV hx hb hr hlocks hP hS dX8_performAll_164
        · rw [if_neg c38] at hf
          refine lv_iconst (v := (1 : Int32)) hx hb dX8_performAll_156 (by decide) ?_
          refine lv_goto (tgt := 161) hx hb dX8_performAll_157 (by decide) ?_
          refine va_put (D := D) (ci := 7) (v := .int (1 : Int32)) (ty := .boolean) (C := RX8) (T := TX8) (N := 21) hx hb hts (fun w h => List.mem_cons_of_mem _ (List.mem_append_right _ h)) tyX8 tyX8_ok nmX8 hown hK hP hD hS 0 rfl rfl 15 (by decide) (hts (.fieldLink RX8 134 "DeltaWindowsModel" "bad" "Z") (List.mem_of_getElem? (i := 3) rfl)) (fun _ h9 => h9) rfl (by decide +kernel) rfl rfl (Nat.le_of_ble_eq_true rfl) dX8_performAll_161 (fun H locs hP hD hS => ?_)
          have hP : va_P D vwCl (wM q cA (va_up R27.1 3 (1 : Int32)) R27.2) H := va_P_eq (wM_s3 q cA R27.1 R27.2 (1 : Int32)) hP
          have hD : va_D A (wM q cA (va_up R27.1 3 (1 : Int32)) R27.2) := va_D_eq (wM_s3 q cA R27.1 R27.2 (1 : Int32)) hD
          obtain rfl := Option.some.inj hf
          exact k_retV hx hb hr hlocks hP hS dX8_performAll_164

noncomputable def fX8_readSegment (sc : Nat → Int32) (ar : Nat → Nat → Int32) : Option ((Nat → Int32) × (Nat → Nat → Int32)) :=
  (fX8_next sc ar (3 : Int32)).bind fun R1 =>
  (if (R1.2.1 3) = 0 then
      if R1.1 ≤ (2 : Int32) then
        some (0 : Int32)
      else
        some (1 : Int32)
    else
      some (1 : Int32) : Option (Int32)).bind fun R6 =>
  if b01 R6 = true then
  if R1.1 ≤ 0 then
    some ((va_up (va_up (va_up (va_up R1.2.1 4 R1.1) 5 (0 : Int32)) 6 (0 : Int32)) 3 R6), R1.2.2)
  else
    if R6 = 0 then
      (fX8_nextInteger (va_up (va_up (va_up (va_up R1.2.1 4 R1.1) 5 (0 : Int32)) 6 (0 : Int32)) 3 R6) R1.2.2 (3 : Int32)).bind fun R10 =>
      (fX8_nextInteger (va_up R10.2.1 5 R10.1) R10.2.2 (3 : Int32)).bind fun R12 =>
      if (R12.2.1 3) = 0 then
        if (R12.2.1 4) = (1 : Int32) then
          if inb (0 : Int32) 5 = true then
          if (lg_cmp ((R12.2.1 5).toInt64 + R12.1.toInt64) (((R12.2.2 1) (0 : Int32).toNatClampNeg).toInt64)) ≤ 0 then
            some ((va_up (va_up R12.2.1 6 R12.1) 3 (0 : Int32)), R12.2.2)
          else
            some ((va_up (va_up R12.2.1 6 R12.1) 3 (1 : Int32)), R12.2.2)
          else none
        else
          if inb (4 : Int32) 5 = true then
          if (lg_cmp ((R12.2.1 5).toInt64 + R12.1.toInt64) (((R12.2.2 1) (4 : Int32).toNatClampNeg).toInt64)) ≤ 0 then
            some ((va_up (va_up R12.2.1 6 R12.1) 3 (0 : Int32)), R12.2.2)
          else
            some ((va_up (va_up R12.2.1 6 R12.1) 3 (1 : Int32)), R12.2.2)
          else none
      else
        some ((va_up (va_up R12.2.1 6 R12.1) 3 (1 : Int32)), R12.2.2)
    else
      some ((va_up (va_up (va_up (va_up R1.2.1 4 R1.1) 5 (0 : Int32)) 6 (0 : Int32)) 3 R6), R1.2.2)
  else none

set_option maxHeartbeats 4000000 in
set_option maxRecDepth 100000 in
theorem kX8_readSegment (l : Launch) (D : va_G) (q : Nat → Nat) (cA : Nat → ClassId) (sc : Nat → Int32) (ar : Nat → Nat → Int32) {R : (Nat → Int32) × (Nat → Nat → Int32)} (hf : fX8_readSegment sc ar = some R) : MV l yX8_readSegment wsX8_readSegment (rmD 2) D ([.ref (q 0)] : List Value) (wM q cA sc ar) (tM cA) NT (wM q cA R.1 R.2) := by
  refine MV.mk (cc := cX8_readSegment) (maxL := 3) (ret := none) (by first | decide | decide +kernel) rfl (Nat.le_of_ble_eq_true rfl) ?_
  intro p e s m below meth cd A ls hE
  obtain ⟨hx, hb, hr, hml, hts, hown, hlocks, hP, hK, hD, hA, hN, hAe, hl⟩ := hE
  have hown : s.vm.findClass RX8 = some m.cls := hown
  have hS : va_S A s.heap s.heap [] := va_S.rf
  have hl : lv_has ls 3 [(0, .ref (q 0))] := hl
  rw [fX8_readSegment] at hf
  refine lv_aload_n hx hb dX8_readSegment_0 rfl (lv_at hl 0 rfl) ?_
  refine lv_aload_n hx hb dX8_readSegment_1 rfl (lv_at hl 0 rfl) ?_
  refine lv_iconst (v := (3 : Int32)) hx hb dX8_readSegment_2 (by decide) ?_
  obtain ⟨R1, hc2, hf⟩ := b_inv hf
  have hk := kall (wc' := (wM q cA R1.2.1 R1.2.2)) hP hD hS hA rfl
  refine k_goI (va_runV (As := [.int (3 : Int32)]) (rest := [.ref (q 0)]) ⟨hx, hb, hml, hown, hts⟩ (kX8_next l D q cA sc ar (3 : Int32) hc2 _) (cwV 1 hts gX8_readSegment_X8_next rfl rfl rfl (by decide +kernel) ⟨Nat.le_of_ble_eq_true rfl, Nat.le_of_ble_eq_true rfl⟩) (k_preV (q0 := 0) (ci := 7) hk hK NT_bl NT_u rfl rfl rfl) rfl rfl hl.1 rfl (lv_room (Nat.le_of_ble_eq_true rfl)) dX8_readSegment_3 ⟨Nat.zero_le _, Nat.zero_le _⟩) hk hS (fun H locs hP hD hS => ?_)
  refine va_put (D := D) (ci := 7) (v := .int R1.1) (ty := .int) (C := RX8) (T := TX8) (N := 21) hx hb hts (fun w h => List.mem_cons_of_mem _ (List.mem_append_right _ h)) tyX8 tyX8_ok nmX8 hown hK hP hD hS 0 rfl rfl 16 (by decide) (hts (.fieldLink RX8 155 "DeltaWindowsModel" "segment" "I") (List.mem_of_getElem? (i := 1) rfl)) (fun _ h9 => h9) rfl (by decide +kernel) rfl rfl (Nat.le_of_ble_eq_true rfl) dX8_readSegment_6 (fun H locs hP hD hS => ?_)
  have hP : va_P D vwCl (wM q cA (va_up R1.2.1 4 R1.1) R1.2.2) H := va_P_eq (wM_s4 q cA R1.2.1 R1.2.2 R1.1) hP
  have hD : va_D A (wM q cA (va_up R1.2.1 4 R1.1) R1.2.2) := va_D_eq (wM_s4 q cA R1.2.1 R1.2.2 R1.1) hD
  refine lv_aload_n hx hb dX8_readSegment_9 rfl (lv_at hl 0 rfl) ?_
  refine lv_iconst (v := (0 : Int32)) hx hb dX8_readSegment_10 (by decide) ?_
  refine va_put (D := D) (ci := 7) (v := .int (0 : Int32)) (ty := .int) (C := RX8) (T := TX8) (N := 21) hx hb hts (fun w h => List.mem_cons_of_mem _ (List.mem_append_right _ h)) tyX8 tyX8_ok nmX8 hown hK hP hD hS 0 rfl rfl 17 (by decide) (hts (.fieldLink RX8 148 "DeltaWindowsModel" "segmentLength" "I") (List.mem_of_getElem? (i := 2) rfl)) (fun _ h9 => h9) rfl (by decide +kernel) rfl rfl (Nat.le_of_ble_eq_true rfl) dX8_readSegment_11 (fun H locs hP hD hS => ?_)
  have hP : va_P D vwCl (wM q cA (va_up (va_up R1.2.1 4 R1.1) 5 (0 : Int32)) R1.2.2) H := va_P_eq (wM_s5 q cA (va_up R1.2.1 4 R1.1) R1.2.2 (0 : Int32)) hP
  have hD : va_D A (wM q cA (va_up (va_up R1.2.1 4 R1.1) 5 (0 : Int32)) R1.2.2) := va_D_eq (wM_s5 q cA (va_up R1.2.1 4 R1.1) R1.2.2 (0 : Int32)) hD
  refine lv_aload_n hx hb dX8_readSegment_14 rfl (lv_at hl 0 rfl) ?_
  refine lv_iconst (v := (0 : Int32)) hx hb dX8_readSegment_15 (by decide) ?_
  refine va_put (D := D) (ci := 7) (v := .int (0 : Int32)) (ty := .int) (C := RX8) (T := TX8) (N := 21) hx hb hts (fun w h => List.mem_cons_of_mem _ (List.mem_append_right _ h)) tyX8 tyX8_ok nmX8 hown hK hP hD hS 0 rfl rfl 18 (by decide) (hts (.fieldLink RX8 158 "DeltaWindowsModel" "segmentPlace" "I") (List.mem_of_getElem? (i := 3) rfl)) (fun _ h9 => h9) rfl (by decide +kernel) rfl rfl (Nat.le_of_ble_eq_true rfl) dX8_readSegment_16 (fun H locs hP hD hS => ?_)
  have hP : va_P D vwCl (wM q cA (va_up (va_up (va_up R1.2.1 4 R1.1) 5 (0 : Int32)) 6 (0 : Int32)) R1.2.2) H := va_P_eq (wM_s6 q cA (va_up (va_up R1.2.1 4 R1.1) 5 (0 : Int32)) R1.2.2 (0 : Int32)) hP
  have hD : va_D A (wM q cA (va_up (va_up (va_up R1.2.1 4 R1.1) 5 (0 : Int32)) 6 (0 : Int32)) R1.2.2) := va_D_eq (wM_s6 q cA (va_up (va_up R1.2.1 4 R1.1) 5 (0 : Int32)) R1.2.2 (0 : Int32)) hD
  refine lv_aload_n hx hb dX8_readSegment_19 rfl (lv_at hl 0 rfl) ?_
  refine lv_aload_n hx hb dX8_readSegment_20 rfl (lv_at hl 0 rfl) ?_
  refine va_get (D := D) (ci := 7) (v := .int (R1.2.1 3)) (C := RX8) (T := TX8) (N := 21) hx hb hts (fun w h => List.mem_cons_of_mem _ (List.mem_append_right _ h)) hown hK hP 0 rfl rfl 15 (by decide) (hts (.fieldLink RX8 134 "DeltaWindowsModel" "bad" "Z") (List.mem_of_getElem? (i := 4) rfl)) (fun _ h9 => h9) rfl dX8_readSegment_21 ?_
  obtain ⟨R6, hj20, hf⟩ := b_inv hf
  have kont : ∀ (H : Heap) (locs : List Loc) (ls : Array Slot), lv_has ls 3 [(0, .ref (q 0))] → va_P D vwCl (wM q cA (va_up (va_up (va_up R1.2.1 4 R1.1) 5 (0 : Int32)) 6 (0 : Int32)) R1.2.2) H → va_D A (wM q cA (va_up (va_up (va_up R1.2.1 4 R1.1) 5 (0 : Int32)) 6 (0 : Int32)) R1.2.2) → va_S A s.heap H locs → W p l e (headSpec wsX8_readSegment (rmD 2)).room s m ([.ref (q 0)] : List Value).toArray below meth cd H locs 0 0 (QV D below ([.ref (q 0)] : List Value).toArray s A (wM q cA R.1 R.2)) (F0 m 40 ls [.int R6, .ref (q 0)]) := by
    intro H locs ls hl hP hD hS
    obtain ⟨g7, hf⟩ := g_inv hf
    refine va_put (D := D) (ci := 7) (v := .int R6) (ty := .boolean) (C := RX8) (T := TX8) (N := 21) hx hb hts (fun w h => List.mem_cons_of_mem _ (List.mem_append_right _ h)) tyX8 tyX8_ok nmX8 hown hK hP hD hS 0 rfl rfl 15 (by decide) (hts (.fieldLink RX8 134 "DeltaWindowsModel" "bad" "Z") (List.mem_of_getElem? (i := 4) rfl)) (fun _ h9 => h9) rfl (by decide +kernel) (b01_n g7) (b01_f g7) (Nat.le_of_ble_eq_true rfl) dX8_readSegment_40 (fun H locs hP hD hS => ?_)
    have hP : va_P D vwCl (wM q cA (va_up (va_up (va_up (va_up R1.2.1 4 R1.1) 5 (0 : Int32)) 6 (0 : Int32)) 3 R6) R1.2.2) H := va_P_eq (wM_s3 q cA (va_up (va_up (va_up R1.2.1 4 R1.1) 5 (0 : Int32)) 6 (0 : Int32)) R1.2.2 R6) hP
    have hD : va_D A (wM q cA (va_up (va_up (va_up (va_up R1.2.1 4 R1.1) 5 (0 : Int32)) 6 (0 : Int32)) 3 R6) R1.2.2) := va_D_eq (wM_s3 q cA (va_up (va_up (va_up R1.2.1 4 R1.1) 5 (0 : Int32)) 6 (0 : Int32)) R1.2.2 R6) hD
    refine lv_aload_n hx hb dX8_readSegment_43 rfl (lv_at hl 0 rfl) ?_
    refine va_get (D := D) (ci := 7) (v := .int R1.1) (C := RX8) (T := TX8) (N := 21) hx hb hts (fun w h => List.mem_cons_of_mem _ (List.mem_append_right _ h)) hown hK hP 0 rfl rfl 16 (by decide) (hts (.fieldLink RX8 155 "DeltaWindowsModel" "segment" "I") (List.mem_of_getElem? (i := 1) rfl)) (fun _ h9 => h9) rfl dX8_readSegment_44 ?_
    refine lv_if_le (tgt := 132) hx hb dX8_readSegment_47 (by decide) (fun c8 => ?_) (fun c8 => ?_)
    · rw [if_pos c8] at hf
      obtain rfl := Option.some.inj hf
      exact k_retV hx hb hr hlocks hP hS dX8_readSegment_132
    · rw [if_neg c8] at hf
      refine lv_aload_n hx hb dX8_readSegment_50 rfl (lv_at hl 0 rfl) ?_
      refine va_get (D := D) (ci := 7) (v := .int R6) (C := RX8) (T := TX8) (N := 21) hx hb hts (fun w h => List.mem_cons_of_mem _ (List.mem_append_right _ h)) hown hK hP 0 rfl rfl 15 (by decide) (hts (.fieldLink RX8 134 "DeltaWindowsModel" "bad" "Z") (List.mem_of_getElem? (i := 4) rfl)) (fun _ h9 => h9) rfl dX8_readSegment_51 ?_
      refine lv_if_ne (tgt := 132) hx hb dX8_readSegment_54 (by decide) (fun c9 => ?_) (fun c9 => ?_)
      · rw [if_neg c9] at hf
        obtain rfl := Option.some.inj hf
        exact k_retV hx hb hr hlocks hP hS dX8_readSegment_132
      · rw [if_pos c9] at hf
        refine lv_aload_n hx hb dX8_readSegment_57 rfl (lv_at hl 0 rfl) ?_
        refine lv_aload_n hx hb dX8_readSegment_58 rfl (lv_at hl 0 rfl) ?_
        refine lv_iconst (v := (3 : Int32)) hx hb dX8_readSegment_59 (by decide) ?_
        obtain ⟨R10, hc11, hf⟩ := b_inv hf
        have hk := kall (wc' := (wM q cA R10.2.1 R10.2.2)) hP hD hS hA rfl
        refine k_goI (va_runV (As := [.int (3 : Int32)]) (rest := [.ref (q 0)]) ⟨hx, hb, hml, hown, hts⟩ (kX8_nextInteger l D q cA (va_up (va_up (va_up (va_up R1.2.1 4 R1.1) 5 (0 : Int32)) 6 (0 : Int32)) 3 R6) R1.2.2 (3 : Int32) hc11 _) (cwV 1 hts gX8_readSegment_X8_nextInteger rfl rfl rfl (by decide +kernel) ⟨Nat.le_of_ble_eq_true rfl, Nat.le_of_ble_eq_true rfl⟩) (k_preV (q0 := 0) (ci := 7) hk hK NT_bl NT_u rfl rfl rfl) rfl rfl hl.1 rfl (lv_room (Nat.le_of_ble_eq_true rfl)) dX8_readSegment_60 ⟨Nat.zero_le _, Nat.zero_le _⟩) hk hS (fun H locs hP hD hS => ?_)
        refine va_put (D := D) (ci := 7) (v := .int R10.1) (ty := .int) (C := RX8) (T := TX8) (N := 21) hx hb hts (fun w h => List.mem_cons_of_mem _ (List.mem_append_right _ h)) tyX8 tyX8_ok nmX8 hown hK hP hD hS 0 rfl rfl 17 (by decide) (hts (.fieldLink RX8 148 "DeltaWindowsModel" "segmentLength" "I") (List.mem_of_getElem? (i := 2) rfl)) (fun _ h9 => h9) rfl (by decide +kernel) rfl rfl (Nat.le_of_ble_eq_true rfl) dX8_readSegment_63 (fun H locs hP hD hS => ?_)
        have hP : va_P D vwCl (wM q cA (va_up R10.2.1 5 R10.1) R10.2.2) H := va_P_eq (wM_s5 q cA R10.2.1 R10.2.2 R10.1) hP
        have hD : va_D A (wM q cA (va_up R10.2.1 5 R10.1) R10.2.2) := va_D_eq (wM_s5 q cA R10.2.1 R10.2.2 R10.1) hD
        refine lv_aload_n hx hb dX8_readSegment_66 rfl (lv_at hl 0 rfl) ?_
        refine lv_aload_n hx hb dX8_readSegment_67 rfl (lv_at hl 0 rfl) ?_
        refine lv_iconst (v := (3 : Int32)) hx hb dX8_readSegment_68 (by decide) ?_
        obtain ⟨R12, hc13, hf⟩ := b_inv hf
        have hk := kall (wc' := (wM q cA R12.2.1 R12.2.2)) hP hD hS hA rfl
        refine k_goI (va_runV (As := [.int (3 : Int32)]) (rest := [.ref (q 0)]) ⟨hx, hb, hml, hown, hts⟩ (kX8_nextInteger l D q cA (va_up R10.2.1 5 R10.1) R10.2.2 (3 : Int32) hc13 _) (cwV 1 hts gX8_readSegment_X8_nextInteger rfl rfl rfl (by decide +kernel) ⟨Nat.le_of_ble_eq_true rfl, Nat.le_of_ble_eq_true rfl⟩) (k_preV (q0 := 0) (ci := 7) hk hK NT_bl NT_u rfl rfl rfl) rfl rfl hl.1 rfl (lv_room (Nat.le_of_ble_eq_true rfl)) dX8_readSegment_69 ⟨Nat.zero_le _, Nat.zero_le _⟩) hk hS (fun H locs hP hD hS => ?_)
        refine va_put (D := D) (ci := 7) (v := .int R12.1) (ty := .int) (C := RX8) (T := TX8) (N := 21) hx hb hts (fun w h => List.mem_cons_of_mem _ (List.mem_append_right _ h)) tyX8 tyX8_ok nmX8 hown hK hP hD hS 0 rfl rfl 18 (by decide) (hts (.fieldLink RX8 158 "DeltaWindowsModel" "segmentPlace" "I") (List.mem_of_getElem? (i := 3) rfl)) (fun _ h9 => h9) rfl (by decide +kernel) rfl rfl (Nat.le_of_ble_eq_true rfl) dX8_readSegment_72 (fun H locs hP hD hS => ?_)
        have hP : va_P D vwCl (wM q cA (va_up R12.2.1 6 R12.1) R12.2.2) H := va_P_eq (wM_s6 q cA R12.2.1 R12.2.2 R12.1) hP
        have hD : va_D A (wM q cA (va_up R12.2.1 6 R12.1) R12.2.2) := va_D_eq (wM_s6 q cA R12.2.1 R12.2.2 R12.1) hD
        refine lv_aload_n hx hb dX8_readSegment_75 rfl (lv_at hl 0 rfl) ?_
        refine va_get (D := D) (ci := 7) (v := .int (R12.2.1 5)) (C := RX8) (T := TX8) (N := 21) hx hb hts (fun w h => List.mem_cons_of_mem _ (List.mem_append_right _ h)) hown hK hP 0 rfl rfl 17 (by decide) (hts (.fieldLink RX8 148 "DeltaWindowsModel" "segmentLength" "I") (List.mem_of_getElem? (i := 2) rfl)) (fun _ h9 => h9) rfl dX8_readSegment_76 ?_
        refine lv_i2l (v := (R12.2.1 5).toInt64) hx hb dX8_readSegment_79 rfl ?_
        refine lv_aload_n hx hb dX8_readSegment_80 rfl (lv_at hl 0 rfl) ?_
        refine va_get (D := D) (ci := 7) (v := .int R12.1) (C := RX8) (T := TX8) (N := 21) hx hb hts (fun w h => List.mem_cons_of_mem _ (List.mem_append_right _ h)) hown hK hP 0 rfl rfl 18 (by decide) (hts (.fieldLink RX8 158 "DeltaWindowsModel" "segmentPlace" "I") (List.mem_of_getElem? (i := 3) rfl)) (fun _ h9 => h9) rfl dX8_readSegment_81 ?_
        refine lv_i2l (v := R12.1.toInt64) hx hb dX8_readSegment_84 rfl ?_
        refine lv_ladd hx hb dX8_readSegment_85 ?_
        refine lv_lstore_n (lv' := [(1, .long ((R12.2.1 5).toInt64 + R12.1.toInt64)), (0, .ref (q 0))]) hx hb dX8_readSegment_86 rfl hl (by decide) rfl (fun ls hl => ?_)
        refine lv_aload_n hx hb dX8_readSegment_87 rfl (lv_at hl 1 rfl) ?_
        refine lv_aload_n hx hb dX8_readSegment_88 rfl (lv_at hl 1 rfl) ?_
        refine va_get (D := D) (ci := 7) (v := .int (R12.2.1 3)) (C := RX8) (T := TX8) (N := 21) hx hb hts (fun w h => List.mem_cons_of_mem _ (List.mem_append_right _ h)) hown hK hP 0 rfl rfl 15 (by decide) (hts (.fieldLink RX8 134 "DeltaWindowsModel" "bad" "Z") (List.mem_of_getElem? (i := 4) rfl)) (fun _ h9 => h9) rfl dX8_readSegment_89 ?_
        refine lv_if_ne (tgt := 124) hx hb dX8_readSegment_92 (by decide) (fun c14 => ?_) (fun c14 => ?_)
        · rw [if_neg c14] at hf
          refine lv_iconst (v := (1 : Int32)) hx hb dX8_readSegment_124 (by decide) ?_
          refine lv_goto (tgt := 129) hx hb dX8_readSegment_125 (by decide) ?_
          refine va_put (D := D) (ci := 7) (v := .int (1 : Int32)) (ty := .boolean) (C := RX8) (T := TX8) (N := 21) hx hb hts (fun w h => List.mem_cons_of_mem _ (List.mem_append_right _ h)) tyX8 tyX8_ok nmX8 hown hK hP hD hS 0 rfl rfl 15 (by decide) (hts (.fieldLink RX8 134 "DeltaWindowsModel" "bad" "Z") (List.mem_of_getElem? (i := 4) rfl)) (fun _ h9 => h9) rfl (by decide +kernel) rfl rfl (Nat.le_of_ble_eq_true rfl) dX8_readSegment_129 (fun H locs hP hD hS => ?_)
          have hP : va_P D vwCl (wM q cA (va_up (va_up R12.2.1 6 R12.1) 3 (1 : Int32)) R12.2.2) H := va_P_eq (wM_s3 q cA (va_up R12.2.1 6 R12.1) R12.2.2 (1 : Int32)) hP
          have hD : va_D A (wM q cA (va_up (va_up R12.2.1 6 R12.1) 3 (1 : Int32)) R12.2.2) := va_D_eq (wM_s3 q cA (va_up R12.2.1 6 R12.1) R12.2.2 (1 : Int32)) hD
          obtain rfl := Option.some.inj hf
          exact k_retV hx hb hr hlocks hP hS dX8_readSegment_132
        · rw [if_pos c14] at hf
          refine lv_lload_n hx hb dX8_readSegment_95 rfl (lv_at hl 0 rfl) ?_
          refine lv_aload_n hx hb dX8_readSegment_96 rfl (lv_at hl 1 rfl) ?_
          refine va_get (D := D) (ci := 7) (v := .int (R12.2.1 4)) (C := RX8) (T := TX8) (N := 21) hx hb hts (fun w h => List.mem_cons_of_mem _ (List.mem_append_right _ h)) hown hK hP 0 rfl rfl 16 (by decide) (hts (.fieldLink RX8 155 "DeltaWindowsModel" "segment" "I") (List.mem_of_getElem? (i := 1) rfl)) (fun _ h9 => h9) rfl dX8_readSegment_97 ?_
          refine lv_iconst (v := (1 : Int32)) hx hb dX8_readSegment_100 (by decide) ?_
          refine lv_icmp_ne (tgt := 113) hx hb dX8_readSegment_101 (by decide) (fun c15 => ?_) (fun c15 => ?_)
          · rw [if_neg c15] at hf
            refine lv_aload_n hx hb dX8_readSegment_113 rfl (lv_at hl 1 rfl) ?_
            refine va_get (D := D) (ci := 7) (v := .ref (q 2)) (C := RX8) (T := TX8) (N := 21) hx hb hts (fun w h => List.mem_cons_of_mem _ (List.mem_append_right _ h)) hown hK hP 0 rfl rfl 1 (by decide) (hts (.fieldLink RX8 13 "DeltaWindowsModel" "length" "[I") (List.mem_of_getElem? (i := 5) rfl)) (fun _ h9 => h9) rfl dX8_readSegment_114 ?_
            refine lv_iconst (v := (4 : Int32)) hx hb dX8_readSegment_117 (by decide) ?_
            obtain ⟨g16, hf⟩ := g_inv hf
            refine va_iald (f := (R12.2.2 1)) hx hb hK hP 2 1 rfl rfl (inb_vp g16) dX8_readSegment_118 ?_
            refine lv_i2l (v := ((R12.2.2 1) (4 : Int32).toNatClampNeg).toInt64) hx hb dX8_readSegment_119 rfl ?_
            refine W.lcmp hx hb dX8_readSegment_120 ?_
            refine lv_if_le (tgt := 128) hx hb dX8_readSegment_121 (by decide) (fun c17 => ?_) (fun c17 => ?_)
            · rw [if_pos c17] at hf
              refine lv_iconst (v := (0 : Int32)) hx hb dX8_readSegment_128 (by decide) ?_
              refine va_put (D := D) (ci := 7) (v := .int (0 : Int32)) (ty := .boolean) (C := RX8) (T := TX8) (N := 21) hx hb hts (fun w h => List.mem_cons_of_mem _ (List.mem_append_right _ h)) tyX8 tyX8_ok nmX8 hown hK hP hD hS 0 rfl rfl 15 (by decide) (hts (.fieldLink RX8 134 "DeltaWindowsModel" "bad" "Z") (List.mem_of_getElem? (i := 4) rfl)) (fun _ h9 => h9) rfl (by decide +kernel) rfl rfl (Nat.le_of_ble_eq_true rfl) dX8_readSegment_129 (fun H locs hP hD hS => ?_)
              have hP : va_P D vwCl (wM q cA (va_up (va_up R12.2.1 6 R12.1) 3 (0 : Int32)) R12.2.2) H := va_P_eq (wM_s3 q cA (va_up R12.2.1 6 R12.1) R12.2.2 (0 : Int32)) hP
              have hD : va_D A (wM q cA (va_up (va_up R12.2.1 6 R12.1) 3 (0 : Int32)) R12.2.2) := va_D_eq (wM_s3 q cA (va_up R12.2.1 6 R12.1) R12.2.2 (0 : Int32)) hD
              obtain rfl := Option.some.inj hf
              exact k_retV hx hb hr hlocks hP hS dX8_readSegment_132
            · rw [if_neg c17] at hf
              refine lv_iconst (v := (1 : Int32)) hx hb dX8_readSegment_124 (by decide) ?_
              refine lv_goto (tgt := 129) hx hb dX8_readSegment_125 (by decide) ?_
              refine va_put (D := D) (ci := 7) (v := .int (1 : Int32)) (ty := .boolean) (C := RX8) (T := TX8) (N := 21) hx hb hts (fun w h => List.mem_cons_of_mem _ (List.mem_append_right _ h)) tyX8 tyX8_ok nmX8 hown hK hP hD hS 0 rfl rfl 15 (by decide) (hts (.fieldLink RX8 134 "DeltaWindowsModel" "bad" "Z") (List.mem_of_getElem? (i := 4) rfl)) (fun _ h9 => h9) rfl (by decide +kernel) rfl rfl (Nat.le_of_ble_eq_true rfl) dX8_readSegment_129 (fun H locs hP hD hS => ?_)
              have hP : va_P D vwCl (wM q cA (va_up (va_up R12.2.1 6 R12.1) 3 (1 : Int32)) R12.2.2) H := va_P_eq (wM_s3 q cA (va_up R12.2.1 6 R12.1) R12.2.2 (1 : Int32)) hP
              have hD : va_D A (wM q cA (va_up (va_up R12.2.1 6 R12.1) 3 (1 : Int32)) R12.2.2) := va_D_eq (wM_s3 q cA (va_up R12.2.1 6 R12.1) R12.2.2 (1 : Int32)) hD
              obtain rfl := Option.some.inj hf
              exact k_retV hx hb hr hlocks hP hS dX8_readSegment_132
          · rw [if_pos c15] at hf
            refine lv_aload_n hx hb dX8_readSegment_104 rfl (lv_at hl 1 rfl) ?_
            refine va_get (D := D) (ci := 7) (v := .ref (q 2)) (C := RX8) (T := TX8) (N := 21) hx hb hts (fun w h => List.mem_cons_of_mem _ (List.mem_append_right _ h)) hown hK hP 0 rfl rfl 1 (by decide) (hts (.fieldLink RX8 13 "DeltaWindowsModel" "length" "[I") (List.mem_of_getElem? (i := 5) rfl)) (fun _ h9 => h9) rfl dX8_readSegment_105 ?_
            refine lv_iconst (v := (0 : Int32)) hx hb dX8_readSegment_108 (by decide) ?_
            obtain ⟨g18, hf⟩ := g_inv hf
            refine va_iald (f := (R12.2.2 1)) hx hb hK hP 2 1 rfl rfl (inb_vp g18) dX8_readSegment_109 ?_
            refine lv_goto (tgt := 119) hx hb dX8_readSegment_110 (by decide) ?_
            refine lv_i2l (v := ((R12.2.2 1) (0 : Int32).toNatClampNeg).toInt64) hx hb dX8_readSegment_119 rfl ?_
            refine W.lcmp hx hb dX8_readSegment_120 ?_
            refine lv_if_le (tgt := 128) hx hb dX8_readSegment_121 (by decide) (fun c19 => ?_) (fun c19 => ?_)
            · rw [if_pos c19] at hf
              refine lv_iconst (v := (0 : Int32)) hx hb dX8_readSegment_128 (by decide) ?_
              refine va_put (D := D) (ci := 7) (v := .int (0 : Int32)) (ty := .boolean) (C := RX8) (T := TX8) (N := 21) hx hb hts (fun w h => List.mem_cons_of_mem _ (List.mem_append_right _ h)) tyX8 tyX8_ok nmX8 hown hK hP hD hS 0 rfl rfl 15 (by decide) (hts (.fieldLink RX8 134 "DeltaWindowsModel" "bad" "Z") (List.mem_of_getElem? (i := 4) rfl)) (fun _ h9 => h9) rfl (by decide +kernel) rfl rfl (Nat.le_of_ble_eq_true rfl) dX8_readSegment_129 (fun H locs hP hD hS => ?_)
              have hP : va_P D vwCl (wM q cA (va_up (va_up R12.2.1 6 R12.1) 3 (0 : Int32)) R12.2.2) H := va_P_eq (wM_s3 q cA (va_up R12.2.1 6 R12.1) R12.2.2 (0 : Int32)) hP
              have hD : va_D A (wM q cA (va_up (va_up R12.2.1 6 R12.1) 3 (0 : Int32)) R12.2.2) := va_D_eq (wM_s3 q cA (va_up R12.2.1 6 R12.1) R12.2.2 (0 : Int32)) hD
              obtain rfl := Option.some.inj hf
              exact k_retV hx hb hr hlocks hP hS dX8_readSegment_132
            · rw [if_neg c19] at hf
              refine lv_iconst (v := (1 : Int32)) hx hb dX8_readSegment_124 (by decide) ?_
              refine lv_goto (tgt := 129) hx hb dX8_readSegment_125 (by decide) ?_
              refine va_put (D := D) (ci := 7) (v := .int (1 : Int32)) (ty := .boolean) (C := RX8) (T := TX8) (N := 21) hx hb hts (fun w h => List.mem_cons_of_mem _ (List.mem_append_right _ h)) tyX8 tyX8_ok nmX8 hown hK hP hD hS 0 rfl rfl 15 (by decide) (hts (.fieldLink RX8 134 "DeltaWindowsModel" "bad" "Z") (List.mem_of_getElem? (i := 4) rfl)) (fun _ h9 => h9) rfl (by decide +kernel) rfl rfl (Nat.le_of_ble_eq_true rfl) dX8_readSegment_129 (fun H locs hP hD hS => ?_)
              have hP : va_P D vwCl (wM q cA (va_up (va_up R12.2.1 6 R12.1) 3 (1 : Int32)) R12.2.2) H := va_P_eq (wM_s3 q cA (va_up R12.2.1 6 R12.1) R12.2.2 (1 : Int32)) hP
              have hD : va_D A (wM q cA (va_up (va_up R12.2.1 6 R12.1) 3 (1 : Int32)) R12.2.2) := va_D_eq (wM_s3 q cA (va_up R12.2.1 6 R12.1) R12.2.2 (1 : Int32)) hD
              obtain rfl := Option.some.inj hf
              exact k_retV hx hb hr hlocks hP hS dX8_readSegment_132
  refine lv_if_ne (tgt := 35) hx hb dX8_readSegment_24 (by decide) (fun c4 => ?_) (fun c4 => ?_)
  · rw [if_neg c4] at hj20
    refine lv_iconst (v := (1 : Int32)) hx hb dX8_readSegment_35 (by decide) ?_
    refine lv_goto (tgt := 40) hx hb dX8_readSegment_36 (by decide) ?_
    obtain rfl := Option.some.inj hj20
    exact kont _ _ _ (lv_sub hl [0] rfl) hP hD hS
  · rw [if_pos c4] at hj20
    refine lv_aload_n hx hb dX8_readSegment_27 rfl (lv_at hl 0 rfl) ?_
    refine va_get (D := D) (ci := 7) (v := .int R1.1) (C := RX8) (T := TX8) (N := 21) hx hb hts (fun w h => List.mem_cons_of_mem _ (List.mem_append_right _ h)) hown hK hP 0 rfl rfl 16 (by decide) (hts (.fieldLink RX8 155 "DeltaWindowsModel" "segment" "I") (List.mem_of_getElem? (i := 1) rfl)) (fun _ h9 => h9) rfl dX8_readSegment_28 ?_
    refine lv_iconst (v := (2 : Int32)) hx hb dX8_readSegment_31 (by decide) ?_
    refine lv_icmp_le (tgt := 39) hx hb dX8_readSegment_32 (by decide) (fun c5 => ?_) (fun c5 => ?_)
    · rw [if_pos c5] at hj20
      refine lv_iconst (v := (0 : Int32)) hx hb dX8_readSegment_39 (by decide) ?_
      obtain rfl := Option.some.inj hj20
      exact kont _ _ _ (lv_sub hl [0] rfl) hP hD hS
    · rw [if_neg c5] at hj20
      refine lv_iconst (v := (1 : Int32)) hx hb dX8_readSegment_35 (by decide) ?_
      refine lv_goto (tgt := 40) hx hb dX8_readSegment_36 (by decide) ?_
      obtain rfl := Option.some.inj hj20
      exact kont _ _ _ (lv_sub hl [0] rfl) hP hD hS

noncomputable def fX8_readWindow (sc : Nat → Int32) (ar : Nat → Nat → Int32) (x1 : Int32) : Option (Int32 × (Nat → Int32) × (Nat → Nat → Int32)) :=
  (fX8_readSegment sc ar).bind fun R1 =>
  if (R1.1 3) = 0 then
    (fX8_nextInteger R1.1 R1.2 (3 : Int32)).bind fun R4 =>
    if inb (3 : Int32) 4 = true then
    (fX8_nextInteger R4.2.1 R4.2.2 (3 : Int32)).bind fun R7 =>
    if (R7.2.1 3) = 0 then
      if inb (4 : Int32) 5 = true then
      if (lg_cmp (((R7.2.2 1) (4 : Int32).toNatClampNeg).toInt64 + R7.1.toInt64) x1.toInt64) ≤ 0 then
        (fX8_next (va_up (va_up R7.2.1 8 R7.1) 7 ((R7.2.2 1) (4 : Int32).toNatClampNeg)) R7.2.2 (3 : Int32)).bind fun R12 =>
        (fX8_nextInteger R12.2.1 R12.2.2 (3 : Int32)).bind fun R14 =>
        (fX8_nextInteger R14.2.1 R14.2.2 (3 : Int32)).bind fun R16 =>
        (fX8_nextInteger R16.2.1 R16.2.2 (3 : Int32)).bind fun R18 =>
        if inb (3 : Int32) 4 = true then
        if (R18.2.1 3) = 0 then
          if R12.1 = 0 then
            if (lg_cmp R4.1.toInt64 ((((R18.2.2 10) (3 : Int32).toNatClampNeg).toInt64 - ((R4.2.2 10) (3 : Int32).toNatClampNeg).toInt64) + ((R14.1.toInt64 + R16.1.toInt64) + R18.1.toInt64))) = 0 then
              if inb (3 : Int32) 4 = true then
              if (lg_cmp (((R18.2.2 10) (3 : Int32).toNatClampNeg).toInt64 + ((R14.1.toInt64 + R16.1.toInt64) + R18.1.toInt64)) (((R18.2.2 11) (3 : Int32).toNatClampNeg).toInt64)) ≤ 0 then
                if inb (0 : Int32) 4 = true then
                if inb (0 : Int32) 4 = true then
                if inb (0 : Int32) 4 = true then
                if inb (1 : Int32) 4 = true then
                if inb (1 : Int32) 4 = true then
                if inb (1 : Int32) 4 = true then
                if inb (2 : Int32) 4 = true then
                if inb (2 : Int32) 4 = true then
                if inb (2 : Int32) 4 = true then
                if inb (3 : Int32) 4 = true then
                (fX8_forget R18.2.1 (va_up (va_up (va_up (va_up (va_up (va_up (va_up R18.2.2 10 (upd (R18.2.2 10) (0 : Int32).toNatClampNeg ((((R18.2.2 10) (3 : Int32).toNatClampNeg).toInt64).toInt32))) 11 (upd (R18.2.2 11) (0 : Int32).toNatClampNeg ((((R18.2.2 10) (3 : Int32).toNatClampNeg).toInt64 + R14.1.toInt64).toInt32))) 10 (upd (upd (R18.2.2 10) (0 : Int32).toNatClampNeg ((((R18.2.2 10) (3 : Int32).toNatClampNeg).toInt64).toInt32)) (1 : Int32).toNatClampNeg ((upd (R18.2.2 11) (0 : Int32).toNatClampNeg ((((R18.2.2 10) (3 : Int32).toNatClampNeg).toInt64 + R14.1.toInt64).toInt32)) (0 : Int32).toNatClampNeg))) 11 (upd (upd (R18.2.2 11) (0 : Int32).toNatClampNeg ((((R18.2.2 10) (3 : Int32).toNatClampNeg).toInt64 + R14.1.toInt64).toInt32)) (1 : Int32).toNatClampNeg (((((R18.2.2 10) (3 : Int32).toNatClampNeg).toInt64 + R14.1.toInt64) + R16.1.toInt64).toInt32))) 10 (upd (upd (upd (R18.2.2 10) (0 : Int32).toNatClampNeg ((((R18.2.2 10) (3 : Int32).toNatClampNeg).toInt64).toInt32)) (1 : Int32).toNatClampNeg ((upd (R18.2.2 11) (0 : Int32).toNatClampNeg ((((R18.2.2 10) (3 : Int32).toNatClampNeg).toInt64 + R14.1.toInt64).toInt32)) (0 : Int32).toNatClampNeg)) (2 : Int32).toNatClampNeg ((upd (upd (R18.2.2 11) (0 : Int32).toNatClampNeg ((((R18.2.2 10) (3 : Int32).toNatClampNeg).toInt64 + R14.1.toInt64).toInt32)) (1 : Int32).toNatClampNeg (((((R18.2.2 10) (3 : Int32).toNatClampNeg).toInt64 + R14.1.toInt64) + R16.1.toInt64).toInt32)) (1 : Int32).toNatClampNeg))) 11 (upd (upd (upd (R18.2.2 11) (0 : Int32).toNatClampNeg ((((R18.2.2 10) (3 : Int32).toNatClampNeg).toInt64 + R14.1.toInt64).toInt32)) (1 : Int32).toNatClampNeg (((((R18.2.2 10) (3 : Int32).toNatClampNeg).toInt64 + R14.1.toInt64) + R16.1.toInt64).toInt32)) (2 : Int32).toNatClampNeg ((((R18.2.2 10) (3 : Int32).toNatClampNeg).toInt64 + ((R14.1.toInt64 + R16.1.toInt64) + R18.1.toInt64)).toInt32))) 10 (upd (upd (upd (upd (R18.2.2 10) (0 : Int32).toNatClampNeg ((((R18.2.2 10) (3 : Int32).toNatClampNeg).toInt64).toInt32)) (1 : Int32).toNatClampNeg ((upd (R18.2.2 11) (0 : Int32).toNatClampNeg ((((R18.2.2 10) (3 : Int32).toNatClampNeg).toInt64 + R14.1.toInt64).toInt32)) (0 : Int32).toNatClampNeg)) (2 : Int32).toNatClampNeg ((upd (upd (R18.2.2 11) (0 : Int32).toNatClampNeg ((((R18.2.2 10) (3 : Int32).toNatClampNeg).toInt64 + R14.1.toInt64).toInt32)) (1 : Int32).toNatClampNeg (((((R18.2.2 10) (3 : Int32).toNatClampNeg).toInt64 + R14.1.toInt64) + R16.1.toInt64).toInt32)) (1 : Int32).toNatClampNeg)) (3 : Int32).toNatClampNeg ((upd (upd (upd (R18.2.2 11) (0 : Int32).toNatClampNeg ((((R18.2.2 10) (3 : Int32).toNatClampNeg).toInt64 + R14.1.toInt64).toInt32)) (1 : Int32).toNatClampNeg (((((R18.2.2 10) (3 : Int32).toNatClampNeg).toInt64 + R14.1.toInt64) + R16.1.toInt64).toInt32)) (2 : Int32).toNatClampNeg ((((R18.2.2 10) (3 : Int32).toNatClampNeg).toInt64 + ((R14.1.toInt64 + R16.1.toInt64) + R18.1.toInt64)).toInt32)) (2 : Int32).toNatClampNeg)))).bind fun R36 =>
                (fX8_performAll R36.1 R36.2).bind fun R38 =>
                if (R38.1 3) = 0 then
                  some ((0 : Int32), R38.1, R38.2)
                else
                  some ((-2 : Int32), R38.1, R38.2)
                else none
                else none
                else none
                else none
                else none
                else none
                else none
                else none
                else none
                else none
              else
                some ((-2 : Int32), R18.2.1, R18.2.2)
              else none
            else
              some ((-2 : Int32), R18.2.1, R18.2.2)
          else
            some ((-2 : Int32), R18.2.1, R18.2.2)
        else
          some ((-2 : Int32), R18.2.1, R18.2.2)
        else none
      else
        some ((-3 : Int32), (va_up (va_up R7.2.1 8 R7.1) 7 ((R7.2.2 1) (4 : Int32).toNatClampNeg)), R7.2.2)
      else none
    else
      some ((-2 : Int32), (va_up R7.2.1 8 R7.1), R7.2.2)
    else none
  else
    some ((-2 : Int32), R1.1, R1.2)

set_option maxHeartbeats 4000000 in
set_option maxRecDepth 100000 in
theorem kX8_readWindow (l : Launch) (D : va_G) (q : Nat → Nat) (cA : Nat → ClassId) (sc : Nat → Int32) (ar : Nat → Nat → Int32) (x1 : Int32) {R : Int32 × (Nat → Int32) × (Nat → Nat → Int32)} (hf : fX8_readWindow sc ar x1 = some R) : MI l yX8_readWindow wsX8_readWindow (rmD 5) D ([.ref (q 0), .int x1] : List Value) (wM q cA sc ar) (tM cA) NT R.1 (wM q cA R.2.1 R.2.2) := by
  refine MI.mk (cc := cX8_readWindow) (maxL := 15) (ret := (some .int)) (by first | decide | decide +kernel) rfl (Nat.le_of_ble_eq_true rfl) ?_
  intro p e s m below meth cd A ls hE
  obtain ⟨hx, hb, hr, hml, hts, hown, hlocks, hP, hK, hD, hA, hN, hAe, hl⟩ := hE
  have hown : s.vm.findClass RX8 = some m.cls := hown
  have hS : va_S A s.heap s.heap [] := va_S.rf
  have hl : lv_has ls 15 [(0, .ref (q 0)), (1, .int x1)] := hl
  rw [fX8_readWindow] at hf
  refine lv_aload_n hx hb dX8_readWindow_0 rfl (lv_at hl 0 rfl) ?_
  obtain ⟨R1, hc2, hf⟩ := b_inv hf
  have hk := kall (wc' := (wM q cA R1.1 R1.2)) hP hD hS hA rfl
  refine k_goV (va_runV (As := []) (rest := []) ⟨hx, hb, hml, hown, hts⟩ (kX8_readSegment l D q cA sc ar hc2 _) (cwV 0 hts gX8_readWindow_X8_readSegment rfl rfl rfl (by decide +kernel) ⟨Nat.le_of_ble_eq_true rfl, Nat.le_of_ble_eq_true rfl⟩) (k_preV (q0 := 0) (ci := 7) hk hK NT_bl NT_u rfl rfl rfl) rfl rfl hl.1 rfl (lv_room (Nat.le_of_ble_eq_true rfl)) dX8_readWindow_1 ⟨Nat.zero_le _, Nat.zero_le _⟩) hk hS (fun H locs hP hD hS => ?_)
  refine lv_aload_n hx hb dX8_readWindow_4 rfl (lv_at hl 0 rfl) ?_
  refine va_get (D := D) (ci := 7) (v := .int (R1.1 3)) (C := RX8) (T := TX8) (N := 21) hx hb hts (fun w h => List.mem_cons_of_mem _ (List.mem_append_right _ h)) hown hK hP 0 rfl rfl 15 (by decide) (hts (.fieldLink RX8 134 "DeltaWindowsModel" "bad" "Z") (List.mem_of_getElem? (i := 1) rfl)) (fun _ h9 => h9) rfl dX8_readWindow_5 ?_
  refine lv_if_eq (tgt := 14) hx hb dX8_readWindow_8 (by decide) (fun c3 => ?_) (fun c3 => ?_)
  · rw [if_pos c3] at hf
    refine lv_aload_n hx hb dX8_readWindow_14 rfl (lv_at hl 0 rfl) ?_
    refine lv_iconst (v := (3 : Int32)) hx hb dX8_readWindow_15 (by decide) ?_
    obtain ⟨R4, hc5, hf⟩ := b_inv hf
    have hk := kall (wc' := (wM q cA R4.2.1 R4.2.2)) hP hD hS hA rfl
    refine k_goI (va_runV (As := [.int (3 : Int32)]) (rest := []) ⟨hx, hb, hml, hown, hts⟩ (kX8_nextInteger l D q cA R1.1 R1.2 (3 : Int32) hc5 _) (cwV 1 hts gX8_readWindow_X8_nextInteger rfl rfl rfl (by decide +kernel) ⟨Nat.le_of_ble_eq_true rfl, Nat.le_of_ble_eq_true rfl⟩) (k_preV (q0 := 0) (ci := 7) hk hK NT_bl NT_u rfl rfl rfl) rfl rfl hl.1 rfl (lv_room (Nat.le_of_ble_eq_true rfl)) dX8_readWindow_16 ⟨Nat.zero_le _, Nat.zero_le _⟩) hk hS (fun H locs hP hD hS => ?_)
    refine lv_istore_n (lv' := [(2, .int R4.1), (0, .ref (q 0)), (1, .int x1)]) hx hb dX8_readWindow_19 rfl hl (by decide) rfl (fun ls hl => ?_)
    refine lv_aload_n hx hb dX8_readWindow_20 rfl (lv_at hl 1 rfl) ?_
    refine va_get (D := D) (ci := 7) (v := .ref (q 11)) (C := RX8) (T := TX8) (N := 21) hx hb hts (fun w h => List.mem_cons_of_mem _ (List.mem_append_right _ h)) hown hK hP 0 rfl rfl 13 (by decide) (hts (.fieldLink RX8 40 "DeltaWindowsModel" "place" "[I") (List.mem_of_getElem? (i := 2) rfl)) (fun _ h9 => h9) rfl dX8_readWindow_21 ?_
    refine lv_iconst (v := (3 : Int32)) hx hb dX8_readWindow_24 (by decide) ?_
    obtain ⟨g6, hf⟩ := g_inv hf
    refine va_iald (f := (R4.2.2 10)) hx hb hK hP 11 10 rfl rfl (inb_vp g6) dX8_readWindow_25 ?_
    refine lv_istore_n (lv' := [(3, .int ((R4.2.2 10) (3 : Int32).toNatClampNeg)), (2, .int R4.1), (0, .ref (q 0)), (1, .int x1)]) hx hb dX8_readWindow_26 rfl hl (by decide) rfl (fun ls hl => ?_)
    refine lv_aload_n hx hb dX8_readWindow_27 rfl (lv_at hl 2 rfl) ?_
    refine lv_aload_n hx hb dX8_readWindow_28 rfl (lv_at hl 2 rfl) ?_
    refine lv_iconst (v := (3 : Int32)) hx hb dX8_readWindow_29 (by decide) ?_
    obtain ⟨R7, hc8, hf⟩ := b_inv hf
    have hk := kall (wc' := (wM q cA R7.2.1 R7.2.2)) hP hD hS hA rfl
    refine k_goI (va_runV (As := [.int (3 : Int32)]) (rest := [.ref (q 0)]) ⟨hx, hb, hml, hown, hts⟩ (kX8_nextInteger l D q cA R4.2.1 R4.2.2 (3 : Int32) hc8 _) (cwV 1 hts gX8_readWindow_X8_nextInteger rfl rfl rfl (by decide +kernel) ⟨Nat.le_of_ble_eq_true rfl, Nat.le_of_ble_eq_true rfl⟩) (k_preV (q0 := 0) (ci := 7) hk hK NT_bl NT_u rfl rfl rfl) rfl rfl hl.1 rfl (lv_room (Nat.le_of_ble_eq_true rfl)) dX8_readWindow_30 ⟨Nat.zero_le _, Nat.zero_le _⟩) hk hS (fun H locs hP hD hS => ?_)
    refine va_put (D := D) (ci := 7) (v := .int R7.1) (ty := .int) (C := RX8) (T := TX8) (N := 21) hx hb hts (fun w h => List.mem_cons_of_mem _ (List.mem_append_right _ h)) tyX8 tyX8_ok nmX8 hown hK hP hD hS 0 rfl rfl 20 (by decide) (hts (.fieldLink RX8 167 "DeltaWindowsModel" "due" "I") (List.mem_of_getElem? (i := 3) rfl)) (fun _ h9 => h9) rfl (by decide +kernel) rfl rfl (Nat.le_of_ble_eq_true rfl) dX8_readWindow_33 (fun H locs hP hD hS => ?_)
    have hP : va_P D vwCl (wM q cA (va_up R7.2.1 8 R7.1) R7.2.2) H := va_P_eq (wM_s8 q cA R7.2.1 R7.2.2 R7.1) hP
    have hD : va_D A (wM q cA (va_up R7.2.1 8 R7.1) R7.2.2) := va_D_eq (wM_s8 q cA R7.2.1 R7.2.2 R7.1) hD
    refine lv_aload_n hx hb dX8_readWindow_36 rfl (lv_at hl 2 rfl) ?_
    refine va_get (D := D) (ci := 7) (v := .int (R7.2.1 3)) (C := RX8) (T := TX8) (N := 21) hx hb hts (fun w h => List.mem_cons_of_mem _ (List.mem_append_right _ h)) hown hK hP 0 rfl rfl 15 (by decide) (hts (.fieldLink RX8 134 "DeltaWindowsModel" "bad" "Z") (List.mem_of_getElem? (i := 1) rfl)) (fun _ h9 => h9) rfl dX8_readWindow_37 ?_
    refine lv_if_eq (tgt := 46) hx hb dX8_readWindow_40 (by decide) (fun c9 => ?_) (fun c9 => ?_)
    · rw [if_pos c9] at hf
      refine lv_aload_n hx hb dX8_readWindow_46 rfl (lv_at hl 2 rfl) ?_
      refine lv_aload_n hx hb dX8_readWindow_47 rfl (lv_at hl 2 rfl) ?_
      refine va_get (D := D) (ci := 7) (v := .ref (q 2)) (C := RX8) (T := TX8) (N := 21) hx hb hts (fun w h => List.mem_cons_of_mem _ (List.mem_append_right _ h)) hown hK hP 0 rfl rfl 1 (by decide) (hts (.fieldLink RX8 13 "DeltaWindowsModel" "length" "[I") (List.mem_of_getElem? (i := 4) rfl)) (fun _ h9 => h9) rfl dX8_readWindow_48 ?_
      refine lv_iconst (v := (4 : Int32)) hx hb dX8_readWindow_51 (by decide) ?_
      obtain ⟨g10, hf⟩ := g_inv hf
      refine va_iald (f := (R7.2.2 1)) hx hb hK hP 2 1 rfl rfl (inb_vp g10) dX8_readWindow_52 ?_
      refine va_put (D := D) (ci := 7) (v := .int ((R7.2.2 1) (4 : Int32).toNatClampNeg)) (ty := .int) (C := RX8) (T := TX8) (N := 21) hx hb hts (fun w h => List.mem_cons_of_mem _ (List.mem_append_right _ h)) tyX8 tyX8_ok nmX8 hown hK hP hD hS 0 rfl rfl 19 (by decide) (hts (.fieldLink RX8 145 "DeltaWindowsModel" "base" "I") (List.mem_of_getElem? (i := 5) rfl)) (fun _ h9 => h9) rfl (by decide +kernel) rfl rfl (Nat.le_of_ble_eq_true rfl) dX8_readWindow_53 (fun H locs hP hD hS => ?_)
      have hP : va_P D vwCl (wM q cA (va_up (va_up R7.2.1 8 R7.1) 7 ((R7.2.2 1) (4 : Int32).toNatClampNeg)) R7.2.2) H := va_P_eq (wM_s7 q cA (va_up R7.2.1 8 R7.1) R7.2.2 ((R7.2.2 1) (4 : Int32).toNatClampNeg)) hP
      have hD : va_D A (wM q cA (va_up (va_up R7.2.1 8 R7.1) 7 ((R7.2.2 1) (4 : Int32).toNatClampNeg)) R7.2.2) := va_D_eq (wM_s7 q cA (va_up R7.2.1 8 R7.1) R7.2.2 ((R7.2.2 1) (4 : Int32).toNatClampNeg)) hD
      refine lv_aload_n hx hb dX8_readWindow_56 rfl (lv_at hl 2 rfl) ?_
      refine va_get (D := D) (ci := 7) (v := .int ((R7.2.2 1) (4 : Int32).toNatClampNeg)) (C := RX8) (T := TX8) (N := 21) hx hb hts (fun w h => List.mem_cons_of_mem _ (List.mem_append_right _ h)) hown hK hP 0 rfl rfl 19 (by decide) (hts (.fieldLink RX8 145 "DeltaWindowsModel" "base" "I") (List.mem_of_getElem? (i := 5) rfl)) (fun _ h9 => h9) rfl dX8_readWindow_57 ?_
      refine lv_i2l (v := ((R7.2.2 1) (4 : Int32).toNatClampNeg).toInt64) hx hb dX8_readWindow_60 rfl ?_
      refine lv_aload_n hx hb dX8_readWindow_61 rfl (lv_at hl 2 rfl) ?_
      refine va_get (D := D) (ci := 7) (v := .int R7.1) (C := RX8) (T := TX8) (N := 21) hx hb hts (fun w h => List.mem_cons_of_mem _ (List.mem_append_right _ h)) hown hK hP 0 rfl rfl 20 (by decide) (hts (.fieldLink RX8 167 "DeltaWindowsModel" "due" "I") (List.mem_of_getElem? (i := 3) rfl)) (fun _ h9 => h9) rfl dX8_readWindow_62 ?_
      refine lv_i2l (v := R7.1.toInt64) hx hb dX8_readWindow_65 rfl ?_
      refine lv_ladd hx hb dX8_readWindow_66 ?_
      refine lv_iload_n hx hb dX8_readWindow_67 rfl (lv_at hl 3 rfl) ?_
      refine lv_i2l (v := x1.toInt64) hx hb dX8_readWindow_68 rfl ?_
      refine W.lcmp hx hb dX8_readWindow_69 ?_
      refine lv_if_le (tgt := 76) hx hb dX8_readWindow_70 (by decide) (fun c11 => ?_) (fun c11 => ?_)
      · rw [if_pos c11] at hf
        refine lv_aload_n hx hb dX8_readWindow_76 rfl (lv_at hl 2 rfl) ?_
        refine lv_iconst (v := (3 : Int32)) hx hb dX8_readWindow_77 (by decide) ?_
        obtain ⟨R12, hc13, hf⟩ := b_inv hf
        have hk := kall (wc' := (wM q cA R12.2.1 R12.2.2)) hP hD hS hA rfl
        refine k_goI (va_runV (As := [.int (3 : Int32)]) (rest := []) ⟨hx, hb, hml, hown, hts⟩ (kX8_next l D q cA (va_up (va_up R7.2.1 8 R7.1) 7 ((R7.2.2 1) (4 : Int32).toNatClampNeg)) R7.2.2 (3 : Int32) hc13 _) (cwV 1 hts gX8_readWindow_X8_next rfl rfl rfl (by decide +kernel) ⟨Nat.le_of_ble_eq_true rfl, Nat.le_of_ble_eq_true rfl⟩) (k_preV (q0 := 0) (ci := 7) hk hK NT_bl NT_u rfl rfl rfl) rfl rfl hl.1 rfl (lv_room (Nat.le_of_ble_eq_true rfl)) dX8_readWindow_78 ⟨Nat.zero_le _, Nat.zero_le _⟩) hk hS (fun H locs hP hD hS => ?_)
        refine lv_istore (lv' := [(4, .int R12.1), (3, .int ((R4.2.2 10) (3 : Int32).toNatClampNeg)), (2, .int R4.1), (0, .ref (q 0)), (1, .int x1)]) hx hb dX8_readWindow_81 hl (by decide) rfl (fun ls hl => ?_)
        refine lv_lconst (v := (0 : Int64)) hx hb dX8_readWindow_83 (by decide) ?_
        refine lv_lstore (lv' := [(5, .long (0 : Int64)), (4, .int R12.1), (3, .int ((R4.2.2 10) (3 : Int32).toNatClampNeg)), (2, .int R4.1), (0, .ref (q 0)), (1, .int x1)]) hx hb dX8_readWindow_84 hl (by decide) rfl (fun ls hl => ?_)
        refine lv_lconst (v := (0 : Int64)) hx hb dX8_readWindow_86 (by decide) ?_
        refine lv_lstore (lv' := [(7, .long (0 : Int64)), (5, .long (0 : Int64)), (4, .int R12.1), (3, .int ((R4.2.2 10) (3 : Int32).toNatClampNeg)), (2, .int R4.1), (0, .ref (q 0)), (1, .int x1)]) hx hb dX8_readWindow_87 hl (by decide) rfl (fun ls hl => ?_)
        refine lv_aload_n hx hb dX8_readWindow_89 rfl (lv_at hl 5 rfl) ?_
        refine lv_iconst (v := (3 : Int32)) hx hb dX8_readWindow_90 (by decide) ?_
        obtain ⟨R14, hc15, hf⟩ := b_inv hf
        have hk := kall (wc' := (wM q cA R14.2.1 R14.2.2)) hP hD hS hA rfl
        refine k_goI (va_runV (As := [.int (3 : Int32)]) (rest := []) ⟨hx, hb, hml, hown, hts⟩ (kX8_nextInteger l D q cA R12.2.1 R12.2.2 (3 : Int32) hc15 _) (cwV 1 hts gX8_readWindow_X8_nextInteger rfl rfl rfl (by decide +kernel) ⟨Nat.le_of_ble_eq_true rfl, Nat.le_of_ble_eq_true rfl⟩) (k_preV (q0 := 0) (ci := 7) hk hK NT_bl NT_u rfl rfl rfl) rfl rfl hl.1 rfl (lv_room (Nat.le_of_ble_eq_true rfl)) dX8_readWindow_91 ⟨Nat.zero_le _, Nat.zero_le _⟩) hk hS (fun H locs hP hD hS => ?_)
        refine lv_i2l (v := R14.1.toInt64) hx hb dX8_readWindow_94 rfl ?_
        refine lv_lstore (lv' := [(9, .long R14.1.toInt64), (7, .long (0 : Int64)), (5, .long (0 : Int64)), (4, .int R12.1), (3, .int ((R4.2.2 10) (3 : Int32).toNatClampNeg)), (2, .int R4.1), (0, .ref (q 0)), (1, .int x1)]) hx hb dX8_readWindow_95 hl (by decide) rfl (fun ls hl => ?_)
        refine lv_aload_n hx hb dX8_readWindow_97 rfl (lv_at hl 6 rfl) ?_
        refine lv_iconst (v := (3 : Int32)) hx hb dX8_readWindow_98 (by decide) ?_
        obtain ⟨R16, hc17, hf⟩ := b_inv hf
        have hk := kall (wc' := (wM q cA R16.2.1 R16.2.2)) hP hD hS hA rfl
        refine k_goI (va_runV (As := [.int (3 : Int32)]) (rest := []) ⟨hx, hb, hml, hown, hts⟩ (kX8_nextInteger l D q cA R14.2.1 R14.2.2 (3 : Int32) hc17 _) (cwV 1 hts gX8_readWindow_X8_nextInteger rfl rfl rfl (by decide +kernel) ⟨Nat.le_of_ble_eq_true rfl, Nat.le_of_ble_eq_true rfl⟩) (k_preV (q0 := 0) (ci := 7) hk hK NT_bl NT_u rfl rfl rfl) rfl rfl hl.1 rfl (lv_room (Nat.le_of_ble_eq_true rfl)) dX8_readWindow_99 ⟨Nat.zero_le _, Nat.zero_le _⟩) hk hS (fun H locs hP hD hS => ?_)
        refine lv_i2l (v := R16.1.toInt64) hx hb dX8_readWindow_102 rfl ?_
        refine lv_lstore (lv' := [(11, .long R16.1.toInt64), (9, .long R14.1.toInt64), (7, .long (0 : Int64)), (5, .long (0 : Int64)), (4, .int R12.1), (3, .int ((R4.2.2 10) (3 : Int32).toNatClampNeg)), (2, .int R4.1), (0, .ref (q 0)), (1, .int x1)]) hx hb dX8_readWindow_103 hl (by decide) rfl (fun ls hl => ?_)
        refine lv_aload_n hx hb dX8_readWindow_105 rfl (lv_at hl 7 rfl) ?_
        refine lv_iconst (v := (3 : Int32)) hx hb dX8_readWindow_106 (by decide) ?_
        obtain ⟨R18, hc19, hf⟩ := b_inv hf
        have hk := kall (wc' := (wM q cA R18.2.1 R18.2.2)) hP hD hS hA rfl
        refine k_goI (va_runV (As := [.int (3 : Int32)]) (rest := []) ⟨hx, hb, hml, hown, hts⟩ (kX8_nextInteger l D q cA R16.2.1 R16.2.2 (3 : Int32) hc19 _) (cwV 1 hts gX8_readWindow_X8_nextInteger rfl rfl rfl (by decide +kernel) ⟨Nat.le_of_ble_eq_true rfl, Nat.le_of_ble_eq_true rfl⟩) (k_preV (q0 := 0) (ci := 7) hk hK NT_bl NT_u rfl rfl rfl) rfl rfl hl.1 rfl (lv_room (Nat.le_of_ble_eq_true rfl)) dX8_readWindow_107 ⟨Nat.zero_le _, Nat.zero_le _⟩) hk hS (fun H locs hP hD hS => ?_)
        refine lv_i2l (v := R18.1.toInt64) hx hb dX8_readWindow_110 rfl ?_
        refine lv_lstore (lv' := [(13, .long R18.1.toInt64), (11, .long R16.1.toInt64), (9, .long R14.1.toInt64), (7, .long (0 : Int64)), (5, .long (0 : Int64)), (4, .int R12.1), (3, .int ((R4.2.2 10) (3 : Int32).toNatClampNeg)), (2, .int R4.1), (0, .ref (q 0)), (1, .int x1)]) hx hb dX8_readWindow_111 hl (by decide) rfl (fun ls hl => ?_)
        refine lv_lload hx hb dX8_readWindow_113 (lv_at hl 2 rfl) ?_
        refine lv_lload hx hb dX8_readWindow_115 (lv_at hl 1 rfl) ?_
        refine lv_ladd hx hb dX8_readWindow_117 ?_
        refine lv_lload hx hb dX8_readWindow_118 (lv_at hl 0 rfl) ?_
        refine lv_ladd hx hb dX8_readWindow_120 ?_
        refine lv_lstore (lv' := [(7, .long ((R14.1.toInt64 + R16.1.toInt64) + R18.1.toInt64)), (13, .long R18.1.toInt64), (11, .long R16.1.toInt64), (9, .long R14.1.toInt64), (5, .long (0 : Int64)), (4, .int R12.1), (3, .int ((R4.2.2 10) (3 : Int32).toNatClampNeg)), (2, .int R4.1), (0, .ref (q 0)), (1, .int x1)]) hx hb dX8_readWindow_121 hl (by decide) rfl (fun ls hl => ?_)
        refine lv_aload_n hx hb dX8_readWindow_123 rfl (lv_at hl 8 rfl) ?_
        refine va_get (D := D) (ci := 7) (v := .ref (q 11)) (C := RX8) (T := TX8) (N := 21) hx hb hts (fun w h => List.mem_cons_of_mem _ (List.mem_append_right _ h)) hown hK hP 0 rfl rfl 13 (by decide) (hts (.fieldLink RX8 40 "DeltaWindowsModel" "place" "[I") (List.mem_of_getElem? (i := 2) rfl)) (fun _ h9 => h9) rfl dX8_readWindow_124 ?_
        refine lv_iconst (v := (3 : Int32)) hx hb dX8_readWindow_127 (by decide) ?_
        obtain ⟨g20, hf⟩ := g_inv hf
        refine va_iald (f := (R18.2.2 10)) hx hb hK hP 11 10 rfl rfl (inb_vp g20) dX8_readWindow_128 ?_
        refine lv_i2l (v := ((R18.2.2 10) (3 : Int32).toNatClampNeg).toInt64) hx hb dX8_readWindow_129 rfl ?_
        refine lv_lstore (lv' := [(5, .long ((R18.2.2 10) (3 : Int32).toNatClampNeg).toInt64), (7, .long ((R14.1.toInt64 + R16.1.toInt64) + R18.1.toInt64)), (13, .long R18.1.toInt64), (11, .long R16.1.toInt64), (9, .long R14.1.toInt64), (4, .int R12.1), (3, .int ((R4.2.2 10) (3 : Int32).toNatClampNeg)), (2, .int R4.1), (0, .ref (q 0)), (1, .int x1)]) hx hb dX8_readWindow_130 hl (by decide) rfl (fun ls hl => ?_)
        refine lv_aload_n hx hb dX8_readWindow_132 rfl (lv_at hl 8 rfl) ?_
        refine va_get (D := D) (ci := 7) (v := .int (R18.2.1 3)) (C := RX8) (T := TX8) (N := 21) hx hb hts (fun w h => List.mem_cons_of_mem _ (List.mem_append_right _ h)) hown hK hP 0 rfl rfl 15 (by decide) (hts (.fieldLink RX8 134 "DeltaWindowsModel" "bad" "Z") (List.mem_of_getElem? (i := 1) rfl)) (fun _ h9 => h9) rfl dX8_readWindow_133 ?_
        refine lv_if_ne (tgt := 174) hx hb dX8_readWindow_136 (by decide) (fun c21 => ?_) (fun c21 => ?_)
        · rw [if_neg c21] at hf
          refine lv_bipush (v := (-2 : Int32)) hx hb dX8_readWindow_174 (by decide) ?_
          obtain rfl := Option.some.inj hf
          exact k_retI hx hb hr hlocks hP hS dX8_readWindow_176
        · rw [if_pos c21] at hf
          refine lv_iload hx hb dX8_readWindow_139 (lv_at hl 5 rfl) ?_
          refine lv_if_ne (tgt := 174) hx hb dX8_readWindow_141 (by decide) (fun c22 => ?_) (fun c22 => ?_)
          · rw [if_neg c22] at hf
            refine lv_bipush (v := (-2 : Int32)) hx hb dX8_readWindow_174 (by decide) ?_
            obtain rfl := Option.some.inj hf
            exact k_retI hx hb hr hlocks hP hS dX8_readWindow_176
          · rw [if_pos c22] at hf
            refine lv_iload_n hx hb dX8_readWindow_144 rfl (lv_at hl 7 rfl) ?_
            refine lv_i2l (v := R4.1.toInt64) hx hb dX8_readWindow_145 rfl ?_
            refine lv_lload hx hb dX8_readWindow_146 (lv_at hl 0 rfl) ?_
            refine lv_iload_n hx hb dX8_readWindow_148 rfl (lv_at hl 6 rfl) ?_
            refine lv_i2l (v := ((R4.2.2 10) (3 : Int32).toNatClampNeg).toInt64) hx hb dX8_readWindow_149 rfl ?_
            refine lv_lsub hx hb dX8_readWindow_150 ?_
            refine lv_lload hx hb dX8_readWindow_151 (lv_at hl 1 rfl) ?_
            refine lv_ladd hx hb dX8_readWindow_153 ?_
            refine W.lcmp hx hb dX8_readWindow_154 ?_
            refine lv_if_ne (tgt := 174) hx hb dX8_readWindow_155 (by decide) (fun c23 => ?_) (fun c23 => ?_)
            · rw [if_neg c23] at hf
              refine lv_bipush (v := (-2 : Int32)) hx hb dX8_readWindow_174 (by decide) ?_
              obtain rfl := Option.some.inj hf
              exact k_retI hx hb hr hlocks hP hS dX8_readWindow_176
            · rw [if_pos c23] at hf
              refine lv_lload hx hb dX8_readWindow_158 (lv_at hl 0 rfl) ?_
              refine lv_lload hx hb dX8_readWindow_160 (lv_at hl 1 rfl) ?_
              refine lv_ladd hx hb dX8_readWindow_162 ?_
              refine lv_aload_n hx hb dX8_readWindow_163 rfl (lv_at hl 8 rfl) ?_
              refine va_get (D := D) (ci := 7) (v := .ref (q 12)) (C := RX8) (T := TX8) (N := 21) hx hb hts (fun w h => List.mem_cons_of_mem _ (List.mem_append_right _ h)) hown hK hP 0 rfl rfl 14 (by decide) (hts (.fieldLink RX8 43 "DeltaWindowsModel" "stop" "[I") (List.mem_of_getElem? (i := 6) rfl)) (fun _ h9 => h9) rfl dX8_readWindow_164 ?_
              refine lv_iconst (v := (3 : Int32)) hx hb dX8_readWindow_167 (by decide) ?_
              obtain ⟨g24, hf⟩ := g_inv hf
              refine va_iald (f := (R18.2.2 11)) hx hb hK hP 12 11 rfl rfl (inb_vp g24) dX8_readWindow_168 ?_
              refine lv_i2l (v := ((R18.2.2 11) (3 : Int32).toNatClampNeg).toInt64) hx hb dX8_readWindow_169 rfl ?_
              refine W.lcmp hx hb dX8_readWindow_170 ?_
              refine lv_if_le (tgt := 177) hx hb dX8_readWindow_171 (by decide) (fun c25 => ?_) (fun c25 => ?_)
              · rw [if_pos c25] at hf
                refine lv_aload_n hx hb dX8_readWindow_177 rfl (lv_at hl 8 rfl) ?_
                refine va_get (D := D) (ci := 7) (v := .ref (q 11)) (C := RX8) (T := TX8) (N := 21) hx hb hts (fun w h => List.mem_cons_of_mem _ (List.mem_append_right _ h)) hown hK hP 0 rfl rfl 13 (by decide) (hts (.fieldLink RX8 40 "DeltaWindowsModel" "place" "[I") (List.mem_of_getElem? (i := 2) rfl)) (fun _ h9 => h9) rfl dX8_readWindow_178 ?_
                refine lv_iconst (v := (0 : Int32)) hx hb dX8_readWindow_181 (by decide) ?_
                refine lv_lload hx hb dX8_readWindow_182 (lv_at hl 0 rfl) ?_
                refine lv_l2i (v := (((R18.2.2 10) (3 : Int32).toNatClampNeg).toInt64).toInt32) hx hb dX8_readWindow_184 rfl ?_
                obtain ⟨g26, hf⟩ := g_inv hf
                refine va_iast (f := (R18.2.2 10)) hx hb hK hP hD hS 11 10 rfl rfl (inb_vp g26) dX8_readWindow_185 (fun H locs hP hD hS => ?_)
                have hP : va_P D vwCl (wM q cA R18.2.1 (va_up R18.2.2 10 (upd (R18.2.2 10) (0 : Int32).toNatClampNeg ((((R18.2.2 10) (3 : Int32).toNatClampNeg).toInt64).toInt32)))) H := va_P_eq (wM_a10 q cA R18.2.1 R18.2.2 (upd (R18.2.2 10) (0 : Int32).toNatClampNeg ((((R18.2.2 10) (3 : Int32).toNatClampNeg).toInt64).toInt32))) hP
                have hD : va_D A (wM q cA R18.2.1 (va_up R18.2.2 10 (upd (R18.2.2 10) (0 : Int32).toNatClampNeg ((((R18.2.2 10) (3 : Int32).toNatClampNeg).toInt64).toInt32)))) := va_D_eq (wM_a10 q cA R18.2.1 R18.2.2 (upd (R18.2.2 10) (0 : Int32).toNatClampNeg ((((R18.2.2 10) (3 : Int32).toNatClampNeg).toInt64).toInt32))) hD
                refine lv_aload_n hx hb dX8_readWindow_186 rfl (lv_at hl 8 rfl) ?_
                refine va_get (D := D) (ci := 7) (v := .ref (q 12)) (C := RX8) (T := TX8) (N := 21) hx hb hts (fun w h => List.mem_cons_of_mem _ (List.mem_append_right _ h)) hown hK hP 0 rfl rfl 14 (by decide) (hts (.fieldLink RX8 43 "DeltaWindowsModel" "stop" "[I") (List.mem_of_getElem? (i := 6) rfl)) (fun _ h9 => h9) rfl dX8_readWindow_187 ?_
                refine lv_iconst (v := (0 : Int32)) hx hb dX8_readWindow_190 (by decide) ?_
                refine lv_lload hx hb dX8_readWindow_191 (lv_at hl 0 rfl) ?_
                refine lv_lload hx hb dX8_readWindow_193 (lv_at hl 4 rfl) ?_
                refine lv_ladd hx hb dX8_readWindow_195 ?_
                refine lv_l2i (v := (((R18.2.2 10) (3 : Int32).toNatClampNeg).toInt64 + R14.1.toInt64).toInt32) hx hb dX8_readWindow_196 rfl ?_
                obtain ⟨g27, hf⟩ := g_inv hf
                refine va_iast (f := (R18.2.2 11)) hx hb hK hP hD hS 12 11 rfl rfl (inb_vp g27) dX8_readWindow_197 (fun H locs hP hD hS => ?_)
                have hP : va_P D vwCl (wM q cA R18.2.1 (va_up (va_up R18.2.2 10 (upd (R18.2.2 10) (0 : Int32).toNatClampNeg ((((R18.2.2 10) (3 : Int32).toNatClampNeg).toInt64).toInt32))) 11 (upd (R18.2.2 11) (0 : Int32).toNatClampNeg ((((R18.2.2 10) (3 : Int32).toNatClampNeg).toInt64 + R14.1.toInt64).toInt32)))) H := va_P_eq (wM_a11 q cA R18.2.1 (va_up R18.2.2 10 (upd (R18.2.2 10) (0 : Int32).toNatClampNeg ((((R18.2.2 10) (3 : Int32).toNatClampNeg).toInt64).toInt32))) (upd (R18.2.2 11) (0 : Int32).toNatClampNeg ((((R18.2.2 10) (3 : Int32).toNatClampNeg).toInt64 + R14.1.toInt64).toInt32))) hP
                have hD : va_D A (wM q cA R18.2.1 (va_up (va_up R18.2.2 10 (upd (R18.2.2 10) (0 : Int32).toNatClampNeg ((((R18.2.2 10) (3 : Int32).toNatClampNeg).toInt64).toInt32))) 11 (upd (R18.2.2 11) (0 : Int32).toNatClampNeg ((((R18.2.2 10) (3 : Int32).toNatClampNeg).toInt64 + R14.1.toInt64).toInt32)))) := va_D_eq (wM_a11 q cA R18.2.1 (va_up R18.2.2 10 (upd (R18.2.2 10) (0 : Int32).toNatClampNeg ((((R18.2.2 10) (3 : Int32).toNatClampNeg).toInt64).toInt32))) (upd (R18.2.2 11) (0 : Int32).toNatClampNeg ((((R18.2.2 10) (3 : Int32).toNatClampNeg).toInt64 + R14.1.toInt64).toInt32))) hD
                refine lv_aload_n hx hb dX8_readWindow_198 rfl (lv_at hl 8 rfl) ?_
                refine va_get (D := D) (ci := 7) (v := .ref (q 11)) (C := RX8) (T := TX8) (N := 21) hx hb hts (fun w h => List.mem_cons_of_mem _ (List.mem_append_right _ h)) hown hK hP 0 rfl rfl 13 (by decide) (hts (.fieldLink RX8 40 "DeltaWindowsModel" "place" "[I") (List.mem_of_getElem? (i := 2) rfl)) (fun _ h9 => h9) rfl dX8_readWindow_199 ?_
                refine lv_iconst (v := (1 : Int32)) hx hb dX8_readWindow_202 (by decide) ?_
                refine lv_aload_n hx hb dX8_readWindow_203 rfl (lv_at hl 8 rfl) ?_
                refine va_get (D := D) (ci := 7) (v := .ref (q 12)) (C := RX8) (T := TX8) (N := 21) hx hb hts (fun w h => List.mem_cons_of_mem _ (List.mem_append_right _ h)) hown hK hP 0 rfl rfl 14 (by decide) (hts (.fieldLink RX8 43 "DeltaWindowsModel" "stop" "[I") (List.mem_of_getElem? (i := 6) rfl)) (fun _ h9 => h9) rfl dX8_readWindow_204 ?_
                refine lv_iconst (v := (0 : Int32)) hx hb dX8_readWindow_207 (by decide) ?_
                obtain ⟨g28, hf⟩ := g_inv hf
                refine va_iald (f := (upd (R18.2.2 11) (0 : Int32).toNatClampNeg ((((R18.2.2 10) (3 : Int32).toNatClampNeg).toInt64 + R14.1.toInt64).toInt32))) hx hb hK hP 12 11 rfl rfl (inb_vp g28) dX8_readWindow_208 ?_
                obtain ⟨g29, hf⟩ := g_inv hf
                refine va_iast (f := (upd (R18.2.2 10) (0 : Int32).toNatClampNeg ((((R18.2.2 10) (3 : Int32).toNatClampNeg).toInt64).toInt32))) hx hb hK hP hD hS 11 10 rfl rfl (inb_vp g29) dX8_readWindow_209 (fun H locs hP hD hS => ?_)
                have hP : va_P D vwCl (wM q cA R18.2.1 (va_up (va_up (va_up R18.2.2 10 (upd (R18.2.2 10) (0 : Int32).toNatClampNeg ((((R18.2.2 10) (3 : Int32).toNatClampNeg).toInt64).toInt32))) 11 (upd (R18.2.2 11) (0 : Int32).toNatClampNeg ((((R18.2.2 10) (3 : Int32).toNatClampNeg).toInt64 + R14.1.toInt64).toInt32))) 10 (upd (upd (R18.2.2 10) (0 : Int32).toNatClampNeg ((((R18.2.2 10) (3 : Int32).toNatClampNeg).toInt64).toInt32)) (1 : Int32).toNatClampNeg ((upd (R18.2.2 11) (0 : Int32).toNatClampNeg ((((R18.2.2 10) (3 : Int32).toNatClampNeg).toInt64 + R14.1.toInt64).toInt32)) (0 : Int32).toNatClampNeg)))) H := va_P_eq (wM_a10 q cA R18.2.1 (va_up (va_up R18.2.2 10 (upd (R18.2.2 10) (0 : Int32).toNatClampNeg ((((R18.2.2 10) (3 : Int32).toNatClampNeg).toInt64).toInt32))) 11 (upd (R18.2.2 11) (0 : Int32).toNatClampNeg ((((R18.2.2 10) (3 : Int32).toNatClampNeg).toInt64 + R14.1.toInt64).toInt32))) (upd (upd (R18.2.2 10) (0 : Int32).toNatClampNeg ((((R18.2.2 10) (3 : Int32).toNatClampNeg).toInt64).toInt32)) (1 : Int32).toNatClampNeg ((upd (R18.2.2 11) (0 : Int32).toNatClampNeg ((((R18.2.2 10) (3 : Int32).toNatClampNeg).toInt64 + R14.1.toInt64).toInt32)) (0 : Int32).toNatClampNeg))) hP
                have hD : va_D A (wM q cA R18.2.1 (va_up (va_up (va_up R18.2.2 10 (upd (R18.2.2 10) (0 : Int32).toNatClampNeg ((((R18.2.2 10) (3 : Int32).toNatClampNeg).toInt64).toInt32))) 11 (upd (R18.2.2 11) (0 : Int32).toNatClampNeg ((((R18.2.2 10) (3 : Int32).toNatClampNeg).toInt64 + R14.1.toInt64).toInt32))) 10 (upd (upd (R18.2.2 10) (0 : Int32).toNatClampNeg ((((R18.2.2 10) (3 : Int32).toNatClampNeg).toInt64).toInt32)) (1 : Int32).toNatClampNeg ((upd (R18.2.2 11) (0 : Int32).toNatClampNeg ((((R18.2.2 10) (3 : Int32).toNatClampNeg).toInt64 + R14.1.toInt64).toInt32)) (0 : Int32).toNatClampNeg)))) := va_D_eq (wM_a10 q cA R18.2.1 (va_up (va_up R18.2.2 10 (upd (R18.2.2 10) (0 : Int32).toNatClampNeg ((((R18.2.2 10) (3 : Int32).toNatClampNeg).toInt64).toInt32))) 11 (upd (R18.2.2 11) (0 : Int32).toNatClampNeg ((((R18.2.2 10) (3 : Int32).toNatClampNeg).toInt64 + R14.1.toInt64).toInt32))) (upd (upd (R18.2.2 10) (0 : Int32).toNatClampNeg ((((R18.2.2 10) (3 : Int32).toNatClampNeg).toInt64).toInt32)) (1 : Int32).toNatClampNeg ((upd (R18.2.2 11) (0 : Int32).toNatClampNeg ((((R18.2.2 10) (3 : Int32).toNatClampNeg).toInt64 + R14.1.toInt64).toInt32)) (0 : Int32).toNatClampNeg))) hD
                refine lv_aload_n hx hb dX8_readWindow_210 rfl (lv_at hl 8 rfl) ?_
                refine va_get (D := D) (ci := 7) (v := .ref (q 12)) (C := RX8) (T := TX8) (N := 21) hx hb hts (fun w h => List.mem_cons_of_mem _ (List.mem_append_right _ h)) hown hK hP 0 rfl rfl 14 (by decide) (hts (.fieldLink RX8 43 "DeltaWindowsModel" "stop" "[I") (List.mem_of_getElem? (i := 6) rfl)) (fun _ h9 => h9) rfl dX8_readWindow_211 ?_
                refine lv_iconst (v := (1 : Int32)) hx hb dX8_readWindow_214 (by decide) ?_
                refine lv_lload hx hb dX8_readWindow_215 (lv_at hl 0 rfl) ?_
                refine lv_lload hx hb dX8_readWindow_217 (lv_at hl 4 rfl) ?_
                refine lv_ladd hx hb dX8_readWindow_219 ?_
                refine lv_lload hx hb dX8_readWindow_220 (lv_at hl 3 rfl) ?_
                refine lv_ladd hx hb dX8_readWindow_222 ?_
                refine lv_l2i (v := ((((R18.2.2 10) (3 : Int32).toNatClampNeg).toInt64 + R14.1.toInt64) + R16.1.toInt64).toInt32) hx hb dX8_readWindow_223 rfl ?_
                obtain ⟨g30, hf⟩ := g_inv hf
                refine va_iast (f := (upd (R18.2.2 11) (0 : Int32).toNatClampNeg ((((R18.2.2 10) (3 : Int32).toNatClampNeg).toInt64 + R14.1.toInt64).toInt32))) hx hb hK hP hD hS 12 11 rfl rfl (inb_vp g30) dX8_readWindow_224 (fun H locs hP hD hS => ?_)
                have hP : va_P D vwCl (wM q cA R18.2.1 (va_up (va_up (va_up (va_up R18.2.2 10 (upd (R18.2.2 10) (0 : Int32).toNatClampNeg ((((R18.2.2 10) (3 : Int32).toNatClampNeg).toInt64).toInt32))) 11 (upd (R18.2.2 11) (0 : Int32).toNatClampNeg ((((R18.2.2 10) (3 : Int32).toNatClampNeg).toInt64 + R14.1.toInt64).toInt32))) 10 (upd (upd (R18.2.2 10) (0 : Int32).toNatClampNeg ((((R18.2.2 10) (3 : Int32).toNatClampNeg).toInt64).toInt32)) (1 : Int32).toNatClampNeg ((upd (R18.2.2 11) (0 : Int32).toNatClampNeg ((((R18.2.2 10) (3 : Int32).toNatClampNeg).toInt64 + R14.1.toInt64).toInt32)) (0 : Int32).toNatClampNeg))) 11 (upd (upd (R18.2.2 11) (0 : Int32).toNatClampNeg ((((R18.2.2 10) (3 : Int32).toNatClampNeg).toInt64 + R14.1.toInt64).toInt32)) (1 : Int32).toNatClampNeg (((((R18.2.2 10) (3 : Int32).toNatClampNeg).toInt64 + R14.1.toInt64) + R16.1.toInt64).toInt32)))) H := va_P_eq (wM_a11 q cA R18.2.1 (va_up (va_up (va_up R18.2.2 10 (upd (R18.2.2 10) (0 : Int32).toNatClampNeg ((((R18.2.2 10) (3 : Int32).toNatClampNeg).toInt64).toInt32))) 11 (upd (R18.2.2 11) (0 : Int32).toNatClampNeg ((((R18.2.2 10) (3 : Int32).toNatClampNeg).toInt64 + R14.1.toInt64).toInt32))) 10 (upd (upd (R18.2.2 10) (0 : Int32).toNatClampNeg ((((R18.2.2 10) (3 : Int32).toNatClampNeg).toInt64).toInt32)) (1 : Int32).toNatClampNeg ((upd (R18.2.2 11) (0 : Int32).toNatClampNeg ((((R18.2.2 10) (3 : Int32).toNatClampNeg).toInt64 + R14.1.toInt64).toInt32)) (0 : Int32).toNatClampNeg))) (upd (upd (R18.2.2 11) (0 : Int32).toNatClampNeg ((((R18.2.2 10) (3 : Int32).toNatClampNeg).toInt64 + R14.1.toInt64).toInt32)) (1 : Int32).toNatClampNeg (((((R18.2.2 10) (3 : Int32).toNatClampNeg).toInt64 + R14.1.toInt64) + R16.1.toInt64).toInt32))) hP
                have hD : va_D A (wM q cA R18.2.1 (va_up (va_up (va_up (va_up R18.2.2 10 (upd (R18.2.2 10) (0 : Int32).toNatClampNeg ((((R18.2.2 10) (3 : Int32).toNatClampNeg).toInt64).toInt32))) 11 (upd (R18.2.2 11) (0 : Int32).toNatClampNeg ((((R18.2.2 10) (3 : Int32).toNatClampNeg).toInt64 + R14.1.toInt64).toInt32))) 10 (upd (upd (R18.2.2 10) (0 : Int32).toNatClampNeg ((((R18.2.2 10) (3 : Int32).toNatClampNeg).toInt64).toInt32)) (1 : Int32).toNatClampNeg ((upd (R18.2.2 11) (0 : Int32).toNatClampNeg ((((R18.2.2 10) (3 : Int32).toNatClampNeg).toInt64 + R14.1.toInt64).toInt32)) (0 : Int32).toNatClampNeg))) 11 (upd (upd (R18.2.2 11) (0 : Int32).toNatClampNeg ((((R18.2.2 10) (3 : Int32).toNatClampNeg).toInt64 + R14.1.toInt64).toInt32)) (1 : Int32).toNatClampNeg (((((R18.2.2 10) (3 : Int32).toNatClampNeg).toInt64 + R14.1.toInt64) + R16.1.toInt64).toInt32)))) := va_D_eq (wM_a11 q cA R18.2.1 (va_up (va_up (va_up R18.2.2 10 (upd (R18.2.2 10) (0 : Int32).toNatClampNeg ((((R18.2.2 10) (3 : Int32).toNatClampNeg).toInt64).toInt32))) 11 (upd (R18.2.2 11) (0 : Int32).toNatClampNeg ((((R18.2.2 10) (3 : Int32).toNatClampNeg).toInt64 + R14.1.toInt64).toInt32))) 10 (upd (upd (R18.2.2 10) (0 : Int32).toNatClampNeg ((((R18.2.2 10) (3 : Int32).toNatClampNeg).toInt64).toInt32)) (1 : Int32).toNatClampNeg ((upd (R18.2.2 11) (0 : Int32).toNatClampNeg ((((R18.2.2 10) (3 : Int32).toNatClampNeg).toInt64 + R14.1.toInt64).toInt32)) (0 : Int32).toNatClampNeg))) (upd (upd (R18.2.2 11) (0 : Int32).toNatClampNeg ((((R18.2.2 10) (3 : Int32).toNatClampNeg).toInt64 + R14.1.toInt64).toInt32)) (1 : Int32).toNatClampNeg (((((R18.2.2 10) (3 : Int32).toNatClampNeg).toInt64 + R14.1.toInt64) + R16.1.toInt64).toInt32))) hD
                refine lv_aload_n hx hb dX8_readWindow_225 rfl (lv_at hl 8 rfl) ?_
                refine va_get (D := D) (ci := 7) (v := .ref (q 11)) (C := RX8) (T := TX8) (N := 21) hx hb hts (fun w h => List.mem_cons_of_mem _ (List.mem_append_right _ h)) hown hK hP 0 rfl rfl 13 (by decide) (hts (.fieldLink RX8 40 "DeltaWindowsModel" "place" "[I") (List.mem_of_getElem? (i := 2) rfl)) (fun _ h9 => h9) rfl dX8_readWindow_226 ?_
                refine lv_iconst (v := (2 : Int32)) hx hb dX8_readWindow_229 (by decide) ?_
                refine lv_aload_n hx hb dX8_readWindow_230 rfl (lv_at hl 8 rfl) ?_
                refine va_get (D := D) (ci := 7) (v := .ref (q 12)) (C := RX8) (T := TX8) (N := 21) hx hb hts (fun w h => List.mem_cons_of_mem _ (List.mem_append_right _ h)) hown hK hP 0 rfl rfl 14 (by decide) (hts (.fieldLink RX8 43 "DeltaWindowsModel" "stop" "[I") (List.mem_of_getElem? (i := 6) rfl)) (fun _ h9 => h9) rfl dX8_readWindow_231 ?_
                refine lv_iconst (v := (1 : Int32)) hx hb dX8_readWindow_234 (by decide) ?_
                obtain ⟨g31, hf⟩ := g_inv hf
                refine va_iald (f := (upd (upd (R18.2.2 11) (0 : Int32).toNatClampNeg ((((R18.2.2 10) (3 : Int32).toNatClampNeg).toInt64 + R14.1.toInt64).toInt32)) (1 : Int32).toNatClampNeg (((((R18.2.2 10) (3 : Int32).toNatClampNeg).toInt64 + R14.1.toInt64) + R16.1.toInt64).toInt32))) hx hb hK hP 12 11 rfl rfl (inb_vp g31) dX8_readWindow_235 ?_
                obtain ⟨g32, hf⟩ := g_inv hf
                refine va_iast (f := (upd (upd (R18.2.2 10) (0 : Int32).toNatClampNeg ((((R18.2.2 10) (3 : Int32).toNatClampNeg).toInt64).toInt32)) (1 : Int32).toNatClampNeg ((upd (R18.2.2 11) (0 : Int32).toNatClampNeg ((((R18.2.2 10) (3 : Int32).toNatClampNeg).toInt64 + R14.1.toInt64).toInt32)) (0 : Int32).toNatClampNeg))) hx hb hK hP hD hS 11 10 rfl rfl (inb_vp g32) dX8_readWindow_236 (fun H locs hP hD hS => ?_)
                have hP : va_P D vwCl (wM q cA R18.2.1 (va_up (va_up (va_up (va_up (va_up R18.2.2 10 (upd (R18.2.2 10) (0 : Int32).toNatClampNeg ((((R18.2.2 10) (3 : Int32).toNatClampNeg).toInt64).toInt32))) 11 (upd (R18.2.2 11) (0 : Int32).toNatClampNeg ((((R18.2.2 10) (3 : Int32).toNatClampNeg).toInt64 + R14.1.toInt64).toInt32))) 10 (upd (upd (R18.2.2 10) (0 : Int32).toNatClampNeg ((((R18.2.2 10) (3 : Int32).toNatClampNeg).toInt64).toInt32)) (1 : Int32).toNatClampNeg ((upd (R18.2.2 11) (0 : Int32).toNatClampNeg ((((R18.2.2 10) (3 : Int32).toNatClampNeg).toInt64 + R14.1.toInt64).toInt32)) (0 : Int32).toNatClampNeg))) 11 (upd (upd (R18.2.2 11) (0 : Int32).toNatClampNeg ((((R18.2.2 10) (3 : Int32).toNatClampNeg).toInt64 + R14.1.toInt64).toInt32)) (1 : Int32).toNatClampNeg (((((R18.2.2 10) (3 : Int32).toNatClampNeg).toInt64 + R14.1.toInt64) + R16.1.toInt64).toInt32))) 10 (upd (upd (upd (R18.2.2 10) (0 : Int32).toNatClampNeg ((((R18.2.2 10) (3 : Int32).toNatClampNeg).toInt64).toInt32)) (1 : Int32).toNatClampNeg ((upd (R18.2.2 11) (0 : Int32).toNatClampNeg ((((R18.2.2 10) (3 : Int32).toNatClampNeg).toInt64 + R14.1.toInt64).toInt32)) (0 : Int32).toNatClampNeg)) (2 : Int32).toNatClampNeg ((upd (upd (R18.2.2 11) (0 : Int32).toNatClampNeg ((((R18.2.2 10) (3 : Int32).toNatClampNeg).toInt64 + R14.1.toInt64).toInt32)) (1 : Int32).toNatClampNeg (((((R18.2.2 10) (3 : Int32).toNatClampNeg).toInt64 + R14.1.toInt64) + R16.1.toInt64).toInt32)) (1 : Int32).toNatClampNeg)))) H := va_P_eq (wM_a10 q cA R18.2.1 (va_up (va_up (va_up (va_up R18.2.2 10 (upd (R18.2.2 10) (0 : Int32).toNatClampNeg ((((R18.2.2 10) (3 : Int32).toNatClampNeg).toInt64).toInt32))) 11 (upd (R18.2.2 11) (0 : Int32).toNatClampNeg ((((R18.2.2 10) (3 : Int32).toNatClampNeg).toInt64 + R14.1.toInt64).toInt32))) 10 (upd (upd (R18.2.2 10) (0 : Int32).toNatClampNeg ((((R18.2.2 10) (3 : Int32).toNatClampNeg).toInt64).toInt32)) (1 : Int32).toNatClampNeg ((upd (R18.2.2 11) (0 : Int32).toNatClampNeg ((((R18.2.2 10) (3 : Int32).toNatClampNeg).toInt64 + R14.1.toInt64).toInt32)) (0 : Int32).toNatClampNeg))) 11 (upd (upd (R18.2.2 11) (0 : Int32).toNatClampNeg ((((R18.2.2 10) (3 : Int32).toNatClampNeg).toInt64 + R14.1.toInt64).toInt32)) (1 : Int32).toNatClampNeg (((((R18.2.2 10) (3 : Int32).toNatClampNeg).toInt64 + R14.1.toInt64) + R16.1.toInt64).toInt32))) (upd (upd (upd (R18.2.2 10) (0 : Int32).toNatClampNeg ((((R18.2.2 10) (3 : Int32).toNatClampNeg).toInt64).toInt32)) (1 : Int32).toNatClampNeg ((upd (R18.2.2 11) (0 : Int32).toNatClampNeg ((((R18.2.2 10) (3 : Int32).toNatClampNeg).toInt64 + R14.1.toInt64).toInt32)) (0 : Int32).toNatClampNeg)) (2 : Int32).toNatClampNeg ((upd (upd (R18.2.2 11) (0 : Int32).toNatClampNeg ((((R18.2.2 10) (3 : Int32).toNatClampNeg).toInt64 + R14.1.toInt64).toInt32)) (1 : Int32).toNatClampNeg (((((R18.2.2 10) (3 : Int32).toNatClampNeg).toInt64 + R14.1.toInt64) + R16.1.toInt64).toInt32)) (1 : Int32).toNatClampNeg))) hP
                have hD : va_D A (wM q cA R18.2.1 (va_up (va_up (va_up (va_up (va_up R18.2.2 10 (upd (R18.2.2 10) (0 : Int32).toNatClampNeg ((((R18.2.2 10) (3 : Int32).toNatClampNeg).toInt64).toInt32))) 11 (upd (R18.2.2 11) (0 : Int32).toNatClampNeg ((((R18.2.2 10) (3 : Int32).toNatClampNeg).toInt64 + R14.1.toInt64).toInt32))) 10 (upd (upd (R18.2.2 10) (0 : Int32).toNatClampNeg ((((R18.2.2 10) (3 : Int32).toNatClampNeg).toInt64).toInt32)) (1 : Int32).toNatClampNeg ((upd (R18.2.2 11) (0 : Int32).toNatClampNeg ((((R18.2.2 10) (3 : Int32).toNatClampNeg).toInt64 + R14.1.toInt64).toInt32)) (0 : Int32).toNatClampNeg))) 11 (upd (upd (R18.2.2 11) (0 : Int32).toNatClampNeg ((((R18.2.2 10) (3 : Int32).toNatClampNeg).toInt64 + R14.1.toInt64).toInt32)) (1 : Int32).toNatClampNeg (((((R18.2.2 10) (3 : Int32).toNatClampNeg).toInt64 + R14.1.toInt64) + R16.1.toInt64).toInt32))) 10 (upd (upd (upd (R18.2.2 10) (0 : Int32).toNatClampNeg ((((R18.2.2 10) (3 : Int32).toNatClampNeg).toInt64).toInt32)) (1 : Int32).toNatClampNeg ((upd (R18.2.2 11) (0 : Int32).toNatClampNeg ((((R18.2.2 10) (3 : Int32).toNatClampNeg).toInt64 + R14.1.toInt64).toInt32)) (0 : Int32).toNatClampNeg)) (2 : Int32).toNatClampNeg ((upd (upd (R18.2.2 11) (0 : Int32).toNatClampNeg ((((R18.2.2 10) (3 : Int32).toNatClampNeg).toInt64 + R14.1.toInt64).toInt32)) (1 : Int32).toNatClampNeg (((((R18.2.2 10) (3 : Int32).toNatClampNeg).toInt64 + R14.1.toInt64) + R16.1.toInt64).toInt32)) (1 : Int32).toNatClampNeg)))) := va_D_eq (wM_a10 q cA R18.2.1 (va_up (va_up (va_up (va_up R18.2.2 10 (upd (R18.2.2 10) (0 : Int32).toNatClampNeg ((((R18.2.2 10) (3 : Int32).toNatClampNeg).toInt64).toInt32))) 11 (upd (R18.2.2 11) (0 : Int32).toNatClampNeg ((((R18.2.2 10) (3 : Int32).toNatClampNeg).toInt64 + R14.1.toInt64).toInt32))) 10 (upd (upd (R18.2.2 10) (0 : Int32).toNatClampNeg ((((R18.2.2 10) (3 : Int32).toNatClampNeg).toInt64).toInt32)) (1 : Int32).toNatClampNeg ((upd (R18.2.2 11) (0 : Int32).toNatClampNeg ((((R18.2.2 10) (3 : Int32).toNatClampNeg).toInt64 + R14.1.toInt64).toInt32)) (0 : Int32).toNatClampNeg))) 11 (upd (upd (R18.2.2 11) (0 : Int32).toNatClampNeg ((((R18.2.2 10) (3 : Int32).toNatClampNeg).toInt64 + R14.1.toInt64).toInt32)) (1 : Int32).toNatClampNeg (((((R18.2.2 10) (3 : Int32).toNatClampNeg).toInt64 + R14.1.toInt64) + R16.1.toInt64).toInt32))) (upd (upd (upd (R18.2.2 10) (0 : Int32).toNatClampNeg ((((R18.2.2 10) (3 : Int32).toNatClampNeg).toInt64).toInt32)) (1 : Int32).toNatClampNeg ((upd (R18.2.2 11) (0 : Int32).toNatClampNeg ((((R18.2.2 10) (3 : Int32).toNatClampNeg).toInt64 + R14.1.toInt64).toInt32)) (0 : Int32).toNatClampNeg)) (2 : Int32).toNatClampNeg ((upd (upd (R18.2.2 11) (0 : Int32).toNatClampNeg ((((R18.2.2 10) (3 : Int32).toNatClampNeg).toInt64 + R14.1.toInt64).toInt32)) (1 : Int32).toNatClampNeg (((((R18.2.2 10) (3 : Int32).toNatClampNeg).toInt64 + R14.1.toInt64) + R16.1.toInt64).toInt32)) (1 : Int32).toNatClampNeg))) hD
                refine lv_aload_n hx hb dX8_readWindow_237 rfl (lv_at hl 8 rfl) ?_
                refine va_get (D := D) (ci := 7) (v := .ref (q 12)) (C := RX8) (T := TX8) (N := 21) hx hb hts (fun w h => List.mem_cons_of_mem _ (List.mem_append_right _ h)) hown hK hP 0 rfl rfl 14 (by decide) (hts (.fieldLink RX8 43 "DeltaWindowsModel" "stop" "[I") (List.mem_of_getElem? (i := 6) rfl)) (fun _ h9 => h9) rfl dX8_readWindow_238 ?_
                refine lv_iconst (v := (2 : Int32)) hx hb dX8_readWindow_241 (by decide) ?_
                refine lv_lload hx hb dX8_readWindow_242 (lv_at hl 0 rfl) ?_
                refine lv_lload hx hb dX8_readWindow_244 (lv_at hl 1 rfl) ?_
                refine lv_ladd hx hb dX8_readWindow_246 ?_
                refine lv_l2i (v := (((R18.2.2 10) (3 : Int32).toNatClampNeg).toInt64 + ((R14.1.toInt64 + R16.1.toInt64) + R18.1.toInt64)).toInt32) hx hb dX8_readWindow_247 rfl ?_
                obtain ⟨g33, hf⟩ := g_inv hf
                refine va_iast (f := (upd (upd (R18.2.2 11) (0 : Int32).toNatClampNeg ((((R18.2.2 10) (3 : Int32).toNatClampNeg).toInt64 + R14.1.toInt64).toInt32)) (1 : Int32).toNatClampNeg (((((R18.2.2 10) (3 : Int32).toNatClampNeg).toInt64 + R14.1.toInt64) + R16.1.toInt64).toInt32))) hx hb hK hP hD hS 12 11 rfl rfl (inb_vp g33) dX8_readWindow_248 (fun H locs hP hD hS => ?_)
                have hP : va_P D vwCl (wM q cA R18.2.1 (va_up (va_up (va_up (va_up (va_up (va_up R18.2.2 10 (upd (R18.2.2 10) (0 : Int32).toNatClampNeg ((((R18.2.2 10) (3 : Int32).toNatClampNeg).toInt64).toInt32))) 11 (upd (R18.2.2 11) (0 : Int32).toNatClampNeg ((((R18.2.2 10) (3 : Int32).toNatClampNeg).toInt64 + R14.1.toInt64).toInt32))) 10 (upd (upd (R18.2.2 10) (0 : Int32).toNatClampNeg ((((R18.2.2 10) (3 : Int32).toNatClampNeg).toInt64).toInt32)) (1 : Int32).toNatClampNeg ((upd (R18.2.2 11) (0 : Int32).toNatClampNeg ((((R18.2.2 10) (3 : Int32).toNatClampNeg).toInt64 + R14.1.toInt64).toInt32)) (0 : Int32).toNatClampNeg))) 11 (upd (upd (R18.2.2 11) (0 : Int32).toNatClampNeg ((((R18.2.2 10) (3 : Int32).toNatClampNeg).toInt64 + R14.1.toInt64).toInt32)) (1 : Int32).toNatClampNeg (((((R18.2.2 10) (3 : Int32).toNatClampNeg).toInt64 + R14.1.toInt64) + R16.1.toInt64).toInt32))) 10 (upd (upd (upd (R18.2.2 10) (0 : Int32).toNatClampNeg ((((R18.2.2 10) (3 : Int32).toNatClampNeg).toInt64).toInt32)) (1 : Int32).toNatClampNeg ((upd (R18.2.2 11) (0 : Int32).toNatClampNeg ((((R18.2.2 10) (3 : Int32).toNatClampNeg).toInt64 + R14.1.toInt64).toInt32)) (0 : Int32).toNatClampNeg)) (2 : Int32).toNatClampNeg ((upd (upd (R18.2.2 11) (0 : Int32).toNatClampNeg ((((R18.2.2 10) (3 : Int32).toNatClampNeg).toInt64 + R14.1.toInt64).toInt32)) (1 : Int32).toNatClampNeg (((((R18.2.2 10) (3 : Int32).toNatClampNeg).toInt64 + R14.1.toInt64) + R16.1.toInt64).toInt32)) (1 : Int32).toNatClampNeg))) 11 (upd (upd (upd (R18.2.2 11) (0 : Int32).toNatClampNeg ((((R18.2.2 10) (3 : Int32).toNatClampNeg).toInt64 + R14.1.toInt64).toInt32)) (1 : Int32).toNatClampNeg (((((R18.2.2 10) (3 : Int32).toNatClampNeg).toInt64 + R14.1.toInt64) + R16.1.toInt64).toInt32)) (2 : Int32).toNatClampNeg ((((R18.2.2 10) (3 : Int32).toNatClampNeg).toInt64 + ((R14.1.toInt64 + R16.1.toInt64) + R18.1.toInt64)).toInt32)))) H := va_P_eq (wM_a11 q cA R18.2.1 (va_up (va_up (va_up (va_up (va_up R18.2.2 10 (upd (R18.2.2 10) (0 : Int32).toNatClampNeg ((((R18.2.2 10) (3 : Int32).toNatClampNeg).toInt64).toInt32))) 11 (upd (R18.2.2 11) (0 : Int32).toNatClampNeg ((((R18.2.2 10) (3 : Int32).toNatClampNeg).toInt64 + R14.1.toInt64).toInt32))) 10 (upd (upd (R18.2.2 10) (0 : Int32).toNatClampNeg ((((R18.2.2 10) (3 : Int32).toNatClampNeg).toInt64).toInt32)) (1 : Int32).toNatClampNeg ((upd (R18.2.2 11) (0 : Int32).toNatClampNeg ((((R18.2.2 10) (3 : Int32).toNatClampNeg).toInt64 + R14.1.toInt64).toInt32)) (0 : Int32).toNatClampNeg))) 11 (upd (upd (R18.2.2 11) (0 : Int32).toNatClampNeg ((((R18.2.2 10) (3 : Int32).toNatClampNeg).toInt64 + R14.1.toInt64).toInt32)) (1 : Int32).toNatClampNeg (((((R18.2.2 10) (3 : Int32).toNatClampNeg).toInt64 + R14.1.toInt64) + R16.1.toInt64).toInt32))) 10 (upd (upd (upd (R18.2.2 10) (0 : Int32).toNatClampNeg ((((R18.2.2 10) (3 : Int32).toNatClampNeg).toInt64).toInt32)) (1 : Int32).toNatClampNeg ((upd (R18.2.2 11) (0 : Int32).toNatClampNeg ((((R18.2.2 10) (3 : Int32).toNatClampNeg).toInt64 + R14.1.toInt64).toInt32)) (0 : Int32).toNatClampNeg)) (2 : Int32).toNatClampNeg ((upd (upd (R18.2.2 11) (0 : Int32).toNatClampNeg ((((R18.2.2 10) (3 : Int32).toNatClampNeg).toInt64 + R14.1.toInt64).toInt32)) (1 : Int32).toNatClampNeg (((((R18.2.2 10) (3 : Int32).toNatClampNeg).toInt64 + R14.1.toInt64) + R16.1.toInt64).toInt32)) (1 : Int32).toNatClampNeg))) (upd (upd (upd (R18.2.2 11) (0 : Int32).toNatClampNeg ((((R18.2.2 10) (3 : Int32).toNatClampNeg).toInt64 + R14.1.toInt64).toInt32)) (1 : Int32).toNatClampNeg (((((R18.2.2 10) (3 : Int32).toNatClampNeg).toInt64 + R14.1.toInt64) + R16.1.toInt64).toInt32)) (2 : Int32).toNatClampNeg ((((R18.2.2 10) (3 : Int32).toNatClampNeg).toInt64 + ((R14.1.toInt64 + R16.1.toInt64) + R18.1.toInt64)).toInt32))) hP
                have hD : va_D A (wM q cA R18.2.1 (va_up (va_up (va_up (va_up (va_up (va_up R18.2.2 10 (upd (R18.2.2 10) (0 : Int32).toNatClampNeg ((((R18.2.2 10) (3 : Int32).toNatClampNeg).toInt64).toInt32))) 11 (upd (R18.2.2 11) (0 : Int32).toNatClampNeg ((((R18.2.2 10) (3 : Int32).toNatClampNeg).toInt64 + R14.1.toInt64).toInt32))) 10 (upd (upd (R18.2.2 10) (0 : Int32).toNatClampNeg ((((R18.2.2 10) (3 : Int32).toNatClampNeg).toInt64).toInt32)) (1 : Int32).toNatClampNeg ((upd (R18.2.2 11) (0 : Int32).toNatClampNeg ((((R18.2.2 10) (3 : Int32).toNatClampNeg).toInt64 + R14.1.toInt64).toInt32)) (0 : Int32).toNatClampNeg))) 11 (upd (upd (R18.2.2 11) (0 : Int32).toNatClampNeg ((((R18.2.2 10) (3 : Int32).toNatClampNeg).toInt64 + R14.1.toInt64).toInt32)) (1 : Int32).toNatClampNeg (((((R18.2.2 10) (3 : Int32).toNatClampNeg).toInt64 + R14.1.toInt64) + R16.1.toInt64).toInt32))) 10 (upd (upd (upd (R18.2.2 10) (0 : Int32).toNatClampNeg ((((R18.2.2 10) (3 : Int32).toNatClampNeg).toInt64).toInt32)) (1 : Int32).toNatClampNeg ((upd (R18.2.2 11) (0 : Int32).toNatClampNeg ((((R18.2.2 10) (3 : Int32).toNatClampNeg).toInt64 + R14.1.toInt64).toInt32)) (0 : Int32).toNatClampNeg)) (2 : Int32).toNatClampNeg ((upd (upd (R18.2.2 11) (0 : Int32).toNatClampNeg ((((R18.2.2 10) (3 : Int32).toNatClampNeg).toInt64 + R14.1.toInt64).toInt32)) (1 : Int32).toNatClampNeg (((((R18.2.2 10) (3 : Int32).toNatClampNeg).toInt64 + R14.1.toInt64) + R16.1.toInt64).toInt32)) (1 : Int32).toNatClampNeg))) 11 (upd (upd (upd (R18.2.2 11) (0 : Int32).toNatClampNeg ((((R18.2.2 10) (3 : Int32).toNatClampNeg).toInt64 + R14.1.toInt64).toInt32)) (1 : Int32).toNatClampNeg (((((R18.2.2 10) (3 : Int32).toNatClampNeg).toInt64 + R14.1.toInt64) + R16.1.toInt64).toInt32)) (2 : Int32).toNatClampNeg ((((R18.2.2 10) (3 : Int32).toNatClampNeg).toInt64 + ((R14.1.toInt64 + R16.1.toInt64) + R18.1.toInt64)).toInt32)))) := va_D_eq (wM_a11 q cA R18.2.1 (va_up (va_up (va_up (va_up (va_up R18.2.2 10 (upd (R18.2.2 10) (0 : Int32).toNatClampNeg ((((R18.2.2 10) (3 : Int32).toNatClampNeg).toInt64).toInt32))) 11 (upd (R18.2.2 11) (0 : Int32).toNatClampNeg ((((R18.2.2 10) (3 : Int32).toNatClampNeg).toInt64 + R14.1.toInt64).toInt32))) 10 (upd (upd (R18.2.2 10) (0 : Int32).toNatClampNeg ((((R18.2.2 10) (3 : Int32).toNatClampNeg).toInt64).toInt32)) (1 : Int32).toNatClampNeg ((upd (R18.2.2 11) (0 : Int32).toNatClampNeg ((((R18.2.2 10) (3 : Int32).toNatClampNeg).toInt64 + R14.1.toInt64).toInt32)) (0 : Int32).toNatClampNeg))) 11 (upd (upd (R18.2.2 11) (0 : Int32).toNatClampNeg ((((R18.2.2 10) (3 : Int32).toNatClampNeg).toInt64 + R14.1.toInt64).toInt32)) (1 : Int32).toNatClampNeg (((((R18.2.2 10) (3 : Int32).toNatClampNeg).toInt64 + R14.1.toInt64) + R16.1.toInt64).toInt32))) 10 (upd (upd (upd (R18.2.2 10) (0 : Int32).toNatClampNeg ((((R18.2.2 10) (3 : Int32).toNatClampNeg).toInt64).toInt32)) (1 : Int32).toNatClampNeg ((upd (R18.2.2 11) (0 : Int32).toNatClampNeg ((((R18.2.2 10) (3 : Int32).toNatClampNeg).toInt64 + R14.1.toInt64).toInt32)) (0 : Int32).toNatClampNeg)) (2 : Int32).toNatClampNeg ((upd (upd (R18.2.2 11) (0 : Int32).toNatClampNeg ((((R18.2.2 10) (3 : Int32).toNatClampNeg).toInt64 + R14.1.toInt64).toInt32)) (1 : Int32).toNatClampNeg (((((R18.2.2 10) (3 : Int32).toNatClampNeg).toInt64 + R14.1.toInt64) + R16.1.toInt64).toInt32)) (1 : Int32).toNatClampNeg))) (upd (upd (upd (R18.2.2 11) (0 : Int32).toNatClampNeg ((((R18.2.2 10) (3 : Int32).toNatClampNeg).toInt64 + R14.1.toInt64).toInt32)) (1 : Int32).toNatClampNeg (((((R18.2.2 10) (3 : Int32).toNatClampNeg).toInt64 + R14.1.toInt64) + R16.1.toInt64).toInt32)) (2 : Int32).toNatClampNeg ((((R18.2.2 10) (3 : Int32).toNatClampNeg).toInt64 + ((R14.1.toInt64 + R16.1.toInt64) + R18.1.toInt64)).toInt32))) hD
                refine lv_aload_n hx hb dX8_readWindow_249 rfl (lv_at hl 8 rfl) ?_
                refine va_get (D := D) (ci := 7) (v := .ref (q 11)) (C := RX8) (T := TX8) (N := 21) hx hb hts (fun w h => List.mem_cons_of_mem _ (List.mem_append_right _ h)) hown hK hP 0 rfl rfl 13 (by decide) (hts (.fieldLink RX8 40 "DeltaWindowsModel" "place" "[I") (List.mem_of_getElem? (i := 2) rfl)) (fun _ h9 => h9) rfl dX8_readWindow_250 ?_
                refine lv_iconst (v := (3 : Int32)) hx hb dX8_readWindow_253 (by decide) ?_
                refine lv_aload_n hx hb dX8_readWindow_254 rfl (lv_at hl 8 rfl) ?_
                refine va_get (D := D) (ci := 7) (v := .ref (q 12)) (C := RX8) (T := TX8) (N := 21) hx hb hts (fun w h => List.mem_cons_of_mem _ (List.mem_append_right _ h)) hown hK hP 0 rfl rfl 14 (by decide) (hts (.fieldLink RX8 43 "DeltaWindowsModel" "stop" "[I") (List.mem_of_getElem? (i := 6) rfl)) (fun _ h9 => h9) rfl dX8_readWindow_255 ?_
                refine lv_iconst (v := (2 : Int32)) hx hb dX8_readWindow_258 (by decide) ?_
                obtain ⟨g34, hf⟩ := g_inv hf
                refine va_iald (f := (upd (upd (upd (R18.2.2 11) (0 : Int32).toNatClampNeg ((((R18.2.2 10) (3 : Int32).toNatClampNeg).toInt64 + R14.1.toInt64).toInt32)) (1 : Int32).toNatClampNeg (((((R18.2.2 10) (3 : Int32).toNatClampNeg).toInt64 + R14.1.toInt64) + R16.1.toInt64).toInt32)) (2 : Int32).toNatClampNeg ((((R18.2.2 10) (3 : Int32).toNatClampNeg).toInt64 + ((R14.1.toInt64 + R16.1.toInt64) + R18.1.toInt64)).toInt32))) hx hb hK hP 12 11 rfl rfl (inb_vp g34) dX8_readWindow_259 ?_
                obtain ⟨g35, hf⟩ := g_inv hf
                refine va_iast (f := (upd (upd (upd (R18.2.2 10) (0 : Int32).toNatClampNeg ((((R18.2.2 10) (3 : Int32).toNatClampNeg).toInt64).toInt32)) (1 : Int32).toNatClampNeg ((upd (R18.2.2 11) (0 : Int32).toNatClampNeg ((((R18.2.2 10) (3 : Int32).toNatClampNeg).toInt64 + R14.1.toInt64).toInt32)) (0 : Int32).toNatClampNeg)) (2 : Int32).toNatClampNeg ((upd (upd (R18.2.2 11) (0 : Int32).toNatClampNeg ((((R18.2.2 10) (3 : Int32).toNatClampNeg).toInt64 + R14.1.toInt64).toInt32)) (1 : Int32).toNatClampNeg (((((R18.2.2 10) (3 : Int32).toNatClampNeg).toInt64 + R14.1.toInt64) + R16.1.toInt64).toInt32)) (1 : Int32).toNatClampNeg))) hx hb hK hP hD hS 11 10 rfl rfl (inb_vp g35) dX8_readWindow_260 (fun H locs hP hD hS => ?_)
                have hP : va_P D vwCl (wM q cA R18.2.1 (va_up (va_up (va_up (va_up (va_up (va_up (va_up R18.2.2 10 (upd (R18.2.2 10) (0 : Int32).toNatClampNeg ((((R18.2.2 10) (3 : Int32).toNatClampNeg).toInt64).toInt32))) 11 (upd (R18.2.2 11) (0 : Int32).toNatClampNeg ((((R18.2.2 10) (3 : Int32).toNatClampNeg).toInt64 + R14.1.toInt64).toInt32))) 10 (upd (upd (R18.2.2 10) (0 : Int32).toNatClampNeg ((((R18.2.2 10) (3 : Int32).toNatClampNeg).toInt64).toInt32)) (1 : Int32).toNatClampNeg ((upd (R18.2.2 11) (0 : Int32).toNatClampNeg ((((R18.2.2 10) (3 : Int32).toNatClampNeg).toInt64 + R14.1.toInt64).toInt32)) (0 : Int32).toNatClampNeg))) 11 (upd (upd (R18.2.2 11) (0 : Int32).toNatClampNeg ((((R18.2.2 10) (3 : Int32).toNatClampNeg).toInt64 + R14.1.toInt64).toInt32)) (1 : Int32).toNatClampNeg (((((R18.2.2 10) (3 : Int32).toNatClampNeg).toInt64 + R14.1.toInt64) + R16.1.toInt64).toInt32))) 10 (upd (upd (upd (R18.2.2 10) (0 : Int32).toNatClampNeg ((((R18.2.2 10) (3 : Int32).toNatClampNeg).toInt64).toInt32)) (1 : Int32).toNatClampNeg ((upd (R18.2.2 11) (0 : Int32).toNatClampNeg ((((R18.2.2 10) (3 : Int32).toNatClampNeg).toInt64 + R14.1.toInt64).toInt32)) (0 : Int32).toNatClampNeg)) (2 : Int32).toNatClampNeg ((upd (upd (R18.2.2 11) (0 : Int32).toNatClampNeg ((((R18.2.2 10) (3 : Int32).toNatClampNeg).toInt64 + R14.1.toInt64).toInt32)) (1 : Int32).toNatClampNeg (((((R18.2.2 10) (3 : Int32).toNatClampNeg).toInt64 + R14.1.toInt64) + R16.1.toInt64).toInt32)) (1 : Int32).toNatClampNeg))) 11 (upd (upd (upd (R18.2.2 11) (0 : Int32).toNatClampNeg ((((R18.2.2 10) (3 : Int32).toNatClampNeg).toInt64 + R14.1.toInt64).toInt32)) (1 : Int32).toNatClampNeg (((((R18.2.2 10) (3 : Int32).toNatClampNeg).toInt64 + R14.1.toInt64) + R16.1.toInt64).toInt32)) (2 : Int32).toNatClampNeg ((((R18.2.2 10) (3 : Int32).toNatClampNeg).toInt64 + ((R14.1.toInt64 + R16.1.toInt64) + R18.1.toInt64)).toInt32))) 10 (upd (upd (upd (upd (R18.2.2 10) (0 : Int32).toNatClampNeg ((((R18.2.2 10) (3 : Int32).toNatClampNeg).toInt64).toInt32)) (1 : Int32).toNatClampNeg ((upd (R18.2.2 11) (0 : Int32).toNatClampNeg ((((R18.2.2 10) (3 : Int32).toNatClampNeg).toInt64 + R14.1.toInt64).toInt32)) (0 : Int32).toNatClampNeg)) (2 : Int32).toNatClampNeg ((upd (upd (R18.2.2 11) (0 : Int32).toNatClampNeg ((((R18.2.2 10) (3 : Int32).toNatClampNeg).toInt64 + R14.1.toInt64).toInt32)) (1 : Int32).toNatClampNeg (((((R18.2.2 10) (3 : Int32).toNatClampNeg).toInt64 + R14.1.toInt64) + R16.1.toInt64).toInt32)) (1 : Int32).toNatClampNeg)) (3 : Int32).toNatClampNeg ((upd (upd (upd (R18.2.2 11) (0 : Int32).toNatClampNeg ((((R18.2.2 10) (3 : Int32).toNatClampNeg).toInt64 + R14.1.toInt64).toInt32)) (1 : Int32).toNatClampNeg (((((R18.2.2 10) (3 : Int32).toNatClampNeg).toInt64 + R14.1.toInt64) + R16.1.toInt64).toInt32)) (2 : Int32).toNatClampNeg ((((R18.2.2 10) (3 : Int32).toNatClampNeg).toInt64 + ((R14.1.toInt64 + R16.1.toInt64) + R18.1.toInt64)).toInt32)) (2 : Int32).toNatClampNeg)))) H := va_P_eq (wM_a10 q cA R18.2.1 (va_up (va_up (va_up (va_up (va_up (va_up R18.2.2 10 (upd (R18.2.2 10) (0 : Int32).toNatClampNeg ((((R18.2.2 10) (3 : Int32).toNatClampNeg).toInt64).toInt32))) 11 (upd (R18.2.2 11) (0 : Int32).toNatClampNeg ((((R18.2.2 10) (3 : Int32).toNatClampNeg).toInt64 + R14.1.toInt64).toInt32))) 10 (upd (upd (R18.2.2 10) (0 : Int32).toNatClampNeg ((((R18.2.2 10) (3 : Int32).toNatClampNeg).toInt64).toInt32)) (1 : Int32).toNatClampNeg ((upd (R18.2.2 11) (0 : Int32).toNatClampNeg ((((R18.2.2 10) (3 : Int32).toNatClampNeg).toInt64 + R14.1.toInt64).toInt32)) (0 : Int32).toNatClampNeg))) 11 (upd (upd (R18.2.2 11) (0 : Int32).toNatClampNeg ((((R18.2.2 10) (3 : Int32).toNatClampNeg).toInt64 + R14.1.toInt64).toInt32)) (1 : Int32).toNatClampNeg (((((R18.2.2 10) (3 : Int32).toNatClampNeg).toInt64 + R14.1.toInt64) + R16.1.toInt64).toInt32))) 10 (upd (upd (upd (R18.2.2 10) (0 : Int32).toNatClampNeg ((((R18.2.2 10) (3 : Int32).toNatClampNeg).toInt64).toInt32)) (1 : Int32).toNatClampNeg ((upd (R18.2.2 11) (0 : Int32).toNatClampNeg ((((R18.2.2 10) (3 : Int32).toNatClampNeg).toInt64 + R14.1.toInt64).toInt32)) (0 : Int32).toNatClampNeg)) (2 : Int32).toNatClampNeg ((upd (upd (R18.2.2 11) (0 : Int32).toNatClampNeg ((((R18.2.2 10) (3 : Int32).toNatClampNeg).toInt64 + R14.1.toInt64).toInt32)) (1 : Int32).toNatClampNeg (((((R18.2.2 10) (3 : Int32).toNatClampNeg).toInt64 + R14.1.toInt64) + R16.1.toInt64).toInt32)) (1 : Int32).toNatClampNeg))) 11 (upd (upd (upd (R18.2.2 11) (0 : Int32).toNatClampNeg ((((R18.2.2 10) (3 : Int32).toNatClampNeg).toInt64 + R14.1.toInt64).toInt32)) (1 : Int32).toNatClampNeg (((((R18.2.2 10) (3 : Int32).toNatClampNeg).toInt64 + R14.1.toInt64) + R16.1.toInt64).toInt32)) (2 : Int32).toNatClampNeg ((((R18.2.2 10) (3 : Int32).toNatClampNeg).toInt64 + ((R14.1.toInt64 + R16.1.toInt64) + R18.1.toInt64)).toInt32))) (upd (upd (upd (upd (R18.2.2 10) (0 : Int32).toNatClampNeg ((((R18.2.2 10) (3 : Int32).toNatClampNeg).toInt64).toInt32)) (1 : Int32).toNatClampNeg ((upd (R18.2.2 11) (0 : Int32).toNatClampNeg ((((R18.2.2 10) (3 : Int32).toNatClampNeg).toInt64 + R14.1.toInt64).toInt32)) (0 : Int32).toNatClampNeg)) (2 : Int32).toNatClampNeg ((upd (upd (R18.2.2 11) (0 : Int32).toNatClampNeg ((((R18.2.2 10) (3 : Int32).toNatClampNeg).toInt64 + R14.1.toInt64).toInt32)) (1 : Int32).toNatClampNeg (((((R18.2.2 10) (3 : Int32).toNatClampNeg).toInt64 + R14.1.toInt64) + R16.1.toInt64).toInt32)) (1 : Int32).toNatClampNeg)) (3 : Int32).toNatClampNeg ((upd (upd (upd (R18.2.2 11) (0 : Int32).toNatClampNeg ((((R18.2.2 10) (3 : Int32).toNatClampNeg).toInt64 + R14.1.toInt64).toInt32)) (1 : Int32).toNatClampNeg (((((R18.2.2 10) (3 : Int32).toNatClampNeg).toInt64 + R14.1.toInt64) + R16.1.toInt64).toInt32)) (2 : Int32).toNatClampNeg ((((R18.2.2 10) (3 : Int32).toNatClampNeg).toInt64 + ((R14.1.toInt64 + R16.1.toInt64) + R18.1.toInt64)).toInt32)) (2 : Int32).toNatClampNeg))) hP
                have hD : va_D A (wM q cA R18.2.1 (va_up (va_up (va_up (va_up (va_up (va_up (va_up R18.2.2 10 (upd (R18.2.2 10) (0 : Int32).toNatClampNeg ((((R18.2.2 10) (3 : Int32).toNatClampNeg).toInt64).toInt32))) 11 (upd (R18.2.2 11) (0 : Int32).toNatClampNeg ((((R18.2.2 10) (3 : Int32).toNatClampNeg).toInt64 + R14.1.toInt64).toInt32))) 10 (upd (upd (R18.2.2 10) (0 : Int32).toNatClampNeg ((((R18.2.2 10) (3 : Int32).toNatClampNeg).toInt64).toInt32)) (1 : Int32).toNatClampNeg ((upd (R18.2.2 11) (0 : Int32).toNatClampNeg ((((R18.2.2 10) (3 : Int32).toNatClampNeg).toInt64 + R14.1.toInt64).toInt32)) (0 : Int32).toNatClampNeg))) 11 (upd (upd (R18.2.2 11) (0 : Int32).toNatClampNeg ((((R18.2.2 10) (3 : Int32).toNatClampNeg).toInt64 + R14.1.toInt64).toInt32)) (1 : Int32).toNatClampNeg (((((R18.2.2 10) (3 : Int32).toNatClampNeg).toInt64 + R14.1.toInt64) + R16.1.toInt64).toInt32))) 10 (upd (upd (upd (R18.2.2 10) (0 : Int32).toNatClampNeg ((((R18.2.2 10) (3 : Int32).toNatClampNeg).toInt64).toInt32)) (1 : Int32).toNatClampNeg ((upd (R18.2.2 11) (0 : Int32).toNatClampNeg ((((R18.2.2 10) (3 : Int32).toNatClampNeg).toInt64 + R14.1.toInt64).toInt32)) (0 : Int32).toNatClampNeg)) (2 : Int32).toNatClampNeg ((upd (upd (R18.2.2 11) (0 : Int32).toNatClampNeg ((((R18.2.2 10) (3 : Int32).toNatClampNeg).toInt64 + R14.1.toInt64).toInt32)) (1 : Int32).toNatClampNeg (((((R18.2.2 10) (3 : Int32).toNatClampNeg).toInt64 + R14.1.toInt64) + R16.1.toInt64).toInt32)) (1 : Int32).toNatClampNeg))) 11 (upd (upd (upd (R18.2.2 11) (0 : Int32).toNatClampNeg ((((R18.2.2 10) (3 : Int32).toNatClampNeg).toInt64 + R14.1.toInt64).toInt32)) (1 : Int32).toNatClampNeg (((((R18.2.2 10) (3 : Int32).toNatClampNeg).toInt64 + R14.1.toInt64) + R16.1.toInt64).toInt32)) (2 : Int32).toNatClampNeg ((((R18.2.2 10) (3 : Int32).toNatClampNeg).toInt64 + ((R14.1.toInt64 + R16.1.toInt64) + R18.1.toInt64)).toInt32))) 10 (upd (upd (upd (upd (R18.2.2 10) (0 : Int32).toNatClampNeg ((((R18.2.2 10) (3 : Int32).toNatClampNeg).toInt64).toInt32)) (1 : Int32).toNatClampNeg ((upd (R18.2.2 11) (0 : Int32).toNatClampNeg ((((R18.2.2 10) (3 : Int32).toNatClampNeg).toInt64 + R14.1.toInt64).toInt32)) (0 : Int32).toNatClampNeg)) (2 : Int32).toNatClampNeg ((upd (upd (R18.2.2 11) (0 : Int32).toNatClampNeg ((((R18.2.2 10) (3 : Int32).toNatClampNeg).toInt64 + R14.1.toInt64).toInt32)) (1 : Int32).toNatClampNeg (((((R18.2.2 10) (3 : Int32).toNatClampNeg).toInt64 + R14.1.toInt64) + R16.1.toInt64).toInt32)) (1 : Int32).toNatClampNeg)) (3 : Int32).toNatClampNeg ((upd (upd (upd (R18.2.2 11) (0 : Int32).toNatClampNeg ((((R18.2.2 10) (3 : Int32).toNatClampNeg).toInt64 + R14.1.toInt64).toInt32)) (1 : Int32).toNatClampNeg (((((R18.2.2 10) (3 : Int32).toNatClampNeg).toInt64 + R14.1.toInt64) + R16.1.toInt64).toInt32)) (2 : Int32).toNatClampNeg ((((R18.2.2 10) (3 : Int32).toNatClampNeg).toInt64 + ((R14.1.toInt64 + R16.1.toInt64) + R18.1.toInt64)).toInt32)) (2 : Int32).toNatClampNeg)))) := va_D_eq (wM_a10 q cA R18.2.1 (va_up (va_up (va_up (va_up (va_up (va_up R18.2.2 10 (upd (R18.2.2 10) (0 : Int32).toNatClampNeg ((((R18.2.2 10) (3 : Int32).toNatClampNeg).toInt64).toInt32))) 11 (upd (R18.2.2 11) (0 : Int32).toNatClampNeg ((((R18.2.2 10) (3 : Int32).toNatClampNeg).toInt64 + R14.1.toInt64).toInt32))) 10 (upd (upd (R18.2.2 10) (0 : Int32).toNatClampNeg ((((R18.2.2 10) (3 : Int32).toNatClampNeg).toInt64).toInt32)) (1 : Int32).toNatClampNeg ((upd (R18.2.2 11) (0 : Int32).toNatClampNeg ((((R18.2.2 10) (3 : Int32).toNatClampNeg).toInt64 + R14.1.toInt64).toInt32)) (0 : Int32).toNatClampNeg))) 11 (upd (upd (R18.2.2 11) (0 : Int32).toNatClampNeg ((((R18.2.2 10) (3 : Int32).toNatClampNeg).toInt64 + R14.1.toInt64).toInt32)) (1 : Int32).toNatClampNeg (((((R18.2.2 10) (3 : Int32).toNatClampNeg).toInt64 + R14.1.toInt64) + R16.1.toInt64).toInt32))) 10 (upd (upd (upd (R18.2.2 10) (0 : Int32).toNatClampNeg ((((R18.2.2 10) (3 : Int32).toNatClampNeg).toInt64).toInt32)) (1 : Int32).toNatClampNeg ((upd (R18.2.2 11) (0 : Int32).toNatClampNeg ((((R18.2.2 10) (3 : Int32).toNatClampNeg).toInt64 + R14.1.toInt64).toInt32)) (0 : Int32).toNatClampNeg)) (2 : Int32).toNatClampNeg ((upd (upd (R18.2.2 11) (0 : Int32).toNatClampNeg ((((R18.2.2 10) (3 : Int32).toNatClampNeg).toInt64 + R14.1.toInt64).toInt32)) (1 : Int32).toNatClampNeg (((((R18.2.2 10) (3 : Int32).toNatClampNeg).toInt64 + R14.1.toInt64) + R16.1.toInt64).toInt32)) (1 : Int32).toNatClampNeg))) 11 (upd (upd (upd (R18.2.2 11) (0 : Int32).toNatClampNeg ((((R18.2.2 10) (3 : Int32).toNatClampNeg).toInt64 + R14.1.toInt64).toInt32)) (1 : Int32).toNatClampNeg (((((R18.2.2 10) (3 : Int32).toNatClampNeg).toInt64 + R14.1.toInt64) + R16.1.toInt64).toInt32)) (2 : Int32).toNatClampNeg ((((R18.2.2 10) (3 : Int32).toNatClampNeg).toInt64 + ((R14.1.toInt64 + R16.1.toInt64) + R18.1.toInt64)).toInt32))) (upd (upd (upd (upd (R18.2.2 10) (0 : Int32).toNatClampNeg ((((R18.2.2 10) (3 : Int32).toNatClampNeg).toInt64).toInt32)) (1 : Int32).toNatClampNeg ((upd (R18.2.2 11) (0 : Int32).toNatClampNeg ((((R18.2.2 10) (3 : Int32).toNatClampNeg).toInt64 + R14.1.toInt64).toInt32)) (0 : Int32).toNatClampNeg)) (2 : Int32).toNatClampNeg ((upd (upd (R18.2.2 11) (0 : Int32).toNatClampNeg ((((R18.2.2 10) (3 : Int32).toNatClampNeg).toInt64 + R14.1.toInt64).toInt32)) (1 : Int32).toNatClampNeg (((((R18.2.2 10) (3 : Int32).toNatClampNeg).toInt64 + R14.1.toInt64) + R16.1.toInt64).toInt32)) (1 : Int32).toNatClampNeg)) (3 : Int32).toNatClampNeg ((upd (upd (upd (R18.2.2 11) (0 : Int32).toNatClampNeg ((((R18.2.2 10) (3 : Int32).toNatClampNeg).toInt64 + R14.1.toInt64).toInt32)) (1 : Int32).toNatClampNeg (((((R18.2.2 10) (3 : Int32).toNatClampNeg).toInt64 + R14.1.toInt64) + R16.1.toInt64).toInt32)) (2 : Int32).toNatClampNeg ((((R18.2.2 10) (3 : Int32).toNatClampNeg).toInt64 + ((R14.1.toInt64 + R16.1.toInt64) + R18.1.toInt64)).toInt32)) (2 : Int32).toNatClampNeg))) hD
                refine lv_aload_n hx hb dX8_readWindow_261 rfl (lv_at hl 8 rfl) ?_
                obtain ⟨R36, hc37, hf⟩ := b_inv hf
                have hk := kall (wc' := (wM q cA R36.1 R36.2)) hP hD hS hA rfl
                refine k_goV (va_runV (As := []) (rest := []) ⟨hx, hb, hml, hown, hts⟩ (kX8_forget l D q cA R18.2.1 (va_up (va_up (va_up (va_up (va_up (va_up (va_up R18.2.2 10 (upd (R18.2.2 10) (0 : Int32).toNatClampNeg ((((R18.2.2 10) (3 : Int32).toNatClampNeg).toInt64).toInt32))) 11 (upd (R18.2.2 11) (0 : Int32).toNatClampNeg ((((R18.2.2 10) (3 : Int32).toNatClampNeg).toInt64 + R14.1.toInt64).toInt32))) 10 (upd (upd (R18.2.2 10) (0 : Int32).toNatClampNeg ((((R18.2.2 10) (3 : Int32).toNatClampNeg).toInt64).toInt32)) (1 : Int32).toNatClampNeg ((upd (R18.2.2 11) (0 : Int32).toNatClampNeg ((((R18.2.2 10) (3 : Int32).toNatClampNeg).toInt64 + R14.1.toInt64).toInt32)) (0 : Int32).toNatClampNeg))) 11 (upd (upd (R18.2.2 11) (0 : Int32).toNatClampNeg ((((R18.2.2 10) (3 : Int32).toNatClampNeg).toInt64 + R14.1.toInt64).toInt32)) (1 : Int32).toNatClampNeg (((((R18.2.2 10) (3 : Int32).toNatClampNeg).toInt64 + R14.1.toInt64) + R16.1.toInt64).toInt32))) 10 (upd (upd (upd (R18.2.2 10) (0 : Int32).toNatClampNeg ((((R18.2.2 10) (3 : Int32).toNatClampNeg).toInt64).toInt32)) (1 : Int32).toNatClampNeg ((upd (R18.2.2 11) (0 : Int32).toNatClampNeg ((((R18.2.2 10) (3 : Int32).toNatClampNeg).toInt64 + R14.1.toInt64).toInt32)) (0 : Int32).toNatClampNeg)) (2 : Int32).toNatClampNeg ((upd (upd (R18.2.2 11) (0 : Int32).toNatClampNeg ((((R18.2.2 10) (3 : Int32).toNatClampNeg).toInt64 + R14.1.toInt64).toInt32)) (1 : Int32).toNatClampNeg (((((R18.2.2 10) (3 : Int32).toNatClampNeg).toInt64 + R14.1.toInt64) + R16.1.toInt64).toInt32)) (1 : Int32).toNatClampNeg))) 11 (upd (upd (upd (R18.2.2 11) (0 : Int32).toNatClampNeg ((((R18.2.2 10) (3 : Int32).toNatClampNeg).toInt64 + R14.1.toInt64).toInt32)) (1 : Int32).toNatClampNeg (((((R18.2.2 10) (3 : Int32).toNatClampNeg).toInt64 + R14.1.toInt64) + R16.1.toInt64).toInt32)) (2 : Int32).toNatClampNeg ((((R18.2.2 10) (3 : Int32).toNatClampNeg).toInt64 + ((R14.1.toInt64 + R16.1.toInt64) + R18.1.toInt64)).toInt32))) 10 (upd (upd (upd (upd (R18.2.2 10) (0 : Int32).toNatClampNeg ((((R18.2.2 10) (3 : Int32).toNatClampNeg).toInt64).toInt32)) (1 : Int32).toNatClampNeg ((upd (R18.2.2 11) (0 : Int32).toNatClampNeg ((((R18.2.2 10) (3 : Int32).toNatClampNeg).toInt64 + R14.1.toInt64).toInt32)) (0 : Int32).toNatClampNeg)) (2 : Int32).toNatClampNeg ((upd (upd (R18.2.2 11) (0 : Int32).toNatClampNeg ((((R18.2.2 10) (3 : Int32).toNatClampNeg).toInt64 + R14.1.toInt64).toInt32)) (1 : Int32).toNatClampNeg (((((R18.2.2 10) (3 : Int32).toNatClampNeg).toInt64 + R14.1.toInt64) + R16.1.toInt64).toInt32)) (1 : Int32).toNatClampNeg)) (3 : Int32).toNatClampNeg ((upd (upd (upd (R18.2.2 11) (0 : Int32).toNatClampNeg ((((R18.2.2 10) (3 : Int32).toNatClampNeg).toInt64 + R14.1.toInt64).toInt32)) (1 : Int32).toNatClampNeg (((((R18.2.2 10) (3 : Int32).toNatClampNeg).toInt64 + R14.1.toInt64) + R16.1.toInt64).toInt32)) (2 : Int32).toNatClampNeg ((((R18.2.2 10) (3 : Int32).toNatClampNeg).toInt64 + ((R14.1.toInt64 + R16.1.toInt64) + R18.1.toInt64)).toInt32)) (2 : Int32).toNatClampNeg))) hc37 _) (cwV 0 hts gX8_readWindow_X8_forget rfl rfl rfl (by decide +kernel) ⟨Nat.le_of_ble_eq_true rfl, Nat.le_of_ble_eq_true rfl⟩) (k_preV (q0 := 0) (ci := 7) hk hK NT_bl NT_u rfl rfl rfl) rfl rfl hl.1 rfl (lv_room (Nat.le_of_ble_eq_true rfl)) dX8_readWindow_262 ⟨Nat.zero_le _, Nat.zero_le _⟩) hk hS (fun H locs hP hD hS => ?_)
                refine lv_aload_n hx hb dX8_readWindow_265 rfl (lv_at hl 8 rfl) ?_
                obtain ⟨R38, hc39, hf⟩ := b_inv hf
                have hk := kall (wc' := (wM q cA R38.1 R38.2)) hP hD hS hA rfl
                refine k_goV (va_runV (As := []) (rest := []) ⟨hx, hb, hml, hown, hts⟩ (kX8_performAll l D q cA R36.1 R36.2 hc39 _) (cwV 0 hts gX8_readWindow_X8_performAll rfl rfl rfl (by decide +kernel) ⟨Nat.le_of_ble_eq_true rfl, Nat.le_of_ble_eq_true rfl⟩) (k_preV (q0 := 0) (ci := 7) hk hK NT_bl NT_u rfl rfl rfl) rfl rfl hl.1 rfl (lv_room (Nat.le_of_ble_eq_true rfl)) dX8_readWindow_266 ⟨Nat.zero_le _, Nat.zero_le _⟩) hk hS (fun H locs hP hD hS => ?_)
                refine lv_aload_n hx hb dX8_readWindow_269 rfl (lv_at hl 8 rfl) ?_
                refine va_get (D := D) (ci := 7) (v := .int (R38.1 3)) (C := RX8) (T := TX8) (N := 21) hx hb hts (fun w h => List.mem_cons_of_mem _ (List.mem_append_right _ h)) hown hK hP 0 rfl rfl 15 (by decide) (hts (.fieldLink RX8 134 "DeltaWindowsModel" "bad" "Z") (List.mem_of_getElem? (i := 1) rfl)) (fun _ h9 => h9) rfl dX8_readWindow_270 ?_
                refine lv_if_eq (tgt := 281) hx hb dX8_readWindow_273 (by decide) (fun c40 => ?_) (fun c40 => ?_)
                · rw [if_pos c40] at hf
                  refine lv_iconst (v := (0 : Int32)) hx hb dX8_readWindow_281 (by decide) ?_
                  obtain rfl := Option.some.inj hf
                  exact k_retI hx hb hr hlocks hP hS dX8_readWindow_282
                · rw [if_neg c40] at hf
                  refine lv_bipush (v := (-2 : Int32)) hx hb dX8_readWindow_276 (by decide) ?_
                  refine lv_goto (tgt := 282) hx hb dX8_readWindow_278 (by decide) ?_
                  obtain rfl := Option.some.inj hf
                  exact k_retI hx hb hr hlocks hP hS dX8_readWindow_282
              · rw [if_neg c25] at hf
                refine lv_bipush (v := (-2 : Int32)) hx hb dX8_readWindow_174 (by decide) ?_
                obtain rfl := Option.some.inj hf
                exact k_retI hx hb hr hlocks hP hS dX8_readWindow_176
      · rw [if_neg c11] at hf
        refine lv_bipush (v := (-3 : Int32)) hx hb dX8_readWindow_73 (by decide) ?_
        obtain rfl := Option.some.inj hf
        exact k_retI hx hb hr hlocks hP hS dX8_readWindow_75
    · rw [if_neg c9] at hf
      refine lv_bipush (v := (-2 : Int32)) hx hb dX8_readWindow_43 (by decide) ?_
      obtain rfl := Option.some.inj hf
      exact k_retI hx hb hr hlocks hP hS dX8_readWindow_45
  · rw [if_neg c3] at hf
    refine lv_bipush (v := (-2 : Int32)) hx hb dX8_readWindow_11 (by decide) ?_
    obtain rfl := Option.some.inj hf
    exact k_retI hx hb hr hlocks hP hS dX8_readWindow_13

noncomputable def fX8_decode_L52 (v1 : Int32) (v2 : Int32) : Nat → (Int32) → (Nat → Int32) → (Nat → Nat → Int32) → Option ((Nat → Int32) × (Nat → Nat → Int32))
  | 0, _, _, _ => none
  | k + 1, v3, sc, ar =>
    if (5 : Int32) ≤ v3 then
      some (sc, ar)
    else
      (fX8_next sc ar (3 : Int32)).bind fun R10 =>
      if (R10.2.1 3) = 0 then
        (fX8_head v3).bind fun R13 =>
        if R10.1 = R13 then
          fX8_decode_L52 v1 v2 k (v3 + (1 : Int32)) (va_up R10.2.1 3 (0 : Int32)) R10.2.2
        else
          fX8_decode_L52 v1 v2 k (v3 + (1 : Int32)) (va_up R10.2.1 3 (1 : Int32)) R10.2.2
      else
        fX8_decode_L52 v1 v2 k (v3 + (1 : Int32)) (va_up R10.2.1 3 (1 : Int32)) R10.2.2

noncomputable def fX8_decode_L109 (v1 : Int32) : Nat → (Int32) → (Int32) → (Nat → Int32) → (Nat → Nat → Int32) → Option (Int32 × Int32 × (Nat → Int32) × (Nat → Nat → Int32))
  | 0, _, _, _, _ => none
  | k + 1, v2, v3, sc, ar =>
    if v3 = 0 then
      if inb (3 : Int32) 4 = true then
      if inb (3 : Int32) 4 = true then
      if ((ar 11) (3 : Int32).toNatClampNeg) ≤ ((ar 10) (3 : Int32).toNatClampNeg) then
        some (v2, v3, sc, ar)
      else
        (fX8_readWindow sc ar v1).bind fun R25 =>
        fX8_decode_L109 v1 k (v2 + (1 : Int32)) R25.1 R25.2.1 R25.2.2
      else none
      else none
    else
      some (v2, v3, sc, ar)

noncomputable def fX8_decode_L149 (sc : Nat → Int32) (v2 : Int32) : Nat → (Int32) → (Nat → Nat → Int32) → Option ((Nat → Nat → Int32))
  | 0, _, _ => none
  | k + 1, v4, ar =>
    if inb (4 : Int32) 5 = true then
    if ((ar 1) (4 : Int32).toNatClampNeg) ≤ v4 then
      some ar
    else
      if inb ((4000 : Int32) + v4) 5000 = true then
      if inb ((3000 : Int32) + v4) 5000 = true then
      fX8_decode_L149 sc v2 k (v4 + (1 : Int32)) (va_up ar 0 (upd (ar 0) ((3000 : Int32) + v4).toNatClampNeg ((ar 0) ((4000 : Int32) + v4).toNatClampNeg)))
      else none
      else none
    else none

noncomputable def fX8_decode (sc : Nat → Int32) (ar : Nat → Nat → Int32) (x1 : Int32) : Option (Int32 × (Nat → Int32) × (Nat → Nat → Int32)) :=
  if x1 < 0 then
    some ((-1 : Int32), sc, ar)
  else
    if x1 ≤ (400 : Int32) then
      if inb (3 : Int32) 4 = true then
      if inb (2 : Int32) 5 = true then
      if inb (3 : Int32) 4 = true then
      if inb (4 : Int32) 5 = true then
      (fX8_forget (va_up sc 3 (0 : Int32)) (va_up (va_up (va_up ar 10 (upd (ar 10) (3 : Int32).toNatClampNeg (0 : Int32))) 11 (upd (ar 11) (3 : Int32).toNatClampNeg ((ar 1) (2 : Int32).toNatClampNeg))) 1 (upd (ar 1) (4 : Int32).toNatClampNeg (0 : Int32)))).bind fun R7 =>
      (fX8_decode_L52 x1 (0 : Int32) FU (0 : Int32) R7.1 R7.2).bind fun R16 =>
      (if (R16.1 3) = 0 then
          some (0 : Int32)
        else
          some (-2 : Int32) : Option (Int32)).bind fun R20 =>
      (fX8_decode_L109 x1 FU (0 : Int32) R20 R16.1 R16.2).bind fun R27 =>
      if 0 ≤ R27.2.1 then
        (fX8_decode_L149 R27.2.2.1 R27.1 FU (0 : Int32) R27.2.2.2).bind fun R34 =>
        if inb (4 : Int32) 5 = true then
        if inb (3 : Int32) 5 = true then
        (fX8_show (va_up R27.2.2.1 0 R27.1) (va_up R34 1 (upd (R34 1) (3 : Int32).toNatClampNeg ((R34 1) (4 : Int32).toNatClampNeg))) (1 : Int32)).bind fun R38 =>
        if inb (3 : Int32) 5 = true then
        some (((R38 1) (3 : Int32).toNatClampNeg), (va_up R27.2.2.1 0 R27.1), R38)
        else none
        else none
        else none
      else
        some (R27.2.1, R27.2.2.1, R27.2.2.2)
      else none
      else none
      else none
      else none
    else
      some ((-1 : Int32), sc, ar)

set_option maxHeartbeats 4000000 in
set_option maxRecDepth 100000 in
theorem kX8_decode (l : Launch) (D : va_G) (q : Nat → Nat) (cA : Nat → ClassId) (sc : Nat → Int32) (ar : Nat → Nat → Int32) (x1 : Int32) {R : Int32 × (Nat → Int32) × (Nat → Nat → Int32)} (hf : fX8_decode sc ar x1 = some R) : MI l yX8_decode wsX8_decode (rmD 6) D ([.ref (q 0), .int x1] : List Value) (wM q cA sc ar) (tM cA) NT R.1 (wM q cA R.2.1 R.2.2) := by
  refine MI.mk (cc := cX8_decode) (maxL := 5) (ret := (some .int)) (by first | decide | decide +kernel) rfl (Nat.le_of_ble_eq_true rfl) ?_
  intro p e s m below meth cd A ls hE
  obtain ⟨hx, hb, hr, hml, hts, hown, hlocks, hP, hK, hD, hA, hN, hAe, hl⟩ := hE
  have hown : s.vm.findClass RX8 = some m.cls := hown
  have hS : va_S A s.heap s.heap [] := va_S.rf
  have hl : lv_has ls 5 [(0, .ref (q 0)), (1, .int x1)] := hl
  rw [fX8_decode] at hf
  refine lv_iload_n hx hb dX8_decode_0 rfl (lv_at hl 1 rfl) ?_
  refine lv_if_lt (tgt := 11) hx hb dX8_decode_1 (by decide) (fun c1 => ?_) (fun c1 => ?_)
  · rw [if_pos c1] at hf
    refine lv_iconst (v := (-1 : Int32)) hx hb dX8_decode_11 (by decide) ?_
    obtain rfl := Option.some.inj hf
    exact k_retI hx hb hr hlocks hP hS dX8_decode_12
  · rw [if_neg c1] at hf
    refine lv_iload_n hx hb dX8_decode_4 rfl (lv_at hl 1 rfl) ?_
    refine lv_sipush (v := (400 : Int32)) hx hb dX8_decode_5 (by decide) ?_
    refine lv_icmp_le (tgt := 13) hx hb dX8_decode_8 (by decide) (fun c2 => ?_) (fun c2 => ?_)
    · rw [if_pos c2] at hf
      refine lv_aload_n hx hb dX8_decode_13 rfl (lv_at hl 0 rfl) ?_
      refine lv_iconst (v := (0 : Int32)) hx hb dX8_decode_14 (by decide) ?_
      refine va_put (D := D) (ci := 7) (v := .int (0 : Int32)) (ty := .boolean) (C := RX8) (T := TX8) (N := 21) hx hb hts (fun w h => List.mem_cons_of_mem _ (List.mem_append_right _ h)) tyX8 tyX8_ok nmX8 hown hK hP hD hS 0 rfl rfl 15 (by decide) (hts (.fieldLink RX8 134 "DeltaWindowsModel" "bad" "Z") (List.mem_of_getElem? (i := 1) rfl)) (fun _ h9 => h9) rfl (by decide +kernel) rfl rfl (Nat.le_of_ble_eq_true rfl) dX8_decode_15 (fun H locs hP hD hS => ?_)
      have hP : va_P D vwCl (wM q cA (va_up sc 3 (0 : Int32)) ar) H := va_P_eq (wM_s3 q cA sc ar (0 : Int32)) hP
      have hD : va_D A (wM q cA (va_up sc 3 (0 : Int32)) ar) := va_D_eq (wM_s3 q cA sc ar (0 : Int32)) hD
      refine lv_aload_n hx hb dX8_decode_18 rfl (lv_at hl 0 rfl) ?_
      refine va_get (D := D) (ci := 7) (v := .ref (q 11)) (C := RX8) (T := TX8) (N := 21) hx hb hts (fun w h => List.mem_cons_of_mem _ (List.mem_append_right _ h)) hown hK hP 0 rfl rfl 13 (by decide) (hts (.fieldLink RX8 40 "DeltaWindowsModel" "place" "[I") (List.mem_of_getElem? (i := 2) rfl)) (fun _ h9 => h9) rfl dX8_decode_19 ?_
      refine lv_iconst (v := (3 : Int32)) hx hb dX8_decode_22 (by decide) ?_
      refine lv_iconst (v := (0 : Int32)) hx hb dX8_decode_23 (by decide) ?_
      obtain ⟨g3, hf⟩ := g_inv hf
      refine va_iast (f := (ar 10)) hx hb hK hP hD hS 11 10 rfl rfl (inb_vp g3) dX8_decode_24 (fun H locs hP hD hS => ?_)
      have hP : va_P D vwCl (wM q cA (va_up sc 3 (0 : Int32)) (va_up ar 10 (upd (ar 10) (3 : Int32).toNatClampNeg (0 : Int32)))) H := va_P_eq (wM_a10 q cA (va_up sc 3 (0 : Int32)) ar (upd (ar 10) (3 : Int32).toNatClampNeg (0 : Int32))) hP
      have hD : va_D A (wM q cA (va_up sc 3 (0 : Int32)) (va_up ar 10 (upd (ar 10) (3 : Int32).toNatClampNeg (0 : Int32)))) := va_D_eq (wM_a10 q cA (va_up sc 3 (0 : Int32)) ar (upd (ar 10) (3 : Int32).toNatClampNeg (0 : Int32))) hD
      refine lv_aload_n hx hb dX8_decode_25 rfl (lv_at hl 0 rfl) ?_
      refine va_get (D := D) (ci := 7) (v := .ref (q 12)) (C := RX8) (T := TX8) (N := 21) hx hb hts (fun w h => List.mem_cons_of_mem _ (List.mem_append_right _ h)) hown hK hP 0 rfl rfl 14 (by decide) (hts (.fieldLink RX8 43 "DeltaWindowsModel" "stop" "[I") (List.mem_of_getElem? (i := 3) rfl)) (fun _ h9 => h9) rfl dX8_decode_26 ?_
      refine lv_iconst (v := (3 : Int32)) hx hb dX8_decode_29 (by decide) ?_
      refine lv_aload_n hx hb dX8_decode_30 rfl (lv_at hl 0 rfl) ?_
      refine va_get (D := D) (ci := 7) (v := .ref (q 2)) (C := RX8) (T := TX8) (N := 21) hx hb hts (fun w h => List.mem_cons_of_mem _ (List.mem_append_right _ h)) hown hK hP 0 rfl rfl 1 (by decide) (hts (.fieldLink RX8 13 "DeltaWindowsModel" "length" "[I") (List.mem_of_getElem? (i := 4) rfl)) (fun _ h9 => h9) rfl dX8_decode_31 ?_
      refine lv_iconst (v := (2 : Int32)) hx hb dX8_decode_34 (by decide) ?_
      obtain ⟨g4, hf⟩ := g_inv hf
      refine va_iald (f := (ar 1)) hx hb hK hP 2 1 rfl rfl (inb_vp g4) dX8_decode_35 ?_
      obtain ⟨g5, hf⟩ := g_inv hf
      refine va_iast (f := (ar 11)) hx hb hK hP hD hS 12 11 rfl rfl (inb_vp g5) dX8_decode_36 (fun H locs hP hD hS => ?_)
      have hP : va_P D vwCl (wM q cA (va_up sc 3 (0 : Int32)) (va_up (va_up ar 10 (upd (ar 10) (3 : Int32).toNatClampNeg (0 : Int32))) 11 (upd (ar 11) (3 : Int32).toNatClampNeg ((ar 1) (2 : Int32).toNatClampNeg)))) H := va_P_eq (wM_a11 q cA (va_up sc 3 (0 : Int32)) (va_up ar 10 (upd (ar 10) (3 : Int32).toNatClampNeg (0 : Int32))) (upd (ar 11) (3 : Int32).toNatClampNeg ((ar 1) (2 : Int32).toNatClampNeg))) hP
      have hD : va_D A (wM q cA (va_up sc 3 (0 : Int32)) (va_up (va_up ar 10 (upd (ar 10) (3 : Int32).toNatClampNeg (0 : Int32))) 11 (upd (ar 11) (3 : Int32).toNatClampNeg ((ar 1) (2 : Int32).toNatClampNeg)))) := va_D_eq (wM_a11 q cA (va_up sc 3 (0 : Int32)) (va_up ar 10 (upd (ar 10) (3 : Int32).toNatClampNeg (0 : Int32))) (upd (ar 11) (3 : Int32).toNatClampNeg ((ar 1) (2 : Int32).toNatClampNeg))) hD
      refine lv_aload_n hx hb dX8_decode_37 rfl (lv_at hl 0 rfl) ?_
      refine va_get (D := D) (ci := 7) (v := .ref (q 2)) (C := RX8) (T := TX8) (N := 21) hx hb hts (fun w h => List.mem_cons_of_mem _ (List.mem_append_right _ h)) hown hK hP 0 rfl rfl 1 (by decide) (hts (.fieldLink RX8 13 "DeltaWindowsModel" "length" "[I") (List.mem_of_getElem? (i := 4) rfl)) (fun _ h9 => h9) rfl dX8_decode_38 ?_
      refine lv_iconst (v := (4 : Int32)) hx hb dX8_decode_41 (by decide) ?_
      refine lv_iconst (v := (0 : Int32)) hx hb dX8_decode_42 (by decide) ?_
      obtain ⟨g6, hf⟩ := g_inv hf
      refine va_iast (f := (ar 1)) hx hb hK hP hD hS 2 1 rfl rfl (inb_vp g6) dX8_decode_43 (fun H locs hP hD hS => ?_)
      have hP : va_P D vwCl (wM q cA (va_up sc 3 (0 : Int32)) (va_up (va_up (va_up ar 10 (upd (ar 10) (3 : Int32).toNatClampNeg (0 : Int32))) 11 (upd (ar 11) (3 : Int32).toNatClampNeg ((ar 1) (2 : Int32).toNatClampNeg))) 1 (upd (ar 1) (4 : Int32).toNatClampNeg (0 : Int32)))) H := va_P_eq (wM_a1 q cA (va_up sc 3 (0 : Int32)) (va_up (va_up ar 10 (upd (ar 10) (3 : Int32).toNatClampNeg (0 : Int32))) 11 (upd (ar 11) (3 : Int32).toNatClampNeg ((ar 1) (2 : Int32).toNatClampNeg))) (upd (ar 1) (4 : Int32).toNatClampNeg (0 : Int32))) hP
      have hD : va_D A (wM q cA (va_up sc 3 (0 : Int32)) (va_up (va_up (va_up ar 10 (upd (ar 10) (3 : Int32).toNatClampNeg (0 : Int32))) 11 (upd (ar 11) (3 : Int32).toNatClampNeg ((ar 1) (2 : Int32).toNatClampNeg))) 1 (upd (ar 1) (4 : Int32).toNatClampNeg (0 : Int32)))) := va_D_eq (wM_a1 q cA (va_up sc 3 (0 : Int32)) (va_up (va_up ar 10 (upd (ar 10) (3 : Int32).toNatClampNeg (0 : Int32))) 11 (upd (ar 11) (3 : Int32).toNatClampNeg ((ar 1) (2 : Int32).toNatClampNeg))) (upd (ar 1) (4 : Int32).toNatClampNeg (0 : Int32))) hD
      refine lv_iconst (v := (0 : Int32)) hx hb dX8_decode_44 (by decide) ?_
      refine lv_istore_n (lv' := [(2, .int (0 : Int32)), (0, .ref (q 0)), (1, .int x1)]) hx hb dX8_decode_45 rfl hl (by decide) rfl (fun ls hl => ?_)
      refine lv_aload_n hx hb dX8_decode_46 rfl (lv_at hl 1 rfl) ?_
      obtain ⟨R7, hc8, hf⟩ := b_inv hf
      have hk := kall (wc' := (wM q cA R7.1 R7.2)) hP hD hS hA rfl
      refine k_goV (va_runV (As := []) (rest := []) ⟨hx, hb, hml, hown, hts⟩ (kX8_forget l D q cA (va_up sc 3 (0 : Int32)) (va_up (va_up (va_up ar 10 (upd (ar 10) (3 : Int32).toNatClampNeg (0 : Int32))) 11 (upd (ar 11) (3 : Int32).toNatClampNeg ((ar 1) (2 : Int32).toNatClampNeg))) 1 (upd (ar 1) (4 : Int32).toNatClampNeg (0 : Int32))) hc8 _) (cwV 0 hts gX8_decode_X8_forget rfl rfl rfl (by decide +kernel) ⟨Nat.le_of_ble_eq_true rfl, Nat.le_of_ble_eq_true rfl⟩) (k_preV (q0 := 0) (ci := 7) hk hK NT_bl NT_u rfl rfl rfl) rfl rfl hl.1 rfl (lv_room (Nat.le_of_ble_eq_true rfl)) dX8_decode_47 ⟨Nat.zero_le _, Nat.zero_le _⟩) hk hS (fun H locs hP hD hS => ?_)
      refine lv_iconst (v := (0 : Int32)) hx hb dX8_decode_50 (by decide) ?_
      refine lv_istore_n (lv' := [(3, .int (0 : Int32)), (2, .int (0 : Int32)), (0, .ref (q 0)), (1, .int x1)]) hx hb dX8_decode_51 rfl hl (by decide) rfl (fun ls hl => ?_)
      have lp41 : ∀ (v1 : Int32) (v2 : Int32), ∀ (k : Nat) (v3 : Int32) (sc : Nat → Int32) (ar : Nat → Nat → Int32) (H : Heap) (locs : List Loc) (ls : Array Slot) (o : (Nat → Int32) × (Nat → Nat → Int32)), lv_has ls 5 [(3, .int v3), (1, .int v1), (2, .int v2), (0, .ref (q 0))] → va_P D vwCl (wM q cA sc ar) H → va_D A (wM q cA sc ar) → va_S A s.heap H locs → fX8_decode_L52 v1 v2 k v3 sc ar = some o → (∀ (H : Heap) (locs : List Loc) (ls : Array Slot), lv_has ls 5 [(1, .int v1), (2, .int v2), (0, .ref (q 0))] → va_P D vwCl (wM q cA o.1 o.2) H → va_D A (wM q cA o.1 o.2) → va_S A s.heap H locs → W p l e (headSpec wsX8_decode (rmD 6)).room s m ([.ref (q 0), .int x1] : List Value).toArray below meth cd H locs 0 0 (QI D below ([.ref (q 0), .int x1] : List Value).toArray s A R.1 (wM q cA R.2.1 R.2.2)) (F0 m 95 ls [])) → W p l e (headSpec wsX8_decode (rmD 6)).room s m ([.ref (q 0), .int x1] : List Value).toArray below meth cd H locs 0 0 (QI D below ([.ref (q 0), .int x1] : List Value).toArray s A R.1 (wM q cA R.2.1 R.2.2)) (F0 m 52 ls []) := by
        intro v1 v2
        intro k
        induction k with
        | zero =>
          intro v3 sc ar H locs ls o hl hP hD hS hf
          exact absurd hf (by simp [fX8_decode_L52])
        | succ k ih =>
          intro v3 sc ar H locs ls o hl hP hD hS hf kont
          rw [fX8_decode_L52] at hf
          refine lv_iload_n hx hb dX8_decode_52 rfl (lv_at hl 0 rfl) ?_
          refine lv_iconst (v := (5 : Int32)) hx hb dX8_decode_53 (by decide) ?_
          refine lv_icmp_ge (tgt := 95) hx hb dX8_decode_54 (by decide) (fun c9 => ?_) (fun c9 => ?_)
          · rw [if_pos c9] at hf
            obtain rfl := Option.some.inj hf
            exact kont _ _ _ (lv_sub hl [1, 2, 3] rfl) hP hD hS
          · rw [if_neg c9] at hf
            refine lv_aload_n hx hb dX8_decode_57 rfl (lv_at hl 3 rfl) ?_
            refine lv_iconst (v := (3 : Int32)) hx hb dX8_decode_58 (by decide) ?_
            obtain ⟨R10, hc11, hf⟩ := b_inv hf
            have hk := kall (wc' := (wM q cA R10.2.1 R10.2.2)) hP hD hS hA rfl
            refine k_goI (va_runV (As := [.int (3 : Int32)]) (rest := []) ⟨hx, hb, hml, hown, hts⟩ (kX8_next l D q cA sc ar (3 : Int32) hc11 _) (cwV 1 hts gX8_decode_X8_next rfl rfl rfl (by decide +kernel) ⟨Nat.le_of_ble_eq_true rfl, Nat.le_of_ble_eq_true rfl⟩) (k_preV (q0 := 0) (ci := 7) hk hK NT_bl NT_u rfl rfl rfl) rfl rfl hl.1 rfl (lv_room (Nat.le_of_ble_eq_true rfl)) dX8_decode_59 ⟨Nat.zero_le _, Nat.zero_le _⟩) hk hS (fun H locs hP hD hS => ?_)
            refine lv_istore (lv' := [(4, .int R10.1), (3, .int v3), (1, .int v1), (2, .int v2), (0, .ref (q 0))]) hx hb dX8_decode_62 hl (by decide) rfl (fun ls hl => ?_)
            refine lv_aload_n hx hb dX8_decode_64 rfl (lv_at hl 4 rfl) ?_
            refine lv_aload_n hx hb dX8_decode_65 rfl (lv_at hl 4 rfl) ?_
            refine va_get (D := D) (ci := 7) (v := .int (R10.2.1 3)) (C := RX8) (T := TX8) (N := 21) hx hb hts (fun w h => List.mem_cons_of_mem _ (List.mem_append_right _ h)) hown hK hP 0 rfl rfl 15 (by decide) (hts (.fieldLink RX8 134 "DeltaWindowsModel" "bad" "Z") (List.mem_of_getElem? (i := 1) rfl)) (fun _ h9 => h9) rfl dX8_decode_66 ?_
            refine lv_if_ne (tgt := 81) hx hb dX8_decode_69 (by decide) (fun c12 => ?_) (fun c12 => ?_)
            · rw [if_neg c12] at hf
              refine lv_iconst (v := (1 : Int32)) hx hb dX8_decode_81 (by decide) ?_
              refine lv_goto (tgt := 86) hx hb dX8_decode_82 (by decide) ?_
              refine va_put (D := D) (ci := 7) (v := .int (1 : Int32)) (ty := .boolean) (C := RX8) (T := TX8) (N := 21) hx hb hts (fun w h => List.mem_cons_of_mem _ (List.mem_append_right _ h)) tyX8 tyX8_ok nmX8 hown hK hP hD hS 0 rfl rfl 15 (by decide) (hts (.fieldLink RX8 134 "DeltaWindowsModel" "bad" "Z") (List.mem_of_getElem? (i := 1) rfl)) (fun _ h9 => h9) rfl (by decide +kernel) rfl rfl (Nat.le_of_ble_eq_true rfl) dX8_decode_86 (fun H locs hP hD hS => ?_)
              have hP : va_P D vwCl (wM q cA (va_up R10.2.1 3 (1 : Int32)) R10.2.2) H := va_P_eq (wM_s3 q cA R10.2.1 R10.2.2 (1 : Int32)) hP
              have hD : va_D A (wM q cA (va_up R10.2.1 3 (1 : Int32)) R10.2.2) := va_D_eq (wM_s3 q cA R10.2.1 R10.2.2 (1 : Int32)) hD
              refine lv_iinc (v := (v3 + (1 : Int32))) (lv' := [(3, .int (v3 + (1 : Int32))), (4, .int R10.1), (1, .int v1), (2, .int v2), (0, .ref (q 0))]) hx hb dX8_decode_89 hl (k := 1) rfl rfl (by decide) rfl (fun ls hl => ?_)
              refine lv_goto (tgt := 52) hx hb dX8_decode_92 (by decide) ?_
              exact ih (v3 + (1 : Int32)) (va_up R10.2.1 3 (1 : Int32)) R10.2.2 _ _ _ o (lv_sub hl [0, 2, 3, 4] rfl) hP hD hS hf kont
            · rw [if_pos c12] at hf
              refine lv_iload hx hb dX8_decode_72 (lv_at hl 0 rfl) ?_
              refine lv_iload_n hx hb dX8_decode_74 rfl (lv_at hl 1 rfl) ?_
              obtain ⟨R13, hc14, hf⟩ := b_inv hf
              have hk := kcut (wc := ([] : va_W)) (wc' := ([] : va_W)) (wf := (wM q cA R10.2.1 R10.2.2)) hP hD hS hA [] rfl (by decide) rfl rfl
              refine k_goI (va_runS (As := [.int v3]) (rest := [.int R10.1, .ref (q 0)]) ⟨hx, hb, hml, hown, hts⟩ (kX8_head l D v3 hc14 _) ⟨callB_of 1 hts ggX8_decode_X8_head rfl rfl rfl (hts (.initialized RX8) (List.mem_of_getElem? (i := 10) rfl)) (hts (.methodLink RX8 125 yX8_head) (List.mem_of_getElem? (i := 19) rfl)) (by decide +kernel) ⟨Nat.le_of_ble_eq_true rfl, Nat.le_of_ble_eq_true rfl⟩, (hts (.static yX8_head) (List.mem_of_getElem? (i := 20) rfl))⟩ (k_preS hk (hK.sub [] rfl) NT_bl NT_u) rfl rfl hl.1 rfl (lv_room (Nat.le_of_ble_eq_true rfl)) dX8_decode_75 ⟨Nat.zero_le _, Nat.zero_le _⟩) hk hS (fun H locs hP hD hS => ?_)
              refine lv_icmp_eq (tgt := 85) hx hb dX8_decode_78 (by decide) (fun c15 => ?_) (fun c15 => ?_)
              · rw [if_pos c15] at hf
                refine lv_iconst (v := (0 : Int32)) hx hb dX8_decode_85 (by decide) ?_
                refine va_put (D := D) (ci := 7) (v := .int (0 : Int32)) (ty := .boolean) (C := RX8) (T := TX8) (N := 21) hx hb hts (fun w h => List.mem_cons_of_mem _ (List.mem_append_right _ h)) tyX8 tyX8_ok nmX8 hown hK hP hD hS 0 rfl rfl 15 (by decide) (hts (.fieldLink RX8 134 "DeltaWindowsModel" "bad" "Z") (List.mem_of_getElem? (i := 1) rfl)) (fun _ h9 => h9) rfl (by decide +kernel) rfl rfl (Nat.le_of_ble_eq_true rfl) dX8_decode_86 (fun H locs hP hD hS => ?_)
                have hP : va_P D vwCl (wM q cA (va_up R10.2.1 3 (0 : Int32)) R10.2.2) H := va_P_eq (wM_s3 q cA R10.2.1 R10.2.2 (0 : Int32)) hP
                have hD : va_D A (wM q cA (va_up R10.2.1 3 (0 : Int32)) R10.2.2) := va_D_eq (wM_s3 q cA R10.2.1 R10.2.2 (0 : Int32)) hD
                refine lv_iinc (v := (v3 + (1 : Int32))) (lv' := [(3, .int (v3 + (1 : Int32))), (4, .int R10.1), (1, .int v1), (2, .int v2), (0, .ref (q 0))]) hx hb dX8_decode_89 hl (k := 1) rfl rfl (by decide) rfl (fun ls hl => ?_)
                refine lv_goto (tgt := 52) hx hb dX8_decode_92 (by decide) ?_
                exact ih (v3 + (1 : Int32)) (va_up R10.2.1 3 (0 : Int32)) R10.2.2 _ _ _ o (lv_sub hl [0, 2, 3, 4] rfl) hP hD hS hf kont
              · rw [if_neg c15] at hf
                refine lv_iconst (v := (1 : Int32)) hx hb dX8_decode_81 (by decide) ?_
                refine lv_goto (tgt := 86) hx hb dX8_decode_82 (by decide) ?_
                refine va_put (D := D) (ci := 7) (v := .int (1 : Int32)) (ty := .boolean) (C := RX8) (T := TX8) (N := 21) hx hb hts (fun w h => List.mem_cons_of_mem _ (List.mem_append_right _ h)) tyX8 tyX8_ok nmX8 hown hK hP hD hS 0 rfl rfl 15 (by decide) (hts (.fieldLink RX8 134 "DeltaWindowsModel" "bad" "Z") (List.mem_of_getElem? (i := 1) rfl)) (fun _ h9 => h9) rfl (by decide +kernel) rfl rfl (Nat.le_of_ble_eq_true rfl) dX8_decode_86 (fun H locs hP hD hS => ?_)
                have hP : va_P D vwCl (wM q cA (va_up R10.2.1 3 (1 : Int32)) R10.2.2) H := va_P_eq (wM_s3 q cA R10.2.1 R10.2.2 (1 : Int32)) hP
                have hD : va_D A (wM q cA (va_up R10.2.1 3 (1 : Int32)) R10.2.2) := va_D_eq (wM_s3 q cA R10.2.1 R10.2.2 (1 : Int32)) hD
                refine lv_iinc (v := (v3 + (1 : Int32))) (lv' := [(3, .int (v3 + (1 : Int32))), (4, .int R10.1), (1, .int v1), (2, .int v2), (0, .ref (q 0))]) hx hb dX8_decode_89 hl (k := 1) rfl rfl (by decide) rfl (fun ls hl => ?_)
                refine lv_goto (tgt := 52) hx hb dX8_decode_92 (by decide) ?_
                exact ih (v3 + (1 : Int32)) (va_up R10.2.1 3 (1 : Int32)) R10.2.2 _ _ _ o (lv_sub hl [0, 2, 3, 4] rfl) hP hD hS hf kont
      obtain ⟨R16, hc17, hf⟩ := b_inv hf
      refine lp41 x1 (0 : Int32) FU (0 : Int32) R7.1 R7.2 _ _ _ R16 (lv_sub hl [0, 3, 1, 2] rfl) hP hD hS hc17 (fun H locs ls hl hP hD hS => ?_)
      refine lv_aload_n hx hb dX8_decode_95 rfl (lv_at hl 2 rfl) ?_
      refine va_get (D := D) (ci := 7) (v := .int (R16.1 3)) (C := RX8) (T := TX8) (N := 21) hx hb hts (fun w h => List.mem_cons_of_mem _ (List.mem_append_right _ h)) hown hK hP 0 rfl rfl 15 (by decide) (hts (.fieldLink RX8 134 "DeltaWindowsModel" "bad" "Z") (List.mem_of_getElem? (i := 1) rfl)) (fun _ h9 => h9) rfl dX8_decode_96 ?_
      obtain ⟨R20, hj42, hf⟩ := b_inv hf
      have kont : ∀ (H : Heap) (locs : List Loc) (ls : Array Slot), lv_has ls 5 [(0, .ref (q 0)), (1, .int x1), (2, .int (0 : Int32))] → va_P D vwCl (wM q cA R16.1 R16.2) H → va_D A (wM q cA R16.1 R16.2) → va_S A s.heap H locs → W p l e (headSpec wsX8_decode (rmD 6)).room s m ([.ref (q 0), .int x1] : List Value).toArray below meth cd H locs 0 0 (QI D below ([.ref (q 0), .int x1] : List Value).toArray s A R.1 (wM q cA R.2.1 R.2.2)) (F0 m 108 ls [.int R20]) := by
        intro H locs ls hl hP hD hS
        refine lv_istore_n (lv' := [(3, .int R20), (0, .ref (q 0)), (1, .int x1), (2, .int (0 : Int32))]) hx hb dX8_decode_108 rfl hl (by decide) rfl (fun ls hl => ?_)
        have lp43 : ∀ (v1 : Int32), ∀ (k : Nat) (v2 : Int32) (v3 : Int32) (sc : Nat → Int32) (ar : Nat → Nat → Int32) (H : Heap) (locs : List Loc) (ls : Array Slot) (o : Int32 × Int32 × (Nat → Int32) × (Nat → Nat → Int32)), lv_has ls 5 [(2, .int v2), (3, .int v3), (1, .int v1), (0, .ref (q 0))] → va_P D vwCl (wM q cA sc ar) H → va_D A (wM q cA sc ar) → va_S A s.heap H locs → fX8_decode_L109 v1 k v2 v3 sc ar = some o → (∀ (H : Heap) (locs : List Loc) (ls : Array Slot), lv_has ls 5 [(2, .int o.1), (3, .int o.2.1), (0, .ref (q 0))] → va_P D vwCl (wM q cA o.2.2.1 o.2.2.2) H → va_D A (wM q cA o.2.2.1 o.2.2.2) → va_S A s.heap H locs → W p l e (headSpec wsX8_decode (rmD 6)).room s m ([.ref (q 0), .int x1] : List Value).toArray below meth cd H locs 0 0 (QI D below ([.ref (q 0), .int x1] : List Value).toArray s A R.1 (wM q cA R.2.1 R.2.2)) (F0 m 140 ls [])) → W p l e (headSpec wsX8_decode (rmD 6)).room s m ([.ref (q 0), .int x1] : List Value).toArray below meth cd H locs 0 0 (QI D below ([.ref (q 0), .int x1] : List Value).toArray s A R.1 (wM q cA R.2.1 R.2.2)) (F0 m 109 ls []) := by
          intro v1
          intro k
          induction k with
          | zero =>
            intro v2 v3 sc ar H locs ls o hl hP hD hS hf
            exact absurd hf (by simp [fX8_decode_L109])
          | succ k ih =>
            intro v2 v3 sc ar H locs ls o hl hP hD hS hf kont
            rw [fX8_decode_L109] at hf
            refine lv_iload_n hx hb dX8_decode_109 rfl (lv_at hl 1 rfl) ?_
            refine lv_if_ne (tgt := 140) hx hb dX8_decode_110 (by decide) (fun c21 => ?_) (fun c21 => ?_)
            · rw [if_neg c21] at hf
              obtain rfl := Option.some.inj hf
              exact kont _ _ _ (lv_sub hl [0, 1, 3] rfl) hP hD hS
            · rw [if_pos c21] at hf
              refine lv_aload_n hx hb dX8_decode_113 rfl (lv_at hl 3 rfl) ?_
              refine va_get (D := D) (ci := 7) (v := .ref (q 11)) (C := RX8) (T := TX8) (N := 21) hx hb hts (fun w h => List.mem_cons_of_mem _ (List.mem_append_right _ h)) hown hK hP 0 rfl rfl 13 (by decide) (hts (.fieldLink RX8 40 "DeltaWindowsModel" "place" "[I") (List.mem_of_getElem? (i := 2) rfl)) (fun _ h9 => h9) rfl dX8_decode_114 ?_
              refine lv_iconst (v := (3 : Int32)) hx hb dX8_decode_117 (by decide) ?_
              obtain ⟨g22, hf⟩ := g_inv hf
              refine va_iald (f := (ar 10)) hx hb hK hP 11 10 rfl rfl (inb_vp g22) dX8_decode_118 ?_
              refine lv_aload_n hx hb dX8_decode_119 rfl (lv_at hl 3 rfl) ?_
              refine va_get (D := D) (ci := 7) (v := .ref (q 12)) (C := RX8) (T := TX8) (N := 21) hx hb hts (fun w h => List.mem_cons_of_mem _ (List.mem_append_right _ h)) hown hK hP 0 rfl rfl 14 (by decide) (hts (.fieldLink RX8 43 "DeltaWindowsModel" "stop" "[I") (List.mem_of_getElem? (i := 3) rfl)) (fun _ h9 => h9) rfl dX8_decode_120 ?_
              refine lv_iconst (v := (3 : Int32)) hx hb dX8_decode_123 (by decide) ?_
              obtain ⟨g23, hf⟩ := g_inv hf
              refine va_iald (f := (ar 11)) hx hb hK hP 12 11 rfl rfl (inb_vp g23) dX8_decode_124 ?_
              refine lv_icmp_ge (tgt := 140) hx hb dX8_decode_125 (by decide) (fun c24 => ?_) (fun c24 => ?_)
              · rw [if_pos c24] at hf
                obtain rfl := Option.some.inj hf
                exact kont _ _ _ (lv_sub hl [0, 1, 3] rfl) hP hD hS
              · rw [if_neg c24] at hf
                refine lv_aload_n hx hb dX8_decode_128 rfl (lv_at hl 3 rfl) ?_
                refine lv_iload_n hx hb dX8_decode_129 rfl (lv_at hl 2 rfl) ?_
                obtain ⟨R25, hc26, hf⟩ := b_inv hf
                have hk := kall (wc' := (wM q cA R25.2.1 R25.2.2)) hP hD hS hA rfl
                refine k_goI (va_runV (As := [.int v1]) (rest := []) ⟨hx, hb, hml, hown, hts⟩ (kX8_readWindow l D q cA sc ar v1 hc26 _) (cwV 1 hts gX8_decode_X8_readWindow rfl rfl rfl (by decide +kernel) ⟨Nat.le_of_ble_eq_true rfl, Nat.le_of_ble_eq_true rfl⟩) (k_preV (q0 := 0) (ci := 7) hk hK NT_bl NT_u rfl rfl rfl) rfl rfl hl.1 rfl (lv_room (Nat.le_of_ble_eq_true rfl)) dX8_decode_130 ⟨Nat.zero_le _, Nat.zero_le _⟩) hk hS (fun H locs hP hD hS => ?_)
                refine lv_istore_n (lv' := [(3, .int R25.1), (2, .int v2), (1, .int v1), (0, .ref (q 0))]) hx hb dX8_decode_133 rfl hl (by decide) rfl (fun ls hl => ?_)
                refine lv_iinc (v := (v2 + (1 : Int32))) (lv' := [(2, .int (v2 + (1 : Int32))), (3, .int R25.1), (1, .int v1), (0, .ref (q 0))]) hx hb dX8_decode_134 hl (k := 1) rfl rfl (by decide) rfl (fun ls hl => ?_)
                refine lv_goto (tgt := 109) hx hb dX8_decode_137 (by decide) ?_
                exact ih (v2 + (1 : Int32)) R25.1 R25.2.1 R25.2.2 _ _ _ o (lv_sub hl [0, 1, 2, 3] rfl) hP hD hS hf kont
        obtain ⟨R27, hc28, hf⟩ := b_inv hf
        refine lp43 x1 FU (0 : Int32) R20 R16.1 R16.2 _ _ _ R27 (lv_sub hl [3, 0, 2, 1] rfl) hP hD hS hc28 (fun H locs ls hl hP hD hS => ?_)
        refine lv_iload_n hx hb dX8_decode_140 rfl (lv_at hl 1 rfl) ?_
        refine lv_if_ge (tgt := 146) hx hb dX8_decode_141 (by decide) (fun c29 => ?_) (fun c29 => ?_)
        · rw [if_pos c29] at hf
          refine lv_iconst (v := (0 : Int32)) hx hb dX8_decode_146 (by decide) ?_
          refine lv_istore (lv' := [(4, .int (0 : Int32)), (2, .int R27.1), (3, .int R27.2.1), (0, .ref (q 0))]) hx hb dX8_decode_147 hl (by decide) rfl (fun ls hl => ?_)
          have lp44 : ∀ (sc : Nat → Int32) (v2 : Int32), ∀ (k : Nat) (v4 : Int32) (ar : Nat → Nat → Int32) (H : Heap) (locs : List Loc) (ls : Array Slot) (o : (Nat → Nat → Int32)), lv_has ls 5 [(4, .int v4), (2, .int v2), (0, .ref (q 0))] → va_P D vwCl (wM q cA sc ar) H → va_D A (wM q cA sc ar) → va_S A s.heap H locs → fX8_decode_L149 sc v2 k v4 ar = some o → (∀ (H : Heap) (locs : List Loc) (ls : Array Slot), lv_has ls 5 [(2, .int v2), (0, .ref (q 0))] → va_P D vwCl (wM q cA sc o) H → va_D A (wM q cA sc o) → va_S A s.heap H locs → W p l e (headSpec wsX8_decode (rmD 6)).room s m ([.ref (q 0), .int x1] : List Value).toArray below meth cd H locs 0 0 (QI D below ([.ref (q 0), .int x1] : List Value).toArray s A R.1 (wM q cA R.2.1 R.2.2)) (F0 m 188 ls [])) → W p l e (headSpec wsX8_decode (rmD 6)).room s m ([.ref (q 0), .int x1] : List Value).toArray below meth cd H locs 0 0 (QI D below ([.ref (q 0), .int x1] : List Value).toArray s A R.1 (wM q cA R.2.1 R.2.2)) (F0 m 149 ls []) := by
            intro sc v2
            intro k
            induction k with
            | zero =>
              intro v4 ar H locs ls o hl hP hD hS hf
              exact absurd hf (by simp [fX8_decode_L149])
            | succ k ih =>
              intro v4 ar H locs ls o hl hP hD hS hf kont
              rw [fX8_decode_L149] at hf
              refine lv_iload hx hb dX8_decode_149 (lv_at hl 0 rfl) ?_
              refine lv_aload_n hx hb dX8_decode_151 rfl (lv_at hl 2 rfl) ?_
              refine va_get (D := D) (ci := 7) (v := .ref (q 2)) (C := RX8) (T := TX8) (N := 21) hx hb hts (fun w h => List.mem_cons_of_mem _ (List.mem_append_right _ h)) hown hK hP 0 rfl rfl 1 (by decide) (hts (.fieldLink RX8 13 "DeltaWindowsModel" "length" "[I") (List.mem_of_getElem? (i := 4) rfl)) (fun _ h9 => h9) rfl dX8_decode_152 ?_
              refine lv_iconst (v := (4 : Int32)) hx hb dX8_decode_155 (by decide) ?_
              obtain ⟨g30, hf⟩ := g_inv hf
              refine va_iald (f := (ar 1)) hx hb hK hP 2 1 rfl rfl (inb_vp g30) dX8_decode_156 ?_
              refine lv_icmp_ge (tgt := 188) hx hb dX8_decode_157 (by decide) (fun c31 => ?_) (fun c31 => ?_)
              · rw [if_pos c31] at hf
                obtain rfl := Option.some.inj hf
                exact kont _ _ _ (lv_sub hl [1, 2] rfl) hP hD hS
              · rw [if_neg c31] at hf
                refine lv_aload_n hx hb dX8_decode_160 rfl (lv_at hl 2 rfl) ?_
                refine va_get (D := D) (ci := 7) (v := .ref (q 1)) (C := RX8) (T := TX8) (N := 21) hx hb hts (fun w h => List.mem_cons_of_mem _ (List.mem_append_right _ h)) hown hK hP 0 rfl rfl 0 (by decide) (hts (.fieldLink RX8 7 "DeltaWindowsModel" "cell" "[I") (List.mem_of_getElem? (i := 5) rfl)) (fun _ h9 => h9) rfl dX8_decode_161 ?_
                refine lv_sipush (v := (3000 : Int32)) hx hb dX8_decode_164 (by decide) ?_
                refine lv_iload hx hb dX8_decode_167 (lv_at hl 0 rfl) ?_
                refine lv_iadd hx hb dX8_decode_169 ?_
                refine lv_aload_n hx hb dX8_decode_170 rfl (lv_at hl 2 rfl) ?_
                refine va_get (D := D) (ci := 7) (v := .ref (q 1)) (C := RX8) (T := TX8) (N := 21) hx hb hts (fun w h => List.mem_cons_of_mem _ (List.mem_append_right _ h)) hown hK hP 0 rfl rfl 0 (by decide) (hts (.fieldLink RX8 7 "DeltaWindowsModel" "cell" "[I") (List.mem_of_getElem? (i := 5) rfl)) (fun _ h9 => h9) rfl dX8_decode_171 ?_
                refine lv_sipush (v := (4000 : Int32)) hx hb dX8_decode_174 (by decide) ?_
                refine lv_iload hx hb dX8_decode_177 (lv_at hl 0 rfl) ?_
                refine lv_iadd hx hb dX8_decode_179 ?_
                obtain ⟨g32, hf⟩ := g_inv hf
                refine va_iald (f := (ar 0)) hx hb hK hP 1 0 rfl rfl (inb_vp g32) dX8_decode_180 ?_
                obtain ⟨g33, hf⟩ := g_inv hf
                refine va_iast (f := (ar 0)) hx hb hK hP hD hS 1 0 rfl rfl (inb_vp g33) dX8_decode_181 (fun H locs hP hD hS => ?_)
                have hP : va_P D vwCl (wM q cA sc (va_up ar 0 (upd (ar 0) ((3000 : Int32) + v4).toNatClampNeg ((ar 0) ((4000 : Int32) + v4).toNatClampNeg)))) H := va_P_eq (wM_a0 q cA sc ar (upd (ar 0) ((3000 : Int32) + v4).toNatClampNeg ((ar 0) ((4000 : Int32) + v4).toNatClampNeg))) hP
                have hD : va_D A (wM q cA sc (va_up ar 0 (upd (ar 0) ((3000 : Int32) + v4).toNatClampNeg ((ar 0) ((4000 : Int32) + v4).toNatClampNeg)))) := va_D_eq (wM_a0 q cA sc ar (upd (ar 0) ((3000 : Int32) + v4).toNatClampNeg ((ar 0) ((4000 : Int32) + v4).toNatClampNeg))) hD
                refine lv_iinc (v := (v4 + (1 : Int32))) (lv' := [(4, .int (v4 + (1 : Int32))), (2, .int v2), (0, .ref (q 0))]) hx hb dX8_decode_182 hl (k := 0) rfl rfl (by decide) rfl (fun ls hl => ?_)
                refine lv_goto (tgt := 149) hx hb dX8_decode_185 (by decide) ?_
                exact ih (v4 + (1 : Int32)) (va_up ar 0 (upd (ar 0) ((3000 : Int32) + v4).toNatClampNeg ((ar 0) ((4000 : Int32) + v4).toNatClampNeg))) _ _ _ o (lv_sub hl [0, 1, 2] rfl) hP hD hS hf kont
          obtain ⟨R34, hc35, hf⟩ := b_inv hf
          refine lp44 R27.2.2.1 R27.1 FU (0 : Int32) R27.2.2.2 _ _ _ R34 (lv_sub hl [0, 1, 3] rfl) hP hD hS hc35 (fun H locs ls hl hP hD hS => ?_)
          refine lv_aload_n hx hb dX8_decode_188 rfl (lv_at hl 1 rfl) ?_
          refine va_get (D := D) (ci := 7) (v := .ref (q 2)) (C := RX8) (T := TX8) (N := 21) hx hb hts (fun w h => List.mem_cons_of_mem _ (List.mem_append_right _ h)) hown hK hP 0 rfl rfl 1 (by decide) (hts (.fieldLink RX8 13 "DeltaWindowsModel" "length" "[I") (List.mem_of_getElem? (i := 4) rfl)) (fun _ h9 => h9) rfl dX8_decode_189 ?_
          refine lv_iconst (v := (3 : Int32)) hx hb dX8_decode_192 (by decide) ?_
          refine lv_aload_n hx hb dX8_decode_193 rfl (lv_at hl 1 rfl) ?_
          refine va_get (D := D) (ci := 7) (v := .ref (q 2)) (C := RX8) (T := TX8) (N := 21) hx hb hts (fun w h => List.mem_cons_of_mem _ (List.mem_append_right _ h)) hown hK hP 0 rfl rfl 1 (by decide) (hts (.fieldLink RX8 13 "DeltaWindowsModel" "length" "[I") (List.mem_of_getElem? (i := 4) rfl)) (fun _ h9 => h9) rfl dX8_decode_194 ?_
          refine lv_iconst (v := (4 : Int32)) hx hb dX8_decode_197 (by decide) ?_
          obtain ⟨g36, hf⟩ := g_inv hf
          refine va_iald (f := (R34 1)) hx hb hK hP 2 1 rfl rfl (inb_vp g36) dX8_decode_198 ?_
          obtain ⟨g37, hf⟩ := g_inv hf
          refine va_iast (f := (R34 1)) hx hb hK hP hD hS 2 1 rfl rfl (inb_vp g37) dX8_decode_199 (fun H locs hP hD hS => ?_)
          have hP : va_P D vwCl (wM q cA R27.2.2.1 (va_up R34 1 (upd (R34 1) (3 : Int32).toNatClampNeg ((R34 1) (4 : Int32).toNatClampNeg)))) H := va_P_eq (wM_a1 q cA R27.2.2.1 R34 (upd (R34 1) (3 : Int32).toNatClampNeg ((R34 1) (4 : Int32).toNatClampNeg))) hP
          have hD : va_D A (wM q cA R27.2.2.1 (va_up R34 1 (upd (R34 1) (3 : Int32).toNatClampNeg ((R34 1) (4 : Int32).toNatClampNeg)))) := va_D_eq (wM_a1 q cA R27.2.2.1 R34 (upd (R34 1) (3 : Int32).toNatClampNeg ((R34 1) (4 : Int32).toNatClampNeg))) hD
          refine lv_aload_n hx hb dX8_decode_200 rfl (lv_at hl 1 rfl) ?_
          refine lv_iload_n hx hb dX8_decode_201 rfl (lv_at hl 0 rfl) ?_
          refine va_put (D := D) (ci := 7) (v := .int R27.1) (ty := .int) (C := RX8) (T := TX8) (N := 21) hx hb hts (fun w h => List.mem_cons_of_mem _ (List.mem_append_right _ h)) tyX8 tyX8_ok nmX8 hown hK hP hD hS 0 rfl rfl 2 (by decide) (hts (.fieldLink RX8 188 "DeltaWindowsModel" "windows" "I") (List.mem_of_getElem? (i := 6) rfl)) (fun _ h9 => h9) rfl (by decide +kernel) rfl rfl (Nat.le_of_ble_eq_true rfl) dX8_decode_202 (fun H locs hP hD hS => ?_)
          have hP : va_P D vwCl (wM q cA (va_up R27.2.2.1 0 R27.1) (va_up R34 1 (upd (R34 1) (3 : Int32).toNatClampNeg ((R34 1) (4 : Int32).toNatClampNeg)))) H := va_P_eq (wM_s0 q cA R27.2.2.1 (va_up R34 1 (upd (R34 1) (3 : Int32).toNatClampNeg ((R34 1) (4 : Int32).toNatClampNeg))) R27.1) hP
          have hD : va_D A (wM q cA (va_up R27.2.2.1 0 R27.1) (va_up R34 1 (upd (R34 1) (3 : Int32).toNatClampNeg ((R34 1) (4 : Int32).toNatClampNeg)))) := va_D_eq (wM_s0 q cA R27.2.2.1 (va_up R34 1 (upd (R34 1) (3 : Int32).toNatClampNeg ((R34 1) (4 : Int32).toNatClampNeg))) R27.1) hD
          refine lv_aload_n hx hb dX8_decode_205 rfl (lv_at hl 1 rfl) ?_
          refine lv_iconst (v := (1 : Int32)) hx hb dX8_decode_206 (by decide) ?_
          obtain ⟨R38, hc39, hf⟩ := b_inv hf
          have hk := kall (wc' := (wM q cA (va_up R27.2.2.1 0 R27.1) R38)) hP hD hS hA rfl
          refine k_goV (va_runV (As := [.int (1 : Int32)]) (rest := []) ⟨hx, hb, hml, hown, hts⟩ (kX8_show l D q cA (va_up R27.2.2.1 0 R27.1) (va_up R34 1 (upd (R34 1) (3 : Int32).toNatClampNeg ((R34 1) (4 : Int32).toNatClampNeg))) (1 : Int32) hc39 _) (cwV 1 hts gX8_decode_X8_show rfl rfl rfl (by decide +kernel) ⟨Nat.le_of_ble_eq_true rfl, Nat.le_of_ble_eq_true rfl⟩) (k_preV (q0 := 0) (ci := 7) hk hK NT_bl NT_u rfl rfl rfl) rfl rfl hl.1 rfl (lv_room (Nat.le_of_ble_eq_true rfl)) dX8_decode_207 ⟨Nat.zero_le _, Nat.zero_le _⟩) hk hS (fun H locs hP hD hS => ?_)
          refine lv_aload_n hx hb dX8_decode_210 rfl (lv_at hl 1 rfl) ?_
          refine va_get (D := D) (ci := 7) (v := .ref (q 2)) (C := RX8) (T := TX8) (N := 21) hx hb hts (fun w h => List.mem_cons_of_mem _ (List.mem_append_right _ h)) hown hK hP 0 rfl rfl 1 (by decide) (hts (.fieldLink RX8 13 "DeltaWindowsModel" "length" "[I") (List.mem_of_getElem? (i := 4) rfl)) (fun _ h9 => h9) rfl dX8_decode_211 ?_
          refine lv_iconst (v := (3 : Int32)) hx hb dX8_decode_214 (by decide) ?_
          obtain ⟨g40, hf⟩ := g_inv hf
          refine va_iald (f := (R38 1)) hx hb hK hP 2 1 rfl rfl (inb_vp g40) dX8_decode_215 ?_
          obtain rfl := Option.some.inj hf
          exact k_retI hx hb hr hlocks hP hS dX8_decode_216
        · rw [if_neg c29] at hf
          refine lv_iload_n hx hb dX8_decode_144 rfl (lv_at hl 1 rfl) ?_
          obtain rfl := Option.some.inj hf
          exact k_retI hx hb hr hlocks hP hS dX8_decode_145
      refine lv_if_eq (tgt := 107) hx hb dX8_decode_99 (by decide) (fun c19 => ?_) (fun c19 => ?_)
      · rw [if_pos c19] at hj42
        refine lv_iconst (v := (0 : Int32)) hx hb dX8_decode_107 (by decide) ?_
        obtain rfl := Option.some.inj hj42
        exact kont _ _ _ (lv_sub hl [2, 0, 1] rfl) hP hD hS
      · rw [if_neg c19] at hj42
        refine lv_bipush (v := (-2 : Int32)) hx hb dX8_decode_102 (by decide) ?_
        refine lv_goto (tgt := 108) hx hb dX8_decode_104 (by decide) ?_
        obtain rfl := Option.some.inj hj42
        exact kont _ _ _ (lv_sub hl [2, 0, 1] rfl) hP hD hS
    · rw [if_neg c2] at hf
      refine lv_iconst (v := (-1 : Int32)) hx hb dX8_decode_11 (by decide) ?_
      obtain rfl := Option.some.inj hf
      exact k_retI hx hb hr hlocks hP hS dX8_decode_12

noncomputable def fX8_windows (sc : Nat → Int32) (ar : Nat → Nat → Int32) : Option (Int32) :=
  some (sc 0)

set_option maxHeartbeats 4000000 in
set_option maxRecDepth 100000 in
theorem kX8_windows (l : Launch) (D : va_G) (q : Nat → Nat) (cA : Nat → ClassId) (sc : Nat → Int32) (ar : Nat → Nat → Int32) {R : Int32} (hf : fX8_windows sc ar = some R) : MI l yX8_windows wsX8_windows (rmD 0) D ([.ref (q 0)] : List Value) (wM q cA sc ar) (tM cA) NT R (wM q cA sc ar) := by
  refine MI.mk (cc := cX8_windows) (maxL := 1) (ret := (some .int)) (by first | decide | decide +kernel) rfl (Nat.le_of_ble_eq_true rfl) ?_
  intro p e s m below meth cd A ls hE
  obtain ⟨hx, hb, hr, hml, hts, hown, hlocks, hP, hK, hD, hA, hN, hAe, hl⟩ := hE
  have hown : s.vm.findClass RX8 = some m.cls := hown
  have hS : va_S A s.heap s.heap [] := va_S.rf
  have hl : lv_has ls 1 [(0, .ref (q 0))] := hl
  rw [fX8_windows] at hf
  refine lv_aload_n hx hb dX8_windows_0 rfl (lv_at hl 0 rfl) ?_
  refine va_get (D := D) (ci := 7) (v := .int (sc 0)) (C := RX8) (T := TX8) (N := 21) hx hb hts (fun w h => List.mem_cons_of_mem _ (List.mem_append_right _ h)) hown hK hP 0 rfl rfl 2 (by decide) (hts (.fieldLink RX8 188 "DeltaWindowsModel" "windows" "I") (List.mem_of_getElem? (i := 1) rfl)) (fun _ h9 => h9) rfl dX8_windows_1 ?_
  obtain rfl := Option.some.inj hf
  exact k_retI hx hb hr hlocks hP hS dX8_windows_4
