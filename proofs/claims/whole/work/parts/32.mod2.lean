noncomputable def fX8_append (sc : Nat → Int32) (ar : Nat → Nat → Int32) (x1 : Int32) (x2 : Int32) : Option ((Nat → Nat → Int32)) :=
  if inb x1 5 = true then
  if inb (((1000 : Int32) * x1) + ((ar 1) x1.toNatClampNeg)) 5000 = true then
  if inb x1 5 = true then
  if inb x1 5 = true then
  some (va_up (va_up ar 0 (upd (ar 0) (((1000 : Int32) * x1) + ((ar 1) x1.toNatClampNeg)).toNatClampNeg x2)) 1 (upd (ar 1) x1.toNatClampNeg (((ar 1) x1.toNatClampNeg) + (1 : Int32))))
  else none
  else none
  else none
  else none

set_option maxHeartbeats 4000000 in
set_option maxRecDepth 100000 in
theorem kX8_append (l : Launch) (D : va_G) (q : Nat → Nat) (cA : Nat → ClassId) (sc : Nat → Int32) (ar : Nat → Nat → Int32) (x1 : Int32) (x2 : Int32) {R : (Nat → Nat → Int32)} (hf : fX8_append sc ar x1 x2 = some R) : MV l yX8_append wsX8_append (rmD 0) D ([.ref (q 0), .int x1, .int x2] : List Value) (wM q cA sc ar) (tM cA) NT (wM q cA sc R) := by
  refine MV.mk (cc := cX8_append) (maxL := 3) (ret := none) (by first | decide | decide +kernel) rfl (Nat.le_of_ble_eq_true rfl) ?_
  intro p e s m below meth cd A ls hE
  obtain ⟨hx, hb, hr, hml, hts, hown, hlocks, hP, hK, hD, hA, hN, hAe, hl⟩ := hE
  have hown : s.vm.findClass RX8 = some m.cls := hown
  have hS : va_S A s.heap s.heap [] := va_S.rf
  have hl : lv_has ls 3 [(0, .ref (q 0)), (1, .int x1), (2, .int x2)] := hl
  rw [fX8_append] at hf
  refine lv_aload_n hx hb dX8_append_0 rfl (lv_at hl 0 rfl) ?_
  refine va_get (D := D) (ci := 7) (v := .ref (q 1)) (C := RX8) (T := TX8) (N := 21) hx hb hts (fun w h => List.mem_cons_of_mem _ (List.mem_append_right _ h)) hown hK hP 0 rfl rfl 0 (by decide) (hts (.fieldLink RX8 7 "DeltaWindowsModel" "cell" "[I") (List.mem_of_getElem? (i := 1) rfl)) (fun _ h9 => h9) rfl dX8_append_1 ?_
  refine lv_sipush (v := (1000 : Int32)) hx hb dX8_append_4 (by decide) ?_
  refine lv_iload_n hx hb dX8_append_7 rfl (lv_at hl 1 rfl) ?_
  refine lv_imul hx hb dX8_append_8 ?_
  refine lv_aload_n hx hb dX8_append_9 rfl (lv_at hl 0 rfl) ?_
  refine va_get (D := D) (ci := 7) (v := .ref (q 2)) (C := RX8) (T := TX8) (N := 21) hx hb hts (fun w h => List.mem_cons_of_mem _ (List.mem_append_right _ h)) hown hK hP 0 rfl rfl 1 (by decide) (hts (.fieldLink RX8 13 "DeltaWindowsModel" "length" "[I") (List.mem_of_getElem? (i := 2) rfl)) (fun _ h9 => h9) rfl dX8_append_10 ?_
  refine lv_iload_n hx hb dX8_append_13 rfl (lv_at hl 1 rfl) ?_
  obtain ⟨g1, hf⟩ := g_inv hf
  refine va_iald (f := (ar 1)) hx hb hK hP 2 1 rfl rfl (inb_vp g1) dX8_append_14 ?_
  refine lv_iadd hx hb dX8_append_15 ?_
  refine lv_iload_n hx hb dX8_append_16 rfl (lv_at hl 2 rfl) ?_
  obtain ⟨g2, hf⟩ := g_inv hf
  refine va_iast (f := (ar 0)) hx hb hK hP hD hS 1 0 rfl rfl (inb_vp g2) dX8_append_17 (fun H locs hP hD hS => ?_)
  have hP : va_P D vwCl (wM q cA sc (va_up ar 0 (upd (ar 0) (((1000 : Int32) * x1) + ((ar 1) x1.toNatClampNeg)).toNatClampNeg x2))) H := va_P_eq (wM_a0 q cA sc ar (upd (ar 0) (((1000 : Int32) * x1) + ((ar 1) x1.toNatClampNeg)).toNatClampNeg x2)) hP
  have hD : va_D A (wM q cA sc (va_up ar 0 (upd (ar 0) (((1000 : Int32) * x1) + ((ar 1) x1.toNatClampNeg)).toNatClampNeg x2))) := va_D_eq (wM_a0 q cA sc ar (upd (ar 0) (((1000 : Int32) * x1) + ((ar 1) x1.toNatClampNeg)).toNatClampNeg x2)) hD
  refine lv_aload_n hx hb dX8_append_18 rfl (lv_at hl 0 rfl) ?_
  refine va_get (D := D) (ci := 7) (v := .ref (q 2)) (C := RX8) (T := TX8) (N := 21) hx hb hts (fun w h => List.mem_cons_of_mem _ (List.mem_append_right _ h)) hown hK hP 0 rfl rfl 1 (by decide) (hts (.fieldLink RX8 13 "DeltaWindowsModel" "length" "[I") (List.mem_of_getElem? (i := 2) rfl)) (fun _ h9 => h9) rfl dX8_append_19 ?_
  refine lv_iload_n hx hb dX8_append_22 rfl (lv_at hl 1 rfl) ?_
  refine lv_dup2_11 hx hb dX8_append_23 rfl rfl ?_
  obtain ⟨g3, hf⟩ := g_inv hf
  refine va_iald (f := (ar 1)) hx hb hK hP 2 1 rfl rfl (inb_vp g3) dX8_append_24 ?_
  refine lv_iconst (v := (1 : Int32)) hx hb dX8_append_25 (by decide) ?_
  refine lv_iadd hx hb dX8_append_26 ?_
  obtain ⟨g4, hf⟩ := g_inv hf
  refine va_iast (f := (ar 1)) hx hb hK hP hD hS 2 1 rfl rfl (inb_vp g4) dX8_append_27 (fun H locs hP hD hS => ?_)
  have hP : va_P D vwCl (wM q cA sc (va_up (va_up ar 0 (upd (ar 0) (((1000 : Int32) * x1) + ((ar 1) x1.toNatClampNeg)).toNatClampNeg x2)) 1 (upd (ar 1) x1.toNatClampNeg (((ar 1) x1.toNatClampNeg) + (1 : Int32))))) H := va_P_eq (wM_a1 q cA sc (va_up ar 0 (upd (ar 0) (((1000 : Int32) * x1) + ((ar 1) x1.toNatClampNeg)).toNatClampNeg x2)) (upd (ar 1) x1.toNatClampNeg (((ar 1) x1.toNatClampNeg) + (1 : Int32)))) hP
  have hD : va_D A (wM q cA sc (va_up (va_up ar 0 (upd (ar 0) (((1000 : Int32) * x1) + ((ar 1) x1.toNatClampNeg)).toNatClampNeg x2)) 1 (upd (ar 1) x1.toNatClampNeg (((ar 1) x1.toNatClampNeg) + (1 : Int32))))) := va_D_eq (wM_a1 q cA sc (va_up ar 0 (upd (ar 0) (((1000 : Int32) * x1) + ((ar 1) x1.toNatClampNeg)).toNatClampNeg x2)) (upd (ar 1) x1.toNatClampNeg (((ar 1) x1.toNatClampNeg) + (1 : Int32)))) hD
  obtain rfl := Option.some.inj hf
  exact k_retV hx hb hr hlocks hP hS dX8_append_28

noncomputable def fX8_put_L47 (sc : Nat → Int32) (v1 : Int32) (v2 : Int32) (v3 : Int32) : Nat → (Int32) → (Nat → Nat → Int32) → Option ((Nat → Nat → Int32))
  | 0, _, _ => none
  | k + 1, v4, ar =>
    if v3 ≤ v4 then
      some ar
    else
      (fX8_append sc ar v1 v2).bind fun R13 =>
      fX8_put_L47 sc v1 v2 v3 k (v4 + (1 : Int32)) R13

noncomputable def fX8_put (sc : Nat → Int32) (ar : Nat → Nat → Int32) (x1 : Int32) (x2 : Int32) (x3 : Int32) : Option (Int32 × (Nat → Nat → Int32)) :=
  if x1 < 0 then
    some ((0 : Int32), ar)
  else
    if (2 : Int32) < x1 then
      some ((0 : Int32), ar)
    else
      (fX8_isByte x2).bind fun R3 =>
      if R3 = 0 then
        some ((0 : Int32), ar)
      else
        if x3 < (1 : Int32) then
          some ((0 : Int32), ar)
        else
          if (16 : Int32) < x3 then
            some ((0 : Int32), ar)
          else
            if inb x1 5 = true then
            (fX8_most x1).bind fun R9 =>
            if (((ar 1) x1.toNatClampNeg) + x3) ≤ R9 then
              (fX8_put_L47 sc x1 x2 x3 FU (0 : Int32) ar).bind fun R15 =>
              some ((1 : Int32), R15)
            else
              some ((0 : Int32), ar)
            else none

set_option maxHeartbeats 4000000 in
set_option maxRecDepth 100000 in
theorem kX8_put (l : Launch) (D : va_G) (q : Nat → Nat) (cA : Nat → ClassId) (sc : Nat → Int32) (ar : Nat → Nat → Int32) (x1 : Int32) (x2 : Int32) (x3 : Int32) {R : Int32 × (Nat → Nat → Int32)} (hf : fX8_put sc ar x1 x2 x3 = some R) : MI l yX8_put wsX8_put (rmD 1) D ([.ref (q 0), .int x1, .int x2, .int x3] : List Value) (wM q cA sc ar) (tM cA) NT R.1 (wM q cA sc R.2) := by
  refine MI.mk (cc := cX8_put) (maxL := 5) (ret := (some .boolean)) (by first | decide | decide +kernel) rfl (Nat.le_of_ble_eq_true rfl) ?_
  intro p e s m below meth cd A ls hE
  obtain ⟨hx, hb, hr, hml, hts, hown, hlocks, hP, hK, hD, hA, hN, hAe, hl⟩ := hE
  have hown : s.vm.findClass RX8 = some m.cls := hown
  have hS : va_S A s.heap s.heap [] := va_S.rf
  have hl : lv_has ls 5 [(0, .ref (q 0)), (1, .int x1), (2, .int x2), (3, .int x3)] := hl
  rw [fX8_put] at hf
  refine lv_iload_n hx hb dX8_put_0 rfl (lv_at hl 1 rfl) ?_
  refine lv_if_lt (tgt := 42) hx hb dX8_put_1 (by decide) (fun c1 => ?_) (fun c1 => ?_)
  · rw [if_pos c1] at hf
    refine lv_iconst (v := (0 : Int32)) hx hb dX8_put_42 (by decide) ?_
    obtain rfl := Option.some.inj hf
    exact k_retZ hx hb hr hlocks hP hS rfl dX8_put_43
  · rw [if_neg c1] at hf
    refine lv_iload_n hx hb dX8_put_4 rfl (lv_at hl 1 rfl) ?_
    refine lv_iconst (v := (2 : Int32)) hx hb dX8_put_5 (by decide) ?_
    refine lv_icmp_gt (tgt := 42) hx hb dX8_put_6 (by decide) (fun c2 => ?_) (fun c2 => ?_)
    · rw [if_pos c2] at hf
      refine lv_iconst (v := (0 : Int32)) hx hb dX8_put_42 (by decide) ?_
      obtain rfl := Option.some.inj hf
      exact k_retZ hx hb hr hlocks hP hS rfl dX8_put_43
    · rw [if_neg c2] at hf
      refine lv_iload_n hx hb dX8_put_9 rfl (lv_at hl 2 rfl) ?_
      obtain ⟨R3, hc4, hf⟩ := b_inv hf
      have hk := kcut (wc := ([] : va_W)) (wc' := ([] : va_W)) (wf := (wM q cA sc ar)) hP hD hS hA [] rfl (by decide) rfl rfl
      refine k_goI (va_runS (As := [.int x2]) (rest := []) ⟨hx, hb, hml, hown, hts⟩ (kX8_isByte l D x2 hc4 _) ⟨callB_of 1 hts ggX8_put_X8_isByte rfl rfl rfl (hts (.initialized RX8) (List.mem_of_getElem? (i := 4) rfl)) (hts (.methodLink RX8 46 yX8_isByte) (List.mem_of_getElem? (i := 2) rfl)) (by decide +kernel) ⟨Nat.le_of_ble_eq_true rfl, Nat.le_of_ble_eq_true rfl⟩, (hts (.static yX8_isByte) (List.mem_of_getElem? (i := 3) rfl))⟩ (k_preS hk (hK.sub [] rfl) NT_bl NT_u) rfl rfl hl.1 rfl (lv_room (Nat.le_of_ble_eq_true rfl)) dX8_put_10 ⟨Nat.zero_le _, Nat.zero_le _⟩) hk hS (fun H locs hP hD hS => ?_)
      refine lv_if_eq (tgt := 42) hx hb dX8_put_13 (by decide) (fun c5 => ?_) (fun c5 => ?_)
      · rw [if_pos c5] at hf
        refine lv_iconst (v := (0 : Int32)) hx hb dX8_put_42 (by decide) ?_
        obtain rfl := Option.some.inj hf
        exact k_retZ hx hb hr hlocks hP hS rfl dX8_put_43
      · rw [if_neg c5] at hf
        refine lv_iload_n hx hb dX8_put_16 rfl (lv_at hl 3 rfl) ?_
        refine lv_iconst (v := (1 : Int32)) hx hb dX8_put_17 (by decide) ?_
        refine lv_icmp_lt (tgt := 42) hx hb dX8_put_18 (by decide) (fun c6 => ?_) (fun c6 => ?_)
        · rw [if_pos c6] at hf
          refine lv_iconst (v := (0 : Int32)) hx hb dX8_put_42 (by decide) ?_
          obtain rfl := Option.some.inj hf
          exact k_retZ hx hb hr hlocks hP hS rfl dX8_put_43
        · rw [if_neg c6] at hf
          refine lv_iload_n hx hb dX8_put_21 rfl (lv_at hl 3 rfl) ?_
          refine lv_bipush (v := (16 : Int32)) hx hb dX8_put_22 (by decide) ?_
          refine lv_icmp_gt (tgt := 42) hx hb dX8_put_24 (by decide) (fun c7 => ?_) (fun c7 => ?_)
          · rw [if_pos c7] at hf
            refine lv_iconst (v := (0 : Int32)) hx hb dX8_put_42 (by decide) ?_
            obtain rfl := Option.some.inj hf
            exact k_retZ hx hb hr hlocks hP hS rfl dX8_put_43
          · rw [if_neg c7] at hf
            refine lv_aload_n hx hb dX8_put_27 rfl (lv_at hl 0 rfl) ?_
            refine va_get (D := D) (ci := 7) (v := .ref (q 2)) (C := RX8) (T := TX8) (N := 21) hx hb hts (fun w h => List.mem_cons_of_mem _ (List.mem_append_right _ h)) hown hK hP 0 rfl rfl 1 (by decide) (hts (.fieldLink RX8 13 "DeltaWindowsModel" "length" "[I") (List.mem_of_getElem? (i := 1) rfl)) (fun _ h9 => h9) rfl dX8_put_28 ?_
            refine lv_iload_n hx hb dX8_put_31 rfl (lv_at hl 1 rfl) ?_
            obtain ⟨g8, hf⟩ := g_inv hf
            refine va_iald (f := (ar 1)) hx hb hK hP 2 1 rfl rfl (inb_vp g8) dX8_put_32 ?_
            refine lv_iload_n hx hb dX8_put_33 rfl (lv_at hl 3 rfl) ?_
            refine lv_iadd hx hb dX8_put_34 ?_
            refine lv_iload_n hx hb dX8_put_35 rfl (lv_at hl 1 rfl) ?_
            obtain ⟨R9, hc10, hf⟩ := b_inv hf
            have hk := kcut (wc := ([] : va_W)) (wc' := ([] : va_W)) (wf := (wM q cA sc ar)) hP hD hS hA [] rfl (by decide) rfl rfl
            refine k_goI (va_runS (As := [.int x1]) (rest := [.int (((ar 1) x1.toNatClampNeg) + x3)]) ⟨hx, hb, hml, hown, hts⟩ (kX8_most l D x1 hc10 _) ⟨callB_of 1 hts ggX8_put_X8_most rfl rfl rfl (hts (.initialized RX8) (List.mem_of_getElem? (i := 4) rfl)) (hts (.methodLink RX8 50 yX8_most) (List.mem_of_getElem? (i := 6) rfl)) (by decide +kernel) ⟨Nat.le_of_ble_eq_true rfl, Nat.le_of_ble_eq_true rfl⟩, (hts (.static yX8_most) (List.mem_of_getElem? (i := 7) rfl))⟩ (k_preS hk (hK.sub [] rfl) NT_bl NT_u) rfl rfl hl.1 rfl (lv_room (Nat.le_of_ble_eq_true rfl)) dX8_put_36 ⟨Nat.zero_le _, Nat.zero_le _⟩) hk hS (fun H locs hP hD hS => ?_)
            refine lv_icmp_le (tgt := 44) hx hb dX8_put_39 (by decide) (fun c11 => ?_) (fun c11 => ?_)
            · rw [if_pos c11] at hf
              refine lv_iconst (v := (0 : Int32)) hx hb dX8_put_44 (by decide) ?_
              refine lv_istore (lv' := [(4, .int (0 : Int32)), (0, .ref (q 0)), (1, .int x1), (2, .int x2), (3, .int x3)]) hx hb dX8_put_45 hl (by decide) rfl (fun ls hl => ?_)
              have lp17 : ∀ (sc : Nat → Int32) (v1 : Int32) (v2 : Int32) (v3 : Int32), ∀ (k : Nat) (v4 : Int32) (ar : Nat → Nat → Int32) (H : Heap) (locs : List Loc) (ls : Array Slot) (o : (Nat → Nat → Int32)), lv_has ls 5 [(4, .int v4), (1, .int v1), (2, .int v2), (3, .int v3), (0, .ref (q 0))] → va_P D vwCl (wM q cA sc ar) H → va_D A (wM q cA sc ar) → va_S A s.heap H locs → fX8_put_L47 sc v1 v2 v3 k v4 ar = some o → (∀ (H : Heap) (locs : List Loc) (ls : Array Slot), lv_has ls 5 [] → va_P D vwCl (wM q cA sc o) H → va_D A (wM q cA sc o) → va_S A s.heap H locs → W p l e (headSpec wsX8_put (rmD 1)).room s m ([.ref (q 0), .int x1, .int x2, .int x3] : List Value).toArray below meth cd H locs 0 0 (QI D below ([.ref (q 0), .int x1, .int x2, .int x3] : List Value).toArray s A R.1 (wM q cA sc R.2)) (F0 m 65 ls [])) → W p l e (headSpec wsX8_put (rmD 1)).room s m ([.ref (q 0), .int x1, .int x2, .int x3] : List Value).toArray below meth cd H locs 0 0 (QI D below ([.ref (q 0), .int x1, .int x2, .int x3] : List Value).toArray s A R.1 (wM q cA sc R.2)) (F0 m 47 ls []) := by
                intro sc v1 v2 v3
                intro k
                induction k with
                | zero =>
                  intro v4 ar H locs ls o hl hP hD hS hf
                  exact absurd hf (by simp [fX8_put_L47])
                | succ k ih =>
                  intro v4 ar H locs ls o hl hP hD hS hf kont
                  rw [fX8_put_L47] at hf
                  refine lv_iload hx hb dX8_put_47 (lv_at hl 0 rfl) ?_
                  refine lv_iload_n hx hb dX8_put_49 rfl (lv_at hl 3 rfl) ?_
                  refine lv_icmp_ge (tgt := 65) hx hb dX8_put_50 (by decide) (fun c12 => ?_) (fun c12 => ?_)
                  · rw [if_pos c12] at hf
                    obtain rfl := Option.some.inj hf
                    exact kont _ _ _ (lv_sub hl [] rfl) hP hD hS
                  · rw [if_neg c12] at hf
                    refine lv_aload_n hx hb dX8_put_53 rfl (lv_at hl 4 rfl) ?_
                    refine lv_iload_n hx hb dX8_put_54 rfl (lv_at hl 1 rfl) ?_
                    refine lv_iload_n hx hb dX8_put_55 rfl (lv_at hl 2 rfl) ?_
                    obtain ⟨R13, hc14, hf⟩ := b_inv hf
                    have hk := kall (wc' := (wM q cA sc R13)) hP hD hS hA rfl
                    refine k_goV (va_runV (As := [.int v1, .int v2]) (rest := []) ⟨hx, hb, hml, hown, hts⟩ (kX8_append l D q cA sc ar v1 v2 hc14 _) (cwV 2 hts gX8_put_X8_append rfl rfl rfl (by decide +kernel) ⟨Nat.le_of_ble_eq_true rfl, Nat.le_of_ble_eq_true rfl⟩) (k_preV (q0 := 0) (ci := 7) hk hK NT_bl NT_u rfl rfl rfl) rfl rfl hl.1 rfl (lv_room (Nat.le_of_ble_eq_true rfl)) dX8_put_56 ⟨Nat.zero_le _, Nat.zero_le _⟩) hk hS (fun H locs hP hD hS => ?_)
                    refine lv_iinc (v := (v4 + (1 : Int32))) (lv' := [(4, .int (v4 + (1 : Int32))), (1, .int v1), (2, .int v2), (3, .int v3), (0, .ref (q 0))]) hx hb dX8_put_59 hl (k := 0) rfl rfl (by decide) rfl (fun ls hl => ?_)
                    refine lv_goto (tgt := 47) hx hb dX8_put_62 (by decide) ?_
                    exact ih (v4 + (1 : Int32)) R13 _ _ _ o (lv_sub hl [0, 1, 2, 3, 4] rfl) hP hD hS hf kont
              obtain ⟨R15, hc16, hf⟩ := b_inv hf
              refine lp17 sc x1 x2 x3 FU (0 : Int32) ar _ _ _ R15 (lv_sub hl [0, 2, 3, 4, 1] rfl) hP hD hS hc16 (fun H locs ls hl hP hD hS => ?_)
              refine lv_iconst (v := (1 : Int32)) hx hb dX8_put_65 (by decide) ?_
              obtain rfl := Option.some.inj hf
              exact k_retZ hx hb hr hlocks hP hS rfl dX8_put_66
            · rw [if_neg c11] at hf
              refine lv_iconst (v := (0 : Int32)) hx hb dX8_put_42 (by decide) ?_
              obtain rfl := Option.some.inj hf
              exact k_retZ hx hb hr hlocks hP hS rfl dX8_put_43

noncomputable def fX8_cut (sc : Nat → Int32) (ar : Nat → Nat → Int32) (x1 : Int32) (x2 : Int32) : Option (Int32 × (Nat → Nat → Int32)) :=
  if x1 < 0 then
    some ((0 : Int32), ar)
  else
    if (2 : Int32) < x1 then
      some ((0 : Int32), ar)
    else
      if x2 < 0 then
        some ((0 : Int32), ar)
      else
        if inb x1 5 = true then
        if x2 ≤ ((ar 1) x1.toNatClampNeg) then
          if inb x1 5 = true then
          some ((1 : Int32), (va_up ar 1 (upd (ar 1) x1.toNatClampNeg x2)))
          else none
        else
          some ((0 : Int32), ar)
        else none

set_option maxHeartbeats 4000000 in
set_option maxRecDepth 100000 in
theorem kX8_cut (l : Launch) (D : va_G) (q : Nat → Nat) (cA : Nat → ClassId) (sc : Nat → Int32) (ar : Nat → Nat → Int32) (x1 : Int32) (x2 : Int32) {R : Int32 × (Nat → Nat → Int32)} (hf : fX8_cut sc ar x1 x2 = some R) : MI l yX8_cut wsX8_cut (rmD 0) D ([.ref (q 0), .int x1, .int x2] : List Value) (wM q cA sc ar) (tM cA) NT R.1 (wM q cA sc R.2) := by
  refine MI.mk (cc := cX8_cut) (maxL := 3) (ret := (some .boolean)) (by first | decide | decide +kernel) rfl (Nat.le_of_ble_eq_true rfl) ?_
  intro p e s m below meth cd A ls hE
  obtain ⟨hx, hb, hr, hml, hts, hown, hlocks, hP, hK, hD, hA, hN, hAe, hl⟩ := hE
  have hown : s.vm.findClass RX8 = some m.cls := hown
  have hS : va_S A s.heap s.heap [] := va_S.rf
  have hl : lv_has ls 3 [(0, .ref (q 0)), (1, .int x1), (2, .int x2)] := hl
  rw [fX8_cut] at hf
  refine lv_iload_n hx hb dX8_cut_0 rfl (lv_at hl 1 rfl) ?_
  refine lv_if_lt (tgt := 23) hx hb dX8_cut_1 (by decide) (fun c1 => ?_) (fun c1 => ?_)
  · rw [if_pos c1] at hf
    refine lv_iconst (v := (0 : Int32)) hx hb dX8_cut_23 (by decide) ?_
    obtain rfl := Option.some.inj hf
    exact k_retZ hx hb hr hlocks hP hS rfl dX8_cut_24
  · rw [if_neg c1] at hf
    refine lv_iload_n hx hb dX8_cut_4 rfl (lv_at hl 1 rfl) ?_
    refine lv_iconst (v := (2 : Int32)) hx hb dX8_cut_5 (by decide) ?_
    refine lv_icmp_gt (tgt := 23) hx hb dX8_cut_6 (by decide) (fun c2 => ?_) (fun c2 => ?_)
    · rw [if_pos c2] at hf
      refine lv_iconst (v := (0 : Int32)) hx hb dX8_cut_23 (by decide) ?_
      obtain rfl := Option.some.inj hf
      exact k_retZ hx hb hr hlocks hP hS rfl dX8_cut_24
    · rw [if_neg c2] at hf
      refine lv_iload_n hx hb dX8_cut_9 rfl (lv_at hl 2 rfl) ?_
      refine lv_if_lt (tgt := 23) hx hb dX8_cut_10 (by decide) (fun c3 => ?_) (fun c3 => ?_)
      · rw [if_pos c3] at hf
        refine lv_iconst (v := (0 : Int32)) hx hb dX8_cut_23 (by decide) ?_
        obtain rfl := Option.some.inj hf
        exact k_retZ hx hb hr hlocks hP hS rfl dX8_cut_24
      · rw [if_neg c3] at hf
        refine lv_iload_n hx hb dX8_cut_13 rfl (lv_at hl 2 rfl) ?_
        refine lv_aload_n hx hb dX8_cut_14 rfl (lv_at hl 0 rfl) ?_
        refine va_get (D := D) (ci := 7) (v := .ref (q 2)) (C := RX8) (T := TX8) (N := 21) hx hb hts (fun w h => List.mem_cons_of_mem _ (List.mem_append_right _ h)) hown hK hP 0 rfl rfl 1 (by decide) (hts (.fieldLink RX8 13 "DeltaWindowsModel" "length" "[I") (List.mem_of_getElem? (i := 1) rfl)) (fun _ h9 => h9) rfl dX8_cut_15 ?_
        refine lv_iload_n hx hb dX8_cut_18 rfl (lv_at hl 1 rfl) ?_
        obtain ⟨g4, hf⟩ := g_inv hf
        refine va_iald (f := (ar 1)) hx hb hK hP 2 1 rfl rfl (inb_vp g4) dX8_cut_19 ?_
        refine lv_icmp_le (tgt := 25) hx hb dX8_cut_20 (by decide) (fun c5 => ?_) (fun c5 => ?_)
        · rw [if_pos c5] at hf
          refine lv_aload_n hx hb dX8_cut_25 rfl (lv_at hl 0 rfl) ?_
          refine va_get (D := D) (ci := 7) (v := .ref (q 2)) (C := RX8) (T := TX8) (N := 21) hx hb hts (fun w h => List.mem_cons_of_mem _ (List.mem_append_right _ h)) hown hK hP 0 rfl rfl 1 (by decide) (hts (.fieldLink RX8 13 "DeltaWindowsModel" "length" "[I") (List.mem_of_getElem? (i := 1) rfl)) (fun _ h9 => h9) rfl dX8_cut_26 ?_
          refine lv_iload_n hx hb dX8_cut_29 rfl (lv_at hl 1 rfl) ?_
          refine lv_iload_n hx hb dX8_cut_30 rfl (lv_at hl 2 rfl) ?_
          obtain ⟨g6, hf⟩ := g_inv hf
          refine va_iast (f := (ar 1)) hx hb hK hP hD hS 2 1 rfl rfl (inb_vp g6) dX8_cut_31 (fun H locs hP hD hS => ?_)
          have hP : va_P D vwCl (wM q cA sc (va_up ar 1 (upd (ar 1) x1.toNatClampNeg x2))) H := va_P_eq (wM_a1 q cA sc ar (upd (ar 1) x1.toNatClampNeg x2)) hP
          have hD : va_D A (wM q cA sc (va_up ar 1 (upd (ar 1) x1.toNatClampNeg x2))) := va_D_eq (wM_a1 q cA sc ar (upd (ar 1) x1.toNatClampNeg x2)) hD
          refine lv_iconst (v := (1 : Int32)) hx hb dX8_cut_32 (by decide) ?_
          obtain rfl := Option.some.inj hf
          exact k_retZ hx hb hr hlocks hP hS rfl dX8_cut_33
        · rw [if_neg c5] at hf
          refine lv_iconst (v := (0 : Int32)) hx hb dX8_cut_23 (by decide) ?_
          obtain rfl := Option.some.inj hf
          exact k_retZ hx hb hr hlocks hP hS rfl dX8_cut_24

noncomputable def fX8_set (sc : Nat → Int32) (ar : Nat → Nat → Int32) (x1 : Int32) (x2 : Int32) (x3 : Int32) : Option (Int32 × (Nat → Nat → Int32)) :=
  if x1 < 0 then
    some ((0 : Int32), ar)
  else
    if (2 : Int32) < x1 then
      some ((0 : Int32), ar)
    else
      if x2 < 0 then
        some ((0 : Int32), ar)
      else
        if inb x1 5 = true then
        if ((ar 1) x1.toNatClampNeg) ≤ x2 then
          some ((0 : Int32), ar)
        else
          (fX8_isByte x3).bind fun R6 =>
          if R6 = 0 then
            some ((0 : Int32), ar)
          else
            if inb (((1000 : Int32) * x1) + x2) 5000 = true then
            some ((1 : Int32), (va_up ar 0 (upd (ar 0) (((1000 : Int32) * x1) + x2).toNatClampNeg x3)))
            else none
        else none

set_option maxHeartbeats 4000000 in
set_option maxRecDepth 100000 in
theorem kX8_set (l : Launch) (D : va_G) (q : Nat → Nat) (cA : Nat → ClassId) (sc : Nat → Int32) (ar : Nat → Nat → Int32) (x1 : Int32) (x2 : Int32) (x3 : Int32) {R : Int32 × (Nat → Nat → Int32)} (hf : fX8_set sc ar x1 x2 x3 = some R) : MI l yX8_set wsX8_set (rmD 1) D ([.ref (q 0), .int x1, .int x2, .int x3] : List Value) (wM q cA sc ar) (tM cA) NT R.1 (wM q cA sc R.2) := by
  refine MI.mk (cc := cX8_set) (maxL := 4) (ret := (some .boolean)) (by first | decide | decide +kernel) rfl (Nat.le_of_ble_eq_true rfl) ?_
  intro p e s m below meth cd A ls hE
  obtain ⟨hx, hb, hr, hml, hts, hown, hlocks, hP, hK, hD, hA, hN, hAe, hl⟩ := hE
  have hown : s.vm.findClass RX8 = some m.cls := hown
  have hS : va_S A s.heap s.heap [] := va_S.rf
  have hl : lv_has ls 4 [(0, .ref (q 0)), (1, .int x1), (2, .int x2), (3, .int x3)] := hl
  rw [fX8_set] at hf
  refine lv_iload_n hx hb dX8_set_0 rfl (lv_at hl 1 rfl) ?_
  refine lv_if_lt (tgt := 30) hx hb dX8_set_1 (by decide) (fun c1 => ?_) (fun c1 => ?_)
  · rw [if_pos c1] at hf
    refine lv_iconst (v := (0 : Int32)) hx hb dX8_set_30 (by decide) ?_
    obtain rfl := Option.some.inj hf
    exact k_retZ hx hb hr hlocks hP hS rfl dX8_set_31
  · rw [if_neg c1] at hf
    refine lv_iload_n hx hb dX8_set_4 rfl (lv_at hl 1 rfl) ?_
    refine lv_iconst (v := (2 : Int32)) hx hb dX8_set_5 (by decide) ?_
    refine lv_icmp_gt (tgt := 30) hx hb dX8_set_6 (by decide) (fun c2 => ?_) (fun c2 => ?_)
    · rw [if_pos c2] at hf
      refine lv_iconst (v := (0 : Int32)) hx hb dX8_set_30 (by decide) ?_
      obtain rfl := Option.some.inj hf
      exact k_retZ hx hb hr hlocks hP hS rfl dX8_set_31
    · rw [if_neg c2] at hf
      refine lv_iload_n hx hb dX8_set_9 rfl (lv_at hl 2 rfl) ?_
      refine lv_if_lt (tgt := 30) hx hb dX8_set_10 (by decide) (fun c3 => ?_) (fun c3 => ?_)
      · rw [if_pos c3] at hf
        refine lv_iconst (v := (0 : Int32)) hx hb dX8_set_30 (by decide) ?_
        obtain rfl := Option.some.inj hf
        exact k_retZ hx hb hr hlocks hP hS rfl dX8_set_31
      · rw [if_neg c3] at hf
        refine lv_iload_n hx hb dX8_set_13 rfl (lv_at hl 2 rfl) ?_
        refine lv_aload_n hx hb dX8_set_14 rfl (lv_at hl 0 rfl) ?_
        refine va_get (D := D) (ci := 7) (v := .ref (q 2)) (C := RX8) (T := TX8) (N := 21) hx hb hts (fun w h => List.mem_cons_of_mem _ (List.mem_append_right _ h)) hown hK hP 0 rfl rfl 1 (by decide) (hts (.fieldLink RX8 13 "DeltaWindowsModel" "length" "[I") (List.mem_of_getElem? (i := 1) rfl)) (fun _ h9 => h9) rfl dX8_set_15 ?_
        refine lv_iload_n hx hb dX8_set_18 rfl (lv_at hl 1 rfl) ?_
        obtain ⟨g4, hf⟩ := g_inv hf
        refine va_iald (f := (ar 1)) hx hb hK hP 2 1 rfl rfl (inb_vp g4) dX8_set_19 ?_
        refine lv_icmp_ge (tgt := 30) hx hb dX8_set_20 (by decide) (fun c5 => ?_) (fun c5 => ?_)
        · rw [if_pos c5] at hf
          refine lv_iconst (v := (0 : Int32)) hx hb dX8_set_30 (by decide) ?_
          obtain rfl := Option.some.inj hf
          exact k_retZ hx hb hr hlocks hP hS rfl dX8_set_31
        · rw [if_neg c5] at hf
          refine lv_iload_n hx hb dX8_set_23 rfl (lv_at hl 3 rfl) ?_
          obtain ⟨R6, hc7, hf⟩ := b_inv hf
          have hk := kcut (wc := ([] : va_W)) (wc' := ([] : va_W)) (wf := (wM q cA sc ar)) hP hD hS hA [] rfl (by decide) rfl rfl
          refine k_goI (va_runS (As := [.int x3]) (rest := []) ⟨hx, hb, hml, hown, hts⟩ (kX8_isByte l D x3 hc7 _) ⟨callB_of 1 hts ggX8_set_X8_isByte rfl rfl rfl (hts (.initialized RX8) (List.mem_of_getElem? (i := 5) rfl)) (hts (.methodLink RX8 46 yX8_isByte) (List.mem_of_getElem? (i := 3) rfl)) (by decide +kernel) ⟨Nat.le_of_ble_eq_true rfl, Nat.le_of_ble_eq_true rfl⟩, (hts (.static yX8_isByte) (List.mem_of_getElem? (i := 4) rfl))⟩ (k_preS hk (hK.sub [] rfl) NT_bl NT_u) rfl rfl hl.1 rfl (lv_room (Nat.le_of_ble_eq_true rfl)) dX8_set_24 ⟨Nat.zero_le _, Nat.zero_le _⟩) hk hS (fun H locs hP hD hS => ?_)
          refine lv_if_ne (tgt := 32) hx hb dX8_set_27 (by decide) (fun c8 => ?_) (fun c8 => ?_)
          · rw [if_neg c8] at hf
            refine lv_aload_n hx hb dX8_set_32 rfl (lv_at hl 0 rfl) ?_
            refine va_get (D := D) (ci := 7) (v := .ref (q 1)) (C := RX8) (T := TX8) (N := 21) hx hb hts (fun w h => List.mem_cons_of_mem _ (List.mem_append_right _ h)) hown hK hP 0 rfl rfl 0 (by decide) (hts (.fieldLink RX8 7 "DeltaWindowsModel" "cell" "[I") (List.mem_of_getElem? (i := 2) rfl)) (fun _ h9 => h9) rfl dX8_set_33 ?_
            refine lv_sipush (v := (1000 : Int32)) hx hb dX8_set_36 (by decide) ?_
            refine lv_iload_n hx hb dX8_set_39 rfl (lv_at hl 1 rfl) ?_
            refine lv_imul hx hb dX8_set_40 ?_
            refine lv_iload_n hx hb dX8_set_41 rfl (lv_at hl 2 rfl) ?_
            refine lv_iadd hx hb dX8_set_42 ?_
            refine lv_iload_n hx hb dX8_set_43 rfl (lv_at hl 3 rfl) ?_
            obtain ⟨g9, hf⟩ := g_inv hf
            refine va_iast (f := (ar 0)) hx hb hK hP hD hS 1 0 rfl rfl (inb_vp g9) dX8_set_44 (fun H locs hP hD hS => ?_)
            have hP : va_P D vwCl (wM q cA sc (va_up ar 0 (upd (ar 0) (((1000 : Int32) * x1) + x2).toNatClampNeg x3))) H := va_P_eq (wM_a0 q cA sc ar (upd (ar 0) (((1000 : Int32) * x1) + x2).toNatClampNeg x3)) hP
            have hD : va_D A (wM q cA sc (va_up ar 0 (upd (ar 0) (((1000 : Int32) * x1) + x2).toNatClampNeg x3))) := va_D_eq (wM_a0 q cA sc ar (upd (ar 0) (((1000 : Int32) * x1) + x2).toNatClampNeg x3)) hD
            refine lv_iconst (v := (1 : Int32)) hx hb dX8_set_45 (by decide) ?_
            obtain rfl := Option.some.inj hf
            exact k_retZ hx hb hr hlocks hP hS rfl dX8_set_46
          · rw [if_pos c8] at hf
            refine lv_iconst (v := (0 : Int32)) hx hb dX8_set_30 (by decide) ?_
            obtain rfl := Option.some.inj hf
            exact k_retZ hx hb hr hlocks hP hS rfl dX8_set_31

noncomputable def fX8_length (sc : Nat → Int32) (ar : Nat → Nat → Int32) (x1 : Int32) : Option (Int32) :=
  if x1 < 0 then
    some (-1 : Int32)
  else
    if x1 ≤ (3 : Int32) then
      if inb x1 5 = true then
      some ((ar 1) x1.toNatClampNeg)
      else none
    else
      some (-1 : Int32)

set_option maxHeartbeats 4000000 in
set_option maxRecDepth 100000 in
theorem kX8_length (l : Launch) (D : va_G) (q : Nat → Nat) (cA : Nat → ClassId) (sc : Nat → Int32) (ar : Nat → Nat → Int32) (x1 : Int32) {R : Int32} (hf : fX8_length sc ar x1 = some R) : MI l yX8_length wsX8_length (rmD 0) D ([.ref (q 0), .int x1] : List Value) (wM q cA sc ar) (tM cA) NT R (wM q cA sc ar) := by
  refine MI.mk (cc := cX8_length) (maxL := 2) (ret := (some .int)) (by first | decide | decide +kernel) rfl (Nat.le_of_ble_eq_true rfl) ?_
  intro p e s m below meth cd A ls hE
  obtain ⟨hx, hb, hr, hml, hts, hown, hlocks, hP, hK, hD, hA, hN, hAe, hl⟩ := hE
  have hown : s.vm.findClass RX8 = some m.cls := hown
  have hS : va_S A s.heap s.heap [] := va_S.rf
  have hl : lv_has ls 2 [(0, .ref (q 0)), (1, .int x1)] := hl
  rw [fX8_length] at hf
  refine lv_iload_n hx hb dX8_length_0 rfl (lv_at hl 1 rfl) ?_
  refine lv_if_lt (tgt := 9) hx hb dX8_length_1 (by decide) (fun c1 => ?_) (fun c1 => ?_)
  · rw [if_pos c1] at hf
    refine lv_iconst (v := (-1 : Int32)) hx hb dX8_length_9 (by decide) ?_
    refine lv_goto (tgt := 19) hx hb dX8_length_10 (by decide) ?_
    obtain rfl := Option.some.inj hf
    exact k_retI hx hb hr hlocks hP hS dX8_length_19
  · rw [if_neg c1] at hf
    refine lv_iload_n hx hb dX8_length_4 rfl (lv_at hl 1 rfl) ?_
    refine lv_iconst (v := (3 : Int32)) hx hb dX8_length_5 (by decide) ?_
    refine lv_icmp_le (tgt := 13) hx hb dX8_length_6 (by decide) (fun c2 => ?_) (fun c2 => ?_)
    · rw [if_pos c2] at hf
      refine lv_aload_n hx hb dX8_length_13 rfl (lv_at hl 0 rfl) ?_
      refine va_get (D := D) (ci := 7) (v := .ref (q 2)) (C := RX8) (T := TX8) (N := 21) hx hb hts (fun w h => List.mem_cons_of_mem _ (List.mem_append_right _ h)) hown hK hP 0 rfl rfl 1 (by decide) (hts (.fieldLink RX8 13 "DeltaWindowsModel" "length" "[I") (List.mem_of_getElem? (i := 1) rfl)) (fun _ h9 => h9) rfl dX8_length_14 ?_
      refine lv_iload_n hx hb dX8_length_17 rfl (lv_at hl 1 rfl) ?_
      obtain ⟨g3, hf⟩ := g_inv hf
      refine va_iald (f := (ar 1)) hx hb hK hP 2 1 rfl rfl (inb_vp g3) dX8_length_18 ?_
      obtain rfl := Option.some.inj hf
      exact k_retI hx hb hr hlocks hP hS dX8_length_19
    · rw [if_neg c2] at hf
      refine lv_iconst (v := (-1 : Int32)) hx hb dX8_length_9 (by decide) ?_
      refine lv_goto (tgt := 19) hx hb dX8_length_10 (by decide) ?_
      obtain rfl := Option.some.inj hf
      exact k_retI hx hb hr hlocks hP hS dX8_length_19

noncomputable def fX8_byteAt (sc : Nat → Int32) (ar : Nat → Nat → Int32) (x1 : Int32) (x2 : Int32) : Option (Int32) :=
  if x1 < 0 then
    some (-1 : Int32)
  else
    if (3 : Int32) < x1 then
      some (-1 : Int32)
    else
      if x2 < 0 then
        some (-1 : Int32)
      else
        if inb x1 5 = true then
        if x2 < ((ar 1) x1.toNatClampNeg) then
          if inb (((1000 : Int32) * x1) + x2) 5000 = true then
          some ((ar 0) (((1000 : Int32) * x1) + x2).toNatClampNeg)
          else none
        else
          some (-1 : Int32)
        else none

set_option maxHeartbeats 4000000 in
set_option maxRecDepth 100000 in
theorem kX8_byteAt (l : Launch) (D : va_G) (q : Nat → Nat) (cA : Nat → ClassId) (sc : Nat → Int32) (ar : Nat → Nat → Int32) (x1 : Int32) (x2 : Int32) {R : Int32} (hf : fX8_byteAt sc ar x1 x2 = some R) : MI l yX8_byteAt wsX8_byteAt (rmD 0) D ([.ref (q 0), .int x1, .int x2] : List Value) (wM q cA sc ar) (tM cA) NT R (wM q cA sc ar) := by
  refine MI.mk (cc := cX8_byteAt) (maxL := 3) (ret := (some .int)) (by first | decide | decide +kernel) rfl (Nat.le_of_ble_eq_true rfl) ?_
  intro p e s m below meth cd A ls hE
  obtain ⟨hx, hb, hr, hml, hts, hown, hlocks, hP, hK, hD, hA, hN, hAe, hl⟩ := hE
  have hown : s.vm.findClass RX8 = some m.cls := hown
  have hS : va_S A s.heap s.heap [] := va_S.rf
  have hl : lv_has ls 3 [(0, .ref (q 0)), (1, .int x1), (2, .int x2)] := hl
  rw [fX8_byteAt] at hf
  refine lv_iload_n hx hb dX8_byteAt_0 rfl (lv_at hl 1 rfl) ?_
  refine lv_if_lt (tgt := 23) hx hb dX8_byteAt_1 (by decide) (fun c1 => ?_) (fun c1 => ?_)
  · rw [if_pos c1] at hf
    refine lv_iconst (v := (-1 : Int32)) hx hb dX8_byteAt_23 (by decide) ?_
    refine lv_goto (tgt := 39) hx hb dX8_byteAt_24 (by decide) ?_
    obtain rfl := Option.some.inj hf
    exact k_retI hx hb hr hlocks hP hS dX8_byteAt_39
  · rw [if_neg c1] at hf
    refine lv_iload_n hx hb dX8_byteAt_4 rfl (lv_at hl 1 rfl) ?_
    refine lv_iconst (v := (3 : Int32)) hx hb dX8_byteAt_5 (by decide) ?_
    refine lv_icmp_gt (tgt := 23) hx hb dX8_byteAt_6 (by decide) (fun c2 => ?_) (fun c2 => ?_)
    · rw [if_pos c2] at hf
      refine lv_iconst (v := (-1 : Int32)) hx hb dX8_byteAt_23 (by decide) ?_
      refine lv_goto (tgt := 39) hx hb dX8_byteAt_24 (by decide) ?_
      obtain rfl := Option.some.inj hf
      exact k_retI hx hb hr hlocks hP hS dX8_byteAt_39
    · rw [if_neg c2] at hf
      refine lv_iload_n hx hb dX8_byteAt_9 rfl (lv_at hl 2 rfl) ?_
      refine lv_if_lt (tgt := 23) hx hb dX8_byteAt_10 (by decide) (fun c3 => ?_) (fun c3 => ?_)
      · rw [if_pos c3] at hf
        refine lv_iconst (v := (-1 : Int32)) hx hb dX8_byteAt_23 (by decide) ?_
        refine lv_goto (tgt := 39) hx hb dX8_byteAt_24 (by decide) ?_
        obtain rfl := Option.some.inj hf
        exact k_retI hx hb hr hlocks hP hS dX8_byteAt_39
      · rw [if_neg c3] at hf
        refine lv_iload_n hx hb dX8_byteAt_13 rfl (lv_at hl 2 rfl) ?_
        refine lv_aload_n hx hb dX8_byteAt_14 rfl (lv_at hl 0 rfl) ?_
        refine va_get (D := D) (ci := 7) (v := .ref (q 2)) (C := RX8) (T := TX8) (N := 21) hx hb hts (fun w h => List.mem_cons_of_mem _ (List.mem_append_right _ h)) hown hK hP 0 rfl rfl 1 (by decide) (hts (.fieldLink RX8 13 "DeltaWindowsModel" "length" "[I") (List.mem_of_getElem? (i := 1) rfl)) (fun _ h9 => h9) rfl dX8_byteAt_15 ?_
        refine lv_iload_n hx hb dX8_byteAt_18 rfl (lv_at hl 1 rfl) ?_
        obtain ⟨g4, hf⟩ := g_inv hf
        refine va_iald (f := (ar 1)) hx hb hK hP 2 1 rfl rfl (inb_vp g4) dX8_byteAt_19 ?_
        refine lv_icmp_lt (tgt := 27) hx hb dX8_byteAt_20 (by decide) (fun c5 => ?_) (fun c5 => ?_)
        · rw [if_pos c5] at hf
          refine lv_aload_n hx hb dX8_byteAt_27 rfl (lv_at hl 0 rfl) ?_
          refine va_get (D := D) (ci := 7) (v := .ref (q 1)) (C := RX8) (T := TX8) (N := 21) hx hb hts (fun w h => List.mem_cons_of_mem _ (List.mem_append_right _ h)) hown hK hP 0 rfl rfl 0 (by decide) (hts (.fieldLink RX8 7 "DeltaWindowsModel" "cell" "[I") (List.mem_of_getElem? (i := 2) rfl)) (fun _ h9 => h9) rfl dX8_byteAt_28 ?_
          refine lv_sipush (v := (1000 : Int32)) hx hb dX8_byteAt_31 (by decide) ?_
          refine lv_iload_n hx hb dX8_byteAt_34 rfl (lv_at hl 1 rfl) ?_
          refine lv_imul hx hb dX8_byteAt_35 ?_
          refine lv_iload_n hx hb dX8_byteAt_36 rfl (lv_at hl 2 rfl) ?_
          refine lv_iadd hx hb dX8_byteAt_37 ?_
          obtain ⟨g6, hf⟩ := g_inv hf
          refine va_iald (f := (ar 0)) hx hb hK hP 1 0 rfl rfl (inb_vp g6) dX8_byteAt_38 ?_
          obtain rfl := Option.some.inj hf
          exact k_retI hx hb hr hlocks hP hS dX8_byteAt_39
        · rw [if_neg c5] at hf
          refine lv_iconst (v := (-1 : Int32)) hx hb dX8_byteAt_23 (by decide) ?_
          refine lv_goto (tgt := 39) hx hb dX8_byteAt_24 (by decide) ?_
          obtain rfl := Option.some.inj hf
          exact k_retI hx hb hr hlocks hP hS dX8_byteAt_39

noncomputable def fX8_agrees_L23 (sc : Nat → Int32) (ar : Nat → Nat → Int32) : Nat → (Int32) → (Int32) → Option (Int32)
  | 0, _, _ => none
  | k + 1, v1, v2 =>
    if inb (1 : Int32) 5 = true then
    if ((ar 1) (1 : Int32).toNatClampNeg) ≤ v2 then
      some v1
    else
      if v1 = 0 then
        some v1
      else
        if inb ((1000 : Int32) + v2) 5000 = true then
        if inb ((3000 : Int32) + v2) 5000 = true then
        if ((ar 0) ((1000 : Int32) + v2).toNatClampNeg) = ((ar 0) ((3000 : Int32) + v2).toNatClampNeg) then
          fX8_agrees_L23 sc ar k (1 : Int32) (v2 + (1 : Int32))
        else
          fX8_agrees_L23 sc ar k (0 : Int32) (v2 + (1 : Int32))
        else none
        else none
    else none

noncomputable def fX8_agrees (sc : Nat → Int32) (ar : Nat → Nat → Int32) : Option (Int32) :=
  if inb (1 : Int32) 5 = true then
  if inb (3 : Int32) 5 = true then
  (if ((ar 1) (1 : Int32).toNatClampNeg) = ((ar 1) (3 : Int32).toNatClampNeg) then
      some (1 : Int32)
    else
      some (0 : Int32) : Option (Int32)).bind fun R5 =>
  (fX8_agrees_L23 sc ar FU R5 (0 : Int32)).bind fun R12 =>
  if b01 R12 = true then
  some R12
  else none
  else none
  else none

set_option maxHeartbeats 4000000 in
set_option maxRecDepth 100000 in
theorem kX8_agrees (l : Launch) (D : va_G) (q : Nat → Nat) (cA : Nat → ClassId) (sc : Nat → Int32) (ar : Nat → Nat → Int32) {R : Int32} (hf : fX8_agrees sc ar = some R) : MI l yX8_agrees wsX8_agrees (rmD 0) D ([.ref (q 0)] : List Value) (wM q cA sc ar) (tM cA) NT R (wM q cA sc ar) := by
  refine MI.mk (cc := cX8_agrees) (maxL := 3) (ret := (some .boolean)) (by first | decide | decide +kernel) rfl (Nat.le_of_ble_eq_true rfl) ?_
  intro p e s m below meth cd A ls hE
  obtain ⟨hx, hb, hr, hml, hts, hown, hlocks, hP, hK, hD, hA, hN, hAe, hl⟩ := hE
  have hown : s.vm.findClass RX8 = some m.cls := hown
  have hS : va_S A s.heap s.heap [] := va_S.rf
  have hl : lv_has ls 3 [(0, .ref (q 0))] := hl
  rw [fX8_agrees] at hf
  refine lv_aload_n hx hb dX8_agrees_0 rfl (lv_at hl 0 rfl) ?_
  refine va_get (D := D) (ci := 7) (v := .ref (q 2)) (C := RX8) (T := TX8) (N := 21) hx hb hts (fun w h => List.mem_cons_of_mem _ (List.mem_append_right _ h)) hown hK hP 0 rfl rfl 1 (by decide) (hts (.fieldLink RX8 13 "DeltaWindowsModel" "length" "[I") (List.mem_of_getElem? (i := 1) rfl)) (fun _ h9 => h9) rfl dX8_agrees_1 ?_
  refine lv_iconst (v := (1 : Int32)) hx hb dX8_agrees_4 (by decide) ?_
  obtain ⟨g1, hf⟩ := g_inv hf
  refine va_iald (f := (ar 1)) hx hb hK hP 2 1 rfl rfl (inb_vp g1) dX8_agrees_5 ?_
  refine lv_aload_n hx hb dX8_agrees_6 rfl (lv_at hl 0 rfl) ?_
  refine va_get (D := D) (ci := 7) (v := .ref (q 2)) (C := RX8) (T := TX8) (N := 21) hx hb hts (fun w h => List.mem_cons_of_mem _ (List.mem_append_right _ h)) hown hK hP 0 rfl rfl 1 (by decide) (hts (.fieldLink RX8 13 "DeltaWindowsModel" "length" "[I") (List.mem_of_getElem? (i := 1) rfl)) (fun _ h9 => h9) rfl dX8_agrees_7 ?_
  refine lv_iconst (v := (3 : Int32)) hx hb dX8_agrees_10 (by decide) ?_
  obtain ⟨g2, hf⟩ := g_inv hf
  refine va_iald (f := (ar 1)) hx hb hK hP 2 1 rfl rfl (inb_vp g2) dX8_agrees_11 ?_
  obtain ⟨R5, hj15, hf⟩ := b_inv hf
  have kont : ∀ (H : Heap) (locs : List Loc) (ls : Array Slot), lv_has ls 3 [(0, .ref (q 0))] → va_P D vwCl (wM q cA sc ar) H → va_D A (wM q cA sc ar) → va_S A s.heap H locs → W p l e (headSpec wsX8_agrees (rmD 0)).room s m ([.ref (q 0)] : List Value).toArray below meth cd H locs 0 0 (QI D below ([.ref (q 0)] : List Value).toArray s A R (wM q cA sc ar)) (F0 m 20 ls [.int R5]) := by
    intro H locs ls hl hP hD hS
    refine lv_istore_n (lv' := [(1, .int R5), (0, .ref (q 0))]) hx hb dX8_agrees_20 rfl hl (by decide) rfl (fun ls hl => ?_)
    refine lv_iconst (v := (0 : Int32)) hx hb dX8_agrees_21 (by decide) ?_
    refine lv_istore_n (lv' := [(2, .int (0 : Int32)), (1, .int R5), (0, .ref (q 0))]) hx hb dX8_agrees_22 rfl hl (by decide) rfl (fun ls hl => ?_)
    have lp16 : ∀ (sc : Nat → Int32) (ar : Nat → Nat → Int32), ∀ (k : Nat) (v1 : Int32) (v2 : Int32) (H : Heap) (locs : List Loc) (ls : Array Slot) (o : Int32), lv_has ls 3 [(1, .int v1), (2, .int v2), (0, .ref (q 0))] → va_P D vwCl (wM q cA sc ar) H → va_D A (wM q cA sc ar) → va_S A s.heap H locs → fX8_agrees_L23 sc ar k v1 v2 = some o → (∀ (H : Heap) (locs : List Loc) (ls : Array Slot), lv_has ls 3 [(1, .int o)] → va_P D vwCl (wM q cA sc ar) H → va_D A (wM q cA sc ar) → va_S A s.heap H locs → W p l e (headSpec wsX8_agrees (rmD 0)).room s m ([.ref (q 0)] : List Value).toArray below meth cd H locs 0 0 (QI D below ([.ref (q 0)] : List Value).toArray s A R (wM q cA sc ar)) (F0 m 72 ls [])) → W p l e (headSpec wsX8_agrees (rmD 0)).room s m ([.ref (q 0)] : List Value).toArray below meth cd H locs 0 0 (QI D below ([.ref (q 0)] : List Value).toArray s A R (wM q cA sc ar)) (F0 m 23 ls []) := by
      intro sc ar
      intro k
      induction k with
      | zero =>
        intro v1 v2 H locs ls o hl hP hD hS hf
        exact absurd hf (by simp [fX8_agrees_L23])
      | succ k ih =>
        intro v1 v2 H locs ls o hl hP hD hS hf kont
        rw [fX8_agrees_L23] at hf
        refine lv_iload_n hx hb dX8_agrees_23 rfl (lv_at hl 1 rfl) ?_
        refine lv_aload_n hx hb dX8_agrees_24 rfl (lv_at hl 2 rfl) ?_
        refine va_get (D := D) (ci := 7) (v := .ref (q 2)) (C := RX8) (T := TX8) (N := 21) hx hb hts (fun w h => List.mem_cons_of_mem _ (List.mem_append_right _ h)) hown hK hP 0 rfl rfl 1 (by decide) (hts (.fieldLink RX8 13 "DeltaWindowsModel" "length" "[I") (List.mem_of_getElem? (i := 1) rfl)) (fun _ h9 => h9) rfl dX8_agrees_25 ?_
        refine lv_iconst (v := (1 : Int32)) hx hb dX8_agrees_28 (by decide) ?_
        obtain ⟨g6, hf⟩ := g_inv hf
        refine va_iald (f := (ar 1)) hx hb hK hP 2 1 rfl rfl (inb_vp g6) dX8_agrees_29 ?_
        refine lv_icmp_ge (tgt := 72) hx hb dX8_agrees_30 (by decide) (fun c7 => ?_) (fun c7 => ?_)
        · rw [if_pos c7] at hf
          obtain rfl := Option.some.inj hf
          exact kont _ _ _ (lv_sub hl [0] rfl) hP hD hS
        · rw [if_neg c7] at hf
          refine lv_iload_n hx hb dX8_agrees_33 rfl (lv_at hl 0 rfl) ?_
          refine lv_if_eq (tgt := 72) hx hb dX8_agrees_34 (by decide) (fun c8 => ?_) (fun c8 => ?_)
          · rw [if_pos c8] at hf
            obtain rfl := Option.some.inj hf
            exact kont _ _ _ (lv_sub hl [0] rfl) hP hD hS
          · rw [if_neg c8] at hf
            refine lv_aload_n hx hb dX8_agrees_37 rfl (lv_at hl 2 rfl) ?_
            refine va_get (D := D) (ci := 7) (v := .ref (q 1)) (C := RX8) (T := TX8) (N := 21) hx hb hts (fun w h => List.mem_cons_of_mem _ (List.mem_append_right _ h)) hown hK hP 0 rfl rfl 0 (by decide) (hts (.fieldLink RX8 7 "DeltaWindowsModel" "cell" "[I") (List.mem_of_getElem? (i := 2) rfl)) (fun _ h9 => h9) rfl dX8_agrees_38 ?_
            refine lv_sipush (v := (1000 : Int32)) hx hb dX8_agrees_41 (by decide) ?_
            refine lv_iload_n hx hb dX8_agrees_44 rfl (lv_at hl 1 rfl) ?_
            refine lv_iadd hx hb dX8_agrees_45 ?_
            obtain ⟨g9, hf⟩ := g_inv hf
            refine va_iald (f := (ar 0)) hx hb hK hP 1 0 rfl rfl (inb_vp g9) dX8_agrees_46 ?_
            refine lv_aload_n hx hb dX8_agrees_47 rfl (lv_at hl 2 rfl) ?_
            refine va_get (D := D) (ci := 7) (v := .ref (q 1)) (C := RX8) (T := TX8) (N := 21) hx hb hts (fun w h => List.mem_cons_of_mem _ (List.mem_append_right _ h)) hown hK hP 0 rfl rfl 0 (by decide) (hts (.fieldLink RX8 7 "DeltaWindowsModel" "cell" "[I") (List.mem_of_getElem? (i := 2) rfl)) (fun _ h9 => h9) rfl dX8_agrees_48 ?_
            refine lv_sipush (v := (3000 : Int32)) hx hb dX8_agrees_51 (by decide) ?_
            refine lv_iload_n hx hb dX8_agrees_54 rfl (lv_at hl 1 rfl) ?_
            refine lv_iadd hx hb dX8_agrees_55 ?_
            obtain ⟨g10, hf⟩ := g_inv hf
            refine va_iald (f := (ar 0)) hx hb hK hP 1 0 rfl rfl (inb_vp g10) dX8_agrees_56 ?_
            refine lv_icmp_ne (tgt := 64) hx hb dX8_agrees_57 (by decide) (fun c11 => ?_) (fun c11 => ?_)
            · rw [if_neg c11] at hf
              refine lv_iconst (v := (0 : Int32)) hx hb dX8_agrees_64 (by decide) ?_
              refine lv_istore_n (lv' := [(1, .int (0 : Int32)), (2, .int v2), (0, .ref (q 0))]) hx hb dX8_agrees_65 rfl hl (by decide) rfl (fun ls hl => ?_)
              refine lv_iinc (v := (v2 + (1 : Int32))) (lv' := [(2, .int (v2 + (1 : Int32))), (1, .int (0 : Int32)), (0, .ref (q 0))]) hx hb dX8_agrees_66 hl (k := 1) rfl rfl (by decide) rfl (fun ls hl => ?_)
              refine lv_goto (tgt := 23) hx hb dX8_agrees_69 (by decide) ?_
              exact ih (0 : Int32) (v2 + (1 : Int32)) _ _ _ o (lv_sub hl [1, 0, 2] rfl) hP hD hS hf kont
            · rw [if_pos c11] at hf
              refine lv_iconst (v := (1 : Int32)) hx hb dX8_agrees_60 (by decide) ?_
              refine lv_goto (tgt := 65) hx hb dX8_agrees_61 (by decide) ?_
              refine lv_istore_n (lv' := [(1, .int (1 : Int32)), (2, .int v2), (0, .ref (q 0))]) hx hb dX8_agrees_65 rfl hl (by decide) rfl (fun ls hl => ?_)
              refine lv_iinc (v := (v2 + (1 : Int32))) (lv' := [(2, .int (v2 + (1 : Int32))), (1, .int (1 : Int32)), (0, .ref (q 0))]) hx hb dX8_agrees_66 hl (k := 1) rfl rfl (by decide) rfl (fun ls hl => ?_)
              refine lv_goto (tgt := 23) hx hb dX8_agrees_69 (by decide) ?_
              exact ih (1 : Int32) (v2 + (1 : Int32)) _ _ _ o (lv_sub hl [1, 0, 2] rfl) hP hD hS hf kont
    obtain ⟨R12, hc13, hf⟩ := b_inv hf
    refine lp16 sc ar FU R5 (0 : Int32) _ _ _ R12 (lv_sub hl [1, 0, 2] rfl) hP hD hS hc13 (fun H locs ls hl hP hD hS => ?_)
    refine lv_iload_n hx hb dX8_agrees_72 rfl (lv_at hl 0 rfl) ?_
    obtain ⟨g14, hf⟩ := g_inv hf
    obtain rfl := Option.some.inj hf
    exact k_retZ hx hb hr hlocks hP hS g14 dX8_agrees_73
  refine lv_icmp_ne (tgt := 19) hx hb dX8_agrees_12 (by decide) (fun c4 => ?_) (fun c4 => ?_)
  · rw [if_neg c4] at hj15
    refine lv_iconst (v := (0 : Int32)) hx hb dX8_agrees_19 (by decide) ?_
    obtain rfl := Option.some.inj hj15
    exact kont _ _ _ (lv_sub hl [0] rfl) hP hD hS
  · rw [if_pos c4] at hj15
    refine lv_iconst (v := (1 : Int32)) hx hb dX8_agrees_15 (by decide) ?_
    refine lv_goto (tgt := 20) hx hb dX8_agrees_16 (by decide) ?_
    obtain rfl := Option.some.inj hj15
    exact kont _ _ _ (lv_sub hl [0] rfl) hP hD hS

noncomputable def fX8_code (sc : Nat → Int32) (ar : Nat → Nat → Int32) (x1 : Int32) (x2 : Int32) : Option (Int32) :=
  (fX8_isByte x1).bind fun R1 =>
  if R1 = 0 then
    some (-1 : Int32)
  else
    if x2 < 0 then
      some (-1 : Int32)
    else
      if x2 ≤ (5 : Int32) then
        (fX8_part x1 x2).bind fun R6 =>
        some R6
      else
        some (-1 : Int32)

set_option maxHeartbeats 4000000 in
set_option maxRecDepth 100000 in
theorem kX8_code (l : Launch) (D : va_G) (q : Nat → Nat) (cA : Nat → ClassId) (sc : Nat → Int32) (ar : Nat → Nat → Int32) (x1 : Int32) (x2 : Int32) {R : Int32} (hf : fX8_code sc ar x1 x2 = some R) : MI l yX8_code wsX8_code (rmD 1) D ([.ref (q 0), .int x1, .int x2] : List Value) (wM q cA sc ar) (tM cA) NT R (wM q cA sc ar) := by
  refine MI.mk (cc := cX8_code) (maxL := 3) (ret := (some .int)) (by first | decide | decide +kernel) rfl (Nat.le_of_ble_eq_true rfl) ?_
  intro p e s m below meth cd A ls hE
  obtain ⟨hx, hb, hr, hml, hts, hown, hlocks, hP, hK, hD, hA, hN, hAe, hl⟩ := hE
  have hown : s.vm.findClass RX8 = some m.cls := hown
  have hS : va_S A s.heap s.heap [] := va_S.rf
  have hl : lv_has ls 3 [(0, .ref (q 0)), (1, .int x1), (2, .int x2)] := hl
  rw [fX8_code] at hf
  refine lv_iload_n hx hb dX8_code_0 rfl (lv_at hl 1 rfl) ?_
  obtain ⟨R1, hc2, hf⟩ := b_inv hf
  have hk := kcut (wc := ([] : va_W)) (wc' := ([] : va_W)) (wf := (wM q cA sc ar)) hP hD hS hA [] rfl (by decide) rfl rfl
  refine k_goI (va_runS (As := [.int x1]) (rest := []) ⟨hx, hb, hml, hown, hts⟩ (kX8_isByte l D x1 hc2 _) ⟨callB_of 1 hts ggX8_code_X8_isByte rfl rfl rfl (hts (.initialized RX8) (List.mem_of_getElem? (i := 3) rfl)) (hts (.methodLink RX8 46 yX8_isByte) (List.mem_of_getElem? (i := 1) rfl)) (by decide +kernel) ⟨Nat.le_of_ble_eq_true rfl, Nat.le_of_ble_eq_true rfl⟩, (hts (.static yX8_isByte) (List.mem_of_getElem? (i := 2) rfl))⟩ (k_preS hk (hK.sub [] rfl) NT_bl NT_u) rfl rfl hl.1 rfl (lv_room (Nat.le_of_ble_eq_true rfl)) dX8_code_1 ⟨Nat.zero_le _, Nat.zero_le _⟩) hk hS (fun H locs hP hD hS => ?_)
  refine lv_if_eq (tgt := 16) hx hb dX8_code_4 (by decide) (fun c3 => ?_) (fun c3 => ?_)
  · rw [if_pos c3] at hf
    refine lv_iconst (v := (-1 : Int32)) hx hb dX8_code_16 (by decide) ?_
    refine lv_goto (tgt := 25) hx hb dX8_code_17 (by decide) ?_
    obtain rfl := Option.some.inj hf
    exact k_retI hx hb hr hlocks hP hS dX8_code_25
  · rw [if_neg c3] at hf
    refine lv_iload_n hx hb dX8_code_7 rfl (lv_at hl 2 rfl) ?_
    refine lv_if_lt (tgt := 16) hx hb dX8_code_8 (by decide) (fun c4 => ?_) (fun c4 => ?_)
    · rw [if_pos c4] at hf
      refine lv_iconst (v := (-1 : Int32)) hx hb dX8_code_16 (by decide) ?_
      refine lv_goto (tgt := 25) hx hb dX8_code_17 (by decide) ?_
      obtain rfl := Option.some.inj hf
      exact k_retI hx hb hr hlocks hP hS dX8_code_25
    · rw [if_neg c4] at hf
      refine lv_iload_n hx hb dX8_code_11 rfl (lv_at hl 2 rfl) ?_
      refine lv_iconst (v := (5 : Int32)) hx hb dX8_code_12 (by decide) ?_
      refine lv_icmp_le (tgt := 20) hx hb dX8_code_13 (by decide) (fun c5 => ?_) (fun c5 => ?_)
      · rw [if_pos c5] at hf
        refine lv_iload_n hx hb dX8_code_20 rfl (lv_at hl 1 rfl) ?_
        refine lv_iload_n hx hb dX8_code_21 rfl (lv_at hl 2 rfl) ?_
        obtain ⟨R6, hc7, hf⟩ := b_inv hf
        have hk := kcut (wc := ([] : va_W)) (wc' := ([] : va_W)) (wf := (wM q cA sc ar)) hP hD hS hA [] rfl (by decide) rfl rfl
        refine k_goI (va_runS (As := [.int x1, .int x2]) (rest := []) ⟨hx, hb, hml, hown, hts⟩ (kX8_part l D x1 x2 hc7 _) ⟨callB_of 2 hts ggX8_code_X8_part rfl rfl rfl (hts (.initialized RX8) (List.mem_of_getElem? (i := 3) rfl)) (hts (.methodLink RX8 58 yX8_part) (List.mem_of_getElem? (i := 5) rfl)) (by decide +kernel) ⟨Nat.le_of_ble_eq_true rfl, Nat.le_of_ble_eq_true rfl⟩, (hts (.static yX8_part) (List.mem_of_getElem? (i := 6) rfl))⟩ (k_preS hk (hK.sub [] rfl) NT_bl NT_u) rfl rfl hl.1 rfl (lv_room (Nat.le_of_ble_eq_true rfl)) dX8_code_22 ⟨Nat.zero_le _, Nat.zero_le _⟩) hk hS (fun H locs hP hD hS => ?_)
        obtain rfl := Option.some.inj hf
        exact k_retI hx hb hr hlocks hP hS dX8_code_25
      · rw [if_neg c5] at hf
        refine lv_iconst (v := (-1 : Int32)) hx hb dX8_code_16 (by decide) ?_
        refine lv_goto (tgt := 25) hx hb dX8_code_17 (by decide) ?_
        obtain rfl := Option.some.inj hf
        exact k_retI hx hb hr hlocks hP hS dX8_code_25

noncomputable def fX8_forget_L2 (sc : Nat → Int32) : Nat → (Int32) → (Nat → Nat → Int32) → Option ((Nat → Nat → Int32))
  | 0, _, _ => none
  | k + 1, v1, ar =>
    if (4 : Int32) ≤ v1 then
      some ar
    else
      if inb v1 4 = true then
      fX8_forget_L2 sc k (v1 + (1 : Int32)) (va_up ar 2 (upd (ar 2) v1.toNatClampNeg (0 : Int32)))
      else none

noncomputable def fX8_forget_L22 (sc : Nat → Int32) : Nat → (Int32) → (Nat → Nat → Int32) → Option ((Nat → Nat → Int32))
  | 0, _, _ => none
  | k + 1, v1, ar =>
    if (768 : Int32) ≤ v1 then
      some ar
    else
      if inb v1 768 = true then
      fX8_forget_L22 sc k (v1 + (1 : Int32)) (va_up ar 3 (upd (ar 3) v1.toNatClampNeg (0 : Int32)))
      else none

noncomputable def fX8_forget (sc : Nat → Int32) (ar : Nat → Nat → Int32) : Option ((Nat → Int32) × (Nat → Nat → Int32)) :=
  (fX8_forget_L2 sc FU (0 : Int32) ar).bind fun R3 =>
  (fX8_forget_L22 sc FU (0 : Int32) R3).bind fun R7 =>
  some ((va_up sc 1 (0 : Int32)), R7)

set_option maxHeartbeats 4000000 in
set_option maxRecDepth 100000 in
theorem kX8_forget (l : Launch) (D : va_G) (q : Nat → Nat) (cA : Nat → ClassId) (sc : Nat → Int32) (ar : Nat → Nat → Int32) {R : (Nat → Int32) × (Nat → Nat → Int32)} (hf : fX8_forget sc ar = some R) : MV l yX8_forget wsX8_forget (rmD 0) D ([.ref (q 0)] : List Value) (wM q cA sc ar) (tM cA) NT (wM q cA R.1 R.2) := by
  refine MV.mk (cc := cX8_forget) (maxL := 2) (ret := none) (by first | decide | decide +kernel) rfl (Nat.le_of_ble_eq_true rfl) ?_
  intro p e s m below meth cd A ls hE
  obtain ⟨hx, hb, hr, hml, hts, hown, hlocks, hP, hK, hD, hA, hN, hAe, hl⟩ := hE
  have hown : s.vm.findClass RX8 = some m.cls := hown
  have hS : va_S A s.heap s.heap [] := va_S.rf
  have hl : lv_has ls 2 [(0, .ref (q 0))] := hl
  rw [fX8_forget] at hf
  refine lv_iconst (v := (0 : Int32)) hx hb dX8_forget_0 (by decide) ?_
  refine lv_istore_n (lv' := [(1, .int (0 : Int32)), (0, .ref (q 0))]) hx hb dX8_forget_1 rfl hl (by decide) rfl (fun ls hl => ?_)
  have lp9 : ∀ (sc : Nat → Int32), ∀ (k : Nat) (v1 : Int32) (ar : Nat → Nat → Int32) (H : Heap) (locs : List Loc) (ls : Array Slot) (o : (Nat → Nat → Int32)), lv_has ls 2 [(1, .int v1), (0, .ref (q 0))] → va_P D vwCl (wM q cA sc ar) H → va_D A (wM q cA sc ar) → va_S A s.heap H locs → fX8_forget_L2 sc k v1 ar = some o → (∀ (H : Heap) (locs : List Loc) (ls : Array Slot), lv_has ls 2 [(0, .ref (q 0))] → va_P D vwCl (wM q cA sc o) H → va_D A (wM q cA sc o) → va_S A s.heap H locs → W p l e (headSpec wsX8_forget (rmD 0)).room s m ([.ref (q 0)] : List Value).toArray below meth cd H locs 0 0 (QV D below ([.ref (q 0)] : List Value).toArray s A (wM q cA R.1 R.2)) (F0 m 20 ls [])) → W p l e (headSpec wsX8_forget (rmD 0)).room s m ([.ref (q 0)] : List Value).toArray below meth cd H locs 0 0 (QV D below ([.ref (q 0)] : List Value).toArray s A (wM q cA R.1 R.2)) (F0 m 2 ls []) := by
    intro sc
    intro k
    induction k with
    | zero =>
      intro v1 ar H locs ls o hl hP hD hS hf
      exact absurd hf (by simp [fX8_forget_L2])
    | succ k ih =>
      intro v1 ar H locs ls o hl hP hD hS hf kont
      rw [fX8_forget_L2] at hf
      refine lv_iload_n hx hb dX8_forget_2 rfl (lv_at hl 0 rfl) ?_
      refine lv_iconst (v := (4 : Int32)) hx hb dX8_forget_3 (by decide) ?_
      refine lv_icmp_ge (tgt := 20) hx hb dX8_forget_4 (by decide) (fun c1 => ?_) (fun c1 => ?_)
      · rw [if_pos c1] at hf
        obtain rfl := Option.some.inj hf
        exact kont _ _ _ (lv_sub hl [1] rfl) hP hD hS
      · rw [if_neg c1] at hf
        refine lv_aload_n hx hb dX8_forget_7 rfl (lv_at hl 1 rfl) ?_
        refine va_get (D := D) (ci := 7) (v := .ref (q 3)) (C := RX8) (T := TX8) (N := 21) hx hb hts (fun w h => List.mem_cons_of_mem _ (List.mem_append_right _ h)) hown hK hP 0 rfl rfl 3 (by decide) (hts (.fieldLink RX8 16 "DeltaWindowsModel" "near" "[I") (List.mem_of_getElem? (i := 1) rfl)) (fun _ h9 => h9) rfl dX8_forget_8 ?_
        refine lv_iload_n hx hb dX8_forget_11 rfl (lv_at hl 0 rfl) ?_
        refine lv_iconst (v := (0 : Int32)) hx hb dX8_forget_12 (by decide) ?_
        obtain ⟨g2, hf⟩ := g_inv hf
        refine va_iast (f := (ar 2)) hx hb hK hP hD hS 3 2 rfl rfl (inb_vp g2) dX8_forget_13 (fun H locs hP hD hS => ?_)
        have hP : va_P D vwCl (wM q cA sc (va_up ar 2 (upd (ar 2) v1.toNatClampNeg (0 : Int32)))) H := va_P_eq (wM_a2 q cA sc ar (upd (ar 2) v1.toNatClampNeg (0 : Int32))) hP
        have hD : va_D A (wM q cA sc (va_up ar 2 (upd (ar 2) v1.toNatClampNeg (0 : Int32)))) := va_D_eq (wM_a2 q cA sc ar (upd (ar 2) v1.toNatClampNeg (0 : Int32))) hD
        refine lv_iinc (v := (v1 + (1 : Int32))) (lv' := [(1, .int (v1 + (1 : Int32))), (0, .ref (q 0))]) hx hb dX8_forget_14 hl (k := 0) rfl rfl (by decide) rfl (fun ls hl => ?_)
        refine lv_goto (tgt := 2) hx hb dX8_forget_17 (by decide) ?_
        exact ih (v1 + (1 : Int32)) (va_up ar 2 (upd (ar 2) v1.toNatClampNeg (0 : Int32))) _ _ _ o (lv_sub hl [0, 1] rfl) hP hD hS hf kont
  obtain ⟨R3, hc4, hf⟩ := b_inv hf
  refine lp9 sc FU (0 : Int32) ar _ _ _ R3 (lv_sub hl [0, 1] rfl) hP hD hS hc4 (fun H locs ls hl hP hD hS => ?_)
  refine lv_iconst (v := (0 : Int32)) hx hb dX8_forget_20 (by decide) ?_
  refine lv_istore_n (lv' := [(1, .int (0 : Int32)), (0, .ref (q 0))]) hx hb dX8_forget_21 rfl hl (by decide) rfl (fun ls hl => ?_)
  have lp10 : ∀ (sc : Nat → Int32), ∀ (k : Nat) (v1 : Int32) (ar : Nat → Nat → Int32) (H : Heap) (locs : List Loc) (ls : Array Slot) (o : (Nat → Nat → Int32)), lv_has ls 2 [(1, .int v1), (0, .ref (q 0))] → va_P D vwCl (wM q cA sc ar) H → va_D A (wM q cA sc ar) → va_S A s.heap H locs → fX8_forget_L22 sc k v1 ar = some o → (∀ (H : Heap) (locs : List Loc) (ls : Array Slot), lv_has ls 2 [(0, .ref (q 0))] → va_P D vwCl (wM q cA sc o) H → va_D A (wM q cA sc o) → va_S A s.heap H locs → W p l e (headSpec wsX8_forget (rmD 0)).room s m ([.ref (q 0)] : List Value).toArray below meth cd H locs 0 0 (QV D below ([.ref (q 0)] : List Value).toArray s A (wM q cA R.1 R.2)) (F0 m 42 ls [])) → W p l e (headSpec wsX8_forget (rmD 0)).room s m ([.ref (q 0)] : List Value).toArray below meth cd H locs 0 0 (QV D below ([.ref (q 0)] : List Value).toArray s A (wM q cA R.1 R.2)) (F0 m 22 ls []) := by
    intro sc
    intro k
    induction k with
    | zero =>
      intro v1 ar H locs ls o hl hP hD hS hf
      exact absurd hf (by simp [fX8_forget_L22])
    | succ k ih =>
      intro v1 ar H locs ls o hl hP hD hS hf kont
      rw [fX8_forget_L22] at hf
      refine lv_iload_n hx hb dX8_forget_22 rfl (lv_at hl 0 rfl) ?_
      refine lv_sipush (v := (768 : Int32)) hx hb dX8_forget_23 (by decide) ?_
      refine lv_icmp_ge (tgt := 42) hx hb dX8_forget_26 (by decide) (fun c5 => ?_) (fun c5 => ?_)
      · rw [if_pos c5] at hf
        obtain rfl := Option.some.inj hf
        exact kont _ _ _ (lv_sub hl [1] rfl) hP hD hS
      · rw [if_neg c5] at hf
        refine lv_aload_n hx hb dX8_forget_29 rfl (lv_at hl 1 rfl) ?_
        refine va_get (D := D) (ci := 7) (v := .ref (q 4)) (C := RX8) (T := TX8) (N := 21) hx hb hts (fun w h => List.mem_cons_of_mem _ (List.mem_append_right _ h)) hown hK hP 0 rfl rfl 4 (by decide) (hts (.fieldLink RX8 19 "DeltaWindowsModel" "same" "[I") (List.mem_of_getElem? (i := 2) rfl)) (fun _ h9 => h9) rfl dX8_forget_30 ?_
        refine lv_iload_n hx hb dX8_forget_33 rfl (lv_at hl 0 rfl) ?_
        refine lv_iconst (v := (0 : Int32)) hx hb dX8_forget_34 (by decide) ?_
        obtain ⟨g6, hf⟩ := g_inv hf
        refine va_iast (f := (ar 3)) hx hb hK hP hD hS 4 3 rfl rfl (inb_vp g6) dX8_forget_35 (fun H locs hP hD hS => ?_)
        have hP : va_P D vwCl (wM q cA sc (va_up ar 3 (upd (ar 3) v1.toNatClampNeg (0 : Int32)))) H := va_P_eq (wM_a3 q cA sc ar (upd (ar 3) v1.toNatClampNeg (0 : Int32))) hP
        have hD : va_D A (wM q cA sc (va_up ar 3 (upd (ar 3) v1.toNatClampNeg (0 : Int32)))) := va_D_eq (wM_a3 q cA sc ar (upd (ar 3) v1.toNatClampNeg (0 : Int32))) hD
        refine lv_iinc (v := (v1 + (1 : Int32))) (lv' := [(1, .int (v1 + (1 : Int32))), (0, .ref (q 0))]) hx hb dX8_forget_36 hl (k := 0) rfl rfl (by decide) rfl (fun ls hl => ?_)
        refine lv_goto (tgt := 22) hx hb dX8_forget_39 (by decide) ?_
        exact ih (v1 + (1 : Int32)) (va_up ar 3 (upd (ar 3) v1.toNatClampNeg (0 : Int32))) _ _ _ o (lv_sub hl [0, 1] rfl) hP hD hS hf kont
  obtain ⟨R7, hc8, hf⟩ := b_inv hf
  refine lp10 sc FU (0 : Int32) R3 _ _ _ R7 (lv_sub hl [0, 1] rfl) hP hD hS hc8 (fun H locs ls hl hP hD hS => ?_)
  refine lv_aload_n hx hb dX8_forget_42 rfl (lv_at hl 0 rfl) ?_
  refine lv_iconst (v := (0 : Int32)) hx hb dX8_forget_43 (by decide) ?_
  refine va_put (D := D) (ci := 7) (v := .int (0 : Int32)) (ty := .int) (C := RX8) (T := TX8) (N := 21) hx hb hts (fun w h => List.mem_cons_of_mem _ (List.mem_append_right _ h)) tyX8 tyX8_ok nmX8 hown hK hP hD hS 0 rfl rfl 5 (by decide) (hts (.fieldLink RX8 62 "DeltaWindowsModel" "turn" "I") (List.mem_of_getElem? (i := 3) rfl)) (fun _ h9 => h9) rfl (by decide +kernel) rfl rfl (Nat.le_of_ble_eq_true rfl) dX8_forget_44 (fun H locs hP hD hS => ?_)
  have hP : va_P D vwCl (wM q cA (va_up sc 1 (0 : Int32)) R7) H := va_P_eq (wM_s1 q cA sc R7 (0 : Int32)) hP
  have hD : va_D A (wM q cA (va_up sc 1 (0 : Int32)) R7) := va_D_eq (wM_s1 q cA sc R7 (0 : Int32)) hD
  obtain rfl := Option.some.inj hf
  exact k_retV hx hb hr hlocks hP hS dX8_forget_47

noncomputable def fX8_note (sc : Nat → Int32) (ar : Nat → Nat → Int32) (x1 : Int32) : Option ((Nat → Int32) × (Nat → Nat → Int32)) :=
  if inb (sc 1) 4 = true then
  if inb (x1 - x1 / (768 : Int32) * (768 : Int32)) 768 = true then
  some ((va_up sc 1 (((sc 1) + (1 : Int32)) - ((sc 1) + (1 : Int32)) / (4 : Int32) * (4 : Int32))), (va_up (va_up ar 2 (upd (ar 2) (sc 1).toNatClampNeg x1)) 3 (upd (ar 3) (x1 - x1 / (768 : Int32) * (768 : Int32)).toNatClampNeg x1)))
  else none
  else none

set_option maxHeartbeats 4000000 in
set_option maxRecDepth 100000 in
theorem kX8_note (l : Launch) (D : va_G) (q : Nat → Nat) (cA : Nat → ClassId) (sc : Nat → Int32) (ar : Nat → Nat → Int32) (x1 : Int32) {R : (Nat → Int32) × (Nat → Nat → Int32)} (hf : fX8_note sc ar x1 = some R) : MV l yX8_note wsX8_note (rmD 0) D ([.ref (q 0), .int x1] : List Value) (wM q cA sc ar) (tM cA) NT (wM q cA R.1 R.2) := by
  refine MV.mk (cc := cX8_note) (maxL := 2) (ret := none) (by first | decide | decide +kernel) rfl (Nat.le_of_ble_eq_true rfl) ?_
  intro p e s m below meth cd A ls hE
  obtain ⟨hx, hb, hr, hml, hts, hown, hlocks, hP, hK, hD, hA, hN, hAe, hl⟩ := hE
  have hown : s.vm.findClass RX8 = some m.cls := hown
  have hS : va_S A s.heap s.heap [] := va_S.rf
  have hl : lv_has ls 2 [(0, .ref (q 0)), (1, .int x1)] := hl
  rw [fX8_note] at hf
  refine lv_aload_n hx hb dX8_note_0 rfl (lv_at hl 0 rfl) ?_
  refine va_get (D := D) (ci := 7) (v := .ref (q 3)) (C := RX8) (T := TX8) (N := 21) hx hb hts (fun w h => List.mem_cons_of_mem _ (List.mem_append_right _ h)) hown hK hP 0 rfl rfl 3 (by decide) (hts (.fieldLink RX8 16 "DeltaWindowsModel" "near" "[I") (List.mem_of_getElem? (i := 1) rfl)) (fun _ h9 => h9) rfl dX8_note_1 ?_
  refine lv_aload_n hx hb dX8_note_4 rfl (lv_at hl 0 rfl) ?_
  refine va_get (D := D) (ci := 7) (v := .int (sc 1)) (C := RX8) (T := TX8) (N := 21) hx hb hts (fun w h => List.mem_cons_of_mem _ (List.mem_append_right _ h)) hown hK hP 0 rfl rfl 5 (by decide) (hts (.fieldLink RX8 62 "DeltaWindowsModel" "turn" "I") (List.mem_of_getElem? (i := 2) rfl)) (fun _ h9 => h9) rfl dX8_note_5 ?_
  refine lv_iload_n hx hb dX8_note_8 rfl (lv_at hl 1 rfl) ?_
  obtain ⟨g1, hf⟩ := g_inv hf
  refine va_iast (f := (ar 2)) hx hb hK hP hD hS 3 2 rfl rfl (inb_vp g1) dX8_note_9 (fun H locs hP hD hS => ?_)
  have hP : va_P D vwCl (wM q cA sc (va_up ar 2 (upd (ar 2) (sc 1).toNatClampNeg x1))) H := va_P_eq (wM_a2 q cA sc ar (upd (ar 2) (sc 1).toNatClampNeg x1)) hP
  have hD : va_D A (wM q cA sc (va_up ar 2 (upd (ar 2) (sc 1).toNatClampNeg x1))) := va_D_eq (wM_a2 q cA sc ar (upd (ar 2) (sc 1).toNatClampNeg x1)) hD
  refine lv_aload_n hx hb dX8_note_10 rfl (lv_at hl 0 rfl) ?_
  refine lv_aload_n hx hb dX8_note_11 rfl (lv_at hl 0 rfl) ?_
  refine va_get (D := D) (ci := 7) (v := .int (sc 1)) (C := RX8) (T := TX8) (N := 21) hx hb hts (fun w h => List.mem_cons_of_mem _ (List.mem_append_right _ h)) hown hK hP 0 rfl rfl 5 (by decide) (hts (.fieldLink RX8 62 "DeltaWindowsModel" "turn" "I") (List.mem_of_getElem? (i := 2) rfl)) (fun _ h9 => h9) rfl dX8_note_12 ?_
  refine lv_iconst (v := (1 : Int32)) hx hb dX8_note_15 (by decide) ?_
  refine lv_iadd hx hb dX8_note_16 ?_
  refine lv_iconst (v := (4 : Int32)) hx hb dX8_note_17 (by decide) ?_
  refine lv_irem hx hb dX8_note_18 (by decide) ?_
  refine va_put (D := D) (ci := 7) (v := .int (((sc 1) + (1 : Int32)) - ((sc 1) + (1 : Int32)) / (4 : Int32) * (4 : Int32))) (ty := .int) (C := RX8) (T := TX8) (N := 21) hx hb hts (fun w h => List.mem_cons_of_mem _ (List.mem_append_right _ h)) tyX8 tyX8_ok nmX8 hown hK hP hD hS 0 rfl rfl 5 (by decide) (hts (.fieldLink RX8 62 "DeltaWindowsModel" "turn" "I") (List.mem_of_getElem? (i := 2) rfl)) (fun _ h9 => h9) rfl (by decide +kernel) rfl rfl (Nat.le_of_ble_eq_true rfl) dX8_note_19 (fun H locs hP hD hS => ?_)
  have hP : va_P D vwCl (wM q cA (va_up sc 1 (((sc 1) + (1 : Int32)) - ((sc 1) + (1 : Int32)) / (4 : Int32) * (4 : Int32))) (va_up ar 2 (upd (ar 2) (sc 1).toNatClampNeg x1))) H := va_P_eq (wM_s1 q cA sc (va_up ar 2 (upd (ar 2) (sc 1).toNatClampNeg x1)) (((sc 1) + (1 : Int32)) - ((sc 1) + (1 : Int32)) / (4 : Int32) * (4 : Int32))) hP
  have hD : va_D A (wM q cA (va_up sc 1 (((sc 1) + (1 : Int32)) - ((sc 1) + (1 : Int32)) / (4 : Int32) * (4 : Int32))) (va_up ar 2 (upd (ar 2) (sc 1).toNatClampNeg x1))) := va_D_eq (wM_s1 q cA sc (va_up ar 2 (upd (ar 2) (sc 1).toNatClampNeg x1)) (((sc 1) + (1 : Int32)) - ((sc 1) + (1 : Int32)) / (4 : Int32) * (4 : Int32))) hD
  refine lv_aload_n hx hb dX8_note_22 rfl (lv_at hl 0 rfl) ?_
  refine va_get (D := D) (ci := 7) (v := .ref (q 4)) (C := RX8) (T := TX8) (N := 21) hx hb hts (fun w h => List.mem_cons_of_mem _ (List.mem_append_right _ h)) hown hK hP 0 rfl rfl 4 (by decide) (hts (.fieldLink RX8 19 "DeltaWindowsModel" "same" "[I") (List.mem_of_getElem? (i := 3) rfl)) (fun _ h9 => h9) rfl dX8_note_23 ?_
  refine lv_iload_n hx hb dX8_note_26 rfl (lv_at hl 1 rfl) ?_
  refine lv_sipush (v := (768 : Int32)) hx hb dX8_note_27 (by decide) ?_
  refine lv_irem hx hb dX8_note_30 (by decide) ?_
  refine lv_iload_n hx hb dX8_note_31 rfl (lv_at hl 1 rfl) ?_
  obtain ⟨g2, hf⟩ := g_inv hf
  refine va_iast (f := (ar 3)) hx hb hK hP hD hS 4 3 rfl rfl (inb_vp g2) dX8_note_32 (fun H locs hP hD hS => ?_)
  have hP : va_P D vwCl (wM q cA (va_up sc 1 (((sc 1) + (1 : Int32)) - ((sc 1) + (1 : Int32)) / (4 : Int32) * (4 : Int32))) (va_up (va_up ar 2 (upd (ar 2) (sc 1).toNatClampNeg x1)) 3 (upd (ar 3) (x1 - x1 / (768 : Int32) * (768 : Int32)).toNatClampNeg x1))) H := va_P_eq (wM_a3 q cA (va_up sc 1 (((sc 1) + (1 : Int32)) - ((sc 1) + (1 : Int32)) / (4 : Int32) * (4 : Int32))) (va_up ar 2 (upd (ar 2) (sc 1).toNatClampNeg x1)) (upd (ar 3) (x1 - x1 / (768 : Int32) * (768 : Int32)).toNatClampNeg x1)) hP
  have hD : va_D A (wM q cA (va_up sc 1 (((sc 1) + (1 : Int32)) - ((sc 1) + (1 : Int32)) / (4 : Int32) * (4 : Int32))) (va_up (va_up ar 2 (upd (ar 2) (sc 1).toNatClampNeg x1)) 3 (upd (ar 3) (x1 - x1 / (768 : Int32) * (768 : Int32)).toNatClampNeg x1))) := va_D_eq (wM_a3 q cA (va_up sc 1 (((sc 1) + (1 : Int32)) - ((sc 1) + (1 : Int32)) / (4 : Int32) * (4 : Int32))) (va_up ar 2 (upd (ar 2) (sc 1).toNatClampNeg x1)) (upd (ar 3) (x1 - x1 / (768 : Int32) * (768 : Int32)).toNatClampNeg x1)) hD
  obtain rfl := Option.some.inj hf
  exact k_retV hx hb hr hlocks hP hS dX8_note_33

noncomputable def fX8_show_L2 (sc : Nat → Int32) (v1 : Int32) : Nat → (Int32) → (Nat → Nat → Int32) → Option ((Nat → Nat → Int32))
  | 0, _, _ => none
  | k + 1, v2, ar =>
    if (772 : Int32) ≤ v2 then
      some ar
    else
      if (4 : Int32) ≤ v2 then
        if inb (v2 - (4 : Int32)) 768 = true then
        if inb (((772 : Int32) * v1) + v2) 1544 = true then
        fX8_show_L2 sc v1 k (v2 + (1 : Int32)) (va_up ar 4 (upd (ar 4) (((772 : Int32) * v1) + v2).toNatClampNeg ((ar 3) (v2 - (4 : Int32)).toNatClampNeg)))
        else none
        else none
      else
        if inb v2 4 = true then
        if inb (((772 : Int32) * v1) + v2) 1544 = true then
        fX8_show_L2 sc v1 k (v2 + (1 : Int32)) (va_up ar 4 (upd (ar 4) (((772 : Int32) * v1) + v2).toNatClampNeg ((ar 2) v2.toNatClampNeg)))
        else none
        else none

noncomputable def fX8_show (sc : Nat → Int32) (ar : Nat → Nat → Int32) (x1 : Int32) : Option ((Nat → Nat → Int32)) :=
  (fX8_show_L2 sc x1 FU (0 : Int32) ar).bind fun R7 =>
  some R7

set_option maxHeartbeats 4000000 in
set_option maxRecDepth 100000 in
theorem kX8_show (l : Launch) (D : va_G) (q : Nat → Nat) (cA : Nat → ClassId) (sc : Nat → Int32) (ar : Nat → Nat → Int32) (x1 : Int32) {R : (Nat → Nat → Int32)} (hf : fX8_show sc ar x1 = some R) : MV l yX8_show wsX8_show (rmD 0) D ([.ref (q 0), .int x1] : List Value) (wM q cA sc ar) (tM cA) NT (wM q cA sc R) := by
  refine MV.mk (cc := cX8_show) (maxL := 3) (ret := none) (by first | decide | decide +kernel) rfl (Nat.le_of_ble_eq_true rfl) ?_
  intro p e s m below meth cd A ls hE
  obtain ⟨hx, hb, hr, hml, hts, hown, hlocks, hP, hK, hD, hA, hN, hAe, hl⟩ := hE
  have hown : s.vm.findClass RX8 = some m.cls := hown
  have hS : va_S A s.heap s.heap [] := va_S.rf
  have hl : lv_has ls 3 [(0, .ref (q 0)), (1, .int x1)] := hl
  rw [fX8_show] at hf
  refine lv_iconst (v := (0 : Int32)) hx hb dX8_show_0 (by decide) ?_
  refine lv_istore_n (lv' := [(2, .int (0 : Int32)), (0, .ref (q 0)), (1, .int x1)]) hx hb dX8_show_1 rfl hl (by decide) rfl (fun ls hl => ?_)
  have lp9 : ∀ (sc : Nat → Int32) (v1 : Int32), ∀ (k : Nat) (v2 : Int32) (ar : Nat → Nat → Int32) (H : Heap) (locs : List Loc) (ls : Array Slot) (o : (Nat → Nat → Int32)), lv_has ls 3 [(2, .int v2), (1, .int v1), (0, .ref (q 0))] → va_P D vwCl (wM q cA sc ar) H → va_D A (wM q cA sc ar) → va_S A s.heap H locs → fX8_show_L2 sc v1 k v2 ar = some o → (∀ (H : Heap) (locs : List Loc) (ls : Array Slot), lv_has ls 3 [] → va_P D vwCl (wM q cA sc o) H → va_D A (wM q cA sc o) → va_S A s.heap H locs → W p l e (headSpec wsX8_show (rmD 0)).room s m ([.ref (q 0), .int x1] : List Value).toArray below meth cd H locs 0 0 (QV D below ([.ref (q 0), .int x1] : List Value).toArray s A (wM q cA sc R)) (F0 m 49 ls [])) → W p l e (headSpec wsX8_show (rmD 0)).room s m ([.ref (q 0), .int x1] : List Value).toArray below meth cd H locs 0 0 (QV D below ([.ref (q 0), .int x1] : List Value).toArray s A (wM q cA sc R)) (F0 m 2 ls []) := by
    intro sc v1
    intro k
    induction k with
    | zero =>
      intro v2 ar H locs ls o hl hP hD hS hf
      exact absurd hf (by simp [fX8_show_L2])
    | succ k ih =>
      intro v2 ar H locs ls o hl hP hD hS hf kont
      rw [fX8_show_L2] at hf
      refine lv_iload_n hx hb dX8_show_2 rfl (lv_at hl 0 rfl) ?_
      refine lv_sipush (v := (772 : Int32)) hx hb dX8_show_3 (by decide) ?_
      refine lv_icmp_ge (tgt := 49) hx hb dX8_show_6 (by decide) (fun c1 => ?_) (fun c1 => ?_)
      · rw [if_pos c1] at hf
        obtain rfl := Option.some.inj hf
        exact kont _ _ _ (lv_sub hl [] rfl) hP hD hS
      · rw [if_neg c1] at hf
        refine lv_aload_n hx hb dX8_show_9 rfl (lv_at hl 2 rfl) ?_
        refine va_get (D := D) (ci := 7) (v := .ref (q 5)) (C := RX8) (T := TX8) (N := 21) hx hb hts (fun w h => List.mem_cons_of_mem _ (List.mem_append_right _ h)) hown hK hP 0 rfl rfl 6 (by decide) (hts (.fieldLink RX8 22 "DeltaWindowsModel" "shown" "[I") (List.mem_of_getElem? (i := 1) rfl)) (fun _ h9 => h9) rfl dX8_show_10 ?_
        refine lv_sipush (v := (772 : Int32)) hx hb dX8_show_13 (by decide) ?_
        refine lv_iload_n hx hb dX8_show_16 rfl (lv_at hl 1 rfl) ?_
        refine lv_imul hx hb dX8_show_17 ?_
        refine lv_iload_n hx hb dX8_show_18 rfl (lv_at hl 0 rfl) ?_
        refine lv_iadd hx hb dX8_show_19 ?_
        refine lv_iload_n hx hb dX8_show_20 rfl (lv_at hl 0 rfl) ?_
        refine lv_iconst (v := (4 : Int32)) hx hb dX8_show_21 (by decide) ?_
        refine lv_icmp_ge (tgt := 34) hx hb dX8_show_22 (by decide) (fun c2 => ?_) (fun c2 => ?_)
        · rw [if_pos c2] at hf
          refine lv_aload_n hx hb dX8_show_34 rfl (lv_at hl 2 rfl) ?_
          refine va_get (D := D) (ci := 7) (v := .ref (q 4)) (C := RX8) (T := TX8) (N := 21) hx hb hts (fun w h => List.mem_cons_of_mem _ (List.mem_append_right _ h)) hown hK hP 0 rfl rfl 4 (by decide) (hts (.fieldLink RX8 19 "DeltaWindowsModel" "same" "[I") (List.mem_of_getElem? (i := 3) rfl)) (fun _ h9 => h9) rfl dX8_show_35 ?_
          refine lv_iload_n hx hb dX8_show_38 rfl (lv_at hl 0 rfl) ?_
          refine lv_iconst (v := (4 : Int32)) hx hb dX8_show_39 (by decide) ?_
          refine lv_isub hx hb dX8_show_40 ?_
          obtain ⟨g3, hf⟩ := g_inv hf
          refine va_iald (f := (ar 3)) hx hb hK hP 4 3 rfl rfl (inb_vp g3) dX8_show_41 ?_
          obtain ⟨g4, hf⟩ := g_inv hf
          refine va_iast (f := (ar 4)) hx hb hK hP hD hS 5 4 rfl rfl (inb_vp g4) dX8_show_42 (fun H locs hP hD hS => ?_)
          have hP : va_P D vwCl (wM q cA sc (va_up ar 4 (upd (ar 4) (((772 : Int32) * v1) + v2).toNatClampNeg ((ar 3) (v2 - (4 : Int32)).toNatClampNeg)))) H := va_P_eq (wM_a4 q cA sc ar (upd (ar 4) (((772 : Int32) * v1) + v2).toNatClampNeg ((ar 3) (v2 - (4 : Int32)).toNatClampNeg))) hP
          have hD : va_D A (wM q cA sc (va_up ar 4 (upd (ar 4) (((772 : Int32) * v1) + v2).toNatClampNeg ((ar 3) (v2 - (4 : Int32)).toNatClampNeg)))) := va_D_eq (wM_a4 q cA sc ar (upd (ar 4) (((772 : Int32) * v1) + v2).toNatClampNeg ((ar 3) (v2 - (4 : Int32)).toNatClampNeg))) hD
          refine lv_iinc (v := (v2 + (1 : Int32))) (lv' := [(2, .int (v2 + (1 : Int32))), (1, .int v1), (0, .ref (q 0))]) hx hb dX8_show_43 hl (k := 0) rfl rfl (by decide) rfl (fun ls hl => ?_)
          refine lv_goto (tgt := 2) hx hb dX8_show_46 (by decide) ?_
          exact ih (v2 + (1 : Int32)) (va_up ar 4 (upd (ar 4) (((772 : Int32) * v1) + v2).toNatClampNeg ((ar 3) (v2 - (4 : Int32)).toNatClampNeg))) _ _ _ o (lv_sub hl [0, 1, 2] rfl) hP hD hS hf kont
        · rw [if_neg c2] at hf
          refine lv_aload_n hx hb dX8_show_25 rfl (lv_at hl 2 rfl) ?_
          refine va_get (D := D) (ci := 7) (v := .ref (q 3)) (C := RX8) (T := TX8) (N := 21) hx hb hts (fun w h => List.mem_cons_of_mem _ (List.mem_append_right _ h)) hown hK hP 0 rfl rfl 3 (by decide) (hts (.fieldLink RX8 16 "DeltaWindowsModel" "near" "[I") (List.mem_of_getElem? (i := 2) rfl)) (fun _ h9 => h9) rfl dX8_show_26 ?_
          refine lv_iload_n hx hb dX8_show_29 rfl (lv_at hl 0 rfl) ?_
          obtain ⟨g5, hf⟩ := g_inv hf
          refine va_iald (f := (ar 2)) hx hb hK hP 3 2 rfl rfl (inb_vp g5) dX8_show_30 ?_
          refine lv_goto (tgt := 42) hx hb dX8_show_31 (by decide) ?_
          obtain ⟨g6, hf⟩ := g_inv hf
          refine va_iast (f := (ar 4)) hx hb hK hP hD hS 5 4 rfl rfl (inb_vp g6) dX8_show_42 (fun H locs hP hD hS => ?_)
          have hP : va_P D vwCl (wM q cA sc (va_up ar 4 (upd (ar 4) (((772 : Int32) * v1) + v2).toNatClampNeg ((ar 2) v2.toNatClampNeg)))) H := va_P_eq (wM_a4 q cA sc ar (upd (ar 4) (((772 : Int32) * v1) + v2).toNatClampNeg ((ar 2) v2.toNatClampNeg))) hP
          have hD : va_D A (wM q cA sc (va_up ar 4 (upd (ar 4) (((772 : Int32) * v1) + v2).toNatClampNeg ((ar 2) v2.toNatClampNeg)))) := va_D_eq (wM_a4 q cA sc ar (upd (ar 4) (((772 : Int32) * v1) + v2).toNatClampNeg ((ar 2) v2.toNatClampNeg))) hD
          refine lv_iinc (v := (v2 + (1 : Int32))) (lv' := [(2, .int (v2 + (1 : Int32))), (1, .int v1), (0, .ref (q 0))]) hx hb dX8_show_43 hl (k := 0) rfl rfl (by decide) rfl (fun ls hl => ?_)
          refine lv_goto (tgt := 2) hx hb dX8_show_46 (by decide) ?_
          exact ih (v2 + (1 : Int32)) (va_up ar 4 (upd (ar 4) (((772 : Int32) * v1) + v2).toNatClampNeg ((ar 2) v2.toNatClampNeg))) _ _ _ o (lv_sub hl [0, 1, 2] rfl) hP hD hS hf kont
  obtain ⟨R7, hc8, hf⟩ := b_inv hf
  refine lp9 sc x1 FU (0 : Int32) ar _ _ _ R7 (lv_sub hl [0, 2, 1] rfl) hP hD hS hc8 (fun H locs ls hl hP hD hS => ?_)
  obtain rfl := Option.some.inj hf
  exact k_retV hx hb hr hlocks hP hS dX8_show_49

noncomputable def fX8_cache (sc : Nat → Int32) (ar : Nat → Nat → Int32) (x1 : Int32) (x2 : Int32) : Option (Int32) :=
  if x1 < 0 then
    some (-1 : Int32)
  else
    if (1 : Int32) < x1 then
      some (-1 : Int32)
    else
      if x2 < 0 then
        some (-1 : Int32)
      else
        if x2 ≤ (771 : Int32) then
          if inb (((772 : Int32) * x1) + x2) 1544 = true then
          some ((ar 4) (((772 : Int32) * x1) + x2).toNatClampNeg)
          else none
        else
          some (-1 : Int32)

set_option maxHeartbeats 4000000 in
set_option maxRecDepth 100000 in
theorem kX8_cache (l : Launch) (D : va_G) (q : Nat → Nat) (cA : Nat → ClassId) (sc : Nat → Int32) (ar : Nat → Nat → Int32) (x1 : Int32) (x2 : Int32) {R : Int32} (hf : fX8_cache sc ar x1 x2 = some R) : MI l yX8_cache wsX8_cache (rmD 0) D ([.ref (q 0), .int x1, .int x2] : List Value) (wM q cA sc ar) (tM cA) NT R (wM q cA sc ar) := by
  refine MI.mk (cc := cX8_cache) (maxL := 3) (ret := (some .int)) (by first | decide | decide +kernel) rfl (Nat.le_of_ble_eq_true rfl) ?_
  intro p e s m below meth cd A ls hE
  obtain ⟨hx, hb, hr, hml, hts, hown, hlocks, hP, hK, hD, hA, hN, hAe, hl⟩ := hE
  have hown : s.vm.findClass RX8 = some m.cls := hown
  have hS : va_S A s.heap s.heap [] := va_S.rf
  have hl : lv_has ls 3 [(0, .ref (q 0)), (1, .int x1), (2, .int x2)] := hl
  rw [fX8_cache] at hf
  refine lv_iload_n hx hb dX8_cache_0 rfl (lv_at hl 1 rfl) ?_
  refine lv_if_lt (tgt := 20) hx hb dX8_cache_1 (by decide) (fun c1 => ?_) (fun c1 => ?_)
  · rw [if_pos c1] at hf
    refine lv_iconst (v := (-1 : Int32)) hx hb dX8_cache_20 (by decide) ?_
    refine lv_goto (tgt := 36) hx hb dX8_cache_21 (by decide) ?_
    obtain rfl := Option.some.inj hf
    exact k_retI hx hb hr hlocks hP hS dX8_cache_36
  · rw [if_neg c1] at hf
    refine lv_iload_n hx hb dX8_cache_4 rfl (lv_at hl 1 rfl) ?_
    refine lv_iconst (v := (1 : Int32)) hx hb dX8_cache_5 (by decide) ?_
    refine lv_icmp_gt (tgt := 20) hx hb dX8_cache_6 (by decide) (fun c2 => ?_) (fun c2 => ?_)
    · rw [if_pos c2] at hf
      refine lv_iconst (v := (-1 : Int32)) hx hb dX8_cache_20 (by decide) ?_
      refine lv_goto (tgt := 36) hx hb dX8_cache_21 (by decide) ?_
      obtain rfl := Option.some.inj hf
      exact k_retI hx hb hr hlocks hP hS dX8_cache_36
    · rw [if_neg c2] at hf
      refine lv_iload_n hx hb dX8_cache_9 rfl (lv_at hl 2 rfl) ?_
      refine lv_if_lt (tgt := 20) hx hb dX8_cache_10 (by decide) (fun c3 => ?_) (fun c3 => ?_)
      · rw [if_pos c3] at hf
        refine lv_iconst (v := (-1 : Int32)) hx hb dX8_cache_20 (by decide) ?_
        refine lv_goto (tgt := 36) hx hb dX8_cache_21 (by decide) ?_
        obtain rfl := Option.some.inj hf
        exact k_retI hx hb hr hlocks hP hS dX8_cache_36
      · rw [if_neg c3] at hf
        refine lv_iload_n hx hb dX8_cache_13 rfl (lv_at hl 2 rfl) ?_
        refine lv_sipush (v := (771 : Int32)) hx hb dX8_cache_14 (by decide) ?_
        refine lv_icmp_le (tgt := 24) hx hb dX8_cache_17 (by decide) (fun c4 => ?_) (fun c4 => ?_)
        · rw [if_pos c4] at hf
          refine lv_aload_n hx hb dX8_cache_24 rfl (lv_at hl 0 rfl) ?_
          refine va_get (D := D) (ci := 7) (v := .ref (q 5)) (C := RX8) (T := TX8) (N := 21) hx hb hts (fun w h => List.mem_cons_of_mem _ (List.mem_append_right _ h)) hown hK hP 0 rfl rfl 6 (by decide) (hts (.fieldLink RX8 22 "DeltaWindowsModel" "shown" "[I") (List.mem_of_getElem? (i := 1) rfl)) (fun _ h9 => h9) rfl dX8_cache_25 ?_
          refine lv_sipush (v := (772 : Int32)) hx hb dX8_cache_28 (by decide) ?_
          refine lv_iload_n hx hb dX8_cache_31 rfl (lv_at hl 1 rfl) ?_
          refine lv_imul hx hb dX8_cache_32 ?_
          refine lv_iload_n hx hb dX8_cache_33 rfl (lv_at hl 2 rfl) ?_
          refine lv_iadd hx hb dX8_cache_34 ?_
          obtain ⟨g5, hf⟩ := g_inv hf
          refine va_iald (f := (ar 4)) hx hb hK hP 5 4 rfl rfl (inb_vp g5) dX8_cache_35 ?_
          obtain rfl := Option.some.inj hf
          exact k_retI hx hb hr hlocks hP hS dX8_cache_36
        · rw [if_neg c4] at hf
          refine lv_iconst (v := (-1 : Int32)) hx hb dX8_cache_20 (by decide) ?_
          refine lv_goto (tgt := 36) hx hb dX8_cache_21 (by decide) ?_
          obtain rfl := Option.some.inj hf
          exact k_retI hx hb hr hlocks hP hS dX8_cache_36

noncomputable def fX8_write (sc : Nat → Int32) (ar : Nat → Nat → Int32) (x1 : Int32) (x2 : Int32) : Option ((Nat → Nat → Int32)) :=
  if inb x1 3 = true then
  if inb (((400 : Int32) * x1) + ((ar 9) x1.toNatClampNeg)) 1200 = true then
  if inb x1 3 = true then
  if inb x1 3 = true then
  some (va_up (va_up ar 8 (upd (ar 8) (((400 : Int32) * x1) + ((ar 9) x1.toNatClampNeg)).toNatClampNeg x2)) 9 (upd (ar 9) x1.toNatClampNeg (((ar 9) x1.toNatClampNeg) + (1 : Int32))))
  else none
  else none
  else none
  else none

set_option maxHeartbeats 4000000 in
set_option maxRecDepth 100000 in
theorem kX8_write (l : Launch) (D : va_G) (q : Nat → Nat) (cA : Nat → ClassId) (sc : Nat → Int32) (ar : Nat → Nat → Int32) (x1 : Int32) (x2 : Int32) {R : (Nat → Nat → Int32)} (hf : fX8_write sc ar x1 x2 = some R) : MV l yX8_write wsX8_write (rmD 0) D ([.ref (q 0), .int x1, .int x2] : List Value) (wM q cA sc ar) (tM cA) NT (wM q cA sc R) := by
  refine MV.mk (cc := cX8_write) (maxL := 3) (ret := none) (by first | decide | decide +kernel) rfl (Nat.le_of_ble_eq_true rfl) ?_
  intro p e s m below meth cd A ls hE
  obtain ⟨hx, hb, hr, hml, hts, hown, hlocks, hP, hK, hD, hA, hN, hAe, hl⟩ := hE
  have hown : s.vm.findClass RX8 = some m.cls := hown
  have hS : va_S A s.heap s.heap [] := va_S.rf
  have hl : lv_has ls 3 [(0, .ref (q 0)), (1, .int x1), (2, .int x2)] := hl
  rw [fX8_write] at hf
  refine lv_aload_n hx hb dX8_write_0 rfl (lv_at hl 0 rfl) ?_
  refine va_get (D := D) (ci := 7) (v := .ref (q 9)) (C := RX8) (T := TX8) (N := 21) hx hb hts (fun w h => List.mem_cons_of_mem _ (List.mem_append_right _ h)) hown hK hP 0 rfl rfl 11 (by decide) (hts (.fieldLink RX8 34 "DeltaWindowsModel" "section" "[I") (List.mem_of_getElem? (i := 1) rfl)) (fun _ h9 => h9) rfl dX8_write_1 ?_
  refine lv_sipush (v := (400 : Int32)) hx hb dX8_write_4 (by decide) ?_
  refine lv_iload_n hx hb dX8_write_7 rfl (lv_at hl 1 rfl) ?_
  refine lv_imul hx hb dX8_write_8 ?_
  refine lv_aload_n hx hb dX8_write_9 rfl (lv_at hl 0 rfl) ?_
  refine va_get (D := D) (ci := 7) (v := .ref (q 10)) (C := RX8) (T := TX8) (N := 21) hx hb hts (fun w h => List.mem_cons_of_mem _ (List.mem_append_right _ h)) hown hK hP 0 rfl rfl 12 (by decide) (hts (.fieldLink RX8 37 "DeltaWindowsModel" "written" "[I") (List.mem_of_getElem? (i := 2) rfl)) (fun _ h9 => h9) rfl dX8_write_10 ?_
  refine lv_iload_n hx hb dX8_write_13 rfl (lv_at hl 1 rfl) ?_
  obtain ⟨g1, hf⟩ := g_inv hf
  refine va_iald (f := (ar 9)) hx hb hK hP 10 9 rfl rfl (inb_vp g1) dX8_write_14 ?_
  refine lv_iadd hx hb dX8_write_15 ?_
  refine lv_iload_n hx hb dX8_write_16 rfl (lv_at hl 2 rfl) ?_
  obtain ⟨g2, hf⟩ := g_inv hf
  refine va_iast (f := (ar 8)) hx hb hK hP hD hS 9 8 rfl rfl (inb_vp g2) dX8_write_17 (fun H locs hP hD hS => ?_)
  have hP : va_P D vwCl (wM q cA sc (va_up ar 8 (upd (ar 8) (((400 : Int32) * x1) + ((ar 9) x1.toNatClampNeg)).toNatClampNeg x2))) H := va_P_eq (wM_a8 q cA sc ar (upd (ar 8) (((400 : Int32) * x1) + ((ar 9) x1.toNatClampNeg)).toNatClampNeg x2)) hP
  have hD : va_D A (wM q cA sc (va_up ar 8 (upd (ar 8) (((400 : Int32) * x1) + ((ar 9) x1.toNatClampNeg)).toNatClampNeg x2))) := va_D_eq (wM_a8 q cA sc ar (upd (ar 8) (((400 : Int32) * x1) + ((ar 9) x1.toNatClampNeg)).toNatClampNeg x2)) hD
  refine lv_aload_n hx hb dX8_write_18 rfl (lv_at hl 0 rfl) ?_
  refine va_get (D := D) (ci := 7) (v := .ref (q 10)) (C := RX8) (T := TX8) (N := 21) hx hb hts (fun w h => List.mem_cons_of_mem _ (List.mem_append_right _ h)) hown hK hP 0 rfl rfl 12 (by decide) (hts (.fieldLink RX8 37 "DeltaWindowsModel" "written" "[I") (List.mem_of_getElem? (i := 2) rfl)) (fun _ h9 => h9) rfl dX8_write_19 ?_
  refine lv_iload_n hx hb dX8_write_22 rfl (lv_at hl 1 rfl) ?_
  refine lv_dup2_11 hx hb dX8_write_23 rfl rfl ?_
  obtain ⟨g3, hf⟩ := g_inv hf
  refine va_iald (f := (ar 9)) hx hb hK hP 10 9 rfl rfl (inb_vp g3) dX8_write_24 ?_
  refine lv_iconst (v := (1 : Int32)) hx hb dX8_write_25 (by decide) ?_
  refine lv_iadd hx hb dX8_write_26 ?_
  obtain ⟨g4, hf⟩ := g_inv hf
  refine va_iast (f := (ar 9)) hx hb hK hP hD hS 10 9 rfl rfl (inb_vp g4) dX8_write_27 (fun H locs hP hD hS => ?_)
  have hP : va_P D vwCl (wM q cA sc (va_up (va_up ar 8 (upd (ar 8) (((400 : Int32) * x1) + ((ar 9) x1.toNatClampNeg)).toNatClampNeg x2)) 9 (upd (ar 9) x1.toNatClampNeg (((ar 9) x1.toNatClampNeg) + (1 : Int32))))) H := va_P_eq (wM_a9 q cA sc (va_up ar 8 (upd (ar 8) (((400 : Int32) * x1) + ((ar 9) x1.toNatClampNeg)).toNatClampNeg x2)) (upd (ar 9) x1.toNatClampNeg (((ar 9) x1.toNatClampNeg) + (1 : Int32)))) hP
  have hD : va_D A (wM q cA sc (va_up (va_up ar 8 (upd (ar 8) (((400 : Int32) * x1) + ((ar 9) x1.toNatClampNeg)).toNatClampNeg x2)) 9 (upd (ar 9) x1.toNatClampNeg (((ar 9) x1.toNatClampNeg) + (1 : Int32))))) := va_D_eq (wM_a9 q cA sc (va_up ar 8 (upd (ar 8) (((400 : Int32) * x1) + ((ar 9) x1.toNatClampNeg)).toNatClampNeg x2)) (upd (ar 9) x1.toNatClampNeg (((ar 9) x1.toNatClampNeg) + (1 : Int32)))) hD
  obtain rfl := Option.some.inj hf
  exact k_retV hx hb hr hlocks hP hS dX8_write_28

noncomputable def fX8_writeInteger_L8 (sc : Nat → Int32) (v1 : Int32) (v2 : Int32) (v3 : Int32) : Nat → (Int32) → (Nat → Nat → Int32) → Option ((Nat → Nat → Int32))
  | 0, _, _ => none
  | k + 1, v4, ar =>
    if v3 ≤ v4 then
      some ar
    else
      (fX8_byteOf v2 v3 v4).bind fun R4 =>
      (fX8_write sc ar v1 R4).bind fun R6 =>
      fX8_writeInteger_L8 sc v1 v2 v3 k (v4 + (1 : Int32)) R6

noncomputable def fX8_writeInteger (sc : Nat → Int32) (ar : Nat → Nat → Int32) (x1 : Int32) (x2 : Int32) : Option ((Nat → Nat → Int32)) :=
  (fX8_bytesOf x2).bind fun R1 =>
  (fX8_writeInteger_L8 sc x1 x2 R1 FU (0 : Int32) ar).bind fun R8 =>
  some R8

set_option maxHeartbeats 4000000 in
set_option maxRecDepth 100000 in
theorem kX8_writeInteger (l : Launch) (D : va_G) (q : Nat → Nat) (cA : Nat → ClassId) (sc : Nat → Int32) (ar : Nat → Nat → Int32) (x1 : Int32) (x2 : Int32) {R : (Nat → Nat → Int32)} (hf : fX8_writeInteger sc ar x1 x2 = some R) : MV l yX8_writeInteger wsX8_writeInteger (rmD 1) D ([.ref (q 0), .int x1, .int x2] : List Value) (wM q cA sc ar) (tM cA) NT (wM q cA sc R) := by
  refine MV.mk (cc := cX8_writeInteger) (maxL := 5) (ret := none) (by first | decide | decide +kernel) rfl (Nat.le_of_ble_eq_true rfl) ?_
  intro p e s m below meth cd A ls hE
  obtain ⟨hx, hb, hr, hml, hts, hown, hlocks, hP, hK, hD, hA, hN, hAe, hl⟩ := hE
  have hown : s.vm.findClass RX8 = some m.cls := hown
  have hS : va_S A s.heap s.heap [] := va_S.rf
  have hl : lv_has ls 5 [(0, .ref (q 0)), (1, .int x1), (2, .int x2)] := hl
  rw [fX8_writeInteger] at hf
  refine lv_iload_n hx hb dX8_writeInteger_0 rfl (lv_at hl 2 rfl) ?_
  obtain ⟨R1, hc2, hf⟩ := b_inv hf
  have hk := kcut (wc := ([] : va_W)) (wc' := ([] : va_W)) (wf := (wM q cA sc ar)) hP hD hS hA [] rfl (by decide) rfl rfl
  refine k_goI (va_runS (As := [.int x2]) (rest := []) ⟨hx, hb, hml, hown, hts⟩ (kX8_bytesOf l D x2 hc2 _) ⟨callB_of 1 hts ggX8_writeInteger_X8_bytesOf rfl rfl rfl (hts (.initialized RX8) (List.mem_of_getElem? (i := 3) rfl)) (hts (.methodLink RX8 66 yX8_bytesOf) (List.mem_of_getElem? (i := 1) rfl)) (by decide +kernel) ⟨Nat.le_of_ble_eq_true rfl, Nat.le_of_ble_eq_true rfl⟩, (hts (.static yX8_bytesOf) (List.mem_of_getElem? (i := 2) rfl))⟩ (k_preS hk (hK.sub [] rfl) NT_bl NT_u) rfl rfl hl.1 rfl (lv_room (Nat.le_of_ble_eq_true rfl)) dX8_writeInteger_1 ⟨Nat.zero_le _, Nat.zero_le _⟩) hk hS (fun H locs hP hD hS => ?_)
  refine lv_istore_n (lv' := [(3, .int R1), (0, .ref (q 0)), (1, .int x1), (2, .int x2)]) hx hb dX8_writeInteger_4 rfl hl (by decide) rfl (fun ls hl => ?_)
  refine lv_iconst (v := (0 : Int32)) hx hb dX8_writeInteger_5 (by decide) ?_
  refine lv_istore (lv' := [(4, .int (0 : Int32)), (3, .int R1), (0, .ref (q 0)), (1, .int x1), (2, .int x2)]) hx hb dX8_writeInteger_6 hl (by decide) rfl (fun ls hl => ?_)
  have lp10 : ∀ (sc : Nat → Int32) (v1 : Int32) (v2 : Int32) (v3 : Int32), ∀ (k : Nat) (v4 : Int32) (ar : Nat → Nat → Int32) (H : Heap) (locs : List Loc) (ls : Array Slot) (o : (Nat → Nat → Int32)), lv_has ls 5 [(4, .int v4), (1, .int v1), (2, .int v2), (3, .int v3), (0, .ref (q 0))] → va_P D vwCl (wM q cA sc ar) H → va_D A (wM q cA sc ar) → va_S A s.heap H locs → fX8_writeInteger_L8 sc v1 v2 v3 k v4 ar = some o → (∀ (H : Heap) (locs : List Loc) (ls : Array Slot), lv_has ls 5 [] → va_P D vwCl (wM q cA sc o) H → va_D A (wM q cA sc o) → va_S A s.heap H locs → W p l e (headSpec wsX8_writeInteger (rmD 1)).room s m ([.ref (q 0), .int x1, .int x2] : List Value).toArray below meth cd H locs 0 0 (QV D below ([.ref (q 0), .int x1, .int x2] : List Value).toArray s A (wM q cA sc R)) (F0 m 32 ls [])) → W p l e (headSpec wsX8_writeInteger (rmD 1)).room s m ([.ref (q 0), .int x1, .int x2] : List Value).toArray below meth cd H locs 0 0 (QV D below ([.ref (q 0), .int x1, .int x2] : List Value).toArray s A (wM q cA sc R)) (F0 m 8 ls []) := by
    intro sc v1 v2 v3
    intro k
    induction k with
    | zero =>
      intro v4 ar H locs ls o hl hP hD hS hf
      exact absurd hf (by simp [fX8_writeInteger_L8])
    | succ k ih =>
      intro v4 ar H locs ls o hl hP hD hS hf kont
      rw [fX8_writeInteger_L8] at hf
      refine lv_iload hx hb dX8_writeInteger_8 (lv_at hl 0 rfl) ?_
      refine lv_iload_n hx hb dX8_writeInteger_10 rfl (lv_at hl 3 rfl) ?_
      refine lv_icmp_ge (tgt := 32) hx hb dX8_writeInteger_11 (by decide) (fun c3 => ?_) (fun c3 => ?_)
      · rw [if_pos c3] at hf
        obtain rfl := Option.some.inj hf
        exact kont _ _ _ (lv_sub hl [] rfl) hP hD hS
      · rw [if_neg c3] at hf
        refine lv_aload_n hx hb dX8_writeInteger_14 rfl (lv_at hl 4 rfl) ?_
        refine lv_iload_n hx hb dX8_writeInteger_15 rfl (lv_at hl 1 rfl) ?_
        refine lv_iload_n hx hb dX8_writeInteger_16 rfl (lv_at hl 2 rfl) ?_
        refine lv_iload_n hx hb dX8_writeInteger_17 rfl (lv_at hl 3 rfl) ?_
        refine lv_iload hx hb dX8_writeInteger_18 (lv_at hl 0 rfl) ?_
        obtain ⟨R4, hc5, hf⟩ := b_inv hf
        have hk := kcut (wc := ([] : va_W)) (wc' := ([] : va_W)) (wf := (wM q cA sc ar)) hP hD hS hA [] rfl (by decide) rfl rfl
        refine k_goI (va_runS (As := [.int v2, .int v3, .int v4]) (rest := [.int v1, .ref (q 0)]) ⟨hx, hb, hml, hown, hts⟩ (kX8_byteOf l D v2 v3 v4 hc5 _) ⟨callB_of 3 hts ggX8_writeInteger_X8_byteOf rfl rfl rfl (hts (.initialized RX8) (List.mem_of_getElem? (i := 3) rfl)) (hts (.methodLink RX8 69 yX8_byteOf) (List.mem_of_getElem? (i := 5) rfl)) (by decide +kernel) ⟨Nat.le_of_ble_eq_true rfl, Nat.le_of_ble_eq_true rfl⟩, (hts (.static yX8_byteOf) (List.mem_of_getElem? (i := 6) rfl))⟩ (k_preS hk (hK.sub [] rfl) NT_bl NT_u) rfl rfl hl.1 rfl (lv_room (Nat.le_of_ble_eq_true rfl)) dX8_writeInteger_20 ⟨Nat.zero_le _, Nat.zero_le _⟩) hk hS (fun H locs hP hD hS => ?_)
        obtain ⟨R6, hc7, hf⟩ := b_inv hf
        have hk := kall (wc' := (wM q cA sc R6)) hP hD hS hA rfl
        refine k_goV (va_runV (As := [.int v1, .int R4]) (rest := []) ⟨hx, hb, hml, hown, hts⟩ (kX8_write l D q cA sc ar v1 R4 hc7 _) (cwV 2 hts gX8_writeInteger_X8_write rfl rfl rfl (by decide +kernel) ⟨Nat.le_of_ble_eq_true rfl, Nat.le_of_ble_eq_true rfl⟩) (k_preV (q0 := 0) (ci := 7) hk hK NT_bl NT_u rfl rfl rfl) rfl rfl hl.1 rfl (lv_room (Nat.le_of_ble_eq_true rfl)) dX8_writeInteger_23 ⟨Nat.zero_le _, Nat.zero_le _⟩) hk hS (fun H locs hP hD hS => ?_)
        refine lv_iinc (v := (v4 + (1 : Int32))) (lv' := [(4, .int (v4 + (1 : Int32))), (1, .int v1), (2, .int v2), (3, .int v3), (0, .ref (q 0))]) hx hb dX8_writeInteger_26 hl (k := 0) rfl rfl (by decide) rfl (fun ls hl => ?_)
        refine lv_goto (tgt := 8) hx hb dX8_writeInteger_29 (by decide) ?_
        exact ih (v4 + (1 : Int32)) R6 _ _ _ o (lv_sub hl [0, 1, 2, 3, 4] rfl) hP hD hS hf kont
  obtain ⟨R8, hc9, hf⟩ := b_inv hf
  refine lp10 sc x1 x2 R1 FU (0 : Int32) ar _ _ _ R8 (lv_sub hl [0, 3, 4, 1, 2] rfl) hP hD hS hc9 (fun H locs ls hl hP hD hS => ?_)
  obtain rfl := Option.some.inj hf
  exact k_retV hx hb hr hlocks hP hS dX8_writeInteger_32

noncomputable def fX8_appendInteger_L7 (sc : Nat → Int32) (v1 : Int32) (v2 : Int32) : Nat → (Int32) → (Nat → Nat → Int32) → Option ((Nat → Nat → Int32))
  | 0, _, _ => none
  | k + 1, v3, ar =>
    if v2 ≤ v3 then
      some ar
    else
      (fX8_byteOf v1 v2 v3).bind fun R4 =>
      (fX8_append sc ar (2 : Int32) R4).bind fun R6 =>
      fX8_appendInteger_L7 sc v1 v2 k (v3 + (1 : Int32)) R6

noncomputable def fX8_appendInteger (sc : Nat → Int32) (ar : Nat → Nat → Int32) (x1 : Int32) : Option ((Nat → Nat → Int32)) :=
  (fX8_bytesOf x1).bind fun R1 =>
  (fX8_appendInteger_L7 sc x1 R1 FU (0 : Int32) ar).bind fun R8 =>
  some R8

set_option maxHeartbeats 4000000 in
set_option maxRecDepth 100000 in
theorem kX8_appendInteger (l : Launch) (D : va_G) (q : Nat → Nat) (cA : Nat → ClassId) (sc : Nat → Int32) (ar : Nat → Nat → Int32) (x1 : Int32) {R : (Nat → Nat → Int32)} (hf : fX8_appendInteger sc ar x1 = some R) : MV l yX8_appendInteger wsX8_appendInteger (rmD 1) D ([.ref (q 0), .int x1] : List Value) (wM q cA sc ar) (tM cA) NT (wM q cA sc R) := by
  refine MV.mk (cc := cX8_appendInteger) (maxL := 4) (ret := none) (by first | decide | decide +kernel) rfl (Nat.le_of_ble_eq_true rfl) ?_
  intro p e s m below meth cd A ls hE
  obtain ⟨hx, hb, hr, hml, hts, hown, hlocks, hP, hK, hD, hA, hN, hAe, hl⟩ := hE
  have hown : s.vm.findClass RX8 = some m.cls := hown
  have hS : va_S A s.heap s.heap [] := va_S.rf
  have hl : lv_has ls 4 [(0, .ref (q 0)), (1, .int x1)] := hl
  rw [fX8_appendInteger] at hf
  refine lv_iload_n hx hb dX8_appendInteger_0 rfl (lv_at hl 1 rfl) ?_
  obtain ⟨R1, hc2, hf⟩ := b_inv hf
  have hk := kcut (wc := ([] : va_W)) (wc' := ([] : va_W)) (wf := (wM q cA sc ar)) hP hD hS hA [] rfl (by decide) rfl rfl
  refine k_goI (va_runS (As := [.int x1]) (rest := []) ⟨hx, hb, hml, hown, hts⟩ (kX8_bytesOf l D x1 hc2 _) ⟨callB_of 1 hts ggX8_appendInteger_X8_bytesOf rfl rfl rfl (hts (.initialized RX8) (List.mem_of_getElem? (i := 3) rfl)) (hts (.methodLink RX8 66 yX8_bytesOf) (List.mem_of_getElem? (i := 1) rfl)) (by decide +kernel) ⟨Nat.le_of_ble_eq_true rfl, Nat.le_of_ble_eq_true rfl⟩, (hts (.static yX8_bytesOf) (List.mem_of_getElem? (i := 2) rfl))⟩ (k_preS hk (hK.sub [] rfl) NT_bl NT_u) rfl rfl hl.1 rfl (lv_room (Nat.le_of_ble_eq_true rfl)) dX8_appendInteger_1 ⟨Nat.zero_le _, Nat.zero_le _⟩) hk hS (fun H locs hP hD hS => ?_)
  refine lv_istore_n (lv' := [(2, .int R1), (0, .ref (q 0)), (1, .int x1)]) hx hb dX8_appendInteger_4 rfl hl (by decide) rfl (fun ls hl => ?_)
  refine lv_iconst (v := (0 : Int32)) hx hb dX8_appendInteger_5 (by decide) ?_
  refine lv_istore_n (lv' := [(3, .int (0 : Int32)), (2, .int R1), (0, .ref (q 0)), (1, .int x1)]) hx hb dX8_appendInteger_6 rfl hl (by decide) rfl (fun ls hl => ?_)
  have lp10 : ∀ (sc : Nat → Int32) (v1 : Int32) (v2 : Int32), ∀ (k : Nat) (v3 : Int32) (ar : Nat → Nat → Int32) (H : Heap) (locs : List Loc) (ls : Array Slot) (o : (Nat → Nat → Int32)), lv_has ls 4 [(3, .int v3), (1, .int v1), (2, .int v2), (0, .ref (q 0))] → va_P D vwCl (wM q cA sc ar) H → va_D A (wM q cA sc ar) → va_S A s.heap H locs → fX8_appendInteger_L7 sc v1 v2 k v3 ar = some o → (∀ (H : Heap) (locs : List Loc) (ls : Array Slot), lv_has ls 4 [] → va_P D vwCl (wM q cA sc o) H → va_D A (wM q cA sc o) → va_S A s.heap H locs → W p l e (headSpec wsX8_appendInteger (rmD 1)).room s m ([.ref (q 0), .int x1] : List Value).toArray below meth cd H locs 0 0 (QV D below ([.ref (q 0), .int x1] : List Value).toArray s A (wM q cA sc R)) (F0 m 29 ls [])) → W p l e (headSpec wsX8_appendInteger (rmD 1)).room s m ([.ref (q 0), .int x1] : List Value).toArray below meth cd H locs 0 0 (QV D below ([.ref (q 0), .int x1] : List Value).toArray s A (wM q cA sc R)) (F0 m 7 ls []) := by
    intro sc v1 v2
    intro k
    induction k with
    | zero =>
      intro v3 ar H locs ls o hl hP hD hS hf
      exact absurd hf (by simp [fX8_appendInteger_L7])
    | succ k ih =>
      intro v3 ar H locs ls o hl hP hD hS hf kont
      rw [fX8_appendInteger_L7] at hf
      refine lv_iload_n hx hb dX8_appendInteger_7 rfl (lv_at hl 0 rfl) ?_
      refine lv_iload_n hx hb dX8_appendInteger_8 rfl (lv_at hl 2 rfl) ?_
      refine lv_icmp_ge (tgt := 29) hx hb dX8_appendInteger_9 (by decide) (fun c3 => ?_) (fun c3 => ?_)
      · rw [if_pos c3] at hf
        obtain rfl := Option.some.inj hf
        exact kont _ _ _ (lv_sub hl [] rfl) hP hD hS
      · rw [if_neg c3] at hf
        refine lv_aload_n hx hb dX8_appendInteger_12 rfl (lv_at hl 3 rfl) ?_
        refine lv_iconst (v := (2 : Int32)) hx hb dX8_appendInteger_13 (by decide) ?_
        refine lv_iload_n hx hb dX8_appendInteger_14 rfl (lv_at hl 1 rfl) ?_
        refine lv_iload_n hx hb dX8_appendInteger_15 rfl (lv_at hl 2 rfl) ?_
        refine lv_iload_n hx hb dX8_appendInteger_16 rfl (lv_at hl 0 rfl) ?_
        obtain ⟨R4, hc5, hf⟩ := b_inv hf
        have hk := kcut (wc := ([] : va_W)) (wc' := ([] : va_W)) (wf := (wM q cA sc ar)) hP hD hS hA [] rfl (by decide) rfl rfl
        refine k_goI (va_runS (As := [.int v1, .int v2, .int v3]) (rest := [.int (2 : Int32), .ref (q 0)]) ⟨hx, hb, hml, hown, hts⟩ (kX8_byteOf l D v1 v2 v3 hc5 _) ⟨callB_of 3 hts ggX8_appendInteger_X8_byteOf rfl rfl rfl (hts (.initialized RX8) (List.mem_of_getElem? (i := 3) rfl)) (hts (.methodLink RX8 69 yX8_byteOf) (List.mem_of_getElem? (i := 5) rfl)) (by decide +kernel) ⟨Nat.le_of_ble_eq_true rfl, Nat.le_of_ble_eq_true rfl⟩, (hts (.static yX8_byteOf) (List.mem_of_getElem? (i := 6) rfl))⟩ (k_preS hk (hK.sub [] rfl) NT_bl NT_u) rfl rfl hl.1 rfl (lv_room (Nat.le_of_ble_eq_true rfl)) dX8_appendInteger_17 ⟨Nat.zero_le _, Nat.zero_le _⟩) hk hS (fun H locs hP hD hS => ?_)
        obtain ⟨R6, hc7, hf⟩ := b_inv hf
        have hk := kall (wc' := (wM q cA sc R6)) hP hD hS hA rfl
        refine k_goV (va_runV (As := [.int (2 : Int32), .int R4]) (rest := []) ⟨hx, hb, hml, hown, hts⟩ (kX8_append l D q cA sc ar (2 : Int32) R4 hc7 _) (cwV 2 hts gX8_appendInteger_X8_append rfl rfl rfl (by decide +kernel) ⟨Nat.le_of_ble_eq_true rfl, Nat.le_of_ble_eq_true rfl⟩) (k_preV (q0 := 0) (ci := 7) hk hK NT_bl NT_u rfl rfl rfl) rfl rfl hl.1 rfl (lv_room (Nat.le_of_ble_eq_true rfl)) dX8_appendInteger_20 ⟨Nat.zero_le _, Nat.zero_le _⟩) hk hS (fun H locs hP hD hS => ?_)
        refine lv_iinc (v := (v3 + (1 : Int32))) (lv' := [(3, .int (v3 + (1 : Int32))), (1, .int v1), (2, .int v2), (0, .ref (q 0))]) hx hb dX8_appendInteger_23 hl (k := 0) rfl rfl (by decide) rfl (fun ls hl => ?_)
        refine lv_goto (tgt := 7) hx hb dX8_appendInteger_26 (by decide) ?_
        exact ih (v3 + (1 : Int32)) R6 _ _ _ o (lv_sub hl [0, 1, 2, 3] rfl) hP hD hS hf kont
  obtain ⟨R8, hc9, hf⟩ := b_inv hf
  refine lp10 sc x1 R1 FU (0 : Int32) ar _ _ _ R8 (lv_sub hl [0, 3, 1, 2] rfl) hP hD hS hc9 (fun H locs ls hl hP hD hS => ?_)
  obtain rfl := Option.some.inj hf
  exact k_retV hx hb hr hlocks hP hS dX8_appendInteger_29
