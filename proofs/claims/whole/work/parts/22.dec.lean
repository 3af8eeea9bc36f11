noncomputable def fX2_here (sc : Nat → Int32) (ar : Nat → Nat → Int32) (sg : Bool) : Option (Int32) :=
  (fX6_count 400 (ar 9) (sc 9)).bind fun R1 =>
  some (((sc 14) + R1) - (sc 15))

set_option maxHeartbeats 4000000 in
set_option maxRecDepth 100000 in
theorem kX2_here (l : Launch) (D : va_G) (q : Nat → Nat) (cA : Nat → ClassId) (sc : Nat → Int32) (ar : Nat → Nat → Int32) (sg : Bool) {R : Int32} (hf : fX2_here sc ar sg = some R) : MI l yX2_here wsX2_here (rmD 1) D ([.ref (q 22)] : List Value) (wX q cA sc ar sg) (tX cA) NX R (wX q cA sc ar sg) := by
  refine MI.mk (cc := cX2_here) (maxL := 1) (ret := (some .int)) (by first | decide | decide +kernel) rfl (Nat.le_of_ble_eq_true rfl) ?_
  intro p e s m below meth cd A ls hE
  obtain ⟨hx, hb, hr, hml, hts, hown, hlocks, hP, hK, hD, hA, hN, hAe, hl⟩ := hE
  have hown : s.vm.findClass RX2 = some m.cls := hown
  have hS : va_S A s.heap s.heap [] := va_S.rf
  have hl : lv_has ls 1 [(0, .ref (q 22))] := hl
  rw [fX2_here] at hf
  refine lv_aload_n hx hb dX2_here_0 rfl (lv_at hl 0 rfl) ?_
  refine va_get (D := D) (ci := 1) (v := .int (sc 14)) (C := RX2) (T := TX2) (N := 13) hx hb hts (fun w h => List.mem_cons_of_mem _ (List.mem_append_left _ (List.mem_append_right _ h))) hown hK hP 22 rfl rfl 10 (by decide) (hts (.fieldLink RX2 58 "DeltaWindows$Decoder" "segmentSize" "I") (List.mem_of_getElem? (i := 1) rfl)) (fun _ h9 => h9) rfl dX2_here_1 ?_
  refine lv_aload_n hx hb dX2_here_4 rfl (lv_at hl 0 rfl) ?_
  refine va_get (D := D) (ci := 1) (v := .ref (q 19)) (C := RX2) (T := TX2) (N := 13) hx hb hts (fun w h => List.mem_cons_of_mem _ (List.mem_append_left _ (List.mem_append_right _ h))) hown hK hP 22 rfl rfl 1 (by decide) (hts (.fieldLink RX2 20 "DeltaWindows$Decoder" "made" "LDeltaWindows$Row;") (List.mem_of_getElem? (i := 2) rfl)) (fun _ h9 => h9) rfl dX2_here_5 ?_
  obtain ⟨R1, hc2, hf⟩ := b_inv hf
  have hk := kcut (wc := (wR (q 19) (q 20) (cA 9) 400 (ar 9) (sc 9))) (wc' := (wR (q 19) (q 20) (cA 9) 400 (ar 9) (sc 9))) (wf := (wX q cA sc ar sg)) hP hD hS hA [19, 20] rfl (by decide) rfl rfl
  refine k_goI (va_runV (As := []) (rest := [.int (sc 14)]) ⟨hx, hb, hml, hown, hts⟩ (kX6_count l D (q 19) (q 20) (cA 9) 400 (ar 9) (sc 9) hc2 _) (cwV 0 hts gX2_here_X6_count rfl rfl rfl (by decide +kernel) ⟨Nat.le_of_ble_eq_true rfl, Nat.le_of_ble_eq_true rfl⟩) (k_preV (q0 := 0) (ci := 5) hk (hK.sub [9] rfl) NT_bl NT_u rfl rfl rfl) rfl rfl hl.1 rfl (lv_room (Nat.le_of_ble_eq_true rfl)) dX2_here_8 ⟨Nat.zero_le _, Nat.zero_le _⟩) hk hS (fun H locs hP hD hS => ?_)
  refine lv_iadd hx hb dX2_here_11 ?_
  refine lv_aload_n hx hb dX2_here_12 rfl (lv_at hl 0 rfl) ?_
  refine va_get (D := D) (ci := 1) (v := .int (sc 15)) (C := RX2) (T := TX2) (N := 13) hx hb hts (fun w h => List.mem_cons_of_mem _ (List.mem_append_left _ (List.mem_append_right _ h))) hown hK hP 22 rfl rfl 11 (by decide) (hts (.fieldLink RX2 61 "DeltaWindows$Decoder" "windowStart" "I") (List.mem_of_getElem? (i := 3) rfl)) (fun _ h9 => h9) rfl dX2_here_13 ?_
  refine lv_isub hx hb dX2_here_16 ?_
  obtain rfl := Option.some.inj hf
  exact k_retI hx hb hr hlocks hP hS dX2_here_17

noncomputable def fX2_stringAt (sc : Nat → Int32) (ar : Nat → Nat → Int32) (sg : Bool) (x1 : Int32) : Option (Int32) :=
  if (sc 14) ≤ x1 then
    (fX6_at 400 (ar 9) (sc 9) (((sc 15) + x1) - (sc 14))).bind fun R2 =>
    some R2
  else
    if sg = true then
      (fX6_at 400 (ar 9) (sc 9) ((sc 13) + x1)).bind fun R5 =>
      some R5
    else
      (fX6_at 48 (ar 0) (sc 0) ((sc 13) + x1)).bind fun R7 =>
      some R7

set_option maxHeartbeats 4000000 in
set_option maxRecDepth 100000 in
theorem kX2_stringAt (l : Launch) (D : va_G) (q : Nat → Nat) (cA : Nat → ClassId) (sc : Nat → Int32) (ar : Nat → Nat → Int32) (sg : Bool) (x1 : Int32) {R : Int32} (hf : fX2_stringAt sc ar sg x1 = some R) : MI l yX2_stringAt wsX2_stringAt (rmD 1) D ([.ref (q 22), .int x1] : List Value) (wX q cA sc ar sg) (tX cA) NX R (wX q cA sc ar sg) := by
  refine MI.mk (cc := cX2_stringAt) (maxL := 2) (ret := (some .int)) (by first | decide | decide +kernel) rfl (Nat.le_of_ble_eq_true rfl) ?_
  intro p e s m below meth cd A ls hE
  obtain ⟨hx, hb, hr, hml, hts, hown, hlocks, hP, hK, hD, hA, hN, hAe, hl⟩ := hE
  have hown : s.vm.findClass RX2 = some m.cls := hown
  have hS : va_S A s.heap s.heap [] := va_S.rf
  have hl : lv_has ls 2 [(0, .ref (q 22)), (1, .int x1)] := hl
  rw [fX2_stringAt] at hf
  refine lv_iload_n hx hb dX2_stringAt_0 rfl (lv_at hl 1 rfl) ?_
  refine lv_aload_n hx hb dX2_stringAt_1 rfl (lv_at hl 0 rfl) ?_
  refine va_get (D := D) (ci := 1) (v := .int (sc 14)) (C := RX2) (T := TX2) (N := 13) hx hb hts (fun w h => List.mem_cons_of_mem _ (List.mem_append_left _ (List.mem_append_right _ h))) hown hK hP 22 rfl rfl 10 (by decide) (hts (.fieldLink RX2 58 "DeltaWindows$Decoder" "segmentSize" "I") (List.mem_of_getElem? (i := 1) rfl)) (fun _ h9 => h9) rfl dX2_stringAt_2 ?_
  refine lv_icmp_ge (tgt := 24) hx hb dX2_stringAt_5 (by decide) (fun c1 => ?_) (fun c1 => ?_)
  · rw [if_pos c1] at hf
    refine lv_aload_n hx hb dX2_stringAt_24 rfl (lv_at hl 0 rfl) ?_
    refine va_get (D := D) (ci := 1) (v := .ref (q 19)) (C := RX2) (T := TX2) (N := 13) hx hb hts (fun w h => List.mem_cons_of_mem _ (List.mem_append_left _ (List.mem_append_right _ h))) hown hK hP 22 rfl rfl 1 (by decide) (hts (.fieldLink RX2 20 "DeltaWindows$Decoder" "made" "LDeltaWindows$Row;") (List.mem_of_getElem? (i := 4) rfl)) (fun _ h9 => h9) rfl dX2_stringAt_25 ?_
    refine lv_aload_n hx hb dX2_stringAt_28 rfl (lv_at hl 0 rfl) ?_
    refine va_get (D := D) (ci := 1) (v := .int (sc 15)) (C := RX2) (T := TX2) (N := 13) hx hb hts (fun w h => List.mem_cons_of_mem _ (List.mem_append_left _ (List.mem_append_right _ h))) hown hK hP 22 rfl rfl 11 (by decide) (hts (.fieldLink RX2 61 "DeltaWindows$Decoder" "windowStart" "I") (List.mem_of_getElem? (i := 5) rfl)) (fun _ h9 => h9) rfl dX2_stringAt_29 ?_
    refine lv_iload_n hx hb dX2_stringAt_32 rfl (lv_at hl 1 rfl) ?_
    refine lv_iadd hx hb dX2_stringAt_33 ?_
    refine lv_aload_n hx hb dX2_stringAt_34 rfl (lv_at hl 0 rfl) ?_
    refine va_get (D := D) (ci := 1) (v := .int (sc 14)) (C := RX2) (T := TX2) (N := 13) hx hb hts (fun w h => List.mem_cons_of_mem _ (List.mem_append_left _ (List.mem_append_right _ h))) hown hK hP 22 rfl rfl 10 (by decide) (hts (.fieldLink RX2 58 "DeltaWindows$Decoder" "segmentSize" "I") (List.mem_of_getElem? (i := 1) rfl)) (fun _ h9 => h9) rfl dX2_stringAt_35 ?_
    refine lv_isub hx hb dX2_stringAt_38 ?_
    obtain ⟨R2, hc3, hf⟩ := b_inv hf
    have hk := kcut (wc := (wR (q 19) (q 20) (cA 9) 400 (ar 9) (sc 9))) (wc' := (wR (q 19) (q 20) (cA 9) 400 (ar 9) (sc 9))) (wf := (wX q cA sc ar sg)) hP hD hS hA [19, 20] rfl (by decide) rfl rfl
    refine k_goI (va_runV (As := [.int (((sc 15) + x1) - (sc 14))]) (rest := []) ⟨hx, hb, hml, hown, hts⟩ (kX6_at l D (q 19) (q 20) (cA 9) 400 (ar 9) (sc 9) (((sc 15) + x1) - (sc 14)) hc3 _) (cwV 1 hts gX2_stringAt_X6_at rfl rfl rfl (by decide +kernel) ⟨Nat.le_of_ble_eq_true rfl, Nat.le_of_ble_eq_true rfl⟩) (k_preV (q0 := 0) (ci := 5) hk (hK.sub [9] rfl) NT_bl NT_u rfl rfl rfl) rfl rfl hl.1 rfl (lv_room (Nat.le_of_ble_eq_true rfl)) dX2_stringAt_39 ⟨Nat.zero_le _, Nat.zero_le _⟩) hk hS (fun H locs hP hD hS => ?_)
    obtain rfl := Option.some.inj hf
    exact k_retI hx hb hr hlocks hP hS dX2_stringAt_42
  · rw [if_neg c1] at hf
    refine lv_aload_n hx hb dX2_stringAt_8 rfl (lv_at hl 0 rfl) ?_
    refine va_get (D := D) (ci := 1) (v := .ref (bif sg then q 19 else q 1)) (C := RX2) (T := TX2) (N := 13) hx hb hts (fun w h => List.mem_cons_of_mem _ (List.mem_append_left _ (List.mem_append_right _ h))) hown hK hP 22 rfl rfl 8 (by decide) (hts (.fieldLink RX2 52 "DeltaWindows$Decoder" "segment" "LDeltaWindows$Row;") (List.mem_of_getElem? (i := 2) rfl)) (fun _ h9 => h9) rfl dX2_stringAt_9 ?_
    by_cases c4 : sg = true
    · rw [if_pos c4] at hf
      refine W.eq (g2 := F0 m 12 ls [.ref (q 19)]) (by rw [c4]; rfl) ?_
      refine lv_aload_n hx hb dX2_stringAt_12 rfl (lv_at hl 0 rfl) ?_
      refine va_get (D := D) (ci := 1) (v := .int (sc 13)) (C := RX2) (T := TX2) (N := 13) hx hb hts (fun w h => List.mem_cons_of_mem _ (List.mem_append_left _ (List.mem_append_right _ h))) hown hK hP 22 rfl rfl 9 (by decide) (hts (.fieldLink RX2 55 "DeltaWindows$Decoder" "segmentPlace" "I") (List.mem_of_getElem? (i := 3) rfl)) (fun _ h9 => h9) rfl dX2_stringAt_13 ?_
      refine lv_iload_n hx hb dX2_stringAt_16 rfl (lv_at hl 1 rfl) ?_
      refine lv_iadd hx hb dX2_stringAt_17 ?_
      obtain ⟨R5, hc6, hf⟩ := b_inv hf
      have hk := kcut (wc := (wR (q 19) (q 20) (cA 9) 400 (ar 9) (sc 9))) (wc' := (wR (q 19) (q 20) (cA 9) 400 (ar 9) (sc 9))) (wf := (wX q cA sc ar sg)) hP hD hS hA [19, 20] rfl (by decide) rfl rfl
      refine k_goI (va_runV (As := [.int ((sc 13) + x1)]) (rest := []) ⟨hx, hb, hml, hown, hts⟩ (kX6_at l D (q 19) (q 20) (cA 9) 400 (ar 9) (sc 9) ((sc 13) + x1) hc6 _) (cwV 1 hts gX2_stringAt_X6_at rfl rfl rfl (by decide +kernel) ⟨Nat.le_of_ble_eq_true rfl, Nat.le_of_ble_eq_true rfl⟩) (k_preV (q0 := 0) (ci := 5) hk (hK.sub [9] rfl) NT_bl NT_u rfl rfl rfl) rfl rfl hl.1 rfl (lv_room (Nat.le_of_ble_eq_true rfl)) dX2_stringAt_18 ⟨Nat.zero_le _, Nat.zero_le _⟩) hk hS (fun H locs hP hD hS => ?_)
      refine lv_goto (tgt := 42) hx hb dX2_stringAt_21 (by decide) ?_
      obtain rfl := Option.some.inj hf
      exact k_retI hx hb hr hlocks hP hS dX2_stringAt_42
    · rw [if_neg c4] at hf
      refine W.eq (g2 := F0 m 12 ls [.ref (q 1)]) (by rw [(Bool.not_eq_true _).mp c4]; rfl) ?_
      refine lv_aload_n hx hb dX2_stringAt_12 rfl (lv_at hl 0 rfl) ?_
      refine va_get (D := D) (ci := 1) (v := .int (sc 13)) (C := RX2) (T := TX2) (N := 13) hx hb hts (fun w h => List.mem_cons_of_mem _ (List.mem_append_left _ (List.mem_append_right _ h))) hown hK hP 22 rfl rfl 9 (by decide) (hts (.fieldLink RX2 55 "DeltaWindows$Decoder" "segmentPlace" "I") (List.mem_of_getElem? (i := 3) rfl)) (fun _ h9 => h9) rfl dX2_stringAt_13 ?_
      refine lv_iload_n hx hb dX2_stringAt_16 rfl (lv_at hl 1 rfl) ?_
      refine lv_iadd hx hb dX2_stringAt_17 ?_
      obtain ⟨R7, hc8, hf⟩ := b_inv hf
      have hk := kcut (wc := (wR (q 1) (q 2) (cA 0) 48 (ar 0) (sc 0))) (wc' := (wR (q 1) (q 2) (cA 0) 48 (ar 0) (sc 0))) (wf := (wX q cA sc ar sg)) hP hD hS hA [1, 2] rfl (by decide) rfl rfl
      refine k_goI (va_runV (As := [.int ((sc 13) + x1)]) (rest := []) ⟨hx, hb, hml, hown, hts⟩ (kX6_at l D (q 1) (q 2) (cA 0) 48 (ar 0) (sc 0) ((sc 13) + x1) hc8 _) (cwV 1 hts gX2_stringAt_X6_at rfl rfl rfl (by decide +kernel) ⟨Nat.le_of_ble_eq_true rfl, Nat.le_of_ble_eq_true rfl⟩) (k_preV (q0 := 0) (ci := 5) hk (hK.sub [0] rfl) NT_bl NT_u rfl rfl rfl) rfl rfl hl.1 rfl (lv_room (Nat.le_of_ble_eq_true rfl)) dX2_stringAt_18 ⟨Nat.zero_le _, Nat.zero_le _⟩) hk hS (fun H locs hP hD hS => ?_)
      refine lv_goto (tgt := 42) hx hb dX2_stringAt_21 (by decide) ?_
      obtain rfl := Option.some.inj hf
      exact k_retI hx hb hr hlocks hP hS dX2_stringAt_42

noncomputable def fX2_readAddress (sc : Nat → Int32) (ar : Nat → Nat → Int32) (sg : Bool) (x1 : Int32) : Option (Int64 × (Nat → Int32)) :=
  if x1 < (6 : Int32) then
    (fX5_nextInteger 1000 (sc 27) (sc 28) (ar 2) (sc 2)).bind fun R2 =>
    if R2.1 = (-1 : Int32) then
      some ((-1 : Int64), (va_up sc 27 R2.2))
    else
      (fX2_here (va_up sc 27 R2.2) ar sg).bind fun R5 =>
      (fX0_addressFor (ar 12) (ar 13) (sc 18) x1 R2.1 R5).bind fun R7 =>
      some (R7, (va_up sc 27 R2.2))
  else
    (fX5_nextByte 1000 (sc 27) (sc 28) (ar 2) (sc 2)).bind fun R9 =>
    if R9.1 = (-1 : Int32) then
      some ((-1 : Int64), (va_up sc 27 R9.2))
    else
      (fX0_same (ar 12) (ar 13) (sc 18) (((256 : Int32) * (x1 - (6 : Int32))) + R9.1)).bind fun R12 =>
      some (R12.toInt64, (va_up sc 27 R9.2))

set_option maxHeartbeats 4000000 in
set_option maxRecDepth 100000 in
theorem kX2_readAddress (l : Launch) (D : va_G) (q : Nat → Nat) (cA : Nat → ClassId) (sc : Nat → Int32) (ar : Nat → Nat → Int32) (sg : Bool) (x1 : Int32) {R : Int64 × (Nat → Int32)} (hf : fX2_readAddress sc ar sg x1 = some R) : ML l yX2_readAddress wsX2_readAddress (rmD 2) D ([.ref (q 22), .int x1] : List Value) (wX q cA sc ar sg) (tX cA) NX R.1 (wX q cA R.2 ar sg) := by
  refine ML.mk (cc := cX2_readAddress) (maxL := 3) (ret := (some .long)) (by first | decide | decide +kernel) rfl (Nat.le_of_ble_eq_true rfl) ?_
  intro p e s m below meth cd A ls hE
  obtain ⟨hx, hb, hr, hml, hts, hown, hlocks, hP, hK, hD, hA, hN, hAe, hl⟩ := hE
  have hown : s.vm.findClass RX2 = some m.cls := hown
  have hS : va_S A s.heap s.heap [] := va_S.rf
  have hl : lv_has ls 3 [(0, .ref (q 22)), (1, .int x1)] := hl
  rw [fX2_readAddress] at hf
  refine lv_iload_n hx hb dX2_readAddress_0 rfl (lv_at hl 1 rfl) ?_
  refine lv_bipush (v := (6 : Int32)) hx hb dX2_readAddress_1 (by decide) ?_
  refine lv_icmp_lt (tgt := 44) hx hb dX2_readAddress_3 (by decide) (fun c1 => ?_) (fun c1 => ?_)
  · rw [if_pos c1] at hf
    refine lv_aload_n hx hb dX2_readAddress_44 rfl (lv_at hl 0 rfl) ?_
    refine va_get (D := D) (ci := 1) (v := .ref (q 39)) (C := RX2) (T := TX2) (N := 13) hx hb hts (fun w h => List.mem_cons_of_mem _ (List.mem_append_left _ (List.mem_append_left _ (List.mem_append_left _ (List.mem_append_right _ h))))) hown hK hP 22 rfl rfl 6 (by decide) (hts (.fieldLink RX2 45 "DeltaWindows$Decoder" "addresses" "LDeltaWindows$Reader;") (List.mem_of_getElem? (i := 1) rfl)) (fun _ h9 => h9) rfl dX2_readAddress_45 ?_
    obtain ⟨R2, hc3, hf⟩ := b_inv hf
    have hk := kcut (wc := (wD (q 39) (q 5) (q 6) (cA 2) 1000 (sc 27) (sc 28) (ar 2) (sc 2))) (wc' := (wD (q 39) (q 5) (q 6) (cA 2) 1000 R2.2 (sc 28) (ar 2) (sc 2))) (wf := (wX q cA (va_up sc 27 R2.2) ar sg)) hP hD hS hA [39, 5, 6] rfl (by decide) rfl rfl
    refine k_goI (va_runV (As := []) (rest := []) ⟨hx, hb, hml, hown, hts⟩ (kX5_nextInteger l D (q 39) (q 5) (q 6) (cA 2) 1000 (sc 27) (sc 28) (ar 2) (sc 2) hc3 _) (cwV 0 hts gX2_readAddress_X5_nextInteger rfl rfl rfl (by decide +kernel) ⟨Nat.le_of_ble_eq_true rfl, Nat.le_of_ble_eq_true rfl⟩) (k_preV (q0 := 0) (ci := 4) hk (hK.sub [2] rfl) NR_bl (fun U _ hW => NR_w hW hN.1) rfl rfl rfl) rfl rfl hl.1 rfl (lv_room (Nat.le_of_ble_eq_true rfl)) dX2_readAddress_48 ⟨Nat.zero_le _, Nat.zero_le _⟩) hk hS (fun H locs hP hD hS => ?_)
    refine lv_istore_n (lv' := [(2, .int R2.1), (0, .ref (q 22)), (1, .int x1)]) hx hb dX2_readAddress_51 rfl hl (by decide) rfl (fun ls hl => ?_)
    refine lv_iload_n hx hb dX2_readAddress_52 rfl (lv_at hl 0 rfl) ?_
    refine lv_iconst (v := (-1 : Int32)) hx hb dX2_readAddress_53 (by decide) ?_
    refine lv_icmp_ne (tgt := 63) hx hb dX2_readAddress_54 (by decide) (fun c4 => ?_) (fun c4 => ?_)
    · rw [if_neg c4] at hf
      refine lv_aload_n hx hb dX2_readAddress_63 rfl (lv_at hl 1 rfl) ?_
      refine va_get (D := D) (ci := 1) (v := .ref (q 26)) (C := RX2) (T := TX2) (N := 13) hx hb hts (fun w h => List.mem_cons_of_mem _ (List.mem_append_left _ (List.mem_append_left _ (List.mem_append_left _ (List.mem_append_right _ h))))) hown hK hP 22 rfl rfl 2 (by decide) (hts (.fieldLink RX2 26 "DeltaWindows$Decoder" "caches" "LDeltaWindows$Caches;") (List.mem_of_getElem? (i := 3) rfl)) (fun _ h9 => h9) rfl dX2_readAddress_64 ?_
      refine lv_iload_n hx hb dX2_readAddress_67 rfl (lv_at hl 2 rfl) ?_
      refine lv_iload_n hx hb dX2_readAddress_68 rfl (lv_at hl 0 rfl) ?_
      refine lv_aload_n hx hb dX2_readAddress_69 rfl (lv_at hl 1 rfl) ?_
      obtain ⟨R5, hc6, hf⟩ := b_inv hf
      have hk := kall (wc' := (wX q cA (va_up sc 27 R2.2) ar sg)) hP hD hS hA rfl
      refine k_goI (va_runV (As := []) (rest := [.int R2.1, .int x1, .ref (q 26)]) ⟨hx, hb, hml, hown, hts⟩ (kX2_here l D q cA (va_up sc 27 R2.2) ar sg hc6 _) (cwV 0 hts gX2_readAddress_X2_here rfl rfl rfl (by decide +kernel) ⟨Nat.le_of_ble_eq_true rfl, Nat.le_of_ble_eq_true rfl⟩) (k_preV (q0 := 22) (ci := 1) hk hK NX_bl (fun U _ hW => NX_w hW hN) rfl rfl rfl) rfl rfl hl.1 rfl (lv_room (Nat.le_of_ble_eq_true rfl)) dX2_readAddress_70 ⟨Nat.zero_le _, Nat.zero_le _⟩) hk hS (fun H locs hP hD hS => ?_)
      obtain ⟨R7, hc8, hf⟩ := b_inv hf
      have hk := kcut (wc := (wC (q 26) (q 27) (q 28) (cA 12) (cA 13) (ar 12) (ar 13) (sc 18))) (wc' := (wC (q 26) (q 27) (q 28) (cA 12) (cA 13) (ar 12) (ar 13) (sc 18))) (wf := (wX q cA (va_up sc 27 R2.2) ar sg)) hP hD hS hA [26, 27, 28] rfl (by decide) rfl rfl
      refine k_goL (va_runV (As := [.int x1, .int R2.1, .int R5]) (rest := []) ⟨hx, hb, hml, hown, hts⟩ (kX0_addressFor l D (q 26) (q 27) (q 28) (cA 12) (cA 13) (ar 12) (ar 13) (sc 18) x1 R2.1 R5 hc8 _) (cwV 3 hts gX2_readAddress_X0_addressFor rfl rfl rfl (by decide +kernel) ⟨Nat.le_of_ble_eq_true rfl, Nat.le_of_ble_eq_true rfl⟩) (k_preV (q0 := 0) (ci := 0) hk (hK.sub [12, 13] rfl) NT_bl NT_u rfl rfl rfl) rfl rfl hl.1 rfl (lv_room (Nat.le_of_ble_eq_true rfl)) dX2_readAddress_73 ⟨Nat.zero_le _, Nat.zero_le _⟩) hk hS (fun H locs hP hD hS => ?_)
      obtain rfl := Option.some.inj hf
      exact k_retL hx hb hr hlocks hP hS dX2_readAddress_76
    · rw [if_pos c4] at hf
      refine lv_ldc2 (v := (-1 : Int64)) hx hb hown (hts (.constantLong RX2 154 (-1)) (List.mem_of_getElem? (i := 2) rfl)) dX2_readAddress_57 ?_
      refine lv_goto (tgt := 76) hx hb dX2_readAddress_60 (by decide) ?_
      obtain rfl := Option.some.inj hf
      exact k_retL hx hb hr hlocks hP hS dX2_readAddress_76
  · rw [if_neg c1] at hf
    refine lv_aload_n hx hb dX2_readAddress_6 rfl (lv_at hl 0 rfl) ?_
    refine va_get (D := D) (ci := 1) (v := .ref (q 39)) (C := RX2) (T := TX2) (N := 13) hx hb hts (fun w h => List.mem_cons_of_mem _ (List.mem_append_left _ (List.mem_append_left _ (List.mem_append_left _ (List.mem_append_right _ h))))) hown hK hP 22 rfl rfl 6 (by decide) (hts (.fieldLink RX2 45 "DeltaWindows$Decoder" "addresses" "LDeltaWindows$Reader;") (List.mem_of_getElem? (i := 1) rfl)) (fun _ h9 => h9) rfl dX2_readAddress_7 ?_
    obtain ⟨R9, hc10, hf⟩ := b_inv hf
    have hk := kcut (wc := (wD (q 39) (q 5) (q 6) (cA 2) 1000 (sc 27) (sc 28) (ar 2) (sc 2))) (wc' := (wD (q 39) (q 5) (q 6) (cA 2) 1000 R9.2 (sc 28) (ar 2) (sc 2))) (wf := (wX q cA (va_up sc 27 R9.2) ar sg)) hP hD hS hA [39, 5, 6] rfl (by decide) rfl rfl
    refine k_goI (va_runV (As := []) (rest := []) ⟨hx, hb, hml, hown, hts⟩ (kX5_nextByte l D (q 39) (q 5) (q 6) (cA 2) 1000 (sc 27) (sc 28) (ar 2) (sc 2) hc10 _) (cwV 0 hts gX2_readAddress_X5_nextByte rfl rfl rfl (by decide +kernel) ⟨Nat.le_of_ble_eq_true rfl, Nat.le_of_ble_eq_true rfl⟩) (k_preV (q0 := 0) (ci := 4) hk (hK.sub [2] rfl) NR_bl (fun U _ hW => NR_w hW hN.1) rfl rfl rfl) rfl rfl hl.1 rfl (lv_room (Nat.le_of_ble_eq_true rfl)) dX2_readAddress_10 ⟨Nat.zero_le _, Nat.zero_le _⟩) hk hS (fun H locs hP hD hS => ?_)
    refine lv_istore_n (lv' := [(2, .int R9.1), (0, .ref (q 22)), (1, .int x1)]) hx hb dX2_readAddress_13 rfl hl (by decide) rfl (fun ls hl => ?_)
    refine lv_iload_n hx hb dX2_readAddress_14 rfl (lv_at hl 0 rfl) ?_
    refine lv_iconst (v := (-1 : Int32)) hx hb dX2_readAddress_15 (by decide) ?_
    refine lv_icmp_ne (tgt := 25) hx hb dX2_readAddress_16 (by decide) (fun c11 => ?_) (fun c11 => ?_)
    · rw [if_neg c11] at hf
      refine lv_aload_n hx hb dX2_readAddress_25 rfl (lv_at hl 1 rfl) ?_
      refine va_get (D := D) (ci := 1) (v := .ref (q 26)) (C := RX2) (T := TX2) (N := 13) hx hb hts (fun w h => List.mem_cons_of_mem _ (List.mem_append_left _ (List.mem_append_left _ (List.mem_append_left _ (List.mem_append_right _ h))))) hown hK hP 22 rfl rfl 2 (by decide) (hts (.fieldLink RX2 26 "DeltaWindows$Decoder" "caches" "LDeltaWindows$Caches;") (List.mem_of_getElem? (i := 3) rfl)) (fun _ h9 => h9) rfl dX2_readAddress_26 ?_
      refine lv_sipush (v := (256 : Int32)) hx hb dX2_readAddress_29 (by decide) ?_
      refine lv_iload_n hx hb dX2_readAddress_32 rfl (lv_at hl 2 rfl) ?_
      refine lv_bipush (v := (6 : Int32)) hx hb dX2_readAddress_33 (by decide) ?_
      refine lv_isub hx hb dX2_readAddress_35 ?_
      refine lv_imul hx hb dX2_readAddress_36 ?_
      refine lv_iload_n hx hb dX2_readAddress_37 rfl (lv_at hl 0 rfl) ?_
      refine lv_iadd hx hb dX2_readAddress_38 ?_
      obtain ⟨R12, hc13, hf⟩ := b_inv hf
      have hk := kcut (wc := (wC (q 26) (q 27) (q 28) (cA 12) (cA 13) (ar 12) (ar 13) (sc 18))) (wc' := (wC (q 26) (q 27) (q 28) (cA 12) (cA 13) (ar 12) (ar 13) (sc 18))) (wf := (wX q cA (va_up sc 27 R9.2) ar sg)) hP hD hS hA [26, 27, 28] rfl (by decide) rfl rfl
      refine k_goI (va_runV (As := [.int (((256 : Int32) * (x1 - (6 : Int32))) + R9.1)]) (rest := []) ⟨hx, hb, hml, hown, hts⟩ (kX0_same l D (q 26) (q 27) (q 28) (cA 12) (cA 13) (ar 12) (ar 13) (sc 18) (((256 : Int32) * (x1 - (6 : Int32))) + R9.1) hc13 _) (cwV 1 hts gX2_readAddress_X0_same rfl rfl rfl (by decide +kernel) ⟨Nat.le_of_ble_eq_true rfl, Nat.le_of_ble_eq_true rfl⟩) (k_preV (q0 := 0) (ci := 0) hk (hK.sub [12, 13] rfl) NT_bl NT_u rfl rfl rfl) rfl rfl hl.1 rfl (lv_room (Nat.le_of_ble_eq_true rfl)) dX2_readAddress_39 ⟨Nat.zero_le _, Nat.zero_le _⟩) hk hS (fun H locs hP hD hS => ?_)
      refine lv_i2l (v := R12.toInt64) hx hb dX2_readAddress_42 rfl ?_
      obtain rfl := Option.some.inj hf
      exact k_retL hx hb hr hlocks hP hS dX2_readAddress_43
    · rw [if_pos c11] at hf
      refine lv_ldc2 (v := (-1 : Int64)) hx hb hown (hts (.constantLong RX2 154 (-1)) (List.mem_of_getElem? (i := 2) rfl)) dX2_readAddress_19 ?_
      refine lv_goto (tgt := 43) hx hb dX2_readAddress_22 (by decide) ?_
      obtain rfl := Option.some.inj hf
      exact k_retL hx hb hr hlocks hP hS dX2_readAddress_43

noncomputable def fX2_copy_L21 (sg : Bool) (v1 : Int32) (v2 : Int64) : Nat → (Int32) → (Nat → Int32) → (Nat → Nat → Int32) → Option ((Nat → Int32) × (Nat → Nat → Int32))
  | 0, _, _, _ => none
  | k + 1, v4, sc, ar =>
    if v1 ≤ v4 then
      some (sc, ar)
    else
      (fX2_stringAt sc ar sg (v2.toInt32 + v4)).bind fun R6 =>
      (fX6_append 400 (ar 9) (sc 9) R6).bind fun R8 =>
      fX2_copy_L21 sg v1 v2 k (v4 + (1 : Int32)) (va_up sc 9 R8.2) (va_up ar 9 R8.1)

noncomputable def fX2_copy (sc : Nat → Int32) (ar : Nat → Nat → Int32) (sg : Bool) (x1 : Int32) (x2 : Int64) : Option (Int32 × (Nat → Int32) × (Nat → Nat → Int32)) :=
  if (lg_cmp x2 (0 : Int64)) < 0 then
    some ((0 : Int32), sc, ar)
  else
    (fX2_here sc ar sg).bind fun R2 =>
    if (lg_cmp x2 R2.toInt64) < 0 then
      (fX2_copy_L21 sg x1 x2 FU (0 : Int32) sc ar).bind fun R10 =>
      (fX0_learn (R10.2 12) (R10.2 13) (R10.1 18) x2.toInt32).bind fun R12 =>
      some ((1 : Int32), (va_up R10.1 18 R12.2.2), (va_up (va_up R10.2 12 R12.1) 13 R12.2.1))
    else
      some ((0 : Int32), sc, ar)

set_option maxHeartbeats 4000000 in
set_option maxRecDepth 100000 in
theorem kX2_copy (l : Launch) (D : va_G) (q : Nat → Nat) (cA : Nat → ClassId) (sc : Nat → Int32) (ar : Nat → Nat → Int32) (sg : Bool) (x1 : Int32) (x2 : Int64) {R : Int32 × (Nat → Int32) × (Nat → Nat → Int32)} (hf : fX2_copy sc ar sg x1 x2 = some R) : MI l yX2_copy wsX2_copy (rmD 2) D ([.ref (q 22), .int x1, .long x2] : List Value) (wX q cA sc ar sg) (tX cA) NX R.1 (wX q cA R.2.1 R.2.2 sg) := by
  refine MI.mk (cc := cX2_copy) (maxL := 5) (ret := (some .boolean)) (by first | decide | decide +kernel) rfl (Nat.le_of_ble_eq_true rfl) ?_
  intro p e s m below meth cd A ls hE
  obtain ⟨hx, hb, hr, hml, hts, hown, hlocks, hP, hK, hD, hA, hN, hAe, hl⟩ := hE
  have hown : s.vm.findClass RX2 = some m.cls := hown
  have hS : va_S A s.heap s.heap [] := va_S.rf
  have hl : lv_has ls 5 [(0, .ref (q 22)), (1, .int x1), (2, .long x2)] := hl
  rw [fX2_copy] at hf
  refine lv_lload_n hx hb dX2_copy_0 rfl (lv_at hl 2 rfl) ?_
  refine lv_lconst (v := (0 : Int64)) hx hb dX2_copy_1 (by decide) ?_
  refine W.lcmp hx hb dX2_copy_2 ?_
  refine lv_if_lt (tgt := 16) hx hb dX2_copy_3 (by decide) (fun c1 => ?_) (fun c1 => ?_)
  · rw [if_pos c1] at hf
    refine lv_iconst (v := (0 : Int32)) hx hb dX2_copy_16 (by decide) ?_
    obtain rfl := Option.some.inj hf
    exact k_retZ hx hb hr hlocks hP hS rfl dX2_copy_17
  · rw [if_neg c1] at hf
    refine lv_lload_n hx hb dX2_copy_6 rfl (lv_at hl 2 rfl) ?_
    refine lv_aload_n hx hb dX2_copy_7 rfl (lv_at hl 0 rfl) ?_
    obtain ⟨R2, hc3, hf⟩ := b_inv hf
    have hk := kall (wc' := (wX q cA sc ar sg)) hP hD hS hA rfl
    refine k_goI (va_runV (As := []) (rest := [.long x2]) ⟨hx, hb, hml, hown, hts⟩ (kX2_here l D q cA sc ar sg hc3 _) (cwV 0 hts gX2_copy_X2_here rfl rfl rfl (by decide +kernel) ⟨Nat.le_of_ble_eq_true rfl, Nat.le_of_ble_eq_true rfl⟩) (k_preV (q0 := 22) (ci := 1) hk hK NX_bl (fun U _ hW => NX_w hW hN) rfl rfl rfl) rfl rfl hl.1 rfl (lv_room (Nat.le_of_ble_eq_true rfl)) dX2_copy_8 ⟨Nat.zero_le _, Nat.zero_le _⟩) hk hS (fun H locs hP hD hS => ?_)
    refine lv_i2l (v := R2.toInt64) hx hb dX2_copy_11 rfl ?_
    refine W.lcmp hx hb dX2_copy_12 ?_
    refine lv_if_lt (tgt := 18) hx hb dX2_copy_13 (by decide) (fun c4 => ?_) (fun c4 => ?_)
    · rw [if_pos c4] at hf
      refine lv_iconst (v := (0 : Int32)) hx hb dX2_copy_18 (by decide) ?_
      refine lv_istore (lv' := [(4, .int (0 : Int32)), (0, .ref (q 22)), (1, .int x1), (2, .long x2)]) hx hb dX2_copy_19 hl (by decide) rfl (fun ls hl => ?_)
      have lp14 : ∀ (sg : Bool) (v1 : Int32) (v2 : Int64), ∀ (k : Nat) (v4 : Int32) (sc : Nat → Int32) (ar : Nat → Nat → Int32) (H : Heap) (locs : List Loc) (ls : Array Slot) (o : (Nat → Int32) × (Nat → Nat → Int32)), lv_has ls 5 [(4, .int v4), (1, .int v1), (2, .long v2), (0, .ref (q 22))] → va_P D vwCl (wX q cA sc ar sg) H → va_D A (wX q cA sc ar sg) → va_S A s.heap H locs → fX2_copy_L21 sg v1 v2 k v4 sc ar = some o → (∀ (H : Heap) (locs : List Loc) (ls : Array Slot), lv_has ls 5 [(2, .long v2), (0, .ref (q 22))] → va_P D vwCl (wX q cA o.1 o.2 sg) H → va_D A (wX q cA o.1 o.2 sg) → va_S A s.heap H locs → W p l e (headSpec wsX2_copy (rmD 2)).room s m ([.ref (q 22), .int x1, .long x2] : List Value).toArray below meth cd H locs 0 0 (QI D below ([.ref (q 22), .int x1, .long x2] : List Value).toArray s A R.1 (wX q cA R.2.1 R.2.2 sg)) (F0 m 49 ls [])) → W p l e (headSpec wsX2_copy (rmD 2)).room s m ([.ref (q 22), .int x1, .long x2] : List Value).toArray below meth cd H locs 0 0 (QI D below ([.ref (q 22), .int x1, .long x2] : List Value).toArray s A R.1 (wX q cA R.2.1 R.2.2 sg)) (F0 m 21 ls []) := by
        intro sg v1 v2
        intro k
        induction k with
        | zero =>
          intro v4 sc ar H locs ls o hl hP hD hS hf
          exact absurd hf (by simp [fX2_copy_L21])
        | succ k ih =>
          intro v4 sc ar H locs ls o hl hP hD hS hf kont
          rw [fX2_copy_L21] at hf
          refine lv_iload hx hb dX2_copy_21 (lv_at hl 0 rfl) ?_
          refine lv_iload_n hx hb dX2_copy_23 rfl (lv_at hl 1 rfl) ?_
          refine lv_icmp_ge (tgt := 49) hx hb dX2_copy_24 (by decide) (fun c5 => ?_) (fun c5 => ?_)
          · rw [if_pos c5] at hf
            obtain rfl := Option.some.inj hf
            exact kont _ _ _ (lv_sub hl [2, 3] rfl) hP hD hS
          · rw [if_neg c5] at hf
            refine lv_aload_n hx hb dX2_copy_27 rfl (lv_at hl 3 rfl) ?_
            refine va_get (D := D) (ci := 1) (v := .ref (q 19)) (C := RX2) (T := TX2) (N := 13) hx hb hts (fun w h => List.mem_cons_of_mem _ (List.mem_append_left _ (List.mem_append_left _ (List.mem_append_right _ h)))) hown hK hP 22 rfl rfl 1 (by decide) (hts (.fieldLink RX2 20 "DeltaWindows$Decoder" "made" "LDeltaWindows$Row;") (List.mem_of_getElem? (i := 1) rfl)) (fun _ h9 => h9) rfl dX2_copy_28 ?_
            refine lv_aload_n hx hb dX2_copy_31 rfl (lv_at hl 3 rfl) ?_
            refine lv_lload_n hx hb dX2_copy_32 rfl (lv_at hl 2 rfl) ?_
            refine lv_l2i (v := v2.toInt32) hx hb dX2_copy_33 rfl ?_
            refine lv_iload hx hb dX2_copy_34 (lv_at hl 0 rfl) ?_
            refine lv_iadd hx hb dX2_copy_36 ?_
            obtain ⟨R6, hc7, hf⟩ := b_inv hf
            have hk := kall (wc' := (wX q cA sc ar sg)) hP hD hS hA rfl
            refine k_goI (va_runV (As := [.int (v2.toInt32 + v4)]) (rest := [.ref (q 19)]) ⟨hx, hb, hml, hown, hts⟩ (kX2_stringAt l D q cA sc ar sg (v2.toInt32 + v4) hc7 _) (cwV 1 hts gX2_copy_X2_stringAt rfl rfl rfl (by decide +kernel) ⟨Nat.le_of_ble_eq_true rfl, Nat.le_of_ble_eq_true rfl⟩) (k_preV (q0 := 22) (ci := 1) hk hK NX_bl (fun U _ hW => NX_w hW hN) rfl rfl rfl) rfl rfl hl.1 rfl (lv_room (Nat.le_of_ble_eq_true rfl)) dX2_copy_37 ⟨Nat.zero_le _, Nat.zero_le _⟩) hk hS (fun H locs hP hD hS => ?_)
            obtain ⟨R8, hc9, hf⟩ := b_inv hf
            have hk := kcut (wc := (wR (q 19) (q 20) (cA 9) 400 (ar 9) (sc 9))) (wc' := (wR (q 19) (q 20) (cA 9) 400 R8.1 R8.2)) (wf := (wX q cA (va_up sc 9 R8.2) (va_up ar 9 R8.1) sg)) hP hD hS hA [19, 20] rfl (by decide) rfl rfl
            refine k_goV (va_runV (As := [.int R6]) (rest := []) ⟨hx, hb, hml, hown, hts⟩ (kX6_append l D (q 19) (q 20) (cA 9) 400 (ar 9) (sc 9) R6 hc9 _) (cwV 1 hts gX2_copy_X6_append rfl rfl rfl (by decide +kernel) ⟨Nat.le_of_ble_eq_true rfl, Nat.le_of_ble_eq_true rfl⟩) (k_preV (q0 := 0) (ci := 5) hk (hK.sub [9] rfl) NT_bl NT_u rfl rfl rfl) rfl rfl hl.1 rfl (lv_room (Nat.le_of_ble_eq_true rfl)) dX2_copy_40 ⟨Nat.zero_le _, Nat.zero_le _⟩) hk hS (fun H locs hP hD hS => ?_)
            refine lv_iinc (v := (v4 + (1 : Int32))) (lv' := [(4, .int (v4 + (1 : Int32))), (1, .int v1), (2, .long v2), (0, .ref (q 22))]) hx hb dX2_copy_43 hl (k := 0) rfl rfl (by decide) rfl (fun ls hl => ?_)
            refine lv_goto (tgt := 21) hx hb dX2_copy_46 (by decide) ?_
            exact ih (v4 + (1 : Int32)) (va_up sc 9 R8.2) (va_up ar 9 R8.1) _ _ _ o (lv_sub hl [0, 1, 2, 3] rfl) hP hD hS hf kont
      obtain ⟨R10, hc11, hf⟩ := b_inv hf
      refine lp14 sg x1 x2 FU (0 : Int32) sc ar _ _ _ R10 (lv_sub hl [0, 2, 3, 1] rfl) hP hD hS hc11 (fun H locs ls hl hP hD hS => ?_)
      refine lv_aload_n hx hb dX2_copy_49 rfl (lv_at hl 1 rfl) ?_
      refine va_get (D := D) (ci := 1) (v := .ref (q 26)) (C := RX2) (T := TX2) (N := 13) hx hb hts (fun w h => List.mem_cons_of_mem _ (List.mem_append_left _ (List.mem_append_left _ (List.mem_append_right _ h)))) hown hK hP 22 rfl rfl 2 (by decide) (hts (.fieldLink RX2 26 "DeltaWindows$Decoder" "caches" "LDeltaWindows$Caches;") (List.mem_of_getElem? (i := 2) rfl)) (fun _ h9 => h9) rfl dX2_copy_50 ?_
      refine lv_lload_n hx hb dX2_copy_53 rfl (lv_at hl 0 rfl) ?_
      refine lv_l2i (v := x2.toInt32) hx hb dX2_copy_54 rfl ?_
      obtain ⟨R12, hc13, hf⟩ := b_inv hf
      have hk := kcut (wc := (wC (q 26) (q 27) (q 28) (cA 12) (cA 13) (R10.2 12) (R10.2 13) (R10.1 18))) (wc' := (wC (q 26) (q 27) (q 28) (cA 12) (cA 13) R12.1 R12.2.1 R12.2.2)) (wf := (wX q cA (va_up R10.1 18 R12.2.2) (va_up (va_up R10.2 12 R12.1) 13 R12.2.1) sg)) hP hD hS hA [26, 27, 28] rfl (by decide) rfl rfl
      refine k_goV (va_runV (As := [.int x2.toInt32]) (rest := []) ⟨hx, hb, hml, hown, hts⟩ (kX0_learn l D (q 26) (q 27) (q 28) (cA 12) (cA 13) (R10.2 12) (R10.2 13) (R10.1 18) x2.toInt32 hc13 _) (cwV 1 hts gX2_copy_X0_learn rfl rfl rfl (by decide +kernel) ⟨Nat.le_of_ble_eq_true rfl, Nat.le_of_ble_eq_true rfl⟩) (k_preV (q0 := 0) (ci := 0) hk (hK.sub [12, 13] rfl) NT_bl NT_u rfl rfl rfl) rfl rfl hl.1 rfl (lv_room (Nat.le_of_ble_eq_true rfl)) dX2_copy_55 ⟨Nat.zero_le _, Nat.zero_le _⟩) hk hS (fun H locs hP hD hS => ?_)
      refine lv_iconst (v := (1 : Int32)) hx hb dX2_copy_58 (by decide) ?_
      obtain rfl := Option.some.inj hf
      exact k_retZ hx hb hr hlocks hP hS rfl dX2_copy_59
    · rw [if_neg c4] at hf
      refine lv_iconst (v := (0 : Int32)) hx hb dX2_copy_16 (by decide) ?_
      obtain rfl := Option.some.inj hf
      exact k_retZ hx hb hr hlocks hP hS rfl dX2_copy_17

noncomputable def fX2_run_L17 (sg : Bool) (v1 : Int32) (v2 : Int32) : Nat → (Int32) → (Nat → Int32) → (Nat → Nat → Int32) → Option ((Nat → Int32) × (Nat → Nat → Int32))
  | 0, _, _, _ => none
  | k + 1, v3, sc, ar =>
    if v1 ≤ v3 then
      some (sc, ar)
    else
      (fX6_append 400 (ar 9) (sc 9) v2).bind fun R5 =>
      fX2_run_L17 sg v1 v2 k (v3 + (1 : Int32)) (va_up sc 9 R5.2) (va_up ar 9 R5.1)

noncomputable def fX2_run (sc : Nat → Int32) (ar : Nat → Nat → Int32) (sg : Bool) (x1 : Int32) : Option (Int32 × (Nat → Int32) × (Nat → Nat → Int32)) :=
  (fX5_nextByte 1000 (sc 23) (sc 24) (ar 2) (sc 2)).bind fun R1 =>
  if R1.1 = (-1 : Int32) then
    some ((0 : Int32), (va_up sc 23 R1.2), ar)
  else
    (fX2_run_L17 sg x1 R1.1 FU (0 : Int32) (va_up sc 23 R1.2) ar).bind fun R7 =>
    some ((1 : Int32), R7.1, R7.2)

set_option maxHeartbeats 4000000 in
set_option maxRecDepth 100000 in
theorem kX2_run (l : Launch) (D : va_G) (q : Nat → Nat) (cA : Nat → ClassId) (sc : Nat → Int32) (ar : Nat → Nat → Int32) (sg : Bool) (x1 : Int32) {R : Int32 × (Nat → Int32) × (Nat → Nat → Int32)} (hf : fX2_run sc ar sg x1 = some R) : MI l yX2_run wsX2_run (rmD 1) D ([.ref (q 22), .int x1] : List Value) (wX q cA sc ar sg) (tX cA) NX R.1 (wX q cA R.2.1 R.2.2 sg) := by
  refine MI.mk (cc := cX2_run) (maxL := 4) (ret := (some .boolean)) (by first | decide | decide +kernel) rfl (Nat.le_of_ble_eq_true rfl) ?_
  intro p e s m below meth cd A ls hE
  obtain ⟨hx, hb, hr, hml, hts, hown, hlocks, hP, hK, hD, hA, hN, hAe, hl⟩ := hE
  have hown : s.vm.findClass RX2 = some m.cls := hown
  have hS : va_S A s.heap s.heap [] := va_S.rf
  have hl : lv_has ls 4 [(0, .ref (q 22)), (1, .int x1)] := hl
  rw [fX2_run] at hf
  refine lv_aload_n hx hb dX2_run_0 rfl (lv_at hl 0 rfl) ?_
  refine va_get (D := D) (ci := 1) (v := .ref (q 37)) (C := RX2) (T := TX2) (N := 13) hx hb hts (fun w h => List.mem_cons_of_mem _ (List.mem_append_left _ (List.mem_append_left _ (List.mem_append_right _ h)))) hown hK hP 22 rfl rfl 4 (by decide) (hts (.fieldLink RX2 39 "DeltaWindows$Decoder" "data" "LDeltaWindows$Reader;") (List.mem_of_getElem? (i := 1) rfl)) (fun _ h9 => h9) rfl dX2_run_1 ?_
  obtain ⟨R1, hc2, hf⟩ := b_inv hf
  have hk := kcut (wc := (wD (q 37) (q 5) (q 6) (cA 2) 1000 (sc 23) (sc 24) (ar 2) (sc 2))) (wc' := (wD (q 37) (q 5) (q 6) (cA 2) 1000 R1.2 (sc 24) (ar 2) (sc 2))) (wf := (wX q cA (va_up sc 23 R1.2) ar sg)) hP hD hS hA [37, 5, 6] rfl (by decide) rfl rfl
  refine k_goI (va_runV (As := []) (rest := []) ⟨hx, hb, hml, hown, hts⟩ (kX5_nextByte l D (q 37) (q 5) (q 6) (cA 2) 1000 (sc 23) (sc 24) (ar 2) (sc 2) hc2 _) (cwV 0 hts gX2_run_X5_nextByte rfl rfl rfl (by decide +kernel) ⟨Nat.le_of_ble_eq_true rfl, Nat.le_of_ble_eq_true rfl⟩) (k_preV (q0 := 0) (ci := 4) hk (hK.sub [2] rfl) NR_bl (fun U _ hW => NR_w hW hN.1) rfl rfl rfl) rfl rfl hl.1 rfl (lv_room (Nat.le_of_ble_eq_true rfl)) dX2_run_4 ⟨Nat.zero_le _, Nat.zero_le _⟩) hk hS (fun H locs hP hD hS => ?_)
  refine lv_istore_n (lv' := [(2, .int R1.1), (0, .ref (q 22)), (1, .int x1)]) hx hb dX2_run_7 rfl hl (by decide) rfl (fun ls hl => ?_)
  refine lv_iload_n hx hb dX2_run_8 rfl (lv_at hl 0 rfl) ?_
  refine lv_iconst (v := (-1 : Int32)) hx hb dX2_run_9 (by decide) ?_
  refine lv_icmp_ne (tgt := 15) hx hb dX2_run_10 (by decide) (fun c3 => ?_) (fun c3 => ?_)
  · rw [if_neg c3] at hf
    refine lv_iconst (v := (0 : Int32)) hx hb dX2_run_15 (by decide) ?_
    refine lv_istore_n (lv' := [(3, .int (0 : Int32)), (2, .int R1.1), (0, .ref (q 22)), (1, .int x1)]) hx hb dX2_run_16 rfl hl (by decide) rfl (fun ls hl => ?_)
    have lp9 : ∀ (sg : Bool) (v1 : Int32) (v2 : Int32), ∀ (k : Nat) (v3 : Int32) (sc : Nat → Int32) (ar : Nat → Nat → Int32) (H : Heap) (locs : List Loc) (ls : Array Slot) (o : (Nat → Int32) × (Nat → Nat → Int32)), lv_has ls 4 [(3, .int v3), (1, .int v1), (2, .int v2), (0, .ref (q 22))] → va_P D vwCl (wX q cA sc ar sg) H → va_D A (wX q cA sc ar sg) → va_S A s.heap H locs → fX2_run_L17 sg v1 v2 k v3 sc ar = some o → (∀ (H : Heap) (locs : List Loc) (ls : Array Slot), lv_has ls 4 [] → va_P D vwCl (wX q cA o.1 o.2 sg) H → va_D A (wX q cA o.1 o.2 sg) → va_S A s.heap H locs → W p l e (headSpec wsX2_run (rmD 1)).room s m ([.ref (q 22), .int x1] : List Value).toArray below meth cd H locs 0 0 (QI D below ([.ref (q 22), .int x1] : List Value).toArray s A R.1 (wX q cA R.2.1 R.2.2 sg)) (F0 m 36 ls [])) → W p l e (headSpec wsX2_run (rmD 1)).room s m ([.ref (q 22), .int x1] : List Value).toArray below meth cd H locs 0 0 (QI D below ([.ref (q 22), .int x1] : List Value).toArray s A R.1 (wX q cA R.2.1 R.2.2 sg)) (F0 m 17 ls []) := by
      intro sg v1 v2
      intro k
      induction k with
      | zero =>
        intro v3 sc ar H locs ls o hl hP hD hS hf
        exact absurd hf (by simp [fX2_run_L17])
      | succ k ih =>
        intro v3 sc ar H locs ls o hl hP hD hS hf kont
        rw [fX2_run_L17] at hf
        refine lv_iload_n hx hb dX2_run_17 rfl (lv_at hl 0 rfl) ?_
        refine lv_iload_n hx hb dX2_run_18 rfl (lv_at hl 1 rfl) ?_
        refine lv_icmp_ge (tgt := 36) hx hb dX2_run_19 (by decide) (fun c4 => ?_) (fun c4 => ?_)
        · rw [if_pos c4] at hf
          obtain rfl := Option.some.inj hf
          exact kont _ _ _ (lv_sub hl [] rfl) hP hD hS
        · rw [if_neg c4] at hf
          refine lv_aload_n hx hb dX2_run_22 rfl (lv_at hl 3 rfl) ?_
          refine va_get (D := D) (ci := 1) (v := .ref (q 19)) (C := RX2) (T := TX2) (N := 13) hx hb hts (fun w h => List.mem_cons_of_mem _ (List.mem_append_left _ (List.mem_append_left _ (List.mem_append_right _ h)))) hown hK hP 22 rfl rfl 1 (by decide) (hts (.fieldLink RX2 20 "DeltaWindows$Decoder" "made" "LDeltaWindows$Row;") (List.mem_of_getElem? (i := 2) rfl)) (fun _ h9 => h9) rfl dX2_run_23 ?_
          refine lv_iload_n hx hb dX2_run_26 rfl (lv_at hl 2 rfl) ?_
          obtain ⟨R5, hc6, hf⟩ := b_inv hf
          have hk := kcut (wc := (wR (q 19) (q 20) (cA 9) 400 (ar 9) (sc 9))) (wc' := (wR (q 19) (q 20) (cA 9) 400 R5.1 R5.2)) (wf := (wX q cA (va_up sc 9 R5.2) (va_up ar 9 R5.1) sg)) hP hD hS hA [19, 20] rfl (by decide) rfl rfl
          refine k_goV (va_runV (As := [.int v2]) (rest := []) ⟨hx, hb, hml, hown, hts⟩ (kX6_append l D (q 19) (q 20) (cA 9) 400 (ar 9) (sc 9) v2 hc6 _) (cwV 1 hts gX2_run_X6_append rfl rfl rfl (by decide +kernel) ⟨Nat.le_of_ble_eq_true rfl, Nat.le_of_ble_eq_true rfl⟩) (k_preV (q0 := 0) (ci := 5) hk (hK.sub [9] rfl) NT_bl NT_u rfl rfl rfl) rfl rfl hl.1 rfl (lv_room (Nat.le_of_ble_eq_true rfl)) dX2_run_27 ⟨Nat.zero_le _, Nat.zero_le _⟩) hk hS (fun H locs hP hD hS => ?_)
          refine lv_iinc (v := (v3 + (1 : Int32))) (lv' := [(3, .int (v3 + (1 : Int32))), (1, .int v1), (2, .int v2), (0, .ref (q 22))]) hx hb dX2_run_30 hl (k := 0) rfl rfl (by decide) rfl (fun ls hl => ?_)
          refine lv_goto (tgt := 17) hx hb dX2_run_33 (by decide) ?_
          exact ih (v3 + (1 : Int32)) (va_up sc 9 R5.2) (va_up ar 9 R5.1) _ _ _ o (lv_sub hl [0, 1, 2, 3] rfl) hP hD hS hf kont
    obtain ⟨R7, hc8, hf⟩ := b_inv hf
    refine lp9 sg x1 R1.1 FU (0 : Int32) (va_up sc 23 R1.2) ar _ _ _ R7 (lv_sub hl [0, 3, 1, 2] rfl) hP hD hS hc8 (fun H locs ls hl hP hD hS => ?_)
    refine lv_iconst (v := (1 : Int32)) hx hb dX2_run_36 (by decide) ?_
    obtain rfl := Option.some.inj hf
    exact k_retZ hx hb hr hlocks hP hS rfl dX2_run_37
  · rw [if_pos c3] at hf
    refine lv_iconst (v := (0 : Int32)) hx hb dX2_run_13 (by decide) ?_
    obtain rfl := Option.some.inj hf
    exact k_retZ hx hb hr hlocks hP hS rfl dX2_run_14

noncomputable def fX2_add_L15 (sg : Bool) (v1 : Int32) : Nat → (Int32) → (Nat → Int32) → (Nat → Nat → Int32) → Option ((Nat → Int32) × (Nat → Nat → Int32))
  | 0, _, _, _ => none
  | k + 1, v2, sc, ar =>
    if v1 ≤ v2 then
      some (sc, ar)
    else
      (fX5_nextByte 1000 (sc 23) (sc 24) (ar 2) (sc 2)).bind fun R5 =>
      (fX6_append 400 (ar 9) (sc 9) R5.1).bind fun R7 =>
      fX2_add_L15 sg v1 k (v2 + (1 : Int32)) (va_up (va_up sc 23 R5.2) 9 R7.2) (va_up ar 9 R7.1)

noncomputable def fX2_add (sc : Nat → Int32) (ar : Nat → Nat → Int32) (sg : Bool) (x1 : Int32) : Option (Int32 × (Nat → Int32) × (Nat → Nat → Int32)) :=
  (fX5_left 1000 (sc 23) (sc 24) (ar 2) (sc 2)).bind fun R1 =>
  if x1 ≤ R1 then
    (fX2_add_L15 sg x1 FU (0 : Int32) sc ar).bind fun R9 =>
    some ((1 : Int32), R9.1, R9.2)
  else
    some ((0 : Int32), sc, ar)

set_option maxHeartbeats 4000000 in
set_option maxRecDepth 100000 in
theorem kX2_add (l : Launch) (D : va_G) (q : Nat → Nat) (cA : Nat → ClassId) (sc : Nat → Int32) (ar : Nat → Nat → Int32) (sg : Bool) (x1 : Int32) {R : Int32 × (Nat → Int32) × (Nat → Nat → Int32)} (hf : fX2_add sc ar sg x1 = some R) : MI l yX2_add wsX2_add (rmD 1) D ([.ref (q 22), .int x1] : List Value) (wX q cA sc ar sg) (tX cA) NX R.1 (wX q cA R.2.1 R.2.2 sg) := by
  refine MI.mk (cc := cX2_add) (maxL := 3) (ret := (some .boolean)) (by first | decide | decide +kernel) rfl (Nat.le_of_ble_eq_true rfl) ?_
  intro p e s m below meth cd A ls hE
  obtain ⟨hx, hb, hr, hml, hts, hown, hlocks, hP, hK, hD, hA, hN, hAe, hl⟩ := hE
  have hown : s.vm.findClass RX2 = some m.cls := hown
  have hS : va_S A s.heap s.heap [] := va_S.rf
  have hl : lv_has ls 3 [(0, .ref (q 22)), (1, .int x1)] := hl
  rw [fX2_add] at hf
  refine lv_iload_n hx hb dX2_add_0 rfl (lv_at hl 1 rfl) ?_
  refine lv_aload_n hx hb dX2_add_1 rfl (lv_at hl 0 rfl) ?_
  refine va_get (D := D) (ci := 1) (v := .ref (q 37)) (C := RX2) (T := TX2) (N := 13) hx hb hts (fun w h => List.mem_cons_of_mem _ (List.mem_append_left _ (List.mem_append_left _ (List.mem_append_right _ h)))) hown hK hP 22 rfl rfl 4 (by decide) (hts (.fieldLink RX2 39 "DeltaWindows$Decoder" "data" "LDeltaWindows$Reader;") (List.mem_of_getElem? (i := 1) rfl)) (fun _ h9 => h9) rfl dX2_add_2 ?_
  obtain ⟨R1, hc2, hf⟩ := b_inv hf
  have hk := kcut (wc := (wD (q 37) (q 5) (q 6) (cA 2) 1000 (sc 23) (sc 24) (ar 2) (sc 2))) (wc' := (wD (q 37) (q 5) (q 6) (cA 2) 1000 (sc 23) (sc 24) (ar 2) (sc 2))) (wf := (wX q cA sc ar sg)) hP hD hS hA [37, 5, 6] rfl (by decide) rfl rfl
  refine k_goI (va_runV (As := []) (rest := [.int x1]) ⟨hx, hb, hml, hown, hts⟩ (kX5_left l D (q 37) (q 5) (q 6) (cA 2) 1000 (sc 23) (sc 24) (ar 2) (sc 2) hc2 _) (cwV 0 hts gX2_add_X5_left rfl rfl rfl (by decide +kernel) ⟨Nat.le_of_ble_eq_true rfl, Nat.le_of_ble_eq_true rfl⟩) (k_preV (q0 := 0) (ci := 4) hk (hK.sub [2] rfl) NR_bl (fun U _ hW => NR_w hW hN.1) rfl rfl rfl) rfl rfl hl.1 rfl (lv_room (Nat.le_of_ble_eq_true rfl)) dX2_add_5 ⟨Nat.zero_le _, Nat.zero_le _⟩) hk hS (fun H locs hP hD hS => ?_)
  refine lv_icmp_le (tgt := 13) hx hb dX2_add_8 (by decide) (fun c3 => ?_) (fun c3 => ?_)
  · rw [if_pos c3] at hf
    refine lv_iconst (v := (0 : Int32)) hx hb dX2_add_13 (by decide) ?_
    refine lv_istore_n (lv' := [(2, .int (0 : Int32)), (0, .ref (q 22)), (1, .int x1)]) hx hb dX2_add_14 rfl hl (by decide) rfl (fun ls hl => ?_)
    have lp11 : ∀ (sg : Bool) (v1 : Int32), ∀ (k : Nat) (v2 : Int32) (sc : Nat → Int32) (ar : Nat → Nat → Int32) (H : Heap) (locs : List Loc) (ls : Array Slot) (o : (Nat → Int32) × (Nat → Nat → Int32)), lv_has ls 3 [(2, .int v2), (1, .int v1), (0, .ref (q 22))] → va_P D vwCl (wX q cA sc ar sg) H → va_D A (wX q cA sc ar sg) → va_S A s.heap H locs → fX2_add_L15 sg v1 k v2 sc ar = some o → (∀ (H : Heap) (locs : List Loc) (ls : Array Slot), lv_has ls 3 [] → va_P D vwCl (wX q cA o.1 o.2 sg) H → va_D A (wX q cA o.1 o.2 sg) → va_S A s.heap H locs → W p l e (headSpec wsX2_add (rmD 1)).room s m ([.ref (q 22), .int x1] : List Value).toArray below meth cd H locs 0 0 (QI D below ([.ref (q 22), .int x1] : List Value).toArray s A R.1 (wX q cA R.2.1 R.2.2 sg)) (F0 m 40 ls [])) → W p l e (headSpec wsX2_add (rmD 1)).room s m ([.ref (q 22), .int x1] : List Value).toArray below meth cd H locs 0 0 (QI D below ([.ref (q 22), .int x1] : List Value).toArray s A R.1 (wX q cA R.2.1 R.2.2 sg)) (F0 m 15 ls []) := by
      intro sg v1
      intro k
      induction k with
      | zero =>
        intro v2 sc ar H locs ls o hl hP hD hS hf
        exact absurd hf (by simp [fX2_add_L15])
      | succ k ih =>
        intro v2 sc ar H locs ls o hl hP hD hS hf kont
        rw [fX2_add_L15] at hf
        refine lv_iload_n hx hb dX2_add_15 rfl (lv_at hl 0 rfl) ?_
        refine lv_iload_n hx hb dX2_add_16 rfl (lv_at hl 1 rfl) ?_
        refine lv_icmp_ge (tgt := 40) hx hb dX2_add_17 (by decide) (fun c4 => ?_) (fun c4 => ?_)
        · rw [if_pos c4] at hf
          obtain rfl := Option.some.inj hf
          exact kont _ _ _ (lv_sub hl [] rfl) hP hD hS
        · rw [if_neg c4] at hf
          refine lv_aload_n hx hb dX2_add_20 rfl (lv_at hl 2 rfl) ?_
          refine va_get (D := D) (ci := 1) (v := .ref (q 19)) (C := RX2) (T := TX2) (N := 13) hx hb hts (fun w h => List.mem_cons_of_mem _ (List.mem_append_left _ (List.mem_append_left _ (List.mem_append_right _ h)))) hown hK hP 22 rfl rfl 1 (by decide) (hts (.fieldLink RX2 20 "DeltaWindows$Decoder" "made" "LDeltaWindows$Row;") (List.mem_of_getElem? (i := 2) rfl)) (fun _ h9 => h9) rfl dX2_add_21 ?_
          refine lv_aload_n hx hb dX2_add_24 rfl (lv_at hl 2 rfl) ?_
          refine va_get (D := D) (ci := 1) (v := .ref (q 37)) (C := RX2) (T := TX2) (N := 13) hx hb hts (fun w h => List.mem_cons_of_mem _ (List.mem_append_left _ (List.mem_append_left _ (List.mem_append_right _ h)))) hown hK hP 22 rfl rfl 4 (by decide) (hts (.fieldLink RX2 39 "DeltaWindows$Decoder" "data" "LDeltaWindows$Reader;") (List.mem_of_getElem? (i := 1) rfl)) (fun _ h9 => h9) rfl dX2_add_25 ?_
          obtain ⟨R5, hc6, hf⟩ := b_inv hf
          have hk := kcut (wc := (wD (q 37) (q 5) (q 6) (cA 2) 1000 (sc 23) (sc 24) (ar 2) (sc 2))) (wc' := (wD (q 37) (q 5) (q 6) (cA 2) 1000 R5.2 (sc 24) (ar 2) (sc 2))) (wf := (wX q cA (va_up sc 23 R5.2) ar sg)) hP hD hS hA [37, 5, 6] rfl (by decide) rfl rfl
          refine k_goI (va_runV (As := []) (rest := [.ref (q 19)]) ⟨hx, hb, hml, hown, hts⟩ (kX5_nextByte l D (q 37) (q 5) (q 6) (cA 2) 1000 (sc 23) (sc 24) (ar 2) (sc 2) hc6 _) (cwV 0 hts gX2_add_X5_nextByte rfl rfl rfl (by decide +kernel) ⟨Nat.le_of_ble_eq_true rfl, Nat.le_of_ble_eq_true rfl⟩) (k_preV (q0 := 0) (ci := 4) hk (hK.sub [2] rfl) NR_bl (fun U _ hW => NR_w hW hN.1) rfl rfl rfl) rfl rfl hl.1 rfl (lv_room (Nat.le_of_ble_eq_true rfl)) dX2_add_28 ⟨Nat.zero_le _, Nat.zero_le _⟩) hk hS (fun H locs hP hD hS => ?_)
          obtain ⟨R7, hc8, hf⟩ := b_inv hf
          have hk := kcut (wc := (wR (q 19) (q 20) (cA 9) 400 (ar 9) (sc 9))) (wc' := (wR (q 19) (q 20) (cA 9) 400 R7.1 R7.2)) (wf := (wX q cA (va_up (va_up sc 23 R5.2) 9 R7.2) (va_up ar 9 R7.1) sg)) hP hD hS hA [19, 20] rfl (by decide) rfl rfl
          refine k_goV (va_runV (As := [.int R5.1]) (rest := []) ⟨hx, hb, hml, hown, hts⟩ (kX6_append l D (q 19) (q 20) (cA 9) 400 (ar 9) (sc 9) R5.1 hc8 _) (cwV 1 hts gX2_add_X6_append rfl rfl rfl (by decide +kernel) ⟨Nat.le_of_ble_eq_true rfl, Nat.le_of_ble_eq_true rfl⟩) (k_preV (q0 := 0) (ci := 5) hk (hK.sub [9] rfl) NT_bl NT_u rfl rfl rfl) rfl rfl hl.1 rfl (lv_room (Nat.le_of_ble_eq_true rfl)) dX2_add_31 ⟨Nat.zero_le _, Nat.zero_le _⟩) hk hS (fun H locs hP hD hS => ?_)
          refine lv_iinc (v := (v2 + (1 : Int32))) (lv' := [(2, .int (v2 + (1 : Int32))), (1, .int v1), (0, .ref (q 22))]) hx hb dX2_add_34 hl (k := 0) rfl rfl (by decide) rfl (fun ls hl => ?_)
          refine lv_goto (tgt := 15) hx hb dX2_add_37 (by decide) ?_
          exact ih (v2 + (1 : Int32)) (va_up (va_up sc 23 R5.2) 9 R7.2) (va_up ar 9 R7.1) _ _ _ o (lv_sub hl [0, 1, 2] rfl) hP hD hS hf kont
    obtain ⟨R9, hc10, hf⟩ := b_inv hf
    refine lp11 sg x1 FU (0 : Int32) sc ar _ _ _ R9 (lv_sub hl [0, 2, 1] rfl) hP hD hS hc10 (fun H locs ls hl hP hD hS => ?_)
    refine lv_iconst (v := (1 : Int32)) hx hb dX2_add_40 (by decide) ?_
    obtain rfl := Option.some.inj hf
    exact k_retZ hx hb hr hlocks hP hS rfl dX2_add_41
  · rw [if_neg c3] at hf
    refine lv_iconst (v := (0 : Int32)) hx hb dX2_add_11 (by decide) ?_
    obtain rfl := Option.some.inj hf
    exact k_retZ hx hb hr hlocks hP hS rfl dX2_add_12

noncomputable def fX2_follow (sc : Nat → Int32) (ar : Nat → Nat → Int32) (sg : Bool) (x1 : Int32) (x2 : Int32) : Option (Int32 × (Nat → Int32) × (Nat → Nat → Int32)) :=
  (fX1_partOf x1 (x2 + (1 : Int32))).bind fun R1 =>
  (if R1 = 0 then
      (fX5_nextInteger 1000 (sc 25) (sc 26) (ar 2) (sc 2)).bind fun R5 =>
      some (R5.1, (va_up sc 25 R5.2))
    else
      some (R1, sc) : Option (Int32 × (Nat → Int32))).bind fun R7 =>
  if R7.1 < (1 : Int32) then
    some ((0 : Int32), R7.2, ar)
  else
    (fX6_count 400 (ar 9) (R7.2 9)).bind fun R9 =>
    if R7.1 ≤ ((R7.2 16) - R9) then
      (fX1_partOf x1 x2).bind fun R12 =>
      if R12 = (1 : Int32) then
        (fX2_add R7.2 ar sg R7.1).bind fun R16 =>
        if b01 R16.1 = true then
        some (R16.1, R16.2.1, R16.2.2)
        else none
      else
        if R12 = (2 : Int32) then
          (fX2_run R7.2 ar sg R7.1).bind fun R19 =>
          if b01 R19.1 = true then
          some (R19.1, R19.2.1, R19.2.2)
          else none
        else
          (fX1_partOf x1 (x2 + (2 : Int32))).bind fun R22 =>
          (fX2_readAddress R7.2 ar sg R22).bind fun R24 =>
          (fX2_copy R24.2 ar sg R7.1 R24.1).bind fun R26 =>
          if b01 R26.1 = true then
          some (R26.1, R26.2.1, R26.2.2)
          else none
    else
      some ((0 : Int32), R7.2, ar)

set_option maxHeartbeats 4000000 in
set_option maxRecDepth 100000 in
theorem kX2_follow (l : Launch) (D : va_G) (q : Nat → Nat) (cA : Nat → ClassId) (sc : Nat → Int32) (ar : Nat → Nat → Int32) (sg : Bool) (x1 : Int32) (x2 : Int32) {R : Int32 × (Nat → Int32) × (Nat → Nat → Int32)} (hf : fX2_follow sc ar sg x1 x2 = some R) : MI l yX2_follow wsX2_follow (rmD 3) D ([.ref (q 22), .int x1, .int x2] : List Value) (wX q cA sc ar sg) (tX cA) NX R.1 (wX q cA R.2.1 R.2.2 sg) := by
  refine MI.mk (cc := cX2_follow) (maxL := 4) (ret := (some .boolean)) (by first | decide | decide +kernel) rfl (Nat.le_of_ble_eq_true rfl) ?_
  intro p e s m below meth cd A ls hE
  obtain ⟨hx, hb, hr, hml, hts, hown, hlocks, hP, hK, hD, hA, hN, hAe, hl⟩ := hE
  have hown : s.vm.findClass RX2 = some m.cls := hown
  have hS : va_S A s.heap s.heap [] := va_S.rf
  have hl : lv_has ls 4 [(0, .ref (q 22)), (1, .int x1), (2, .int x2)] := hl
  rw [fX2_follow] at hf
  refine lv_iload_n hx hb dX2_follow_0 rfl (lv_at hl 1 rfl) ?_
  refine lv_iload_n hx hb dX2_follow_1 rfl (lv_at hl 2 rfl) ?_
  refine lv_iconst (v := (1 : Int32)) hx hb dX2_follow_2 (by decide) ?_
  refine lv_iadd hx hb dX2_follow_3 ?_
  obtain ⟨R1, hc2, hf⟩ := b_inv hf
  have hk := kcut (wc := ([] : va_W)) (wc' := ([] : va_W)) (wf := (wX q cA sc ar sg)) hP hD hS hA [] rfl (by decide) rfl rfl
  refine k_goI (va_runS (As := [.int x1, .int (x2 + (1 : Int32))]) (rest := []) ⟨hx, hb, hml, hown, hts⟩ (kX1_partOf l D x1 (x2 + (1 : Int32)) hc2 _) ⟨callB_of 2 hts ggX2_follow_X1_partOf rfl rfl rfl (hts (.initialized RX1) (List.mem_of_getElem? (i := 6) rfl)) (hts (.methodLink RX2 118 yX1_partOf) (List.mem_of_getElem? (i := 4) rfl)) (by decide +kernel) ⟨Nat.le_of_ble_eq_true rfl, Nat.le_of_ble_eq_true rfl⟩, (hts (.static yX1_partOf) (List.mem_of_getElem? (i := 5) rfl))⟩ (k_preS hk (hK.sub [] rfl) NT_bl NT_u) rfl rfl hl.1 rfl (lv_room (Nat.le_of_ble_eq_true rfl)) dX2_follow_4 ⟨Nat.zero_le _, Nat.zero_le _⟩) hk hS (fun H locs hP hD hS => ?_)
  refine lv_istore_n (lv' := [(3, .int R1), (0, .ref (q 22)), (1, .int x1), (2, .int x2)]) hx hb dX2_follow_7 rfl hl (by decide) rfl (fun ls hl => ?_)
  refine lv_iload_n hx hb dX2_follow_8 rfl (lv_at hl 0 rfl) ?_
  obtain ⟨R7, hj29, hf⟩ := b_inv hf
  have kont : ∀ (H : Heap) (locs : List Loc) (ls : Array Slot), lv_has ls 4 [(0, .ref (q 22)), (1, .int x1), (2, .int x2), (3, .int R7.1)] → va_P D vwCl (wX q cA R7.2 ar sg) H → va_D A (wX q cA R7.2 ar sg) → va_S A s.heap H locs → W p l e (headSpec wsX2_follow (rmD 3)).room s m ([.ref (q 22), .int x1, .int x2] : List Value).toArray below meth cd H locs 0 0 (QI D below ([.ref (q 22), .int x1, .int x2] : List Value).toArray s A R.1 (wX q cA R.2.1 R.2.2 sg)) (F0 m 20 ls []) := by
    intro H locs ls hl hP hD hS
    refine lv_iload_n hx hb dX2_follow_20 rfl (lv_at hl 3 rfl) ?_
    refine lv_iconst (v := (1 : Int32)) hx hb dX2_follow_21 (by decide) ?_
    refine lv_icmp_lt (tgt := 41) hx hb dX2_follow_22 (by decide) (fun c8 => ?_) (fun c8 => ?_)
    · rw [if_pos c8] at hf
      refine lv_iconst (v := (0 : Int32)) hx hb dX2_follow_41 (by decide) ?_
      obtain rfl := Option.some.inj hf
      exact k_retZ hx hb hr hlocks hP hS rfl dX2_follow_42
    · rw [if_neg c8] at hf
      refine lv_iload_n hx hb dX2_follow_25 rfl (lv_at hl 3 rfl) ?_
      refine lv_aload_n hx hb dX2_follow_26 rfl (lv_at hl 0 rfl) ?_
      refine va_get (D := D) (ci := 1) (v := .int (R7.2 16)) (C := RX2) (T := TX2) (N := 13) hx hb hts (fun w h => List.mem_cons_of_mem _ (List.mem_append_left _ (List.mem_append_left _ (List.mem_append_left _ (List.mem_append_right _ h))))) hown hK hP 22 rfl rfl 12 (by decide) (hts (.fieldLink RX2 64 "DeltaWindows$Decoder" "windowEnd" "I") (List.mem_of_getElem? (i := 2) rfl)) (fun _ h9 => h9) rfl dX2_follow_27 ?_
      refine lv_aload_n hx hb dX2_follow_30 rfl (lv_at hl 0 rfl) ?_
      refine va_get (D := D) (ci := 1) (v := .ref (q 19)) (C := RX2) (T := TX2) (N := 13) hx hb hts (fun w h => List.mem_cons_of_mem _ (List.mem_append_left _ (List.mem_append_left _ (List.mem_append_left _ (List.mem_append_right _ h))))) hown hK hP 22 rfl rfl 1 (by decide) (hts (.fieldLink RX2 20 "DeltaWindows$Decoder" "made" "LDeltaWindows$Row;") (List.mem_of_getElem? (i := 3) rfl)) (fun _ h9 => h9) rfl dX2_follow_31 ?_
      obtain ⟨R9, hc10, hf⟩ := b_inv hf
      have hk := kcut (wc := (wR (q 19) (q 20) (cA 9) 400 (ar 9) (R7.2 9))) (wc' := (wR (q 19) (q 20) (cA 9) 400 (ar 9) (R7.2 9))) (wf := (wX q cA R7.2 ar sg)) hP hD hS hA [19, 20] rfl (by decide) rfl rfl
      refine k_goI (va_runV (As := []) (rest := [.int (R7.2 16), .int R7.1]) ⟨hx, hb, hml, hown, hts⟩ (kX6_count l D (q 19) (q 20) (cA 9) 400 (ar 9) (R7.2 9) hc10 _) (cwV 0 hts gX2_follow_X6_count rfl rfl rfl (by decide +kernel) ⟨Nat.le_of_ble_eq_true rfl, Nat.le_of_ble_eq_true rfl⟩) (k_preV (q0 := 0) (ci := 5) hk (hK.sub [9] rfl) NT_bl NT_u rfl rfl rfl) rfl rfl hl.1 rfl (lv_room (Nat.le_of_ble_eq_true rfl)) dX2_follow_34 ⟨Nat.zero_le _, Nat.zero_le _⟩) hk hS (fun H locs hP hD hS => ?_)
      refine lv_isub hx hb dX2_follow_37 ?_
      refine lv_icmp_le (tgt := 43) hx hb dX2_follow_38 (by decide) (fun c11 => ?_) (fun c11 => ?_)
      · rw [if_pos c11] at hf
        refine lv_iload_n hx hb dX2_follow_43 rfl (lv_at hl 1 rfl) ?_
        refine lv_iload_n hx hb dX2_follow_44 rfl (lv_at hl 2 rfl) ?_
        obtain ⟨R12, hc13, hf⟩ := b_inv hf
        have hk := kcut (wc := ([] : va_W)) (wc' := ([] : va_W)) (wf := (wX q cA R7.2 ar sg)) hP hD hS hA [] rfl (by decide) rfl rfl
        refine k_goI (va_runS (As := [.int x1, .int x2]) (rest := []) ⟨hx, hb, hml, hown, hts⟩ (kX1_partOf l D x1 x2 hc13 _) ⟨callB_of 2 hts ggX2_follow_X1_partOf rfl rfl rfl (hts (.initialized RX1) (List.mem_of_getElem? (i := 6) rfl)) (hts (.methodLink RX2 118 yX1_partOf) (List.mem_of_getElem? (i := 4) rfl)) (by decide +kernel) ⟨Nat.le_of_ble_eq_true rfl, Nat.le_of_ble_eq_true rfl⟩, (hts (.static yX1_partOf) (List.mem_of_getElem? (i := 5) rfl))⟩ (k_preS hk (hK.sub [] rfl) NT_bl NT_u) rfl rfl hl.1 rfl (lv_room (Nat.le_of_ble_eq_true rfl)) dX2_follow_45 ⟨Nat.zero_le _, Nat.zero_le _⟩) hk hS (fun H locs hP hD hS => ?_)
        by_cases c14 : R12 = (1 : Int32)
        · rw [if_pos c14] at hf
          refine lv_lookup (off := 28) (tgt := 76) hx hb dX2_follow_48 (by decide) (by rw [c14] <;> rfl) (by decide) ?_
          refine lv_aload_n hx hb dX2_follow_76 rfl (lv_at hl 0 rfl) ?_
          refine lv_iload_n hx hb dX2_follow_77 rfl (lv_at hl 3 rfl) ?_
          obtain ⟨R16, hc17, hf⟩ := b_inv hf
          have hk := kall (wc' := (wX q cA R16.2.1 R16.2.2 sg)) hP hD hS hA rfl
          refine k_goI (va_runV (As := [.int R7.1]) (rest := []) ⟨hx, hb, hml, hown, hts⟩ (kX2_add l D q cA R7.2 ar sg R7.1 hc17 _) (cwV 1 hts gX2_follow_X2_add rfl rfl rfl (by decide +kernel) ⟨Nat.le_of_ble_eq_true rfl, Nat.le_of_ble_eq_true rfl⟩) (k_preV (q0 := 22) (ci := 1) hk hK NX_bl (fun U _ hW => NX_w hW hN) rfl rfl rfl) rfl rfl hl.1 rfl (lv_room (Nat.le_of_ble_eq_true rfl)) dX2_follow_78 ⟨Nat.zero_le _, Nat.zero_le _⟩) hk hS (fun H locs hP hD hS => ?_)
          obtain ⟨g18, hf⟩ := g_inv hf
          obtain rfl := Option.some.inj hf
          exact k_retZ hx hb hr hlocks hP hS g18 dX2_follow_81
        · rw [if_neg c14] at hf
          by_cases c15 : R12 = (2 : Int32)
          · rw [if_pos c15] at hf
            refine lv_lookup (off := 34) (tgt := 82) hx hb dX2_follow_48 (by decide) (by rw [c15] <;> rfl) (by decide) ?_
            refine lv_aload_n hx hb dX2_follow_82 rfl (lv_at hl 0 rfl) ?_
            refine lv_iload_n hx hb dX2_follow_83 rfl (lv_at hl 3 rfl) ?_
            obtain ⟨R19, hc20, hf⟩ := b_inv hf
            have hk := kall (wc' := (wX q cA R19.2.1 R19.2.2 sg)) hP hD hS hA rfl
            refine k_goI (va_runV (As := [.int R7.1]) (rest := []) ⟨hx, hb, hml, hown, hts⟩ (kX2_run l D q cA R7.2 ar sg R7.1 hc20 _) (cwV 1 hts gX2_follow_X2_run rfl rfl rfl (by decide +kernel) ⟨Nat.le_of_ble_eq_true rfl, Nat.le_of_ble_eq_true rfl⟩) (k_preV (q0 := 22) (ci := 1) hk hK NX_bl (fun U _ hW => NX_w hW hN) rfl rfl rfl) rfl rfl hl.1 rfl (lv_room (Nat.le_of_ble_eq_true rfl)) dX2_follow_84 ⟨Nat.zero_le _, Nat.zero_le _⟩) hk hS (fun H locs hP hD hS => ?_)
            obtain ⟨g21, hf⟩ := g_inv hf
            obtain rfl := Option.some.inj hf
            exact k_retZ hx hb hr hlocks hP hS g21 dX2_follow_87
          · rw [if_neg c15] at hf
            refine lv_lookup (off := 40) (tgt := 88) hx hb dX2_follow_48 (by decide) (by rw [lv_osw c14 (by decide), lv_osw c15 (by decide)] <;> rfl) (by decide) ?_
            refine lv_aload_n hx hb dX2_follow_88 rfl (lv_at hl 0 rfl) ?_
            refine lv_iload_n hx hb dX2_follow_89 rfl (lv_at hl 3 rfl) ?_
            refine lv_aload_n hx hb dX2_follow_90 rfl (lv_at hl 0 rfl) ?_
            refine lv_iload_n hx hb dX2_follow_91 rfl (lv_at hl 1 rfl) ?_
            refine lv_iload_n hx hb dX2_follow_92 rfl (lv_at hl 2 rfl) ?_
            refine lv_iconst (v := (2 : Int32)) hx hb dX2_follow_93 (by decide) ?_
            refine lv_iadd hx hb dX2_follow_94 ?_
            obtain ⟨R22, hc23, hf⟩ := b_inv hf
            have hk := kcut (wc := ([] : va_W)) (wc' := ([] : va_W)) (wf := (wX q cA R7.2 ar sg)) hP hD hS hA [] rfl (by decide) rfl rfl
            refine k_goI (va_runS (As := [.int x1, .int (x2 + (2 : Int32))]) (rest := [.ref (q 22), .int R7.1, .ref (q 22)]) ⟨hx, hb, hml, hown, hts⟩ (kX1_partOf l D x1 (x2 + (2 : Int32)) hc23 _) ⟨callB_of 2 hts ggX2_follow_X1_partOf rfl rfl rfl (hts (.initialized RX1) (List.mem_of_getElem? (i := 6) rfl)) (hts (.methodLink RX2 118 yX1_partOf) (List.mem_of_getElem? (i := 4) rfl)) (by decide +kernel) ⟨Nat.le_of_ble_eq_true rfl, Nat.le_of_ble_eq_true rfl⟩, (hts (.static yX1_partOf) (List.mem_of_getElem? (i := 5) rfl))⟩ (k_preS hk (hK.sub [] rfl) NT_bl NT_u) rfl rfl hl.1 rfl (lv_room (Nat.le_of_ble_eq_true rfl)) dX2_follow_95 ⟨Nat.zero_le _, Nat.zero_le _⟩) hk hS (fun H locs hP hD hS => ?_)
            obtain ⟨R24, hc25, hf⟩ := b_inv hf
            have hk := kall (wc' := (wX q cA R24.2 ar sg)) hP hD hS hA rfl
            refine k_goL (va_runV (As := [.int R22]) (rest := [.int R7.1, .ref (q 22)]) ⟨hx, hb, hml, hown, hts⟩ (kX2_readAddress l D q cA R7.2 ar sg R22 hc25 _) (cwV 1 hts gX2_follow_X2_readAddress rfl rfl rfl (by decide +kernel) ⟨Nat.le_of_ble_eq_true rfl, Nat.le_of_ble_eq_true rfl⟩) (k_preV (q0 := 22) (ci := 1) hk hK NX_bl (fun U _ hW => NX_w hW hN) rfl rfl rfl) rfl rfl hl.1 rfl (lv_room (Nat.le_of_ble_eq_true rfl)) dX2_follow_98 ⟨Nat.zero_le _, Nat.zero_le _⟩) hk hS (fun H locs hP hD hS => ?_)
            obtain ⟨R26, hc27, hf⟩ := b_inv hf
            have hk := kall (wc' := (wX q cA R26.2.1 R26.2.2 sg)) hP hD hS hA rfl
            refine k_goI (va_runV (As := [.int R7.1, .long R24.1]) (rest := []) ⟨hx, hb, hml, hown, hts⟩ (kX2_copy l D q cA R24.2 ar sg R7.1 R24.1 hc27 _) (cwV 2 hts gX2_follow_X2_copy rfl rfl rfl (by decide +kernel) ⟨Nat.le_of_ble_eq_true rfl, Nat.le_of_ble_eq_true rfl⟩) (k_preV (q0 := 22) (ci := 1) hk hK NX_bl (fun U _ hW => NX_w hW hN) rfl rfl rfl) rfl rfl hl.1 rfl (lv_room (Nat.le_of_ble_eq_true rfl)) dX2_follow_101 ⟨Nat.zero_le _, Nat.zero_le _⟩) hk hS (fun H locs hP hD hS => ?_)
            obtain ⟨g28, hf⟩ := g_inv hf
            obtain rfl := Option.some.inj hf
            exact k_retZ hx hb hr hlocks hP hS g28 dX2_follow_104
      · rw [if_neg c11] at hf
        refine lv_iconst (v := (0 : Int32)) hx hb dX2_follow_41 (by decide) ?_
        obtain rfl := Option.some.inj hf
        exact k_retZ hx hb hr hlocks hP hS rfl dX2_follow_42
  refine lv_if_ne (tgt := 20) hx hb dX2_follow_9 (by decide) (fun c4 => ?_) (fun c4 => ?_)
  · rw [if_neg c4] at hj29
    obtain rfl := Option.some.inj hj29
    exact kont _ _ _ (lv_sub hl [1, 2, 3, 0] rfl) hP hD hS
  · rw [if_pos c4] at hj29
    refine lv_aload_n hx hb dX2_follow_12 rfl (lv_at hl 1 rfl) ?_
    refine va_get (D := D) (ci := 1) (v := .ref (q 38)) (C := RX2) (T := TX2) (N := 13) hx hb hts (fun w h => List.mem_cons_of_mem _ (List.mem_append_left _ (List.mem_append_left _ (List.mem_append_left _ (List.mem_append_right _ h))))) hown hK hP 22 rfl rfl 5 (by decide) (hts (.fieldLink RX2 42 "DeltaWindows$Decoder" "codes" "LDeltaWindows$Reader;") (List.mem_of_getElem? (i := 1) rfl)) (fun _ h9 => h9) rfl dX2_follow_13 ?_
    obtain ⟨R5, hc6, hj29⟩ := b_inv hj29
    have hk := kcut (wc := (wD (q 38) (q 5) (q 6) (cA 2) 1000 (sc 25) (sc 26) (ar 2) (sc 2))) (wc' := (wD (q 38) (q 5) (q 6) (cA 2) 1000 R5.2 (sc 26) (ar 2) (sc 2))) (wf := (wX q cA (va_up sc 25 R5.2) ar sg)) hP hD hS hA [38, 5, 6] rfl (by decide) rfl rfl
    refine k_goI (va_runV (As := []) (rest := []) ⟨hx, hb, hml, hown, hts⟩ (kX5_nextInteger l D (q 38) (q 5) (q 6) (cA 2) 1000 (sc 25) (sc 26) (ar 2) (sc 2) hc6 _) (cwV 0 hts gX2_follow_X5_nextInteger rfl rfl rfl (by decide +kernel) ⟨Nat.le_of_ble_eq_true rfl, Nat.le_of_ble_eq_true rfl⟩) (k_preV (q0 := 0) (ci := 4) hk (hK.sub [2] rfl) NR_bl (fun U _ hW => NR_w hW hN.1) rfl rfl rfl) rfl rfl hl.1 rfl (lv_room (Nat.le_of_ble_eq_true rfl)) dX2_follow_16 ⟨Nat.zero_le _, Nat.zero_le _⟩) hk hS (fun H locs hP hD hS => ?_)
    refine lv_istore_n (lv' := [(3, .int R5.1), (0, .ref (q 22)), (1, .int x1), (2, .int x2)]) hx hb dX2_follow_19 rfl hl (by decide) rfl (fun ls hl => ?_)
    obtain rfl := Option.some.inj hj29
    exact kont _ _ _ (lv_sub hl [1, 2, 3, 0] rfl) hP hD hS

noncomputable def fX2_makeWindow_L9 (sg : Bool) : Nat → (Int32) → (Nat → Int32) → (Nat → Nat → Int32) → Option (((Nat → Int32) × (Nat → Nat → Int32)) ⊕ (Int32 × (Nat → Int32) × (Nat → Nat → Int32)))
  | 0, _, _, _ => none
  | k + 1, v1, sc, ar =>
    if (1000 : Int32) ≤ v1 then
      some (Sum.inl (sc, ar))
    else
      (fX5_left 1000 (sc 25) (sc 26) (ar 2) (sc 2)).bind fun R4 =>
      if R4 ≤ 0 then
        some (Sum.inl (sc, ar))
      else
        (fX5_nextByte 1000 (sc 25) (sc 26) (ar 2) (sc 2)).bind fun R7 =>
        (fX2_follow (va_up sc 25 R7.2) ar sg R7.1 (0 : Int32)).bind fun R9 =>
        if R9.1 = 0 then
          some (Sum.inr ((0 : Int32), R9.2.1, R9.2.2))
        else
          (fX1_partOf R7.1 (3 : Int32)).bind fun R12 =>
          if R12 = 0 then
            fX2_makeWindow_L9 sg k (v1 + (1 : Int32)) R9.2.1 R9.2.2
          else
            (fX2_follow R9.2.1 R9.2.2 sg R7.1 (3 : Int32)).bind fun R15 =>
            if R15.1 = 0 then
              some (Sum.inr ((0 : Int32), R15.2.1, R15.2.2))
            else
              fX2_makeWindow_L9 sg k (v1 + (1 : Int32)) R15.2.1 R15.2.2

noncomputable def fX2_makeWindow (sc : Nat → Int32) (ar : Nat → Nat → Int32) (sg : Bool) : Option (Int32 × (Nat → Int32) × (Nat → Nat → Int32)) :=
  (fX0_clear (ar 12) (ar 13) (sc 18)).bind fun R1 =>
  (fX2_makeWindow_L9 sg FU (0 : Int32) (va_up sc 18 R1.2.2) (va_up (va_up ar 12 R1.1) 13 R1.2.1)).bind fun R18o => Sum.elim (fun R18 =>
    (fX6_count 400 (R18.2 9) (R18.1 9)).bind fun R20 =>
    if R20 = (R18.1 16) then
      (fX5_left 1000 (R18.1 23) (R18.1 24) (R18.2 2) (R18.1 2)).bind fun R23 =>
      if R23 = 0 then
        (fX5_left 1000 (R18.1 27) (R18.1 28) (R18.2 2) (R18.1 2)).bind fun R26 =>
        if R26 = 0 then
          some ((1 : Int32), R18.1, R18.2)
        else
          some ((0 : Int32), R18.1, R18.2)
      else
        some ((0 : Int32), R18.1, R18.2)
    else
      some ((0 : Int32), R18.1, R18.2)) (fun r => some r) R18o

set_option maxHeartbeats 4000000 in
set_option maxRecDepth 100000 in
theorem kX2_makeWindow (l : Launch) (D : va_G) (q : Nat → Nat) (cA : Nat → ClassId) (sc : Nat → Int32) (ar : Nat → Nat → Int32) (sg : Bool) {R : Int32 × (Nat → Int32) × (Nat → Nat → Int32)} (hf : fX2_makeWindow sc ar sg = some R) : MI l yX2_makeWindow wsX2_makeWindow (rmD 4) D ([.ref (q 22)] : List Value) (wX q cA sc ar sg) (tX cA) NX R.1 (wX q cA R.2.1 R.2.2 sg) := by
  refine MI.mk (cc := cX2_makeWindow) (maxL := 3) (ret := (some .boolean)) (by first | decide | decide +kernel) rfl (Nat.le_of_ble_eq_true rfl) ?_
  intro p e s m below meth cd A ls hE
  obtain ⟨hx, hb, hr, hml, hts, hown, hlocks, hP, hK, hD, hA, hN, hAe, hl⟩ := hE
  have hown : s.vm.findClass RX2 = some m.cls := hown
  have hS : va_S A s.heap s.heap [] := va_S.rf
  have hl : lv_has ls 3 [(0, .ref (q 22))] := hl
  rw [fX2_makeWindow] at hf
  refine lv_aload_n hx hb dX2_makeWindow_0 rfl (lv_at hl 0 rfl) ?_
  refine va_get (D := D) (ci := 1) (v := .ref (q 26)) (C := RX2) (T := TX2) (N := 13) hx hb hts (fun w h => List.mem_cons_of_mem _ (List.mem_append_left _ (List.mem_append_left _ (List.mem_append_left _ (List.mem_append_right _ h))))) hown hK hP 22 rfl rfl 2 (by decide) (hts (.fieldLink RX2 26 "DeltaWindows$Decoder" "caches" "LDeltaWindows$Caches;") (List.mem_of_getElem? (i := 1) rfl)) (fun _ h9 => h9) rfl dX2_makeWindow_1 ?_
  obtain ⟨R1, hc2, hf⟩ := b_inv hf
  have hk := kcut (wc := (wC (q 26) (q 27) (q 28) (cA 12) (cA 13) (ar 12) (ar 13) (sc 18))) (wc' := (wC (q 26) (q 27) (q 28) (cA 12) (cA 13) R1.1 R1.2.1 R1.2.2)) (wf := (wX q cA (va_up sc 18 R1.2.2) (va_up (va_up ar 12 R1.1) 13 R1.2.1) sg)) hP hD hS hA [26, 27, 28] rfl (by decide) rfl rfl
  refine k_goV (va_runV (As := []) (rest := []) ⟨hx, hb, hml, hown, hts⟩ (kX0_clear l D (q 26) (q 27) (q 28) (cA 12) (cA 13) (ar 12) (ar 13) (sc 18) hc2 _) (cwV 0 hts gX2_makeWindow_X0_clear rfl rfl rfl (by decide +kernel) ⟨Nat.le_of_ble_eq_true rfl, Nat.le_of_ble_eq_true rfl⟩) (k_preV (q0 := 0) (ci := 0) hk (hK.sub [12, 13] rfl) NT_bl NT_u rfl rfl rfl) rfl rfl hl.1 rfl (lv_room (Nat.le_of_ble_eq_true rfl)) dX2_makeWindow_4 ⟨Nat.zero_le _, Nat.zero_le _⟩) hk hS (fun H locs hP hD hS => ?_)
  refine lv_iconst (v := (0 : Int32)) hx hb dX2_makeWindow_7 (by decide) ?_
  refine lv_istore_n (lv' := [(1, .int (0 : Int32)), (0, .ref (q 22))]) hx hb dX2_makeWindow_8 rfl hl (by decide) rfl (fun ls hl => ?_)
  have lp29 : ∀ (sg : Bool), ∀ (k : Nat) (v1 : Int32) (sc : Nat → Int32) (ar : Nat → Nat → Int32) (H : Heap) (locs : List Loc) (ls : Array Slot) (o : ((Nat → Int32) × (Nat → Nat → Int32)) ⊕ (Int32 × (Nat → Int32) × (Nat → Nat → Int32))), lv_has ls 3 [(1, .int v1), (0, .ref (q 22))] → va_P D vwCl (wX q cA sc ar sg) H → va_D A (wX q cA sc ar sg) → va_S A s.heap H locs → fX2_makeWindow_L9 sg k v1 sc ar = some o → (∀ o1 : (Nat → Int32) × (Nat → Nat → Int32), o = Sum.inl o1 → (∀ (H : Heap) (locs : List Loc) (ls : Array Slot), lv_has ls 3 [(0, .ref (q 22))] → va_P D vwCl (wX q cA o1.1 o1.2 sg) H → va_D A (wX q cA o1.1 o1.2 sg) → va_S A s.heap H locs → W p l e (headSpec wsX2_makeWindow (rmD 4)).room s m ([.ref (q 22)] : List Value).toArray below meth cd H locs 0 0 (QI D below ([.ref (q 22)] : List Value).toArray s A R.1 (wX q cA R.2.1 R.2.2 sg)) (F0 m 70 ls []))) → (∀ r, o = Sum.inr r → some r = some R) → W p l e (headSpec wsX2_makeWindow (rmD 4)).room s m ([.ref (q 22)] : List Value).toArray below meth cd H locs 0 0 (QI D below ([.ref (q 22)] : List Value).toArray s A R.1 (wX q cA R.2.1 R.2.2 sg)) (F0 m 9 ls []) := by
    intro sg
    intro k
    induction k with
    | zero =>
      intro v1 sc ar H locs ls o hl hP hD hS hf
      exact absurd hf (by simp [fX2_makeWindow_L9])
    | succ k ih =>
      intro v1 sc ar H locs ls o hl hP hD hS hf kont kr
      rw [fX2_makeWindow_L9] at hf
      refine lv_iload_n hx hb dX2_makeWindow_9 rfl (lv_at hl 0 rfl) ?_
      refine lv_sipush (v := (1000 : Int32)) hx hb dX2_makeWindow_10 (by decide) ?_
      refine lv_icmp_ge (tgt := 70) hx hb dX2_makeWindow_13 (by decide) (fun c3 => ?_) (fun c3 => ?_)
      · rw [if_pos c3] at hf
        obtain rfl := Option.some.inj hf
        exact kont _ rfl _ _ _ (lv_sub hl [1] rfl) hP hD hS
      · rw [if_neg c3] at hf
        refine lv_aload_n hx hb dX2_makeWindow_16 rfl (lv_at hl 1 rfl) ?_
        refine va_get (D := D) (ci := 1) (v := .ref (q 38)) (C := RX2) (T := TX2) (N := 13) hx hb hts (fun w h => List.mem_cons_of_mem _ (List.mem_append_left _ (List.mem_append_left _ (List.mem_append_left _ (List.mem_append_right _ h))))) hown hK hP 22 rfl rfl 5 (by decide) (hts (.fieldLink RX2 42 "DeltaWindows$Decoder" "codes" "LDeltaWindows$Reader;") (List.mem_of_getElem? (i := 2) rfl)) (fun _ h9 => h9) rfl dX2_makeWindow_17 ?_
        obtain ⟨R4, hc5, hf⟩ := b_inv hf
        have hk := kcut (wc := (wD (q 38) (q 5) (q 6) (cA 2) 1000 (sc 25) (sc 26) (ar 2) (sc 2))) (wc' := (wD (q 38) (q 5) (q 6) (cA 2) 1000 (sc 25) (sc 26) (ar 2) (sc 2))) (wf := (wX q cA sc ar sg)) hP hD hS hA [38, 5, 6] rfl (by decide) rfl rfl
        refine k_goI (va_runV (As := []) (rest := []) ⟨hx, hb, hml, hown, hts⟩ (kX5_left l D (q 38) (q 5) (q 6) (cA 2) 1000 (sc 25) (sc 26) (ar 2) (sc 2) hc5 _) (cwV 0 hts gX2_makeWindow_X5_left rfl rfl rfl (by decide +kernel) ⟨Nat.le_of_ble_eq_true rfl, Nat.le_of_ble_eq_true rfl⟩) (k_preV (q0 := 0) (ci := 4) hk (hK.sub [2] rfl) NR_bl (fun U _ hW => NR_w hW hN.1) rfl rfl rfl) rfl rfl hl.1 rfl (lv_room (Nat.le_of_ble_eq_true rfl)) dX2_makeWindow_20 ⟨Nat.zero_le _, Nat.zero_le _⟩) hk hS (fun H locs hP hD hS => ?_)
        refine lv_if_le (tgt := 70) hx hb dX2_makeWindow_23 (by decide) (fun c6 => ?_) (fun c6 => ?_)
        · rw [if_pos c6] at hf
          obtain rfl := Option.some.inj hf
          exact kont _ rfl _ _ _ (lv_sub hl [1] rfl) hP hD hS
        · rw [if_neg c6] at hf
          refine lv_aload_n hx hb dX2_makeWindow_26 rfl (lv_at hl 1 rfl) ?_
          refine va_get (D := D) (ci := 1) (v := .ref (q 38)) (C := RX2) (T := TX2) (N := 13) hx hb hts (fun w h => List.mem_cons_of_mem _ (List.mem_append_left _ (List.mem_append_left _ (List.mem_append_left _ (List.mem_append_right _ h))))) hown hK hP 22 rfl rfl 5 (by decide) (hts (.fieldLink RX2 42 "DeltaWindows$Decoder" "codes" "LDeltaWindows$Reader;") (List.mem_of_getElem? (i := 2) rfl)) (fun _ h9 => h9) rfl dX2_makeWindow_27 ?_
          obtain ⟨R7, hc8, hf⟩ := b_inv hf
          have hk := kcut (wc := (wD (q 38) (q 5) (q 6) (cA 2) 1000 (sc 25) (sc 26) (ar 2) (sc 2))) (wc' := (wD (q 38) (q 5) (q 6) (cA 2) 1000 R7.2 (sc 26) (ar 2) (sc 2))) (wf := (wX q cA (va_up sc 25 R7.2) ar sg)) hP hD hS hA [38, 5, 6] rfl (by decide) rfl rfl
          refine k_goI (va_runV (As := []) (rest := []) ⟨hx, hb, hml, hown, hts⟩ (kX5_nextByte l D (q 38) (q 5) (q 6) (cA 2) 1000 (sc 25) (sc 26) (ar 2) (sc 2) hc8 _) (cwV 0 hts gX2_makeWindow_X5_nextByte rfl rfl rfl (by decide +kernel) ⟨Nat.le_of_ble_eq_true rfl, Nat.le_of_ble_eq_true rfl⟩) (k_preV (q0 := 0) (ci := 4) hk (hK.sub [2] rfl) NR_bl (fun U _ hW => NR_w hW hN.1) rfl rfl rfl) rfl rfl hl.1 rfl (lv_room (Nat.le_of_ble_eq_true rfl)) dX2_makeWindow_30 ⟨Nat.zero_le _, Nat.zero_le _⟩) hk hS (fun H locs hP hD hS => ?_)
          refine lv_istore_n (lv' := [(2, .int R7.1), (1, .int v1), (0, .ref (q 22))]) hx hb dX2_makeWindow_33 rfl hl (by decide) rfl (fun ls hl => ?_)
          refine lv_aload_n hx hb dX2_makeWindow_34 rfl (lv_at hl 2 rfl) ?_
          refine lv_iload_n hx hb dX2_makeWindow_35 rfl (lv_at hl 0 rfl) ?_
          refine lv_iconst (v := (0 : Int32)) hx hb dX2_makeWindow_36 (by decide) ?_
          obtain ⟨R9, hc10, hf⟩ := b_inv hf
          have hk := kall (wc' := (wX q cA R9.2.1 R9.2.2 sg)) hP hD hS hA rfl
          refine k_goI (va_runV (As := [.int R7.1, .int (0 : Int32)]) (rest := []) ⟨hx, hb, hml, hown, hts⟩ (kX2_follow l D q cA (va_up sc 25 R7.2) ar sg R7.1 (0 : Int32) hc10 _) (cwV 2 hts gX2_makeWindow_X2_follow rfl rfl rfl (by decide +kernel) ⟨Nat.le_of_ble_eq_true rfl, Nat.le_of_ble_eq_true rfl⟩) (k_preV (q0 := 22) (ci := 1) hk hK NX_bl (fun U _ hW => NX_w hW hN) rfl rfl rfl) rfl rfl hl.1 rfl (lv_room (Nat.le_of_ble_eq_true rfl)) dX2_makeWindow_37 ⟨Nat.zero_le _, Nat.zero_le _⟩) hk hS (fun H locs hP hD hS => ?_)
          refine lv_if_ne (tgt := 45) hx hb dX2_makeWindow_40 (by decide) (fun c11 => ?_) (fun c11 => ?_)
          · rw [if_neg c11] at hf
            refine lv_iload_n hx hb dX2_makeWindow_45 rfl (lv_at hl 0 rfl) ?_
            refine lv_iconst (v := (3 : Int32)) hx hb dX2_makeWindow_46 (by decide) ?_
            obtain ⟨R12, hc13, hf⟩ := b_inv hf
            have hk := kcut (wc := ([] : va_W)) (wc' := ([] : va_W)) (wf := (wX q cA R9.2.1 R9.2.2 sg)) hP hD hS hA [] rfl (by decide) rfl rfl
            refine k_goI (va_runS (As := [.int R7.1, .int (3 : Int32)]) (rest := []) ⟨hx, hb, hml, hown, hts⟩ (kX1_partOf l D R7.1 (3 : Int32) hc13 _) ⟨callB_of 2 hts ggX2_makeWindow_X1_partOf rfl rfl rfl (hts (.initialized RX1) (List.mem_of_getElem? (i := 38) rfl)) (hts (.methodLink RX2 118 yX1_partOf) (List.mem_of_getElem? (i := 36) rfl)) (by decide +kernel) ⟨Nat.le_of_ble_eq_true rfl, Nat.le_of_ble_eq_true rfl⟩, (hts (.static yX1_partOf) (List.mem_of_getElem? (i := 37) rfl))⟩ (k_preS hk (hK.sub [] rfl) NT_bl NT_u) rfl rfl hl.1 rfl (lv_room (Nat.le_of_ble_eq_true rfl)) dX2_makeWindow_47 ⟨Nat.zero_le _, Nat.zero_le _⟩) hk hS (fun H locs hP hD hS => ?_)
            refine lv_if_eq (tgt := 64) hx hb dX2_makeWindow_50 (by decide) (fun c14 => ?_) (fun c14 => ?_)
            · rw [if_pos c14] at hf
              refine lv_iinc (v := (v1 + (1 : Int32))) (lv' := [(1, .int (v1 + (1 : Int32))), (2, .int R7.1), (0, .ref (q 22))]) hx hb dX2_makeWindow_64 hl (k := 1) rfl rfl (by decide) rfl (fun ls hl => ?_)
              refine lv_goto (tgt := 9) hx hb dX2_makeWindow_67 (by decide) ?_
              exact ih (v1 + (1 : Int32)) R9.2.1 R9.2.2 _ _ _ o (lv_sub hl [0, 2] rfl) hP hD hS hf kont kr
            · rw [if_neg c14] at hf
              refine lv_aload_n hx hb dX2_makeWindow_53 rfl (lv_at hl 2 rfl) ?_
              refine lv_iload_n hx hb dX2_makeWindow_54 rfl (lv_at hl 0 rfl) ?_
              refine lv_iconst (v := (3 : Int32)) hx hb dX2_makeWindow_55 (by decide) ?_
              obtain ⟨R15, hc16, hf⟩ := b_inv hf
              have hk := kall (wc' := (wX q cA R15.2.1 R15.2.2 sg)) hP hD hS hA rfl
              refine k_goI (va_runV (As := [.int R7.1, .int (3 : Int32)]) (rest := []) ⟨hx, hb, hml, hown, hts⟩ (kX2_follow l D q cA R9.2.1 R9.2.2 sg R7.1 (3 : Int32) hc16 _) (cwV 2 hts gX2_makeWindow_X2_follow rfl rfl rfl (by decide +kernel) ⟨Nat.le_of_ble_eq_true rfl, Nat.le_of_ble_eq_true rfl⟩) (k_preV (q0 := 22) (ci := 1) hk hK NX_bl (fun U _ hW => NX_w hW hN) rfl rfl rfl) rfl rfl hl.1 rfl (lv_room (Nat.le_of_ble_eq_true rfl)) dX2_makeWindow_56 ⟨Nat.zero_le _, Nat.zero_le _⟩) hk hS (fun H locs hP hD hS => ?_)
              refine lv_if_ne (tgt := 64) hx hb dX2_makeWindow_59 (by decide) (fun c17 => ?_) (fun c17 => ?_)
              · rw [if_neg c17] at hf
                refine lv_iinc (v := (v1 + (1 : Int32))) (lv' := [(1, .int (v1 + (1 : Int32))), (2, .int R7.1), (0, .ref (q 22))]) hx hb dX2_makeWindow_64 hl (k := 1) rfl rfl (by decide) rfl (fun ls hl => ?_)
                refine lv_goto (tgt := 9) hx hb dX2_makeWindow_67 (by decide) ?_
                exact ih (v1 + (1 : Int32)) R15.2.1 R15.2.2 _ _ _ o (lv_sub hl [0, 2] rfl) hP hD hS hf kont kr
              · rw [if_pos c17] at hf
                refine lv_iconst (v := (0 : Int32)) hx hb dX2_makeWindow_62 (by decide) ?_
                obtain rfl := Option.some.inj hf
                have hf9 := kr _ rfl
                obtain rfl := Option.some.inj hf9
                exact k_retZ hx hb hr hlocks hP hS rfl dX2_makeWindow_63
          · rw [if_pos c11] at hf
            refine lv_iconst (v := (0 : Int32)) hx hb dX2_makeWindow_43 (by decide) ?_
            obtain rfl := Option.some.inj hf
            have hf9 := kr _ rfl
            obtain rfl := Option.some.inj hf9
            exact k_retZ hx hb hr hlocks hP hS rfl dX2_makeWindow_44
  obtain ⟨R18o, hc19, hf⟩ := b_inv hf
  refine lp29 sg FU (0 : Int32) (va_up sc 18 R1.2.2) (va_up (va_up ar 12 R1.1) 13 R1.2.1) _ _ _ R18o (lv_sub hl [0, 1] rfl) hP hD hS hc19 (fun R18 ho H locs ls hl hP hD hS => ?_) (fun r ho => ?_)
  · subst ho
    simp only [Sum.elim_inl] at hf
    refine lv_aload_n hx hb dX2_makeWindow_70 rfl (lv_at hl 0 rfl) ?_
    refine va_get (D := D) (ci := 1) (v := .ref (q 19)) (C := RX2) (T := TX2) (N := 13) hx hb hts (fun w h => List.mem_cons_of_mem _ (List.mem_append_left _ (List.mem_append_left _ (List.mem_append_left _ (List.mem_append_right _ h))))) hown hK hP 22 rfl rfl 1 (by decide) (hts (.fieldLink RX2 20 "DeltaWindows$Decoder" "made" "LDeltaWindows$Row;") (List.mem_of_getElem? (i := 3) rfl)) (fun _ h9 => h9) rfl dX2_makeWindow_71 ?_
    obtain ⟨R20, hc21, hf⟩ := b_inv hf
    have hk := kcut (wc := (wR (q 19) (q 20) (cA 9) 400 (R18.2 9) (R18.1 9))) (wc' := (wR (q 19) (q 20) (cA 9) 400 (R18.2 9) (R18.1 9))) (wf := (wX q cA R18.1 R18.2 sg)) hP hD hS hA [19, 20] rfl (by decide) rfl rfl
    refine k_goI (va_runV (As := []) (rest := []) ⟨hx, hb, hml, hown, hts⟩ (kX6_count l D (q 19) (q 20) (cA 9) 400 (R18.2 9) (R18.1 9) hc21 _) (cwV 0 hts gX2_makeWindow_X6_count rfl rfl rfl (by decide +kernel) ⟨Nat.le_of_ble_eq_true rfl, Nat.le_of_ble_eq_true rfl⟩) (k_preV (q0 := 0) (ci := 5) hk (hK.sub [9] rfl) NT_bl NT_u rfl rfl rfl) rfl rfl hl.1 rfl (lv_room (Nat.le_of_ble_eq_true rfl)) dX2_makeWindow_74 ⟨Nat.zero_le _, Nat.zero_le _⟩) hk hS (fun H locs hP hD hS => ?_)
    refine lv_aload_n hx hb dX2_makeWindow_77 rfl (lv_at hl 0 rfl) ?_
    refine va_get (D := D) (ci := 1) (v := .int (R18.1 16)) (C := RX2) (T := TX2) (N := 13) hx hb hts (fun w h => List.mem_cons_of_mem _ (List.mem_append_left _ (List.mem_append_left _ (List.mem_append_left _ (List.mem_append_right _ h))))) hown hK hP 22 rfl rfl 12 (by decide) (hts (.fieldLink RX2 64 "DeltaWindows$Decoder" "windowEnd" "I") (List.mem_of_getElem? (i := 4) rfl)) (fun _ h9 => h9) rfl dX2_makeWindow_78 ?_
    refine lv_icmp_ne (tgt := 108) hx hb dX2_makeWindow_81 (by decide) (fun c22 => ?_) (fun c22 => ?_)
    · rw [if_neg c22] at hf
      refine lv_iconst (v := (0 : Int32)) hx hb dX2_makeWindow_108 (by decide) ?_
      obtain rfl := Option.some.inj hf
      exact k_retZ hx hb hr hlocks hP hS rfl dX2_makeWindow_109
    · rw [if_pos c22] at hf
      refine lv_aload_n hx hb dX2_makeWindow_84 rfl (lv_at hl 0 rfl) ?_
      refine va_get (D := D) (ci := 1) (v := .ref (q 37)) (C := RX2) (T := TX2) (N := 13) hx hb hts (fun w h => List.mem_cons_of_mem _ (List.mem_append_left _ (List.mem_append_left _ (List.mem_append_left _ (List.mem_append_right _ h))))) hown hK hP 22 rfl rfl 4 (by decide) (hts (.fieldLink RX2 39 "DeltaWindows$Decoder" "data" "LDeltaWindows$Reader;") (List.mem_of_getElem? (i := 5) rfl)) (fun _ h9 => h9) rfl dX2_makeWindow_85 ?_
      obtain ⟨R23, hc24, hf⟩ := b_inv hf
      have hk := kcut (wc := (wD (q 37) (q 5) (q 6) (cA 2) 1000 (R18.1 23) (R18.1 24) (R18.2 2) (R18.1 2))) (wc' := (wD (q 37) (q 5) (q 6) (cA 2) 1000 (R18.1 23) (R18.1 24) (R18.2 2) (R18.1 2))) (wf := (wX q cA R18.1 R18.2 sg)) hP hD hS hA [37, 5, 6] rfl (by decide) rfl rfl
      refine k_goI (va_runV (As := []) (rest := []) ⟨hx, hb, hml, hown, hts⟩ (kX5_left l D (q 37) (q 5) (q 6) (cA 2) 1000 (R18.1 23) (R18.1 24) (R18.2 2) (R18.1 2) hc24 _) (cwV 0 hts gX2_makeWindow_X5_left rfl rfl rfl (by decide +kernel) ⟨Nat.le_of_ble_eq_true rfl, Nat.le_of_ble_eq_true rfl⟩) (k_preV (q0 := 0) (ci := 4) hk (hK.sub [2] rfl) NR_bl (fun U _ hW => NR_w hW hN.1) rfl rfl rfl) rfl rfl hl.1 rfl (lv_room (Nat.le_of_ble_eq_true rfl)) dX2_makeWindow_88 ⟨Nat.zero_le _, Nat.zero_le _⟩) hk hS (fun H locs hP hD hS => ?_)
      refine lv_if_ne (tgt := 108) hx hb dX2_makeWindow_91 (by decide) (fun c25 => ?_) (fun c25 => ?_)
      · rw [if_neg c25] at hf
        refine lv_iconst (v := (0 : Int32)) hx hb dX2_makeWindow_108 (by decide) ?_
        obtain rfl := Option.some.inj hf
        exact k_retZ hx hb hr hlocks hP hS rfl dX2_makeWindow_109
      · rw [if_pos c25] at hf
        refine lv_aload_n hx hb dX2_makeWindow_94 rfl (lv_at hl 0 rfl) ?_
        refine va_get (D := D) (ci := 1) (v := .ref (q 39)) (C := RX2) (T := TX2) (N := 13) hx hb hts (fun w h => List.mem_cons_of_mem _ (List.mem_append_left _ (List.mem_append_left _ (List.mem_append_left _ (List.mem_append_right _ h))))) hown hK hP 22 rfl rfl 6 (by decide) (hts (.fieldLink RX2 45 "DeltaWindows$Decoder" "addresses" "LDeltaWindows$Reader;") (List.mem_of_getElem? (i := 6) rfl)) (fun _ h9 => h9) rfl dX2_makeWindow_95 ?_
        obtain ⟨R26, hc27, hf⟩ := b_inv hf
        have hk := kcut (wc := (wD (q 39) (q 5) (q 6) (cA 2) 1000 (R18.1 27) (R18.1 28) (R18.2 2) (R18.1 2))) (wc' := (wD (q 39) (q 5) (q 6) (cA 2) 1000 (R18.1 27) (R18.1 28) (R18.2 2) (R18.1 2))) (wf := (wX q cA R18.1 R18.2 sg)) hP hD hS hA [39, 5, 6] rfl (by decide) rfl rfl
        refine k_goI (va_runV (As := []) (rest := []) ⟨hx, hb, hml, hown, hts⟩ (kX5_left l D (q 39) (q 5) (q 6) (cA 2) 1000 (R18.1 27) (R18.1 28) (R18.2 2) (R18.1 2) hc27 _) (cwV 0 hts gX2_makeWindow_X5_left rfl rfl rfl (by decide +kernel) ⟨Nat.le_of_ble_eq_true rfl, Nat.le_of_ble_eq_true rfl⟩) (k_preV (q0 := 0) (ci := 4) hk (hK.sub [2] rfl) NR_bl (fun U _ hW => NR_w hW hN.1) rfl rfl rfl) rfl rfl hl.1 rfl (lv_room (Nat.le_of_ble_eq_true rfl)) dX2_makeWindow_98 ⟨Nat.zero_le _, Nat.zero_le _⟩) hk hS (fun H locs hP hD hS => ?_)
        refine lv_if_ne (tgt := 108) hx hb dX2_makeWindow_101 (by decide) (fun c28 => ?_) (fun c28 => ?_)
        · rw [if_neg c28] at hf
          refine lv_iconst (v := (0 : Int32)) hx hb dX2_makeWindow_108 (by decide) ?_
          obtain rfl := Option.some.inj hf
          exact k_retZ hx hb hr hlocks hP hS rfl dX2_makeWindow_109
        · rw [if_pos c28] at hf
          refine lv_iconst (v := (1 : Int32)) hx hb dX2_makeWindow_104 (by decide) ?_
          refine lv_goto (tgt := 109) hx hb dX2_makeWindow_105 (by decide) ?_
          obtain rfl := Option.some.inj hf
          exact k_retZ hx hb hr hlocks hP hS rfl dX2_makeWindow_109
  · subst ho
    simpa only [Sum.elim_inr] using hf

noncomputable def fX2_readParts (sc : Nat → Int32) (ar : Nat → Nat → Int32) (sg : Bool) (x1 : Int32) (x2 : Int32) : Option (Int32 × (Nat → Int32)) :=
  (fX5_nextByte 1000 (sc 21) (sc 22) (ar 2) (sc 2)).bind fun R1 =>
  if R1.1 = 0 then
    (fX5_nextInteger 1000 R1.2 (sc 22) (ar 2) (sc 2)).bind fun R4 =>
    (fX5_nextInteger 1000 R4.2 (sc 22) (ar 2) (sc 2)).bind fun R6 =>
    (fX5_nextInteger 1000 R6.2 (sc 22) (ar 2) (sc 2)).bind fun R8 =>
    if R4.1 = (-1 : Int32) then
      some ((0 : Int32), (va_up (va_up (va_up (va_up sc 21 R1.2) 21 R4.2) 21 R6.2) 21 R8.2))
    else
      if R6.1 = (-1 : Int32) then
        some ((0 : Int32), (va_up (va_up (va_up (va_up sc 21 R1.2) 21 R4.2) 21 R6.2) 21 R8.2))
      else
        if R8.1 = (-1 : Int32) then
          some ((0 : Int32), (va_up (va_up (va_up (va_up sc 21 R1.2) 21 R4.2) 21 R6.2) 21 R8.2))
        else
          (fX5_place 1000 R8.2 (sc 22) (ar 2) (sc 2)).bind fun R13 =>
          if (lg_cmp ((((R4.1.toInt64 + R6.1.toInt64) + R8.1.toInt64) + R13.toInt64) - x1.toInt64) x2.toInt64) = 0 then
            (fX5_left 1000 R8.2 (sc 22) (ar 2) (sc 2)).bind fun R16 =>
            if (lg_cmp ((R4.1.toInt64 + R6.1.toInt64) + R8.1.toInt64) R16.toInt64) ≤ 0 then
              (fX5_place 1000 R8.2 (sc 22) (ar 2) (sc 2)).bind fun R19 =>
              (fX5_open 1000 (sc 23) (sc 24) (ar 2) (sc 2) R19 R4.1).bind fun R21 =>
              (fX5_open 1000 (sc 25) (sc 26) (ar 2) (sc 2) (R19 + R4.1) R6.1).bind fun R23 =>
              (fX5_open 1000 (sc 27) (sc 28) (ar 2) (sc 2) ((R19 + R4.1) + R6.1) R8.1).bind fun R25 =>
              (fX5_open 1000 R8.2 (sc 22) (ar 2) (sc 2) (R19 + ((R4.1.toInt64 + R6.1.toInt64) + R8.1.toInt64).toInt32) (1000 : Int32)).bind fun R27 =>
              some ((1 : Int32), (va_up (va_up (va_up (va_up (va_up (va_up (va_up (va_up (va_up (va_up (va_up (va_up sc 21 R1.2) 21 R4.2) 21 R6.2) 21 R8.2) 23 R21.1) 24 R21.2) 25 R23.1) 26 R23.2) 27 R25.1) 28 R25.2) 21 R27.1) 22 R27.2))
            else
              some ((0 : Int32), (va_up (va_up (va_up (va_up sc 21 R1.2) 21 R4.2) 21 R6.2) 21 R8.2))
          else
            some ((0 : Int32), (va_up (va_up (va_up (va_up sc 21 R1.2) 21 R4.2) 21 R6.2) 21 R8.2))
  else
    some ((0 : Int32), (va_up sc 21 R1.2))

set_option maxHeartbeats 4000000 in
set_option maxRecDepth 100000 in
theorem kX2_readParts (l : Launch) (D : va_G) (q : Nat → Nat) (cA : Nat → ClassId) (sc : Nat → Int32) (ar : Nat → Nat → Int32) (sg : Bool) (x1 : Int32) (x2 : Int32) {R : Int32 × (Nat → Int32)} (hf : fX2_readParts sc ar sg x1 x2 = some R) : MI l yX2_readParts wsX2_readParts (rmD 2) D ([.ref (q 22), .int x1, .int x2] : List Value) (wX q cA sc ar sg) (tX cA) NX R.1 (wX q cA R.2 ar sg) := by
  refine MI.mk (cc := cX2_readParts) (maxL := 9) (ret := (some .boolean)) (by first | decide | decide +kernel) rfl (Nat.le_of_ble_eq_true rfl) ?_
  intro p e s m below meth cd A ls hE
  obtain ⟨hx, hb, hr, hml, hts, hown, hlocks, hP, hK, hD, hA, hN, hAe, hl⟩ := hE
  have hown : s.vm.findClass RX2 = some m.cls := hown
  have hS : va_S A s.heap s.heap [] := va_S.rf
  have hl : lv_has ls 9 [(0, .ref (q 22)), (1, .int x1), (2, .int x2)] := hl
  rw [fX2_readParts] at hf
  refine lv_aload_n hx hb dX2_readParts_0 rfl (lv_at hl 0 rfl) ?_
  refine va_get (D := D) (ci := 1) (v := .ref (q 36)) (C := RX2) (T := TX2) (N := 13) hx hb hts (fun w h => List.mem_cons_of_mem _ (List.mem_append_left _ (List.mem_append_left _ (List.mem_append_right _ h)))) hown hK hP 22 rfl rfl 3 (by decide) (hts (.fieldLink RX2 35 "DeltaWindows$Decoder" "whole" "LDeltaWindows$Reader;") (List.mem_of_getElem? (i := 1) rfl)) (fun _ h9 => h9) rfl dX2_readParts_1 ?_
  obtain ⟨R1, hc2, hf⟩ := b_inv hf
  have hk := kcut (wc := (wD (q 36) (q 5) (q 6) (cA 2) 1000 (sc 21) (sc 22) (ar 2) (sc 2))) (wc' := (wD (q 36) (q 5) (q 6) (cA 2) 1000 R1.2 (sc 22) (ar 2) (sc 2))) (wf := (wX q cA (va_up sc 21 R1.2) ar sg)) hP hD hS hA [36, 5, 6] rfl (by decide) rfl rfl
  refine k_goI (va_runV (As := []) (rest := []) ⟨hx, hb, hml, hown, hts⟩ (kX5_nextByte l D (q 36) (q 5) (q 6) (cA 2) 1000 (sc 21) (sc 22) (ar 2) (sc 2) hc2 _) (cwV 0 hts gX2_readParts_X5_nextByte rfl rfl rfl (by decide +kernel) ⟨Nat.le_of_ble_eq_true rfl, Nat.le_of_ble_eq_true rfl⟩) (k_preV (q0 := 0) (ci := 4) hk (hK.sub [2] rfl) NR_bl (fun U _ hW => NR_w hW hN.1) rfl rfl rfl) rfl rfl hl.1 rfl (lv_room (Nat.le_of_ble_eq_true rfl)) dX2_readParts_4 ⟨Nat.zero_le _, Nat.zero_le _⟩) hk hS (fun H locs hP hD hS => ?_)
  refine lv_if_eq (tgt := 12) hx hb dX2_readParts_7 (by decide) (fun c3 => ?_) (fun c3 => ?_)
  · rw [if_pos c3] at hf
    refine lv_aload_n hx hb dX2_readParts_12 rfl (lv_at hl 0 rfl) ?_
    refine va_get (D := D) (ci := 1) (v := .ref (q 36)) (C := RX2) (T := TX2) (N := 13) hx hb hts (fun w h => List.mem_cons_of_mem _ (List.mem_append_left _ (List.mem_append_left _ (List.mem_append_right _ h)))) hown hK hP 22 rfl rfl 3 (by decide) (hts (.fieldLink RX2 35 "DeltaWindows$Decoder" "whole" "LDeltaWindows$Reader;") (List.mem_of_getElem? (i := 1) rfl)) (fun _ h9 => h9) rfl dX2_readParts_13 ?_
    obtain ⟨R4, hc5, hf⟩ := b_inv hf
    have hk := kcut (wc := (wD (q 36) (q 5) (q 6) (cA 2) 1000 R1.2 (sc 22) (ar 2) (sc 2))) (wc' := (wD (q 36) (q 5) (q 6) (cA 2) 1000 R4.2 (sc 22) (ar 2) (sc 2))) (wf := (wX q cA (va_up (va_up sc 21 R1.2) 21 R4.2) ar sg)) hP hD hS hA [36, 5, 6] rfl (by decide) rfl rfl
    refine k_goI (va_runV (As := []) (rest := []) ⟨hx, hb, hml, hown, hts⟩ (kX5_nextInteger l D (q 36) (q 5) (q 6) (cA 2) 1000 R1.2 (sc 22) (ar 2) (sc 2) hc5 _) (cwV 0 hts gX2_readParts_X5_nextInteger rfl rfl rfl (by decide +kernel) ⟨Nat.le_of_ble_eq_true rfl, Nat.le_of_ble_eq_true rfl⟩) (k_preV (q0 := 0) (ci := 4) hk (hK.sub [2] rfl) NR_bl (fun U _ hW => NR_w hW hN.1) rfl rfl rfl) rfl rfl hl.1 rfl (lv_room (Nat.le_of_ble_eq_true rfl)) dX2_readParts_16 ⟨Nat.zero_le _, Nat.zero_le _⟩) hk hS (fun H locs hP hD hS => ?_)
    refine lv_istore_n (lv' := [(3, .int R4.1), (0, .ref (q 22)), (1, .int x1), (2, .int x2)]) hx hb dX2_readParts_19 rfl hl (by decide) rfl (fun ls hl => ?_)
    refine lv_aload_n hx hb dX2_readParts_20 rfl (lv_at hl 1 rfl) ?_
    refine va_get (D := D) (ci := 1) (v := .ref (q 36)) (C := RX2) (T := TX2) (N := 13) hx hb hts (fun w h => List.mem_cons_of_mem _ (List.mem_append_left _ (List.mem_append_left _ (List.mem_append_right _ h)))) hown hK hP 22 rfl rfl 3 (by decide) (hts (.fieldLink RX2 35 "DeltaWindows$Decoder" "whole" "LDeltaWindows$Reader;") (List.mem_of_getElem? (i := 1) rfl)) (fun _ h9 => h9) rfl dX2_readParts_21 ?_
    obtain ⟨R6, hc7, hf⟩ := b_inv hf
    have hk := kcut (wc := (wD (q 36) (q 5) (q 6) (cA 2) 1000 R4.2 (sc 22) (ar 2) (sc 2))) (wc' := (wD (q 36) (q 5) (q 6) (cA 2) 1000 R6.2 (sc 22) (ar 2) (sc 2))) (wf := (wX q cA (va_up (va_up (va_up sc 21 R1.2) 21 R4.2) 21 R6.2) ar sg)) hP hD hS hA [36, 5, 6] rfl (by decide) rfl rfl
    refine k_goI (va_runV (As := []) (rest := []) ⟨hx, hb, hml, hown, hts⟩ (kX5_nextInteger l D (q 36) (q 5) (q 6) (cA 2) 1000 R4.2 (sc 22) (ar 2) (sc 2) hc7 _) (cwV 0 hts gX2_readParts_X5_nextInteger rfl rfl rfl (by decide +kernel) ⟨Nat.le_of_ble_eq_true rfl, Nat.le_of_ble_eq_true rfl⟩) (k_preV (q0 := 0) (ci := 4) hk (hK.sub [2] rfl) NR_bl (fun U _ hW => NR_w hW hN.1) rfl rfl rfl) rfl rfl hl.1 rfl (lv_room (Nat.le_of_ble_eq_true rfl)) dX2_readParts_24 ⟨Nat.zero_le _, Nat.zero_le _⟩) hk hS (fun H locs hP hD hS => ?_)
    refine lv_istore (lv' := [(4, .int R6.1), (3, .int R4.1), (0, .ref (q 22)), (1, .int x1), (2, .int x2)]) hx hb dX2_readParts_27 hl (by decide) rfl (fun ls hl => ?_)
    refine lv_aload_n hx hb dX2_readParts_29 rfl (lv_at hl 2 rfl) ?_
    refine va_get (D := D) (ci := 1) (v := .ref (q 36)) (C := RX2) (T := TX2) (N := 13) hx hb hts (fun w h => List.mem_cons_of_mem _ (List.mem_append_left _ (List.mem_append_left _ (List.mem_append_right _ h)))) hown hK hP 22 rfl rfl 3 (by decide) (hts (.fieldLink RX2 35 "DeltaWindows$Decoder" "whole" "LDeltaWindows$Reader;") (List.mem_of_getElem? (i := 1) rfl)) (fun _ h9 => h9) rfl dX2_readParts_30 ?_
    obtain ⟨R8, hc9, hf⟩ := b_inv hf
    have hk := kcut (wc := (wD (q 36) (q 5) (q 6) (cA 2) 1000 R6.2 (sc 22) (ar 2) (sc 2))) (wc' := (wD (q 36) (q 5) (q 6) (cA 2) 1000 R8.2 (sc 22) (ar 2) (sc 2))) (wf := (wX q cA (va_up (va_up (va_up (va_up sc 21 R1.2) 21 R4.2) 21 R6.2) 21 R8.2) ar sg)) hP hD hS hA [36, 5, 6] rfl (by decide) rfl rfl
    refine k_goI (va_runV (As := []) (rest := []) ⟨hx, hb, hml, hown, hts⟩ (kX5_nextInteger l D (q 36) (q 5) (q 6) (cA 2) 1000 R6.2 (sc 22) (ar 2) (sc 2) hc9 _) (cwV 0 hts gX2_readParts_X5_nextInteger rfl rfl rfl (by decide +kernel) ⟨Nat.le_of_ble_eq_true rfl, Nat.le_of_ble_eq_true rfl⟩) (k_preV (q0 := 0) (ci := 4) hk (hK.sub [2] rfl) NR_bl (fun U _ hW => NR_w hW hN.1) rfl rfl rfl) rfl rfl hl.1 rfl (lv_room (Nat.le_of_ble_eq_true rfl)) dX2_readParts_33 ⟨Nat.zero_le _, Nat.zero_le _⟩) hk hS (fun H locs hP hD hS => ?_)
    refine lv_istore (lv' := [(5, .int R8.1), (4, .int R6.1), (3, .int R4.1), (0, .ref (q 22)), (1, .int x1), (2, .int x2)]) hx hb dX2_readParts_36 hl (by decide) rfl (fun ls hl => ?_)
    refine lv_iload_n hx hb dX2_readParts_38 rfl (lv_at hl 2 rfl) ?_
    refine lv_iconst (v := (-1 : Int32)) hx hb dX2_readParts_39 (by decide) ?_
    refine lv_icmp_eq (tgt := 55) hx hb dX2_readParts_40 (by decide) (fun c10 => ?_) (fun c10 => ?_)
    · rw [if_pos c10] at hf
      refine lv_iconst (v := (0 : Int32)) hx hb dX2_readParts_55 (by decide) ?_
      obtain rfl := Option.some.inj hf
      exact k_retZ hx hb hr hlocks hP hS rfl dX2_readParts_56
    · rw [if_neg c10] at hf
      refine lv_iload hx hb dX2_readParts_43 (lv_at hl 1 rfl) ?_
      refine lv_iconst (v := (-1 : Int32)) hx hb dX2_readParts_45 (by decide) ?_
      refine lv_icmp_eq (tgt := 55) hx hb dX2_readParts_46 (by decide) (fun c11 => ?_) (fun c11 => ?_)
      · rw [if_pos c11] at hf
        refine lv_iconst (v := (0 : Int32)) hx hb dX2_readParts_55 (by decide) ?_
        obtain rfl := Option.some.inj hf
        exact k_retZ hx hb hr hlocks hP hS rfl dX2_readParts_56
      · rw [if_neg c11] at hf
        refine lv_iload hx hb dX2_readParts_49 (lv_at hl 0 rfl) ?_
        refine lv_iconst (v := (-1 : Int32)) hx hb dX2_readParts_51 (by decide) ?_
        refine lv_icmp_ne (tgt := 57) hx hb dX2_readParts_52 (by decide) (fun c12 => ?_) (fun c12 => ?_)
        · rw [if_neg c12] at hf
          refine lv_iload_n hx hb dX2_readParts_57 rfl (lv_at hl 2 rfl) ?_
          refine lv_i2l (v := R4.1.toInt64) hx hb dX2_readParts_58 rfl ?_
          refine lv_iload hx hb dX2_readParts_59 (lv_at hl 1 rfl) ?_
          refine lv_i2l (v := R6.1.toInt64) hx hb dX2_readParts_61 rfl ?_
          refine lv_ladd hx hb dX2_readParts_62 ?_
          refine lv_iload hx hb dX2_readParts_63 (lv_at hl 0 rfl) ?_
          refine lv_i2l (v := R8.1.toInt64) hx hb dX2_readParts_65 rfl ?_
          refine lv_ladd hx hb dX2_readParts_66 ?_
          refine lv_lstore (lv' := [(6, .long ((R4.1.toInt64 + R6.1.toInt64) + R8.1.toInt64)), (5, .int R8.1), (4, .int R6.1), (3, .int R4.1), (0, .ref (q 22)), (1, .int x1), (2, .int x2)]) hx hb dX2_readParts_67 hl (by decide) rfl (fun ls hl => ?_)
          refine lv_lload hx hb dX2_readParts_69 (lv_at hl 0 rfl) ?_
          refine lv_aload_n hx hb dX2_readParts_71 rfl (lv_at hl 4 rfl) ?_
          refine va_get (D := D) (ci := 1) (v := .ref (q 36)) (C := RX2) (T := TX2) (N := 13) hx hb hts (fun w h => List.mem_cons_of_mem _ (List.mem_append_left _ (List.mem_append_left _ (List.mem_append_right _ h)))) hown hK hP 22 rfl rfl 3 (by decide) (hts (.fieldLink RX2 35 "DeltaWindows$Decoder" "whole" "LDeltaWindows$Reader;") (List.mem_of_getElem? (i := 1) rfl)) (fun _ h9 => h9) rfl dX2_readParts_72 ?_
          obtain ⟨R13, hc14, hf⟩ := b_inv hf
          have hk := kcut (wc := (wD (q 36) (q 5) (q 6) (cA 2) 1000 R8.2 (sc 22) (ar 2) (sc 2))) (wc' := (wD (q 36) (q 5) (q 6) (cA 2) 1000 R8.2 (sc 22) (ar 2) (sc 2))) (wf := (wX q cA (va_up (va_up (va_up (va_up sc 21 R1.2) 21 R4.2) 21 R6.2) 21 R8.2) ar sg)) hP hD hS hA [36, 5, 6] rfl (by decide) rfl rfl
          refine k_goI (va_runV (As := []) (rest := [.long ((R4.1.toInt64 + R6.1.toInt64) + R8.1.toInt64)]) ⟨hx, hb, hml, hown, hts⟩ (kX5_place l D (q 36) (q 5) (q 6) (cA 2) 1000 R8.2 (sc 22) (ar 2) (sc 2) hc14 _) (cwV 0 hts gX2_readParts_X5_place rfl rfl rfl (by decide +kernel) ⟨Nat.le_of_ble_eq_true rfl, Nat.le_of_ble_eq_true rfl⟩) (k_preV (q0 := 0) (ci := 4) hk (hK.sub [2] rfl) NR_bl (fun U _ hW => NR_w hW hN.1) rfl rfl rfl) rfl rfl hl.1 rfl (lv_room (Nat.le_of_ble_eq_true rfl)) dX2_readParts_75 ⟨Nat.zero_le _, Nat.zero_le _⟩) hk hS (fun H locs hP hD hS => ?_)
          refine lv_i2l (v := R13.toInt64) hx hb dX2_readParts_78 rfl ?_
          refine lv_ladd hx hb dX2_readParts_79 ?_
          refine lv_iload_n hx hb dX2_readParts_80 rfl (lv_at hl 5 rfl) ?_
          refine lv_i2l (v := x1.toInt64) hx hb dX2_readParts_81 rfl ?_
          refine lv_lsub hx hb dX2_readParts_82 ?_
          refine lv_iload_n hx hb dX2_readParts_83 rfl (lv_at hl 6 rfl) ?_
          refine lv_i2l (v := x2.toInt64) hx hb dX2_readParts_84 rfl ?_
          refine W.lcmp hx hb dX2_readParts_85 ?_
          refine lv_if_ne (tgt := 103) hx hb dX2_readParts_86 (by decide) (fun c15 => ?_) (fun c15 => ?_)
          · rw [if_neg c15] at hf
            refine lv_iconst (v := (0 : Int32)) hx hb dX2_readParts_103 (by decide) ?_
            obtain rfl := Option.some.inj hf
            exact k_retZ hx hb hr hlocks hP hS rfl dX2_readParts_104
          · rw [if_pos c15] at hf
            refine lv_lload hx hb dX2_readParts_89 (lv_at hl 0 rfl) ?_
            refine lv_aload_n hx hb dX2_readParts_91 rfl (lv_at hl 4 rfl) ?_
            refine va_get (D := D) (ci := 1) (v := .ref (q 36)) (C := RX2) (T := TX2) (N := 13) hx hb hts (fun w h => List.mem_cons_of_mem _ (List.mem_append_left _ (List.mem_append_left _ (List.mem_append_right _ h)))) hown hK hP 22 rfl rfl 3 (by decide) (hts (.fieldLink RX2 35 "DeltaWindows$Decoder" "whole" "LDeltaWindows$Reader;") (List.mem_of_getElem? (i := 1) rfl)) (fun _ h9 => h9) rfl dX2_readParts_92 ?_
            obtain ⟨R16, hc17, hf⟩ := b_inv hf
            have hk := kcut (wc := (wD (q 36) (q 5) (q 6) (cA 2) 1000 R8.2 (sc 22) (ar 2) (sc 2))) (wc' := (wD (q 36) (q 5) (q 6) (cA 2) 1000 R8.2 (sc 22) (ar 2) (sc 2))) (wf := (wX q cA (va_up (va_up (va_up (va_up sc 21 R1.2) 21 R4.2) 21 R6.2) 21 R8.2) ar sg)) hP hD hS hA [36, 5, 6] rfl (by decide) rfl rfl
            refine k_goI (va_runV (As := []) (rest := [.long ((R4.1.toInt64 + R6.1.toInt64) + R8.1.toInt64)]) ⟨hx, hb, hml, hown, hts⟩ (kX5_left l D (q 36) (q 5) (q 6) (cA 2) 1000 R8.2 (sc 22) (ar 2) (sc 2) hc17 _) (cwV 0 hts gX2_readParts_X5_left rfl rfl rfl (by decide +kernel) ⟨Nat.le_of_ble_eq_true rfl, Nat.le_of_ble_eq_true rfl⟩) (k_preV (q0 := 0) (ci := 4) hk (hK.sub [2] rfl) NR_bl (fun U _ hW => NR_w hW hN.1) rfl rfl rfl) rfl rfl hl.1 rfl (lv_room (Nat.le_of_ble_eq_true rfl)) dX2_readParts_95 ⟨Nat.zero_le _, Nat.zero_le _⟩) hk hS (fun H locs hP hD hS => ?_)
            refine lv_i2l (v := R16.toInt64) hx hb dX2_readParts_98 rfl ?_
            refine W.lcmp hx hb dX2_readParts_99 ?_
            refine lv_if_le (tgt := 105) hx hb dX2_readParts_100 (by decide) (fun c18 => ?_) (fun c18 => ?_)
            · rw [if_pos c18] at hf
              refine lv_aload_n hx hb dX2_readParts_105 rfl (lv_at hl 4 rfl) ?_
              refine va_get (D := D) (ci := 1) (v := .ref (q 36)) (C := RX2) (T := TX2) (N := 13) hx hb hts (fun w h => List.mem_cons_of_mem _ (List.mem_append_left _ (List.mem_append_left _ (List.mem_append_right _ h)))) hown hK hP 22 rfl rfl 3 (by decide) (hts (.fieldLink RX2 35 "DeltaWindows$Decoder" "whole" "LDeltaWindows$Reader;") (List.mem_of_getElem? (i := 1) rfl)) (fun _ h9 => h9) rfl dX2_readParts_106 ?_
              obtain ⟨R19, hc20, hf⟩ := b_inv hf
              have hk := kcut (wc := (wD (q 36) (q 5) (q 6) (cA 2) 1000 R8.2 (sc 22) (ar 2) (sc 2))) (wc' := (wD (q 36) (q 5) (q 6) (cA 2) 1000 R8.2 (sc 22) (ar 2) (sc 2))) (wf := (wX q cA (va_up (va_up (va_up (va_up sc 21 R1.2) 21 R4.2) 21 R6.2) 21 R8.2) ar sg)) hP hD hS hA [36, 5, 6] rfl (by decide) rfl rfl
              refine k_goI (va_runV (As := []) (rest := []) ⟨hx, hb, hml, hown, hts⟩ (kX5_place l D (q 36) (q 5) (q 6) (cA 2) 1000 R8.2 (sc 22) (ar 2) (sc 2) hc20 _) (cwV 0 hts gX2_readParts_X5_place rfl rfl rfl (by decide +kernel) ⟨Nat.le_of_ble_eq_true rfl, Nat.le_of_ble_eq_true rfl⟩) (k_preV (q0 := 0) (ci := 4) hk (hK.sub [2] rfl) NR_bl (fun U _ hW => NR_w hW hN.1) rfl rfl rfl) rfl rfl hl.1 rfl (lv_room (Nat.le_of_ble_eq_true rfl)) dX2_readParts_109 ⟨Nat.zero_le _, Nat.zero_le _⟩) hk hS (fun H locs hP hD hS => ?_)
              refine lv_istore (lv' := [(8, .int R19), (6, .long ((R4.1.toInt64 + R6.1.toInt64) + R8.1.toInt64)), (5, .int R8.1), (4, .int R6.1), (3, .int R4.1), (0, .ref (q 22)), (1, .int x1), (2, .int x2)]) hx hb dX2_readParts_112 hl (by decide) rfl (fun ls hl => ?_)
              refine lv_aload_n hx hb dX2_readParts_114 rfl (lv_at hl 5 rfl) ?_
              refine va_get (D := D) (ci := 1) (v := .ref (q 37)) (C := RX2) (T := TX2) (N := 13) hx hb hts (fun w h => List.mem_cons_of_mem _ (List.mem_append_left _ (List.mem_append_left _ (List.mem_append_right _ h)))) hown hK hP 22 rfl rfl 4 (by decide) (hts (.fieldLink RX2 39 "DeltaWindows$Decoder" "data" "LDeltaWindows$Reader;") (List.mem_of_getElem? (i := 2) rfl)) (fun _ h9 => h9) rfl dX2_readParts_115 ?_
              refine lv_iload hx hb dX2_readParts_118 (lv_at hl 0 rfl) ?_
              refine lv_iload_n hx hb dX2_readParts_120 rfl (lv_at hl 4 rfl) ?_
              obtain ⟨R21, hc22, hf⟩ := b_inv hf
              have hk := kcut (wc := (wD (q 37) (q 5) (q 6) (cA 2) 1000 (sc 23) (sc 24) (ar 2) (sc 2))) (wc' := (wD (q 37) (q 5) (q 6) (cA 2) 1000 R21.1 R21.2 (ar 2) (sc 2))) (wf := (wX q cA (va_up (va_up (va_up (va_up (va_up (va_up sc 21 R1.2) 21 R4.2) 21 R6.2) 21 R8.2) 23 R21.1) 24 R21.2) ar sg)) hP hD hS hA [37, 5, 6] rfl (by decide) rfl rfl
              refine k_goV (va_runV (As := [.int R19, .int R4.1]) (rest := []) ⟨hx, hb, hml, hown, hts⟩ (kX5_open l D (q 37) (q 5) (q 6) (cA 2) 1000 (sc 23) (sc 24) (ar 2) (sc 2) R19 R4.1 hc22 _) (cwV 2 hts gX2_readParts_X5_open rfl rfl rfl (by decide +kernel) ⟨Nat.le_of_ble_eq_true rfl, Nat.le_of_ble_eq_true rfl⟩) (k_preV (q0 := 0) (ci := 4) hk (hK.sub [2] rfl) NR_bl (fun U _ hW => NR_w hW hN.1) rfl rfl rfl) rfl rfl hl.1 rfl (lv_room (Nat.le_of_ble_eq_true rfl)) dX2_readParts_121 ⟨Nat.zero_le _, Nat.zero_le _⟩) hk hS (fun H locs hP hD hS => ?_)
              refine lv_aload_n hx hb dX2_readParts_124 rfl (lv_at hl 5 rfl) ?_
              refine va_get (D := D) (ci := 1) (v := .ref (q 38)) (C := RX2) (T := TX2) (N := 13) hx hb hts (fun w h => List.mem_cons_of_mem _ (List.mem_append_left _ (List.mem_append_left _ (List.mem_append_right _ h)))) hown hK hP 22 rfl rfl 5 (by decide) (hts (.fieldLink RX2 42 "DeltaWindows$Decoder" "codes" "LDeltaWindows$Reader;") (List.mem_of_getElem? (i := 3) rfl)) (fun _ h9 => h9) rfl dX2_readParts_125 ?_
              refine lv_iload hx hb dX2_readParts_128 (lv_at hl 0 rfl) ?_
              refine lv_iload_n hx hb dX2_readParts_130 rfl (lv_at hl 4 rfl) ?_
              refine lv_iadd hx hb dX2_readParts_131 ?_
              refine lv_iload hx hb dX2_readParts_132 (lv_at hl 3 rfl) ?_
              obtain ⟨R23, hc24, hf⟩ := b_inv hf
              have hk := kcut (wc := (wD (q 38) (q 5) (q 6) (cA 2) 1000 (sc 25) (sc 26) (ar 2) (sc 2))) (wc' := (wD (q 38) (q 5) (q 6) (cA 2) 1000 R23.1 R23.2 (ar 2) (sc 2))) (wf := (wX q cA (va_up (va_up (va_up (va_up (va_up (va_up (va_up (va_up sc 21 R1.2) 21 R4.2) 21 R6.2) 21 R8.2) 23 R21.1) 24 R21.2) 25 R23.1) 26 R23.2) ar sg)) hP hD hS hA [38, 5, 6] rfl (by decide) rfl rfl
              refine k_goV (va_runV (As := [.int (R19 + R4.1), .int R6.1]) (rest := []) ⟨hx, hb, hml, hown, hts⟩ (kX5_open l D (q 38) (q 5) (q 6) (cA 2) 1000 (sc 25) (sc 26) (ar 2) (sc 2) (R19 + R4.1) R6.1 hc24 _) (cwV 2 hts gX2_readParts_X5_open rfl rfl rfl (by decide +kernel) ⟨Nat.le_of_ble_eq_true rfl, Nat.le_of_ble_eq_true rfl⟩) (k_preV (q0 := 0) (ci := 4) hk (hK.sub [2] rfl) NR_bl (fun U _ hW => NR_w hW hN.1) rfl rfl rfl) rfl rfl hl.1 rfl (lv_room (Nat.le_of_ble_eq_true rfl)) dX2_readParts_134 ⟨Nat.zero_le _, Nat.zero_le _⟩) hk hS (fun H locs hP hD hS => ?_)
              refine lv_aload_n hx hb dX2_readParts_137 rfl (lv_at hl 5 rfl) ?_
              refine va_get (D := D) (ci := 1) (v := .ref (q 39)) (C := RX2) (T := TX2) (N := 13) hx hb hts (fun w h => List.mem_cons_of_mem _ (List.mem_append_left _ (List.mem_append_left _ (List.mem_append_right _ h)))) hown hK hP 22 rfl rfl 6 (by decide) (hts (.fieldLink RX2 45 "DeltaWindows$Decoder" "addresses" "LDeltaWindows$Reader;") (List.mem_of_getElem? (i := 4) rfl)) (fun _ h9 => h9) rfl dX2_readParts_138 ?_
              refine lv_iload hx hb dX2_readParts_141 (lv_at hl 0 rfl) ?_
              refine lv_iload_n hx hb dX2_readParts_143 rfl (lv_at hl 4 rfl) ?_
              refine lv_iadd hx hb dX2_readParts_144 ?_
              refine lv_iload hx hb dX2_readParts_145 (lv_at hl 3 rfl) ?_
              refine lv_iadd hx hb dX2_readParts_147 ?_
              refine lv_iload hx hb dX2_readParts_148 (lv_at hl 2 rfl) ?_
              obtain ⟨R25, hc26, hf⟩ := b_inv hf
              have hk := kcut (wc := (wD (q 39) (q 5) (q 6) (cA 2) 1000 (sc 27) (sc 28) (ar 2) (sc 2))) (wc' := (wD (q 39) (q 5) (q 6) (cA 2) 1000 R25.1 R25.2 (ar 2) (sc 2))) (wf := (wX q cA (va_up (va_up (va_up (va_up (va_up (va_up (va_up (va_up (va_up (va_up sc 21 R1.2) 21 R4.2) 21 R6.2) 21 R8.2) 23 R21.1) 24 R21.2) 25 R23.1) 26 R23.2) 27 R25.1) 28 R25.2) ar sg)) hP hD hS hA [39, 5, 6] rfl (by decide) rfl rfl
              refine k_goV (va_runV (As := [.int ((R19 + R4.1) + R6.1), .int R8.1]) (rest := []) ⟨hx, hb, hml, hown, hts⟩ (kX5_open l D (q 39) (q 5) (q 6) (cA 2) 1000 (sc 27) (sc 28) (ar 2) (sc 2) ((R19 + R4.1) + R6.1) R8.1 hc26 _) (cwV 2 hts gX2_readParts_X5_open rfl rfl rfl (by decide +kernel) ⟨Nat.le_of_ble_eq_true rfl, Nat.le_of_ble_eq_true rfl⟩) (k_preV (q0 := 0) (ci := 4) hk (hK.sub [2] rfl) NR_bl (fun U _ hW => NR_w hW hN.1) rfl rfl rfl) rfl rfl hl.1 rfl (lv_room (Nat.le_of_ble_eq_true rfl)) dX2_readParts_150 ⟨Nat.zero_le _, Nat.zero_le _⟩) hk hS (fun H locs hP hD hS => ?_)
              refine lv_aload_n hx hb dX2_readParts_153 rfl (lv_at hl 5 rfl) ?_
              refine va_get (D := D) (ci := 1) (v := .ref (q 36)) (C := RX2) (T := TX2) (N := 13) hx hb hts (fun w h => List.mem_cons_of_mem _ (List.mem_append_left _ (List.mem_append_left _ (List.mem_append_right _ h)))) hown hK hP 22 rfl rfl 3 (by decide) (hts (.fieldLink RX2 35 "DeltaWindows$Decoder" "whole" "LDeltaWindows$Reader;") (List.mem_of_getElem? (i := 1) rfl)) (fun _ h9 => h9) rfl dX2_readParts_154 ?_
              refine lv_iload hx hb dX2_readParts_157 (lv_at hl 0 rfl) ?_
              refine lv_lload hx hb dX2_readParts_159 (lv_at hl 1 rfl) ?_
              refine lv_l2i (v := ((R4.1.toInt64 + R6.1.toInt64) + R8.1.toInt64).toInt32) hx hb dX2_readParts_161 rfl ?_
              refine lv_iadd hx hb dX2_readParts_162 ?_
              refine lv_sipush (v := (1000 : Int32)) hx hb dX2_readParts_163 (by decide) ?_
              obtain ⟨R27, hc28, hf⟩ := b_inv hf
              have hk := kcut (wc := (wD (q 36) (q 5) (q 6) (cA 2) 1000 R8.2 (sc 22) (ar 2) (sc 2))) (wc' := (wD (q 36) (q 5) (q 6) (cA 2) 1000 R27.1 R27.2 (ar 2) (sc 2))) (wf := (wX q cA (va_up (va_up (va_up (va_up (va_up (va_up (va_up (va_up (va_up (va_up (va_up (va_up sc 21 R1.2) 21 R4.2) 21 R6.2) 21 R8.2) 23 R21.1) 24 R21.2) 25 R23.1) 26 R23.2) 27 R25.1) 28 R25.2) 21 R27.1) 22 R27.2) ar sg)) hP hD hS hA [36, 5, 6] rfl (by decide) rfl rfl
              refine k_goV (va_runV (As := [.int (R19 + ((R4.1.toInt64 + R6.1.toInt64) + R8.1.toInt64).toInt32), .int (1000 : Int32)]) (rest := []) ⟨hx, hb, hml, hown, hts⟩ (kX5_open l D (q 36) (q 5) (q 6) (cA 2) 1000 R8.2 (sc 22) (ar 2) (sc 2) (R19 + ((R4.1.toInt64 + R6.1.toInt64) + R8.1.toInt64).toInt32) (1000 : Int32) hc28 _) (cwV 2 hts gX2_readParts_X5_open rfl rfl rfl (by decide +kernel) ⟨Nat.le_of_ble_eq_true rfl, Nat.le_of_ble_eq_true rfl⟩) (k_preV (q0 := 0) (ci := 4) hk (hK.sub [2] rfl) NR_bl (fun U _ hW => NR_w hW hN.1) rfl rfl rfl) rfl rfl hl.1 rfl (lv_room (Nat.le_of_ble_eq_true rfl)) dX2_readParts_166 ⟨Nat.zero_le _, Nat.zero_le _⟩) hk hS (fun H locs hP hD hS => ?_)
              refine lv_iconst (v := (1 : Int32)) hx hb dX2_readParts_169 (by decide) ?_
              obtain rfl := Option.some.inj hf
              exact k_retZ hx hb hr hlocks hP hS rfl dX2_readParts_170
            · rw [if_neg c18] at hf
              refine lv_iconst (v := (0 : Int32)) hx hb dX2_readParts_103 (by decide) ?_
              obtain rfl := Option.some.inj hf
              exact k_retZ hx hb hr hlocks hP hS rfl dX2_readParts_104
        · rw [if_pos c12] at hf
          refine lv_iconst (v := (0 : Int32)) hx hb dX2_readParts_55 (by decide) ?_
          obtain rfl := Option.some.inj hf
          exact k_retZ hx hb hr hlocks hP hS rfl dX2_readParts_56
  · rw [if_neg c3] at hf
    refine lv_iconst (v := (0 : Int32)) hx hb dX2_readParts_10 (by decide) ?_
    obtain rfl := Option.some.inj hf
    exact k_retZ hx hb hr hlocks hP hS rfl dX2_readParts_11

noncomputable def fX2_readSegment (sc : Nat → Int32) (ar : Nat → Nat → Int32) (sg : Bool) : Option (Int32 × (Nat → Int32) × Bool) :=
  (fX5_nextByte 1000 (sc 21) (sc 22) (ar 2) (sc 2)).bind fun R1 =>
  if R1.1 = (2 : Int32) then
    if R1.1 = 0 then
      some ((1 : Int32), (va_up (va_up (va_up sc 21 R1.2) 13 (0 : Int32)) 14 (0 : Int32)), true)
    else
      if R1.1 = (1 : Int32) then
        (fX5_nextInteger 1000 R1.2 (sc 22) (ar 2) (sc 2)).bind fun R36 =>
        (fX5_nextInteger 1000 R36.2 (sc 22) (ar 2) (sc 2)).bind fun R38 =>
        if R36.1 = (-1 : Int32) then
          some ((0 : Int32), (va_up (va_up (va_up (va_up (va_up sc 21 R1.2) 13 (0 : Int32)) 14 (0 : Int32)) 21 R36.2) 21 R38.2), true)
        else
          if R38.1 = (-1 : Int32) then
            some ((0 : Int32), (va_up (va_up (va_up (va_up (va_up sc 21 R1.2) 13 (0 : Int32)) 14 (0 : Int32)) 21 R36.2) 21 R38.2), true)
          else
            if true = true then
              (fX6_count 400 (ar 9) (sc 9)).bind fun R43 =>
              if (lg_cmp (R38.1.toInt64 + R36.1.toInt64) R43.toInt64) ≤ 0 then
                some ((1 : Int32), (va_up (va_up (va_up (va_up (va_up (va_up (va_up sc 21 R1.2) 13 (0 : Int32)) 14 (0 : Int32)) 21 R36.2) 21 R38.2) 13 R38.1) 14 R36.1), true)
              else
                some ((0 : Int32), (va_up (va_up (va_up (va_up (va_up sc 21 R1.2) 13 (0 : Int32)) 14 (0 : Int32)) 21 R36.2) 21 R38.2), true)
            else
              (fX6_count 48 (ar 0) (sc 0)).bind fun R46 =>
              if (lg_cmp (R38.1.toInt64 + R36.1.toInt64) R46.toInt64) ≤ 0 then
                some ((1 : Int32), (va_up (va_up (va_up (va_up (va_up (va_up (va_up sc 21 R1.2) 13 (0 : Int32)) 14 (0 : Int32)) 21 R36.2) 21 R38.2) 13 R38.1) 14 R36.1), true)
              else
                some ((0 : Int32), (va_up (va_up (va_up (va_up (va_up sc 21 R1.2) 13 (0 : Int32)) 14 (0 : Int32)) 21 R36.2) 21 R38.2), true)
      else
        if R1.1 = (2 : Int32) then
          (fX5_nextInteger 1000 R1.2 (sc 22) (ar 2) (sc 2)).bind fun R50 =>
          (fX5_nextInteger 1000 R50.2 (sc 22) (ar 2) (sc 2)).bind fun R52 =>
          if R50.1 = (-1 : Int32) then
            some ((0 : Int32), (va_up (va_up (va_up (va_up (va_up sc 21 R1.2) 13 (0 : Int32)) 14 (0 : Int32)) 21 R50.2) 21 R52.2), true)
          else
            if R52.1 = (-1 : Int32) then
              some ((0 : Int32), (va_up (va_up (va_up (va_up (va_up sc 21 R1.2) 13 (0 : Int32)) 14 (0 : Int32)) 21 R50.2) 21 R52.2), true)
            else
              if true = true then
                (fX6_count 400 (ar 9) (sc 9)).bind fun R57 =>
                if (lg_cmp (R52.1.toInt64 + R50.1.toInt64) R57.toInt64) ≤ 0 then
                  some ((1 : Int32), (va_up (va_up (va_up (va_up (va_up (va_up (va_up sc 21 R1.2) 13 (0 : Int32)) 14 (0 : Int32)) 21 R50.2) 21 R52.2) 13 R52.1) 14 R50.1), true)
                else
                  some ((0 : Int32), (va_up (va_up (va_up (va_up (va_up sc 21 R1.2) 13 (0 : Int32)) 14 (0 : Int32)) 21 R50.2) 21 R52.2), true)
              else
                (fX6_count 48 (ar 0) (sc 0)).bind fun R60 =>
                if (lg_cmp (R52.1.toInt64 + R50.1.toInt64) R60.toInt64) ≤ 0 then
                  some ((1 : Int32), (va_up (va_up (va_up (va_up (va_up (va_up (va_up sc 21 R1.2) 13 (0 : Int32)) 14 (0 : Int32)) 21 R50.2) 21 R52.2) 13 R52.1) 14 R50.1), true)
                else
                  some ((0 : Int32), (va_up (va_up (va_up (va_up (va_up sc 21 R1.2) 13 (0 : Int32)) 14 (0 : Int32)) 21 R50.2) 21 R52.2), true)
        else
          some ((0 : Int32), (va_up (va_up (va_up sc 21 R1.2) 13 (0 : Int32)) 14 (0 : Int32)), true)
  else
    if R1.1 = 0 then
      some ((1 : Int32), (va_up (va_up (va_up sc 21 R1.2) 13 (0 : Int32)) 14 (0 : Int32)), false)
    else
      if R1.1 = (1 : Int32) then
        (fX5_nextInteger 1000 R1.2 (sc 22) (ar 2) (sc 2)).bind fun R7 =>
        (fX5_nextInteger 1000 R7.2 (sc 22) (ar 2) (sc 2)).bind fun R9 =>
        if R7.1 = (-1 : Int32) then
          some ((0 : Int32), (va_up (va_up (va_up (va_up (va_up sc 21 R1.2) 13 (0 : Int32)) 14 (0 : Int32)) 21 R7.2) 21 R9.2), false)
        else
          if R9.1 = (-1 : Int32) then
            some ((0 : Int32), (va_up (va_up (va_up (va_up (va_up sc 21 R1.2) 13 (0 : Int32)) 14 (0 : Int32)) 21 R7.2) 21 R9.2), false)
          else
            if false = true then
              (fX6_count 400 (ar 9) (sc 9)).bind fun R14 =>
              if (lg_cmp (R9.1.toInt64 + R7.1.toInt64) R14.toInt64) ≤ 0 then
                some ((1 : Int32), (va_up (va_up (va_up (va_up (va_up (va_up (va_up sc 21 R1.2) 13 (0 : Int32)) 14 (0 : Int32)) 21 R7.2) 21 R9.2) 13 R9.1) 14 R7.1), false)
              else
                some ((0 : Int32), (va_up (va_up (va_up (va_up (va_up sc 21 R1.2) 13 (0 : Int32)) 14 (0 : Int32)) 21 R7.2) 21 R9.2), false)
            else
              (fX6_count 48 (ar 0) (sc 0)).bind fun R17 =>
              if (lg_cmp (R9.1.toInt64 + R7.1.toInt64) R17.toInt64) ≤ 0 then
                some ((1 : Int32), (va_up (va_up (va_up (va_up (va_up (va_up (va_up sc 21 R1.2) 13 (0 : Int32)) 14 (0 : Int32)) 21 R7.2) 21 R9.2) 13 R9.1) 14 R7.1), false)
              else
                some ((0 : Int32), (va_up (va_up (va_up (va_up (va_up sc 21 R1.2) 13 (0 : Int32)) 14 (0 : Int32)) 21 R7.2) 21 R9.2), false)
      else
        if R1.1 = (2 : Int32) then
          (fX5_nextInteger 1000 R1.2 (sc 22) (ar 2) (sc 2)).bind fun R21 =>
          (fX5_nextInteger 1000 R21.2 (sc 22) (ar 2) (sc 2)).bind fun R23 =>
          if R21.1 = (-1 : Int32) then
            some ((0 : Int32), (va_up (va_up (va_up (va_up (va_up sc 21 R1.2) 13 (0 : Int32)) 14 (0 : Int32)) 21 R21.2) 21 R23.2), false)
          else
            if R23.1 = (-1 : Int32) then
              some ((0 : Int32), (va_up (va_up (va_up (va_up (va_up sc 21 R1.2) 13 (0 : Int32)) 14 (0 : Int32)) 21 R21.2) 21 R23.2), false)
            else
              if false = true then
                (fX6_count 400 (ar 9) (sc 9)).bind fun R28 =>
                if (lg_cmp (R23.1.toInt64 + R21.1.toInt64) R28.toInt64) ≤ 0 then
                  some ((1 : Int32), (va_up (va_up (va_up (va_up (va_up (va_up (va_up sc 21 R1.2) 13 (0 : Int32)) 14 (0 : Int32)) 21 R21.2) 21 R23.2) 13 R23.1) 14 R21.1), false)
                else
                  some ((0 : Int32), (va_up (va_up (va_up (va_up (va_up sc 21 R1.2) 13 (0 : Int32)) 14 (0 : Int32)) 21 R21.2) 21 R23.2), false)
              else
                (fX6_count 48 (ar 0) (sc 0)).bind fun R31 =>
                if (lg_cmp (R23.1.toInt64 + R21.1.toInt64) R31.toInt64) ≤ 0 then
                  some ((1 : Int32), (va_up (va_up (va_up (va_up (va_up (va_up (va_up sc 21 R1.2) 13 (0 : Int32)) 14 (0 : Int32)) 21 R21.2) 21 R23.2) 13 R23.1) 14 R21.1), false)
                else
                  some ((0 : Int32), (va_up (va_up (va_up (va_up (va_up sc 21 R1.2) 13 (0 : Int32)) 14 (0 : Int32)) 21 R21.2) 21 R23.2), false)
        else
          some ((0 : Int32), (va_up (va_up (va_up sc 21 R1.2) 13 (0 : Int32)) 14 (0 : Int32)), false)

set_option maxHeartbeats 4000000 in
set_option maxRecDepth 100000 in
theorem kX2_readSegment (l : Launch) (D : va_G) (q : Nat → Nat) (cA : Nat → ClassId) (sc : Nat → Int32) (ar : Nat → Nat → Int32) (sg : Bool) {R : Int32 × (Nat → Int32) × Bool} (hf : fX2_readSegment sc ar sg = some R) : MI l yX2_readSegment wsX2_readSegment (rmD 2) D ([.ref (q 22)] : List Value) (wX q cA sc ar sg) (tX cA) NX R.1 (wX q cA R.2.1 ar R.2.2) := by
  refine MI.mk (cc := cX2_readSegment) (maxL := 4) (ret := (some .boolean)) (by first | decide | decide +kernel) rfl (Nat.le_of_ble_eq_true rfl) ?_
  intro p e s m below meth cd A ls hE
  obtain ⟨hx, hb, hr, hml, hts, hown, hlocks, hP, hK, hD, hA, hN, hAe, hl⟩ := hE
  have hown : s.vm.findClass RX2 = some m.cls := hown
  have hS : va_S A s.heap s.heap [] := va_S.rf
  have hl : lv_has ls 4 [(0, .ref (q 22))] := hl
  rw [fX2_readSegment] at hf
  refine lv_aload_n hx hb dX2_readSegment_0 rfl (lv_at hl 0 rfl) ?_
  refine va_get (D := D) (ci := 1) (v := .ref (q 36)) (C := RX2) (T := TX2) (N := 13) hx hb hts (fun w h => List.mem_cons_of_mem _ (List.mem_append_left _ (List.mem_append_left _ (List.mem_append_right _ h)))) hown hK hP 22 rfl rfl 3 (by decide) (hts (.fieldLink RX2 35 "DeltaWindows$Decoder" "whole" "LDeltaWindows$Reader;") (List.mem_of_getElem? (i := 1) rfl)) (fun _ h9 => h9) rfl dX2_readSegment_1 ?_
  obtain ⟨R1, hc2, hf⟩ := b_inv hf
  have hk := kcut (wc := (wD (q 36) (q 5) (q 6) (cA 2) 1000 (sc 21) (sc 22) (ar 2) (sc 2))) (wc' := (wD (q 36) (q 5) (q 6) (cA 2) 1000 R1.2 (sc 22) (ar 2) (sc 2))) (wf := (wX q cA (va_up sc 21 R1.2) ar sg)) hP hD hS hA [36, 5, 6] rfl (by decide) rfl rfl
  refine k_goI (va_runV (As := []) (rest := []) ⟨hx, hb, hml, hown, hts⟩ (kX5_nextByte l D (q 36) (q 5) (q 6) (cA 2) 1000 (sc 21) (sc 22) (ar 2) (sc 2) hc2 _) (cwV 0 hts gX2_readSegment_X5_nextByte rfl rfl rfl (by decide +kernel) ⟨Nat.le_of_ble_eq_true rfl, Nat.le_of_ble_eq_true rfl⟩) (k_preV (q0 := 0) (ci := 4) hk (hK.sub [2] rfl) NR_bl (fun U _ hW => NR_w hW hN.1) rfl rfl rfl) rfl rfl hl.1 rfl (lv_room (Nat.le_of_ble_eq_true rfl)) dX2_readSegment_4 ⟨Nat.zero_le _, Nat.zero_le _⟩) hk hS (fun H locs hP hD hS => ?_)
  refine lv_istore_n (lv' := [(1, .int R1.1), (0, .ref (q 22))]) hx hb dX2_readSegment_7 rfl hl (by decide) rfl (fun ls hl => ?_)
  refine lv_aload_n hx hb dX2_readSegment_8 rfl (lv_at hl 1 rfl) ?_
  refine lv_iload_n hx hb dX2_readSegment_9 rfl (lv_at hl 0 rfl) ?_
  refine lv_iconst (v := (2 : Int32)) hx hb dX2_readSegment_10 (by decide) ?_
  refine lv_icmp_ne (tgt := 21) hx hb dX2_readSegment_11 (by decide) (fun c3 => ?_) (fun c3 => ?_)
  · rw [if_neg c3] at hf
    refine lv_aload_n hx hb dX2_readSegment_21 rfl (lv_at hl 1 rfl) ?_
    refine va_get (D := D) (ci := 1) (v := .ref (q 1)) (C := RX2) (T := TX2) (N := 13) hx hb hts (fun w h => List.mem_cons_of_mem _ (List.mem_append_left _ (List.mem_append_left _ (List.mem_append_right _ h)))) hown hK hP 22 rfl rfl 0 (by decide) (hts (.fieldLink RX2 9 "DeltaWindows$Decoder" "source" "LDeltaWindows$Row;") (List.mem_of_getElem? (i := 3) rfl)) (fun _ h9 => h9) rfl dX2_readSegment_22 ?_
    refine va_put (D := D) (ci := 1) (v := .ref (q 1)) (ty := .object "DeltaWindows$Row") (C := RX2) (T := TX2) (N := 13) hx hb hts (fun w h => List.mem_cons_of_mem _ (List.mem_append_left _ (List.mem_append_left _ (List.mem_append_right _ h)))) tyX2 tyX2_ok nmX2 hown hK hP hD hS 22 rfl rfl 8 (by decide) (hts (.fieldLink RX2 52 "DeltaWindows$Decoder" "segment" "LDeltaWindows$Row;") (List.mem_of_getElem? (i := 4) rfl)) (fun _ h9 => h9) rfl (by decide +kernel) rfl rfl (Nat.le_of_ble_eq_true rfl) dX2_readSegment_25 (fun H locs hP hD hS => ?_)
    have hP : va_P D vwCl (wX q cA (va_up sc 21 R1.2) ar false) H := hP
    have hD : va_D A (wX q cA (va_up sc 21 R1.2) ar false) := hD
    refine lv_aload_n hx hb dX2_readSegment_28 rfl (lv_at hl 1 rfl) ?_
    refine lv_iconst (v := (0 : Int32)) hx hb dX2_readSegment_29 (by decide) ?_
    refine va_put (D := D) (ci := 1) (v := .int (0 : Int32)) (ty := .int) (C := RX2) (T := TX2) (N := 13) hx hb hts (fun w h => List.mem_cons_of_mem _ (List.mem_append_left _ (List.mem_append_left _ (List.mem_append_right _ h)))) tyX2 tyX2_ok nmX2 hown hK hP hD hS 22 rfl rfl 9 (by decide) (hts (.fieldLink RX2 55 "DeltaWindows$Decoder" "segmentPlace" "I") (List.mem_of_getElem? (i := 5) rfl)) (fun _ h9 => h9) rfl (by decide +kernel) rfl rfl (Nat.le_of_ble_eq_true rfl) dX2_readSegment_30 (fun H locs hP hD hS => ?_)
    have hP : va_P D vwCl (wX q cA (va_up (va_up sc 21 R1.2) 13 (0 : Int32)) ar false) H := hP
    have hD : va_D A (wX q cA (va_up (va_up sc 21 R1.2) 13 (0 : Int32)) ar false) := hD
    refine lv_aload_n hx hb dX2_readSegment_33 rfl (lv_at hl 1 rfl) ?_
    refine lv_iconst (v := (0 : Int32)) hx hb dX2_readSegment_34 (by decide) ?_
    refine va_put (D := D) (ci := 1) (v := .int (0 : Int32)) (ty := .int) (C := RX2) (T := TX2) (N := 13) hx hb hts (fun w h => List.mem_cons_of_mem _ (List.mem_append_left _ (List.mem_append_left _ (List.mem_append_right _ h)))) tyX2 tyX2_ok nmX2 hown hK hP hD hS 22 rfl rfl 10 (by decide) (hts (.fieldLink RX2 58 "DeltaWindows$Decoder" "segmentSize" "I") (List.mem_of_getElem? (i := 6) rfl)) (fun _ h9 => h9) rfl (by decide +kernel) rfl rfl (Nat.le_of_ble_eq_true rfl) dX2_readSegment_35 (fun H locs hP hD hS => ?_)
    have hP : va_P D vwCl (wX q cA (va_up (va_up (va_up sc 21 R1.2) 13 (0 : Int32)) 14 (0 : Int32)) ar false) H := hP
    have hD : va_D A (wX q cA (va_up (va_up (va_up sc 21 R1.2) 13 (0 : Int32)) 14 (0 : Int32)) ar false) := hD
    refine lv_iload_n hx hb dX2_readSegment_38 rfl (lv_at hl 0 rfl) ?_
    refine lv_if_ne (tgt := 44) hx hb dX2_readSegment_39 (by decide) (fun c5 => ?_) (fun c5 => ?_)
    · rw [if_neg c5] at hf
      refine lv_iload_n hx hb dX2_readSegment_44 rfl (lv_at hl 0 rfl) ?_
      refine lv_iconst (v := (1 : Int32)) hx hb dX2_readSegment_45 (by decide) ?_
      refine lv_icmp_eq (tgt := 56) hx hb dX2_readSegment_46 (by decide) (fun c6 => ?_) (fun c6 => ?_)
      · rw [if_pos c6] at hf
        refine lv_aload_n hx hb dX2_readSegment_56 rfl (lv_at hl 1 rfl) ?_
        refine va_get (D := D) (ci := 1) (v := .ref (q 36)) (C := RX2) (T := TX2) (N := 13) hx hb hts (fun w h => List.mem_cons_of_mem _ (List.mem_append_left _ (List.mem_append_left _ (List.mem_append_right _ h)))) hown hK hP 22 rfl rfl 3 (by decide) (hts (.fieldLink RX2 35 "DeltaWindows$Decoder" "whole" "LDeltaWindows$Reader;") (List.mem_of_getElem? (i := 1) rfl)) (fun _ h9 => h9) rfl dX2_readSegment_57 ?_
        obtain ⟨R7, hc8, hf⟩ := b_inv hf
        have hk := kcut (wc := (wD (q 36) (q 5) (q 6) (cA 2) 1000 R1.2 (sc 22) (ar 2) (sc 2))) (wc' := (wD (q 36) (q 5) (q 6) (cA 2) 1000 R7.2 (sc 22) (ar 2) (sc 2))) (wf := (wX q cA (va_up (va_up (va_up (va_up sc 21 R1.2) 13 (0 : Int32)) 14 (0 : Int32)) 21 R7.2) ar false)) hP hD hS hA [36, 5, 6] rfl (by decide) rfl rfl
        refine k_goI (va_runV (As := []) (rest := []) ⟨hx, hb, hml, hown, hts⟩ (kX5_nextInteger l D (q 36) (q 5) (q 6) (cA 2) 1000 R1.2 (sc 22) (ar 2) (sc 2) hc8 _) (cwV 0 hts gX2_readSegment_X5_nextInteger rfl rfl rfl (by decide +kernel) ⟨Nat.le_of_ble_eq_true rfl, Nat.le_of_ble_eq_true rfl⟩) (k_preV (q0 := 0) (ci := 4) hk (hK.sub [2] rfl) NR_bl (fun U _ hW => NR_w hW hN.1) rfl rfl rfl) rfl rfl hl.1 rfl (lv_room (Nat.le_of_ble_eq_true rfl)) dX2_readSegment_60 ⟨Nat.zero_le _, Nat.zero_le _⟩) hk hS (fun H locs hP hD hS => ?_)
        refine lv_istore_n (lv' := [(2, .int R7.1), (1, .int R1.1), (0, .ref (q 22))]) hx hb dX2_readSegment_63 rfl hl (by decide) rfl (fun ls hl => ?_)
        refine lv_aload_n hx hb dX2_readSegment_64 rfl (lv_at hl 2 rfl) ?_
        refine va_get (D := D) (ci := 1) (v := .ref (q 36)) (C := RX2) (T := TX2) (N := 13) hx hb hts (fun w h => List.mem_cons_of_mem _ (List.mem_append_left _ (List.mem_append_left _ (List.mem_append_right _ h)))) hown hK hP 22 rfl rfl 3 (by decide) (hts (.fieldLink RX2 35 "DeltaWindows$Decoder" "whole" "LDeltaWindows$Reader;") (List.mem_of_getElem? (i := 1) rfl)) (fun _ h9 => h9) rfl dX2_readSegment_65 ?_
        obtain ⟨R9, hc10, hf⟩ := b_inv hf
        have hk := kcut (wc := (wD (q 36) (q 5) (q 6) (cA 2) 1000 R7.2 (sc 22) (ar 2) (sc 2))) (wc' := (wD (q 36) (q 5) (q 6) (cA 2) 1000 R9.2 (sc 22) (ar 2) (sc 2))) (wf := (wX q cA (va_up (va_up (va_up (va_up (va_up sc 21 R1.2) 13 (0 : Int32)) 14 (0 : Int32)) 21 R7.2) 21 R9.2) ar false)) hP hD hS hA [36, 5, 6] rfl (by decide) rfl rfl
        refine k_goI (va_runV (As := []) (rest := []) ⟨hx, hb, hml, hown, hts⟩ (kX5_nextInteger l D (q 36) (q 5) (q 6) (cA 2) 1000 R7.2 (sc 22) (ar 2) (sc 2) hc10 _) (cwV 0 hts gX2_readSegment_X5_nextInteger rfl rfl rfl (by decide +kernel) ⟨Nat.le_of_ble_eq_true rfl, Nat.le_of_ble_eq_true rfl⟩) (k_preV (q0 := 0) (ci := 4) hk (hK.sub [2] rfl) NR_bl (fun U _ hW => NR_w hW hN.1) rfl rfl rfl) rfl rfl hl.1 rfl (lv_room (Nat.le_of_ble_eq_true rfl)) dX2_readSegment_68 ⟨Nat.zero_le _, Nat.zero_le _⟩) hk hS (fun H locs hP hD hS => ?_)
        refine lv_istore_n (lv' := [(3, .int R9.1), (2, .int R7.1), (1, .int R1.1), (0, .ref (q 22))]) hx hb dX2_readSegment_71 rfl hl (by decide) rfl (fun ls hl => ?_)
        refine lv_iload_n hx hb dX2_readSegment_72 rfl (lv_at hl 1 rfl) ?_
        refine lv_iconst (v := (-1 : Int32)) hx hb dX2_readSegment_73 (by decide) ?_
        refine lv_icmp_eq (tgt := 99) hx hb dX2_readSegment_74 (by decide) (fun c11 => ?_) (fun c11 => ?_)
        · rw [if_pos c11] at hf
          refine lv_iconst (v := (0 : Int32)) hx hb dX2_readSegment_99 (by decide) ?_
          obtain rfl := Option.some.inj hf
          exact k_retZ hx hb hr hlocks hP hS rfl dX2_readSegment_100
        · rw [if_neg c11] at hf
          refine lv_iload_n hx hb dX2_readSegment_77 rfl (lv_at hl 0 rfl) ?_
          refine lv_iconst (v := (-1 : Int32)) hx hb dX2_readSegment_78 (by decide) ?_
          refine lv_icmp_eq (tgt := 99) hx hb dX2_readSegment_79 (by decide) (fun c12 => ?_) (fun c12 => ?_)
          · rw [if_pos c12] at hf
            refine lv_iconst (v := (0 : Int32)) hx hb dX2_readSegment_99 (by decide) ?_
            obtain rfl := Option.some.inj hf
            exact k_retZ hx hb hr hlocks hP hS rfl dX2_readSegment_100
          · rw [if_neg c12] at hf
            refine lv_iload_n hx hb dX2_readSegment_82 rfl (lv_at hl 0 rfl) ?_
            refine lv_i2l (v := R9.1.toInt64) hx hb dX2_readSegment_83 rfl ?_
            refine lv_iload_n hx hb dX2_readSegment_84 rfl (lv_at hl 1 rfl) ?_
            refine lv_i2l (v := R7.1.toInt64) hx hb dX2_readSegment_85 rfl ?_
            refine lv_ladd hx hb dX2_readSegment_86 ?_
            refine lv_aload_n hx hb dX2_readSegment_87 rfl (lv_at hl 3 rfl) ?_
            refine va_get (D := D) (ci := 1) (v := .ref (bif false then q 19 else q 1)) (C := RX2) (T := TX2) (N := 13) hx hb hts (fun w h => List.mem_cons_of_mem _ (List.mem_append_left _ (List.mem_append_left _ (List.mem_append_right _ h)))) hown hK hP 22 rfl rfl 8 (by decide) (hts (.fieldLink RX2 52 "DeltaWindows$Decoder" "segment" "LDeltaWindows$Row;") (List.mem_of_getElem? (i := 4) rfl)) (fun _ h9 => h9) rfl dX2_readSegment_88 ?_
            by_cases c13 : false = true
            · rw [if_pos c13] at hf
              refine W.eq (g2 := F0 m 91 ls [.ref (q 19), .long (R9.1.toInt64 + R7.1.toInt64)]) (by rw [c13]; rfl) ?_
              obtain ⟨R14, hc15, hf⟩ := b_inv hf
              have hk := kcut (wc := (wR (q 19) (q 20) (cA 9) 400 (ar 9) (sc 9))) (wc' := (wR (q 19) (q 20) (cA 9) 400 (ar 9) (sc 9))) (wf := (wX q cA (va_up (va_up (va_up (va_up (va_up sc 21 R1.2) 13 (0 : Int32)) 14 (0 : Int32)) 21 R7.2) 21 R9.2) ar false)) hP hD hS hA [19, 20] rfl (by decide) rfl rfl
              refine k_goI (va_runV (As := []) (rest := [.long (R9.1.toInt64 + R7.1.toInt64)]) ⟨hx, hb, hml, hown, hts⟩ (kX6_count l D (q 19) (q 20) (cA 9) 400 (ar 9) (sc 9) hc15 _) (cwV 0 hts gX2_readSegment_X6_count rfl rfl rfl (by decide +kernel) ⟨Nat.le_of_ble_eq_true rfl, Nat.le_of_ble_eq_true rfl⟩) (k_preV (q0 := 0) (ci := 5) hk (hK.sub [9] rfl) NT_bl NT_u rfl rfl rfl) rfl rfl hl.1 rfl (lv_room (Nat.le_of_ble_eq_true rfl)) dX2_readSegment_91 ⟨Nat.zero_le _, Nat.zero_le _⟩) hk hS (fun H locs hP hD hS => ?_)
              refine lv_i2l (v := R14.toInt64) hx hb dX2_readSegment_94 rfl ?_
              refine W.lcmp hx hb dX2_readSegment_95 ?_
              refine lv_if_le (tgt := 101) hx hb dX2_readSegment_96 (by decide) (fun c16 => ?_) (fun c16 => ?_)
              · rw [if_pos c16] at hf
                refine lv_aload_n hx hb dX2_readSegment_101 rfl (lv_at hl 3 rfl) ?_
                refine lv_iload_n hx hb dX2_readSegment_102 rfl (lv_at hl 0 rfl) ?_
                refine va_put (D := D) (ci := 1) (v := .int R9.1) (ty := .int) (C := RX2) (T := TX2) (N := 13) hx hb hts (fun w h => List.mem_cons_of_mem _ (List.mem_append_left _ (List.mem_append_left _ (List.mem_append_right _ h)))) tyX2 tyX2_ok nmX2 hown hK hP hD hS 22 rfl rfl 9 (by decide) (hts (.fieldLink RX2 55 "DeltaWindows$Decoder" "segmentPlace" "I") (List.mem_of_getElem? (i := 5) rfl)) (fun _ h9 => h9) rfl (by decide +kernel) rfl rfl (Nat.le_of_ble_eq_true rfl) dX2_readSegment_103 (fun H locs hP hD hS => ?_)
                have hP : va_P D vwCl (wX q cA (va_up (va_up (va_up (va_up (va_up (va_up sc 21 R1.2) 13 (0 : Int32)) 14 (0 : Int32)) 21 R7.2) 21 R9.2) 13 R9.1) ar false) H := hP
                have hD : va_D A (wX q cA (va_up (va_up (va_up (va_up (va_up (va_up sc 21 R1.2) 13 (0 : Int32)) 14 (0 : Int32)) 21 R7.2) 21 R9.2) 13 R9.1) ar false) := hD
                refine lv_aload_n hx hb dX2_readSegment_106 rfl (lv_at hl 3 rfl) ?_
                refine lv_iload_n hx hb dX2_readSegment_107 rfl (lv_at hl 1 rfl) ?_
                refine va_put (D := D) (ci := 1) (v := .int R7.1) (ty := .int) (C := RX2) (T := TX2) (N := 13) hx hb hts (fun w h => List.mem_cons_of_mem _ (List.mem_append_left _ (List.mem_append_left _ (List.mem_append_right _ h)))) tyX2 tyX2_ok nmX2 hown hK hP hD hS 22 rfl rfl 10 (by decide) (hts (.fieldLink RX2 58 "DeltaWindows$Decoder" "segmentSize" "I") (List.mem_of_getElem? (i := 6) rfl)) (fun _ h9 => h9) rfl (by decide +kernel) rfl rfl (Nat.le_of_ble_eq_true rfl) dX2_readSegment_108 (fun H locs hP hD hS => ?_)
                have hP : va_P D vwCl (wX q cA (va_up (va_up (va_up (va_up (va_up (va_up (va_up sc 21 R1.2) 13 (0 : Int32)) 14 (0 : Int32)) 21 R7.2) 21 R9.2) 13 R9.1) 14 R7.1) ar false) H := hP
                have hD : va_D A (wX q cA (va_up (va_up (va_up (va_up (va_up (va_up (va_up sc 21 R1.2) 13 (0 : Int32)) 14 (0 : Int32)) 21 R7.2) 21 R9.2) 13 R9.1) 14 R7.1) ar false) := hD
                refine lv_iconst (v := (1 : Int32)) hx hb dX2_readSegment_111 (by decide) ?_
                obtain rfl := Option.some.inj hf
                exact k_retZ hx hb hr hlocks hP hS rfl dX2_readSegment_112
              · rw [if_neg c16] at hf
                refine lv_iconst (v := (0 : Int32)) hx hb dX2_readSegment_99 (by decide) ?_
                obtain rfl := Option.some.inj hf
                exact k_retZ hx hb hr hlocks hP hS rfl dX2_readSegment_100
            · rw [if_neg c13] at hf
              refine W.eq (g2 := F0 m 91 ls [.ref (q 1), .long (R9.1.toInt64 + R7.1.toInt64)]) (by rw [(Bool.not_eq_true _).mp c13]; rfl) ?_
              obtain ⟨R17, hc18, hf⟩ := b_inv hf
              have hk := kcut (wc := (wR (q 1) (q 2) (cA 0) 48 (ar 0) (sc 0))) (wc' := (wR (q 1) (q 2) (cA 0) 48 (ar 0) (sc 0))) (wf := (wX q cA (va_up (va_up (va_up (va_up (va_up sc 21 R1.2) 13 (0 : Int32)) 14 (0 : Int32)) 21 R7.2) 21 R9.2) ar false)) hP hD hS hA [1, 2] rfl (by decide) rfl rfl
              refine k_goI (va_runV (As := []) (rest := [.long (R9.1.toInt64 + R7.1.toInt64)]) ⟨hx, hb, hml, hown, hts⟩ (kX6_count l D (q 1) (q 2) (cA 0) 48 (ar 0) (sc 0) hc18 _) (cwV 0 hts gX2_readSegment_X6_count rfl rfl rfl (by decide +kernel) ⟨Nat.le_of_ble_eq_true rfl, Nat.le_of_ble_eq_true rfl⟩) (k_preV (q0 := 0) (ci := 5) hk (hK.sub [0] rfl) NT_bl NT_u rfl rfl rfl) rfl rfl hl.1 rfl (lv_room (Nat.le_of_ble_eq_true rfl)) dX2_readSegment_91 ⟨Nat.zero_le _, Nat.zero_le _⟩) hk hS (fun H locs hP hD hS => ?_)
              refine lv_i2l (v := R17.toInt64) hx hb dX2_readSegment_94 rfl ?_
              refine W.lcmp hx hb dX2_readSegment_95 ?_
              refine lv_if_le (tgt := 101) hx hb dX2_readSegment_96 (by decide) (fun c19 => ?_) (fun c19 => ?_)
              · rw [if_pos c19] at hf
                refine lv_aload_n hx hb dX2_readSegment_101 rfl (lv_at hl 3 rfl) ?_
                refine lv_iload_n hx hb dX2_readSegment_102 rfl (lv_at hl 0 rfl) ?_
                refine va_put (D := D) (ci := 1) (v := .int R9.1) (ty := .int) (C := RX2) (T := TX2) (N := 13) hx hb hts (fun w h => List.mem_cons_of_mem _ (List.mem_append_left _ (List.mem_append_left _ (List.mem_append_right _ h)))) tyX2 tyX2_ok nmX2 hown hK hP hD hS 22 rfl rfl 9 (by decide) (hts (.fieldLink RX2 55 "DeltaWindows$Decoder" "segmentPlace" "I") (List.mem_of_getElem? (i := 5) rfl)) (fun _ h9 => h9) rfl (by decide +kernel) rfl rfl (Nat.le_of_ble_eq_true rfl) dX2_readSegment_103 (fun H locs hP hD hS => ?_)
                have hP : va_P D vwCl (wX q cA (va_up (va_up (va_up (va_up (va_up (va_up sc 21 R1.2) 13 (0 : Int32)) 14 (0 : Int32)) 21 R7.2) 21 R9.2) 13 R9.1) ar false) H := hP
                have hD : va_D A (wX q cA (va_up (va_up (va_up (va_up (va_up (va_up sc 21 R1.2) 13 (0 : Int32)) 14 (0 : Int32)) 21 R7.2) 21 R9.2) 13 R9.1) ar false) := hD
                refine lv_aload_n hx hb dX2_readSegment_106 rfl (lv_at hl 3 rfl) ?_
                refine lv_iload_n hx hb dX2_readSegment_107 rfl (lv_at hl 1 rfl) ?_
                refine va_put (D := D) (ci := 1) (v := .int R7.1) (ty := .int) (C := RX2) (T := TX2) (N := 13) hx hb hts (fun w h => List.mem_cons_of_mem _ (List.mem_append_left _ (List.mem_append_left _ (List.mem_append_right _ h)))) tyX2 tyX2_ok nmX2 hown hK hP hD hS 22 rfl rfl 10 (by decide) (hts (.fieldLink RX2 58 "DeltaWindows$Decoder" "segmentSize" "I") (List.mem_of_getElem? (i := 6) rfl)) (fun _ h9 => h9) rfl (by decide +kernel) rfl rfl (Nat.le_of_ble_eq_true rfl) dX2_readSegment_108 (fun H locs hP hD hS => ?_)
                have hP : va_P D vwCl (wX q cA (va_up (va_up (va_up (va_up (va_up (va_up (va_up sc 21 R1.2) 13 (0 : Int32)) 14 (0 : Int32)) 21 R7.2) 21 R9.2) 13 R9.1) 14 R7.1) ar false) H := hP
                have hD : va_D A (wX q cA (va_up (va_up (va_up (va_up (va_up (va_up (va_up sc 21 R1.2) 13 (0 : Int32)) 14 (0 : Int32)) 21 R7.2) 21 R9.2) 13 R9.1) 14 R7.1) ar false) := hD
                refine lv_iconst (v := (1 : Int32)) hx hb dX2_readSegment_111 (by decide) ?_
                obtain rfl := Option.some.inj hf
                exact k_retZ hx hb hr hlocks hP hS rfl dX2_readSegment_112
              · rw [if_neg c19] at hf
                refine lv_iconst (v := (0 : Int32)) hx hb dX2_readSegment_99 (by decide) ?_
                obtain rfl := Option.some.inj hf
                exact k_retZ hx hb hr hlocks hP hS rfl dX2_readSegment_100
      · rw [if_neg c6] at hf
        refine lv_iload_n hx hb dX2_readSegment_49 rfl (lv_at hl 0 rfl) ?_
        refine lv_iconst (v := (2 : Int32)) hx hb dX2_readSegment_50 (by decide) ?_
        refine lv_icmp_eq (tgt := 56) hx hb dX2_readSegment_51 (by decide) (fun c20 => ?_) (fun c20 => ?_)
        · rw [if_pos c20] at hf
          refine lv_aload_n hx hb dX2_readSegment_56 rfl (lv_at hl 1 rfl) ?_
          refine va_get (D := D) (ci := 1) (v := .ref (q 36)) (C := RX2) (T := TX2) (N := 13) hx hb hts (fun w h => List.mem_cons_of_mem _ (List.mem_append_left _ (List.mem_append_left _ (List.mem_append_right _ h)))) hown hK hP 22 rfl rfl 3 (by decide) (hts (.fieldLink RX2 35 "DeltaWindows$Decoder" "whole" "LDeltaWindows$Reader;") (List.mem_of_getElem? (i := 1) rfl)) (fun _ h9 => h9) rfl dX2_readSegment_57 ?_
          obtain ⟨R21, hc22, hf⟩ := b_inv hf
          have hk := kcut (wc := (wD (q 36) (q 5) (q 6) (cA 2) 1000 R1.2 (sc 22) (ar 2) (sc 2))) (wc' := (wD (q 36) (q 5) (q 6) (cA 2) 1000 R21.2 (sc 22) (ar 2) (sc 2))) (wf := (wX q cA (va_up (va_up (va_up (va_up sc 21 R1.2) 13 (0 : Int32)) 14 (0 : Int32)) 21 R21.2) ar false)) hP hD hS hA [36, 5, 6] rfl (by decide) rfl rfl
          refine k_goI (va_runV (As := []) (rest := []) ⟨hx, hb, hml, hown, hts⟩ (kX5_nextInteger l D (q 36) (q 5) (q 6) (cA 2) 1000 R1.2 (sc 22) (ar 2) (sc 2) hc22 _) (cwV 0 hts gX2_readSegment_X5_nextInteger rfl rfl rfl (by decide +kernel) ⟨Nat.le_of_ble_eq_true rfl, Nat.le_of_ble_eq_true rfl⟩) (k_preV (q0 := 0) (ci := 4) hk (hK.sub [2] rfl) NR_bl (fun U _ hW => NR_w hW hN.1) rfl rfl rfl) rfl rfl hl.1 rfl (lv_room (Nat.le_of_ble_eq_true rfl)) dX2_readSegment_60 ⟨Nat.zero_le _, Nat.zero_le _⟩) hk hS (fun H locs hP hD hS => ?_)
          refine lv_istore_n (lv' := [(2, .int R21.1), (1, .int R1.1), (0, .ref (q 22))]) hx hb dX2_readSegment_63 rfl hl (by decide) rfl (fun ls hl => ?_)
          refine lv_aload_n hx hb dX2_readSegment_64 rfl (lv_at hl 2 rfl) ?_
          refine va_get (D := D) (ci := 1) (v := .ref (q 36)) (C := RX2) (T := TX2) (N := 13) hx hb hts (fun w h => List.mem_cons_of_mem _ (List.mem_append_left _ (List.mem_append_left _ (List.mem_append_right _ h)))) hown hK hP 22 rfl rfl 3 (by decide) (hts (.fieldLink RX2 35 "DeltaWindows$Decoder" "whole" "LDeltaWindows$Reader;") (List.mem_of_getElem? (i := 1) rfl)) (fun _ h9 => h9) rfl dX2_readSegment_65 ?_
          obtain ⟨R23, hc24, hf⟩ := b_inv hf
          have hk := kcut (wc := (wD (q 36) (q 5) (q 6) (cA 2) 1000 R21.2 (sc 22) (ar 2) (sc 2))) (wc' := (wD (q 36) (q 5) (q 6) (cA 2) 1000 R23.2 (sc 22) (ar 2) (sc 2))) (wf := (wX q cA (va_up (va_up (va_up (va_up (va_up sc 21 R1.2) 13 (0 : Int32)) 14 (0 : Int32)) 21 R21.2) 21 R23.2) ar false)) hP hD hS hA [36, 5, 6] rfl (by decide) rfl rfl
          refine k_goI (va_runV (As := []) (rest := []) ⟨hx, hb, hml, hown, hts⟩ (kX5_nextInteger l D (q 36) (q 5) (q 6) (cA 2) 1000 R21.2 (sc 22) (ar 2) (sc 2) hc24 _) (cwV 0 hts gX2_readSegment_X5_nextInteger rfl rfl rfl (by decide +kernel) ⟨Nat.le_of_ble_eq_true rfl, Nat.le_of_ble_eq_true rfl⟩) (k_preV (q0 := 0) (ci := 4) hk (hK.sub [2] rfl) NR_bl (fun U _ hW => NR_w hW hN.1) rfl rfl rfl) rfl rfl hl.1 rfl (lv_room (Nat.le_of_ble_eq_true rfl)) dX2_readSegment_68 ⟨Nat.zero_le _, Nat.zero_le _⟩) hk hS (fun H locs hP hD hS => ?_)
          refine lv_istore_n (lv' := [(3, .int R23.1), (2, .int R21.1), (1, .int R1.1), (0, .ref (q 22))]) hx hb dX2_readSegment_71 rfl hl (by decide) rfl (fun ls hl => ?_)
          refine lv_iload_n hx hb dX2_readSegment_72 rfl (lv_at hl 1 rfl) ?_
          refine lv_iconst (v := (-1 : Int32)) hx hb dX2_readSegment_73 (by decide) ?_
          refine lv_icmp_eq (tgt := 99) hx hb dX2_readSegment_74 (by decide) (fun c25 => ?_) (fun c25 => ?_)
          · rw [if_pos c25] at hf
            refine lv_iconst (v := (0 : Int32)) hx hb dX2_readSegment_99 (by decide) ?_
            obtain rfl := Option.some.inj hf
            exact k_retZ hx hb hr hlocks hP hS rfl dX2_readSegment_100
          · rw [if_neg c25] at hf
            refine lv_iload_n hx hb dX2_readSegment_77 rfl (lv_at hl 0 rfl) ?_
            refine lv_iconst (v := (-1 : Int32)) hx hb dX2_readSegment_78 (by decide) ?_
            refine lv_icmp_eq (tgt := 99) hx hb dX2_readSegment_79 (by decide) (fun c26 => ?_) (fun c26 => ?_)
            · rw [if_pos c26] at hf
              refine lv_iconst (v := (0 : Int32)) hx hb dX2_readSegment_99 (by decide) ?_
              obtain rfl := Option.some.inj hf
              exact k_retZ hx hb hr hlocks hP hS rfl dX2_readSegment_100
            · rw [if_neg c26] at hf
              refine lv_iload_n hx hb dX2_readSegment_82 rfl (lv_at hl 0 rfl) ?_
              refine lv_i2l (v := R23.1.toInt64) hx hb dX2_readSegment_83 rfl ?_
              refine lv_iload_n hx hb dX2_readSegment_84 rfl (lv_at hl 1 rfl) ?_
              refine lv_i2l (v := R21.1.toInt64) hx hb dX2_readSegment_85 rfl ?_
              refine lv_ladd hx hb dX2_readSegment_86 ?_
              refine lv_aload_n hx hb dX2_readSegment_87 rfl (lv_at hl 3 rfl) ?_
              refine va_get (D := D) (ci := 1) (v := .ref (bif false then q 19 else q 1)) (C := RX2) (T := TX2) (N := 13) hx hb hts (fun w h => List.mem_cons_of_mem _ (List.mem_append_left _ (List.mem_append_left _ (List.mem_append_right _ h)))) hown hK hP 22 rfl rfl 8 (by decide) (hts (.fieldLink RX2 52 "DeltaWindows$Decoder" "segment" "LDeltaWindows$Row;") (List.mem_of_getElem? (i := 4) rfl)) (fun _ h9 => h9) rfl dX2_readSegment_88 ?_
              by_cases c27 : false = true
              · rw [if_pos c27] at hf
                refine W.eq (g2 := F0 m 91 ls [.ref (q 19), .long (R23.1.toInt64 + R21.1.toInt64)]) (by rw [c27]; rfl) ?_
                obtain ⟨R28, hc29, hf⟩ := b_inv hf
                have hk := kcut (wc := (wR (q 19) (q 20) (cA 9) 400 (ar 9) (sc 9))) (wc' := (wR (q 19) (q 20) (cA 9) 400 (ar 9) (sc 9))) (wf := (wX q cA (va_up (va_up (va_up (va_up (va_up sc 21 R1.2) 13 (0 : Int32)) 14 (0 : Int32)) 21 R21.2) 21 R23.2) ar false)) hP hD hS hA [19, 20] rfl (by decide) rfl rfl
                refine k_goI (va_runV (As := []) (rest := [.long (R23.1.toInt64 + R21.1.toInt64)]) ⟨hx, hb, hml, hown, hts⟩ (kX6_count l D (q 19) (q 20) (cA 9) 400 (ar 9) (sc 9) hc29 _) (cwV 0 hts gX2_readSegment_X6_count rfl rfl rfl (by decide +kernel) ⟨Nat.le_of_ble_eq_true rfl, Nat.le_of_ble_eq_true rfl⟩) (k_preV (q0 := 0) (ci := 5) hk (hK.sub [9] rfl) NT_bl NT_u rfl rfl rfl) rfl rfl hl.1 rfl (lv_room (Nat.le_of_ble_eq_true rfl)) dX2_readSegment_91 ⟨Nat.zero_le _, Nat.zero_le _⟩) hk hS (fun H locs hP hD hS => ?_)
                refine lv_i2l (v := R28.toInt64) hx hb dX2_readSegment_94 rfl ?_
                refine W.lcmp hx hb dX2_readSegment_95 ?_
                refine lv_if_le (tgt := 101) hx hb dX2_readSegment_96 (by decide) (fun c30 => ?_) (fun c30 => ?_)
                · rw [if_pos c30] at hf
                  refine lv_aload_n hx hb dX2_readSegment_101 rfl (lv_at hl 3 rfl) ?_
                  refine lv_iload_n hx hb dX2_readSegment_102 rfl (lv_at hl 0 rfl) ?_
                  refine va_put (D := D) (ci := 1) (v := .int R23.1) (ty := .int) (C := RX2) (T := TX2) (N := 13) hx hb hts (fun w h => List.mem_cons_of_mem _ (List.mem_append_left _ (List.mem_append_left _ (List.mem_append_right _ h)))) tyX2 tyX2_ok nmX2 hown hK hP hD hS 22 rfl rfl 9 (by decide) (hts (.fieldLink RX2 55 "DeltaWindows$Decoder" "segmentPlace" "I") (List.mem_of_getElem? (i := 5) rfl)) (fun _ h9 => h9) rfl (by decide +kernel) rfl rfl (Nat.le_of_ble_eq_true rfl) dX2_readSegment_103 (fun H locs hP hD hS => ?_)
                  have hP : va_P D vwCl (wX q cA (va_up (va_up (va_up (va_up (va_up (va_up sc 21 R1.2) 13 (0 : Int32)) 14 (0 : Int32)) 21 R21.2) 21 R23.2) 13 R23.1) ar false) H := hP
                  have hD : va_D A (wX q cA (va_up (va_up (va_up (va_up (va_up (va_up sc 21 R1.2) 13 (0 : Int32)) 14 (0 : Int32)) 21 R21.2) 21 R23.2) 13 R23.1) ar false) := hD
                  refine lv_aload_n hx hb dX2_readSegment_106 rfl (lv_at hl 3 rfl) ?_
                  refine lv_iload_n hx hb dX2_readSegment_107 rfl (lv_at hl 1 rfl) ?_
                  refine va_put (D := D) (ci := 1) (v := .int R21.1) (ty := .int) (C := RX2) (T := TX2) (N := 13) hx hb hts (fun w h => List.mem_cons_of_mem _ (List.mem_append_left _ (List.mem_append_left _ (List.mem_append_right _ h)))) tyX2 tyX2_ok nmX2 hown hK hP hD hS 22 rfl rfl 10 (by decide) (hts (.fieldLink RX2 58 "DeltaWindows$Decoder" "segmentSize" "I") (List.mem_of_getElem? (i := 6) rfl)) (fun _ h9 => h9) rfl (by decide +kernel) rfl rfl (Nat.le_of_ble_eq_true rfl) dX2_readSegment_108 (fun H locs hP hD hS => ?_)
                  have hP : va_P D vwCl (wX q cA (va_up (va_up (va_up (va_up (va_up (va_up (va_up sc 21 R1.2) 13 (0 : Int32)) 14 (0 : Int32)) 21 R21.2) 21 R23.2) 13 R23.1) 14 R21.1) ar false) H := hP
                  have hD : va_D A (wX q cA (va_up (va_up (va_up (va_up (va_up (va_up (va_up sc 21 R1.2) 13 (0 : Int32)) 14 (0 : Int32)) 21 R21.2) 21 R23.2) 13 R23.1) 14 R21.1) ar false) := hD
                  refine lv_iconst (v := (1 : Int32)) hx hb dX2_readSegment_111 (by decide) ?_
                  obtain rfl := Option.some.inj hf
                  exact k_retZ hx hb hr hlocks hP hS rfl dX2_readSegment_112
                · rw [if_neg c30] at hf
                  refine lv_iconst (v := (0 : Int32)) hx hb dX2_readSegment_99 (by decide) ?_
                  obtain rfl := Option.some.inj hf
                  exact k_retZ hx hb hr hlocks hP hS rfl dX2_readSegment_100
              · rw [if_neg c27] at hf
                refine W.eq (g2 := F0 m 91 ls [.ref (q 1), .long (R23.1.toInt64 + R21.1.toInt64)]) (by rw [(Bool.not_eq_true _).mp c27]; rfl) ?_
                obtain ⟨R31, hc32, hf⟩ := b_inv hf
                have hk := kcut (wc := (wR (q 1) (q 2) (cA 0) 48 (ar 0) (sc 0))) (wc' := (wR (q 1) (q 2) (cA 0) 48 (ar 0) (sc 0))) (wf := (wX q cA (va_up (va_up (va_up (va_up (va_up sc 21 R1.2) 13 (0 : Int32)) 14 (0 : Int32)) 21 R21.2) 21 R23.2) ar false)) hP hD hS hA [1, 2] rfl (by decide) rfl rfl
                refine k_goI (va_runV (As := []) (rest := [.long (R23.1.toInt64 + R21.1.toInt64)]) ⟨hx, hb, hml, hown, hts⟩ (kX6_count l D (q 1) (q 2) (cA 0) 48 (ar 0) (sc 0) hc32 _) (cwV 0 hts gX2_readSegment_X6_count rfl rfl rfl (by decide +kernel) ⟨Nat.le_of_ble_eq_true rfl, Nat.le_of_ble_eq_true rfl⟩) (k_preV (q0 := 0) (ci := 5) hk (hK.sub [0] rfl) NT_bl NT_u rfl rfl rfl) rfl rfl hl.1 rfl (lv_room (Nat.le_of_ble_eq_true rfl)) dX2_readSegment_91 ⟨Nat.zero_le _, Nat.zero_le _⟩) hk hS (fun H locs hP hD hS => ?_)
                refine lv_i2l (v := R31.toInt64) hx hb dX2_readSegment_94 rfl ?_
                refine W.lcmp hx hb dX2_readSegment_95 ?_
                refine lv_if_le (tgt := 101) hx hb dX2_readSegment_96 (by decide) (fun c33 => ?_) (fun c33 => ?_)
                · rw [if_pos c33] at hf
                  refine lv_aload_n hx hb dX2_readSegment_101 rfl (lv_at hl 3 rfl) ?_
                  refine lv_iload_n hx hb dX2_readSegment_102 rfl (lv_at hl 0 rfl) ?_
                  refine va_put (D := D) (ci := 1) (v := .int R23.1) (ty := .int) (C := RX2) (T := TX2) (N := 13) hx hb hts (fun w h => List.mem_cons_of_mem _ (List.mem_append_left _ (List.mem_append_left _ (List.mem_append_right _ h)))) tyX2 tyX2_ok nmX2 hown hK hP hD hS 22 rfl rfl 9 (by decide) (hts (.fieldLink RX2 55 "DeltaWindows$Decoder" "segmentPlace" "I") (List.mem_of_getElem? (i := 5) rfl)) (fun _ h9 => h9) rfl (by decide +kernel) rfl rfl (Nat.le_of_ble_eq_true rfl) dX2_readSegment_103 (fun H locs hP hD hS => ?_)
                  have hP : va_P D vwCl (wX q cA (va_up (va_up (va_up (va_up (va_up (va_up sc 21 R1.2) 13 (0 : Int32)) 14 (0 : Int32)) 21 R21.2) 21 R23.2) 13 R23.1) ar false) H := hP
                  have hD : va_D A (wX q cA (va_up (va_up (va_up (va_up (va_up (va_up sc 21 R1.2) 13 (0 : Int32)) 14 (0 : Int32)) 21 R21.2) 21 R23.2) 13 R23.1) ar false) := hD
                  refine lv_aload_n hx hb dX2_readSegment_106 rfl (lv_at hl 3 rfl) ?_
                  refine lv_iload_n hx hb dX2_readSegment_107 rfl (lv_at hl 1 rfl) ?_
                  refine va_put (D := D) (ci := 1) (v := .int R21.1) (ty := .int) (C := RX2) (T := TX2) (N := 13) hx hb hts (fun w h => List.mem_cons_of_mem _ (List.mem_append_left _ (List.mem_append_left _ (List.mem_append_right _ h)))) tyX2 tyX2_ok nmX2 hown hK hP hD hS 22 rfl rfl 10 (by decide) (hts (.fieldLink RX2 58 "DeltaWindows$Decoder" "segmentSize" "I") (List.mem_of_getElem? (i := 6) rfl)) (fun _ h9 => h9) rfl (by decide +kernel) rfl rfl (Nat.le_of_ble_eq_true rfl) dX2_readSegment_108 (fun H locs hP hD hS => ?_)
                  have hP : va_P D vwCl (wX q cA (va_up (va_up (va_up (va_up (va_up (va_up (va_up sc 21 R1.2) 13 (0 : Int32)) 14 (0 : Int32)) 21 R21.2) 21 R23.2) 13 R23.1) 14 R21.1) ar false) H := hP
                  have hD : va_D A (wX q cA (va_up (va_up (va_up (va_up (va_up (va_up (va_up sc 21 R1.2) 13 (0 : Int32)) 14 (0 : Int32)) 21 R21.2) 21 R23.2) 13 R23.1) 14 R21.1) ar false) := hD
                  refine lv_iconst (v := (1 : Int32)) hx hb dX2_readSegment_111 (by decide) ?_
                  obtain rfl := Option.some.inj hf
                  exact k_retZ hx hb hr hlocks hP hS rfl dX2_readSegment_112
                · rw [if_neg c33] at hf
                  refine lv_iconst (v := (0 : Int32)) hx hb dX2_readSegment_99 (by decide) ?_
                  obtain rfl := Option.some.inj hf
                  exact k_retZ hx hb hr hlocks hP hS rfl dX2_readSegment_100
        · rw [if_neg c20] at hf
          refine lv_iconst (v := (0 : Int32)) hx hb dX2_readSegment_54 (by decide) ?_
          obtain rfl := Option.some.inj hf
          exact k_retZ hx hb hr hlocks hP hS rfl dX2_readSegment_55
    · rw [if_pos c5] at hf
      refine lv_iconst (v := (1 : Int32)) hx hb dX2_readSegment_42 (by decide) ?_
      obtain rfl := Option.some.inj hf
      exact k_retZ hx hb hr hlocks hP hS rfl dX2_readSegment_43
  · rw [if_pos c3] at hf
    refine lv_aload_n hx hb dX2_readSegment_14 rfl (lv_at hl 1 rfl) ?_
    refine va_get (D := D) (ci := 1) (v := .ref (q 19)) (C := RX2) (T := TX2) (N := 13) hx hb hts (fun w h => List.mem_cons_of_mem _ (List.mem_append_left _ (List.mem_append_left _ (List.mem_append_right _ h)))) hown hK hP 22 rfl rfl 1 (by decide) (hts (.fieldLink RX2 20 "DeltaWindows$Decoder" "made" "LDeltaWindows$Row;") (List.mem_of_getElem? (i := 2) rfl)) (fun _ h9 => h9) rfl dX2_readSegment_15 ?_
    refine lv_goto (tgt := 25) hx hb dX2_readSegment_18 (by decide) ?_
    refine va_put (D := D) (ci := 1) (v := .ref (q 19)) (ty := .object "DeltaWindows$Row") (C := RX2) (T := TX2) (N := 13) hx hb hts (fun w h => List.mem_cons_of_mem _ (List.mem_append_left _ (List.mem_append_left _ (List.mem_append_right _ h)))) tyX2 tyX2_ok nmX2 hown hK hP hD hS 22 rfl rfl 8 (by decide) (hts (.fieldLink RX2 52 "DeltaWindows$Decoder" "segment" "LDeltaWindows$Row;") (List.mem_of_getElem? (i := 4) rfl)) (fun _ h9 => h9) rfl (by decide +kernel) rfl rfl (Nat.le_of_ble_eq_true rfl) dX2_readSegment_25 (fun H locs hP hD hS => ?_)
    have hP : va_P D vwCl (wX q cA (va_up sc 21 R1.2) ar true) H := hP
    have hD : va_D A (wX q cA (va_up sc 21 R1.2) ar true) := hD
    refine lv_aload_n hx hb dX2_readSegment_28 rfl (lv_at hl 1 rfl) ?_
    refine lv_iconst (v := (0 : Int32)) hx hb dX2_readSegment_29 (by decide) ?_
    refine va_put (D := D) (ci := 1) (v := .int (0 : Int32)) (ty := .int) (C := RX2) (T := TX2) (N := 13) hx hb hts (fun w h => List.mem_cons_of_mem _ (List.mem_append_left _ (List.mem_append_left _ (List.mem_append_right _ h)))) tyX2 tyX2_ok nmX2 hown hK hP hD hS 22 rfl rfl 9 (by decide) (hts (.fieldLink RX2 55 "DeltaWindows$Decoder" "segmentPlace" "I") (List.mem_of_getElem? (i := 5) rfl)) (fun _ h9 => h9) rfl (by decide +kernel) rfl rfl (Nat.le_of_ble_eq_true rfl) dX2_readSegment_30 (fun H locs hP hD hS => ?_)
    have hP : va_P D vwCl (wX q cA (va_up (va_up sc 21 R1.2) 13 (0 : Int32)) ar true) H := hP
    have hD : va_D A (wX q cA (va_up (va_up sc 21 R1.2) 13 (0 : Int32)) ar true) := hD
    refine lv_aload_n hx hb dX2_readSegment_33 rfl (lv_at hl 1 rfl) ?_
    refine lv_iconst (v := (0 : Int32)) hx hb dX2_readSegment_34 (by decide) ?_
    refine va_put (D := D) (ci := 1) (v := .int (0 : Int32)) (ty := .int) (C := RX2) (T := TX2) (N := 13) hx hb hts (fun w h => List.mem_cons_of_mem _ (List.mem_append_left _ (List.mem_append_left _ (List.mem_append_right _ h)))) tyX2 tyX2_ok nmX2 hown hK hP hD hS 22 rfl rfl 10 (by decide) (hts (.fieldLink RX2 58 "DeltaWindows$Decoder" "segmentSize" "I") (List.mem_of_getElem? (i := 6) rfl)) (fun _ h9 => h9) rfl (by decide +kernel) rfl rfl (Nat.le_of_ble_eq_true rfl) dX2_readSegment_35 (fun H locs hP hD hS => ?_)
    have hP : va_P D vwCl (wX q cA (va_up (va_up (va_up sc 21 R1.2) 13 (0 : Int32)) 14 (0 : Int32)) ar true) H := hP
    have hD : va_D A (wX q cA (va_up (va_up (va_up sc 21 R1.2) 13 (0 : Int32)) 14 (0 : Int32)) ar true) := hD
    refine lv_iload_n hx hb dX2_readSegment_38 rfl (lv_at hl 0 rfl) ?_
    refine lv_if_ne (tgt := 44) hx hb dX2_readSegment_39 (by decide) (fun c34 => ?_) (fun c34 => ?_)
    · rw [if_neg c34] at hf
      refine lv_iload_n hx hb dX2_readSegment_44 rfl (lv_at hl 0 rfl) ?_
      refine lv_iconst (v := (1 : Int32)) hx hb dX2_readSegment_45 (by decide) ?_
      refine lv_icmp_eq (tgt := 56) hx hb dX2_readSegment_46 (by decide) (fun c35 => ?_) (fun c35 => ?_)
      · rw [if_pos c35] at hf
        refine lv_aload_n hx hb dX2_readSegment_56 rfl (lv_at hl 1 rfl) ?_
        refine va_get (D := D) (ci := 1) (v := .ref (q 36)) (C := RX2) (T := TX2) (N := 13) hx hb hts (fun w h => List.mem_cons_of_mem _ (List.mem_append_left _ (List.mem_append_left _ (List.mem_append_right _ h)))) hown hK hP 22 rfl rfl 3 (by decide) (hts (.fieldLink RX2 35 "DeltaWindows$Decoder" "whole" "LDeltaWindows$Reader;") (List.mem_of_getElem? (i := 1) rfl)) (fun _ h9 => h9) rfl dX2_readSegment_57 ?_
        obtain ⟨R36, hc37, hf⟩ := b_inv hf
        have hk := kcut (wc := (wD (q 36) (q 5) (q 6) (cA 2) 1000 R1.2 (sc 22) (ar 2) (sc 2))) (wc' := (wD (q 36) (q 5) (q 6) (cA 2) 1000 R36.2 (sc 22) (ar 2) (sc 2))) (wf := (wX q cA (va_up (va_up (va_up (va_up sc 21 R1.2) 13 (0 : Int32)) 14 (0 : Int32)) 21 R36.2) ar true)) hP hD hS hA [36, 5, 6] rfl (by decide) rfl rfl
        refine k_goI (va_runV (As := []) (rest := []) ⟨hx, hb, hml, hown, hts⟩ (kX5_nextInteger l D (q 36) (q 5) (q 6) (cA 2) 1000 R1.2 (sc 22) (ar 2) (sc 2) hc37 _) (cwV 0 hts gX2_readSegment_X5_nextInteger rfl rfl rfl (by decide +kernel) ⟨Nat.le_of_ble_eq_true rfl, Nat.le_of_ble_eq_true rfl⟩) (k_preV (q0 := 0) (ci := 4) hk (hK.sub [2] rfl) NR_bl (fun U _ hW => NR_w hW hN.1) rfl rfl rfl) rfl rfl hl.1 rfl (lv_room (Nat.le_of_ble_eq_true rfl)) dX2_readSegment_60 ⟨Nat.zero_le _, Nat.zero_le _⟩) hk hS (fun H locs hP hD hS => ?_)
        refine lv_istore_n (lv' := [(2, .int R36.1), (1, .int R1.1), (0, .ref (q 22))]) hx hb dX2_readSegment_63 rfl hl (by decide) rfl (fun ls hl => ?_)
        refine lv_aload_n hx hb dX2_readSegment_64 rfl (lv_at hl 2 rfl) ?_
        refine va_get (D := D) (ci := 1) (v := .ref (q 36)) (C := RX2) (T := TX2) (N := 13) hx hb hts (fun w h => List.mem_cons_of_mem _ (List.mem_append_left _ (List.mem_append_left _ (List.mem_append_right _ h)))) hown hK hP 22 rfl rfl 3 (by decide) (hts (.fieldLink RX2 35 "DeltaWindows$Decoder" "whole" "LDeltaWindows$Reader;") (List.mem_of_getElem? (i := 1) rfl)) (fun _ h9 => h9) rfl dX2_readSegment_65 ?_
        obtain ⟨R38, hc39, hf⟩ := b_inv hf
        have hk := kcut (wc := (wD (q 36) (q 5) (q 6) (cA 2) 1000 R36.2 (sc 22) (ar 2) (sc 2))) (wc' := (wD (q 36) (q 5) (q 6) (cA 2) 1000 R38.2 (sc 22) (ar 2) (sc 2))) (wf := (wX q cA (va_up (va_up (va_up (va_up (va_up sc 21 R1.2) 13 (0 : Int32)) 14 (0 : Int32)) 21 R36.2) 21 R38.2) ar true)) hP hD hS hA [36, 5, 6] rfl (by decide) rfl rfl
        refine k_goI (va_runV (As := []) (rest := []) ⟨hx, hb, hml, hown, hts⟩ (kX5_nextInteger l D (q 36) (q 5) (q 6) (cA 2) 1000 R36.2 (sc 22) (ar 2) (sc 2) hc39 _) (cwV 0 hts gX2_readSegment_X5_nextInteger rfl rfl rfl (by decide +kernel) ⟨Nat.le_of_ble_eq_true rfl, Nat.le_of_ble_eq_true rfl⟩) (k_preV (q0 := 0) (ci := 4) hk (hK.sub [2] rfl) NR_bl (fun U _ hW => NR_w hW hN.1) rfl rfl rfl) rfl rfl hl.1 rfl (lv_room (Nat.le_of_ble_eq_true rfl)) dX2_readSegment_68 ⟨Nat.zero_le _, Nat.zero_le _⟩) hk hS (fun H locs hP hD hS => ?_)
        refine lv_istore_n (lv' := [(3, .int R38.1), (2, .int R36.1), (1, .int R1.1), (0, .ref (q 22))]) hx hb dX2_readSegment_71 rfl hl (by decide) rfl (fun ls hl => ?_)
        refine lv_iload_n hx hb dX2_readSegment_72 rfl (lv_at hl 1 rfl) ?_
        refine lv_iconst (v := (-1 : Int32)) hx hb dX2_readSegment_73 (by decide) ?_
        refine lv_icmp_eq (tgt := 99) hx hb dX2_readSegment_74 (by decide) (fun c40 => ?_) (fun c40 => ?_)
        · rw [if_pos c40] at hf
          refine lv_iconst (v := (0 : Int32)) hx hb dX2_readSegment_99 (by decide) ?_
          obtain rfl := Option.some.inj hf
          exact k_retZ hx hb hr hlocks hP hS rfl dX2_readSegment_100
        · rw [if_neg c40] at hf
          refine lv_iload_n hx hb dX2_readSegment_77 rfl (lv_at hl 0 rfl) ?_
          refine lv_iconst (v := (-1 : Int32)) hx hb dX2_readSegment_78 (by decide) ?_
          refine lv_icmp_eq (tgt := 99) hx hb dX2_readSegment_79 (by decide) (fun c41 => ?_) (fun c41 => ?_)
          · rw [if_pos c41] at hf
            refine lv_iconst (v := (0 : Int32)) hx hb dX2_readSegment_99 (by decide) ?_
            obtain rfl := Option.some.inj hf
            exact k_retZ hx hb hr hlocks hP hS rfl dX2_readSegment_100
          · rw [if_neg c41] at hf
            refine lv_iload_n hx hb dX2_readSegment_82 rfl (lv_at hl 0 rfl) ?_
            refine lv_i2l (v := R38.1.toInt64) hx hb dX2_readSegment_83 rfl ?_
            refine lv_iload_n hx hb dX2_readSegment_84 rfl (lv_at hl 1 rfl) ?_
            refine lv_i2l (v := R36.1.toInt64) hx hb dX2_readSegment_85 rfl ?_
            refine lv_ladd hx hb dX2_readSegment_86 ?_
            refine lv_aload_n hx hb dX2_readSegment_87 rfl (lv_at hl 3 rfl) ?_
            refine va_get (D := D) (ci := 1) (v := .ref (bif true then q 19 else q 1)) (C := RX2) (T := TX2) (N := 13) hx hb hts (fun w h => List.mem_cons_of_mem _ (List.mem_append_left _ (List.mem_append_left _ (List.mem_append_right _ h)))) hown hK hP 22 rfl rfl 8 (by decide) (hts (.fieldLink RX2 52 "DeltaWindows$Decoder" "segment" "LDeltaWindows$Row;") (List.mem_of_getElem? (i := 4) rfl)) (fun _ h9 => h9) rfl dX2_readSegment_88 ?_
            by_cases c42 : true = true
            · rw [if_pos c42] at hf
              refine W.eq (g2 := F0 m 91 ls [.ref (q 19), .long (R38.1.toInt64 + R36.1.toInt64)]) (by rw [c42]; rfl) ?_
              obtain ⟨R43, hc44, hf⟩ := b_inv hf
              have hk := kcut (wc := (wR (q 19) (q 20) (cA 9) 400 (ar 9) (sc 9))) (wc' := (wR (q 19) (q 20) (cA 9) 400 (ar 9) (sc 9))) (wf := (wX q cA (va_up (va_up (va_up (va_up (va_up sc 21 R1.2) 13 (0 : Int32)) 14 (0 : Int32)) 21 R36.2) 21 R38.2) ar true)) hP hD hS hA [19, 20] rfl (by decide) rfl rfl
              refine k_goI (va_runV (As := []) (rest := [.long (R38.1.toInt64 + R36.1.toInt64)]) ⟨hx, hb, hml, hown, hts⟩ (kX6_count l D (q 19) (q 20) (cA 9) 400 (ar 9) (sc 9) hc44 _) (cwV 0 hts gX2_readSegment_X6_count rfl rfl rfl (by decide +kernel) ⟨Nat.le_of_ble_eq_true rfl, Nat.le_of_ble_eq_true rfl⟩) (k_preV (q0 := 0) (ci := 5) hk (hK.sub [9] rfl) NT_bl NT_u rfl rfl rfl) rfl rfl hl.1 rfl (lv_room (Nat.le_of_ble_eq_true rfl)) dX2_readSegment_91 ⟨Nat.zero_le _, Nat.zero_le _⟩) hk hS (fun H locs hP hD hS => ?_)
              refine lv_i2l (v := R43.toInt64) hx hb dX2_readSegment_94 rfl ?_
              refine W.lcmp hx hb dX2_readSegment_95 ?_
              refine lv_if_le (tgt := 101) hx hb dX2_readSegment_96 (by decide) (fun c45 => ?_) (fun c45 => ?_)
              · rw [if_pos c45] at hf
                refine lv_aload_n hx hb dX2_readSegment_101 rfl (lv_at hl 3 rfl) ?_
                refine lv_iload_n hx hb dX2_readSegment_102 rfl (lv_at hl 0 rfl) ?_
                refine va_put (D := D) (ci := 1) (v := .int R38.1) (ty := .int) (C := RX2) (T := TX2) (N := 13) hx hb hts (fun w h => List.mem_cons_of_mem _ (List.mem_append_left _ (List.mem_append_left _ (List.mem_append_right _ h)))) tyX2 tyX2_ok nmX2 hown hK hP hD hS 22 rfl rfl 9 (by decide) (hts (.fieldLink RX2 55 "DeltaWindows$Decoder" "segmentPlace" "I") (List.mem_of_getElem? (i := 5) rfl)) (fun _ h9 => h9) rfl (by decide +kernel) rfl rfl (Nat.le_of_ble_eq_true rfl) dX2_readSegment_103 (fun H locs hP hD hS => ?_)
                have hP : va_P D vwCl (wX q cA (va_up (va_up (va_up (va_up (va_up (va_up sc 21 R1.2) 13 (0 : Int32)) 14 (0 : Int32)) 21 R36.2) 21 R38.2) 13 R38.1) ar true) H := hP
                have hD : va_D A (wX q cA (va_up (va_up (va_up (va_up (va_up (va_up sc 21 R1.2) 13 (0 : Int32)) 14 (0 : Int32)) 21 R36.2) 21 R38.2) 13 R38.1) ar true) := hD
                refine lv_aload_n hx hb dX2_readSegment_106 rfl (lv_at hl 3 rfl) ?_
                refine lv_iload_n hx hb dX2_readSegment_107 rfl (lv_at hl 1 rfl) ?_
                refine va_put (D := D) (ci := 1) (v := .int R36.1) (ty := .int) (C := RX2) (T := TX2) (N := 13) hx hb hts (fun w h => List.mem_cons_of_mem _ (List.mem_append_left _ (List.mem_append_left _ (List.mem_append_right _ h)))) tyX2 tyX2_ok nmX2 hown hK hP hD hS 22 rfl rfl 10 (by decide) (hts (.fieldLink RX2 58 "DeltaWindows$Decoder" "segmentSize" "I") (List.mem_of_getElem? (i := 6) rfl)) (fun _ h9 => h9) rfl (by decide +kernel) rfl rfl (Nat.le_of_ble_eq_true rfl) dX2_readSegment_108 (fun H locs hP hD hS => ?_)
                have hP : va_P D vwCl (wX q cA (va_up (va_up (va_up (va_up (va_up (va_up (va_up sc 21 R1.2) 13 (0 : Int32)) 14 (0 : Int32)) 21 R36.2) 21 R38.2) 13 R38.1) 14 R36.1) ar true) H := hP
                have hD : va_D A (wX q cA (va_up (va_up (va_up (va_up (va_up (va_up (va_up sc 21 R1.2) 13 (0 : Int32)) 14 (0 : Int32)) 21 R36.2) 21 R38.2) 13 R38.1) 14 R36.1) ar true) := hD
                refine lv_iconst (v := (1 : Int32)) hx hb dX2_readSegment_111 (by decide) ?_
                obtain rfl := Option.some.inj hf
                exact k_retZ hx hb hr hlocks hP hS rfl dX2_readSegment_112
              · rw [if_neg c45] at hf
                refine lv_iconst (v := (0 : Int32)) hx hb dX2_readSegment_99 (by decide) ?_
                obtain rfl := Option.some.inj hf
                exact k_retZ hx hb hr hlocks hP hS rfl dX2_readSegment_100
            · rw [if_neg c42] at hf
              refine W.eq (g2 := F0 m 91 ls [.ref (q 1), .long (R38.1.toInt64 + R36.1.toInt64)]) (by rw [(Bool.not_eq_true _).mp c42]; rfl) ?_
              obtain ⟨R46, hc47, hf⟩ := b_inv hf
              have hk := kcut (wc := (wR (q 1) (q 2) (cA 0) 48 (ar 0) (sc 0))) (wc' := (wR (q 1) (q 2) (cA 0) 48 (ar 0) (sc 0))) (wf := (wX q cA (va_up (va_up (va_up (va_up (va_up sc 21 R1.2) 13 (0 : Int32)) 14 (0 : Int32)) 21 R36.2) 21 R38.2) ar true)) hP hD hS hA [1, 2] rfl (by decide) rfl rfl
              refine k_goI (va_runV (As := []) (rest := [.long (R38.1.toInt64 + R36.1.toInt64)]) ⟨hx, hb, hml, hown, hts⟩ (kX6_count l D (q 1) (q 2) (cA 0) 48 (ar 0) (sc 0) hc47 _) (cwV 0 hts gX2_readSegment_X6_count rfl rfl rfl (by decide +kernel) ⟨Nat.le_of_ble_eq_true rfl, Nat.le_of_ble_eq_true rfl⟩) (k_preV (q0 := 0) (ci := 5) hk (hK.sub [0] rfl) NT_bl NT_u rfl rfl rfl) rfl rfl hl.1 rfl (lv_room (Nat.le_of_ble_eq_true rfl)) dX2_readSegment_91 ⟨Nat.zero_le _, Nat.zero_le _⟩) hk hS (fun H locs hP hD hS => ?_)
              refine lv_i2l (v := R46.toInt64) hx hb dX2_readSegment_94 rfl ?_
              refine W.lcmp hx hb dX2_readSegment_95 ?_
              refine lv_if_le (tgt := 101) hx hb dX2_readSegment_96 (by decide) (fun c48 => ?_) (fun c48 => ?_)
              · rw [if_pos c48] at hf
                refine lv_aload_n hx hb dX2_readSegment_101 rfl (lv_at hl 3 rfl) ?_
                refine lv_iload_n hx hb dX2_readSegment_102 rfl (lv_at hl 0 rfl) ?_
                refine va_put (D := D) (ci := 1) (v := .int R38.1) (ty := .int) (C := RX2) (T := TX2) (N := 13) hx hb hts (fun w h => List.mem_cons_of_mem _ (List.mem_append_left _ (List.mem_append_left _ (List.mem_append_right _ h)))) tyX2 tyX2_ok nmX2 hown hK hP hD hS 22 rfl rfl 9 (by decide) (hts (.fieldLink RX2 55 "DeltaWindows$Decoder" "segmentPlace" "I") (List.mem_of_getElem? (i := 5) rfl)) (fun _ h9 => h9) rfl (by decide +kernel) rfl rfl (Nat.le_of_ble_eq_true rfl) dX2_readSegment_103 (fun H locs hP hD hS => ?_)
                have hP : va_P D vwCl (wX q cA (va_up (va_up (va_up (va_up (va_up (va_up sc 21 R1.2) 13 (0 : Int32)) 14 (0 : Int32)) 21 R36.2) 21 R38.2) 13 R38.1) ar true) H := hP
                have hD : va_D A (wX q cA (va_up (va_up (va_up (va_up (va_up (va_up sc 21 R1.2) 13 (0 : Int32)) 14 (0 : Int32)) 21 R36.2) 21 R38.2) 13 R38.1) ar true) := hD
                refine lv_aload_n hx hb dX2_readSegment_106 rfl (lv_at hl 3 rfl) ?_
                refine lv_iload_n hx hb dX2_readSegment_107 rfl (lv_at hl 1 rfl) ?_
                refine va_put (D := D) (ci := 1) (v := .int R36.1) (ty := .int) (C := RX2) (T := TX2) (N := 13) hx hb hts (fun w h => List.mem_cons_of_mem _ (List.mem_append_left _ (List.mem_append_left _ (List.mem_append_right _ h)))) tyX2 tyX2_ok nmX2 hown hK hP hD hS 22 rfl rfl 10 (by decide) (hts (.fieldLink RX2 58 "DeltaWindows$Decoder" "segmentSize" "I") (List.mem_of_getElem? (i := 6) rfl)) (fun _ h9 => h9) rfl (by decide +kernel) rfl rfl (Nat.le_of_ble_eq_true rfl) dX2_readSegment_108 (fun H locs hP hD hS => ?_)
                have hP : va_P D vwCl (wX q cA (va_up (va_up (va_up (va_up (va_up (va_up (va_up sc 21 R1.2) 13 (0 : Int32)) 14 (0 : Int32)) 21 R36.2) 21 R38.2) 13 R38.1) 14 R36.1) ar true) H := hP
                have hD : va_D A (wX q cA (va_up (va_up (va_up (va_up (va_up (va_up (va_up sc 21 R1.2) 13 (0 : Int32)) 14 (0 : Int32)) 21 R36.2) 21 R38.2) 13 R38.1) 14 R36.1) ar true) := hD
                refine lv_iconst (v := (1 : Int32)) hx hb dX2_readSegment_111 (by decide) ?_
                obtain rfl := Option.some.inj hf
                exact k_retZ hx hb hr hlocks hP hS rfl dX2_readSegment_112
              · rw [if_neg c48] at hf
                refine lv_iconst (v := (0 : Int32)) hx hb dX2_readSegment_99 (by decide) ?_
                obtain rfl := Option.some.inj hf
                exact k_retZ hx hb hr hlocks hP hS rfl dX2_readSegment_100
      · rw [if_neg c35] at hf
        refine lv_iload_n hx hb dX2_readSegment_49 rfl (lv_at hl 0 rfl) ?_
        refine lv_iconst (v := (2 : Int32)) hx hb dX2_readSegment_50 (by decide) ?_
        refine lv_icmp_eq (tgt := 56) hx hb dX2_readSegment_51 (by decide) (fun c49 => ?_) (fun c49 => ?_)
        · rw [if_pos c49] at hf
          refine lv_aload_n hx hb dX2_readSegment_56 rfl (lv_at hl 1 rfl) ?_
          refine va_get (D := D) (ci := 1) (v := .ref (q 36)) (C := RX2) (T := TX2) (N := 13) hx hb hts (fun w h => List.mem_cons_of_mem _ (List.mem_append_left _ (List.mem_append_left _ (List.mem_append_right _ h)))) hown hK hP 22 rfl rfl 3 (by decide) (hts (.fieldLink RX2 35 "DeltaWindows$Decoder" "whole" "LDeltaWindows$Reader;") (List.mem_of_getElem? (i := 1) rfl)) (fun _ h9 => h9) rfl dX2_readSegment_57 ?_
          obtain ⟨R50, hc51, hf⟩ := b_inv hf
          have hk := kcut (wc := (wD (q 36) (q 5) (q 6) (cA 2) 1000 R1.2 (sc 22) (ar 2) (sc 2))) (wc' := (wD (q 36) (q 5) (q 6) (cA 2) 1000 R50.2 (sc 22) (ar 2) (sc 2))) (wf := (wX q cA (va_up (va_up (va_up (va_up sc 21 R1.2) 13 (0 : Int32)) 14 (0 : Int32)) 21 R50.2) ar true)) hP hD hS hA [36, 5, 6] rfl (by decide) rfl rfl
          refine k_goI (va_runV (As := []) (rest := []) ⟨hx, hb, hml, hown, hts⟩ (kX5_nextInteger l D (q 36) (q 5) (q 6) (cA 2) 1000 R1.2 (sc 22) (ar 2) (sc 2) hc51 _) (cwV 0 hts gX2_readSegment_X5_nextInteger rfl rfl rfl (by decide +kernel) ⟨Nat.le_of_ble_eq_true rfl, Nat.le_of_ble_eq_true rfl⟩) (k_preV (q0 := 0) (ci := 4) hk (hK.sub [2] rfl) NR_bl (fun U _ hW => NR_w hW hN.1) rfl rfl rfl) rfl rfl hl.1 rfl (lv_room (Nat.le_of_ble_eq_true rfl)) dX2_readSegment_60 ⟨Nat.zero_le _, Nat.zero_le _⟩) hk hS (fun H locs hP hD hS => ?_)
          refine lv_istore_n (lv' := [(2, .int R50.1), (1, .int R1.1), (0, .ref (q 22))]) hx hb dX2_readSegment_63 rfl hl (by decide) rfl (fun ls hl => ?_)
          refine lv_aload_n hx hb dX2_readSegment_64 rfl (lv_at hl 2 rfl) ?_
          refine va_get (D := D) (ci := 1) (v := .ref (q 36)) (C := RX2) (T := TX2) (N := 13) hx hb hts (fun w h => List.mem_cons_of_mem _ (List.mem_append_left _ (List.mem_append_left _ (List.mem_append_right _ h)))) hown hK hP 22 rfl rfl 3 (by decide) (hts (.fieldLink RX2 35 "DeltaWindows$Decoder" "whole" "LDeltaWindows$Reader;") (List.mem_of_getElem? (i := 1) rfl)) (fun _ h9 => h9) rfl dX2_readSegment_65 ?_
          obtain ⟨R52, hc53, hf⟩ := b_inv hf
          have hk := kcut (wc := (wD (q 36) (q 5) (q 6) (cA 2) 1000 R50.2 (sc 22) (ar 2) (sc 2))) (wc' := (wD (q 36) (q 5) (q 6) (cA 2) 1000 R52.2 (sc 22) (ar 2) (sc 2))) (wf := (wX q cA (va_up (va_up (va_up (va_up (va_up sc 21 R1.2) 13 (0 : Int32)) 14 (0 : Int32)) 21 R50.2) 21 R52.2) ar true)) hP hD hS hA [36, 5, 6] rfl (by decide) rfl rfl
          refine k_goI (va_runV (As := []) (rest := []) ⟨hx, hb, hml, hown, hts⟩ (kX5_nextInteger l D (q 36) (q 5) (q 6) (cA 2) 1000 R50.2 (sc 22) (ar 2) (sc 2) hc53 _) (cwV 0 hts gX2_readSegment_X5_nextInteger rfl rfl rfl (by decide +kernel) ⟨Nat.le_of_ble_eq_true rfl, Nat.le_of_ble_eq_true rfl⟩) (k_preV (q0 := 0) (ci := 4) hk (hK.sub [2] rfl) NR_bl (fun U _ hW => NR_w hW hN.1) rfl rfl rfl) rfl rfl hl.1 rfl (lv_room (Nat.le_of_ble_eq_true rfl)) dX2_readSegment_68 ⟨Nat.zero_le _, Nat.zero_le _⟩) hk hS (fun H locs hP hD hS => ?_)
          refine lv_istore_n (lv' := [(3, .int R52.1), (2, .int R50.1), (1, .int R1.1), (0, .ref (q 22))]) hx hb dX2_readSegment_71 rfl hl (by decide) rfl (fun ls hl => ?_)
          refine lv_iload_n hx hb dX2_readSegment_72 rfl (lv_at hl 1 rfl) ?_
          refine lv_iconst (v := (-1 : Int32)) hx hb dX2_readSegment_73 (by decide) ?_
          refine lv_icmp_eq (tgt := 99) hx hb dX2_readSegment_74 (by decide) (fun c54 => ?_) (fun c54 => ?_)
          · rw [if_pos c54] at hf
            refine lv_iconst (v := (0 : Int32)) hx hb dX2_readSegment_99 (by decide) ?_
            obtain rfl := Option.some.inj hf
            exact k_retZ hx hb hr hlocks hP hS rfl dX2_readSegment_100
          · rw [if_neg c54] at hf
            refine lv_iload_n hx hb dX2_readSegment_77 rfl (lv_at hl 0 rfl) ?_
            refine lv_iconst (v := (-1 : Int32)) hx hb dX2_readSegment_78 (by decide) ?_
            refine lv_icmp_eq (tgt := 99) hx hb dX2_readSegment_79 (by decide) (fun c55 => ?_) (fun c55 => ?_)
            · rw [if_pos c55] at hf
              refine lv_iconst (v := (0 : Int32)) hx hb dX2_readSegment_99 (by decide) ?_
              obtain rfl := Option.some.inj hf
              exact k_retZ hx hb hr hlocks hP hS rfl dX2_readSegment_100
            · rw [if_neg c55] at hf
              refine lv_iload_n hx hb dX2_readSegment_82 rfl (lv_at hl 0 rfl) ?_
              refine lv_i2l (v := R52.1.toInt64) hx hb dX2_readSegment_83 rfl ?_
              refine lv_iload_n hx hb dX2_readSegment_84 rfl (lv_at hl 1 rfl) ?_
              refine lv_i2l (v := R50.1.toInt64) hx hb dX2_readSegment_85 rfl ?_
              refine lv_ladd hx hb dX2_readSegment_86 ?_
              refine lv_aload_n hx hb dX2_readSegment_87 rfl (lv_at hl 3 rfl) ?_
              refine va_get (D := D) (ci := 1) (v := .ref (bif true then q 19 else q 1)) (C := RX2) (T := TX2) (N := 13) hx hb hts (fun w h => List.mem_cons_of_mem _ (List.mem_append_left _ (List.mem_append_left _ (List.mem_append_right _ h)))) hown hK hP 22 rfl rfl 8 (by decide) (hts (.fieldLink RX2 52 "DeltaWindows$Decoder" "segment" "LDeltaWindows$Row;") (List.mem_of_getElem? (i := 4) rfl)) (fun _ h9 => h9) rfl dX2_readSegment_88 ?_
              by_cases c56 : true = true
              · rw [if_pos c56] at hf
                refine W.eq (g2 := F0 m 91 ls [.ref (q 19), .long (R52.1.toInt64 + R50.1.toInt64)]) (by rw [c56]; rfl) ?_
                obtain ⟨R57, hc58, hf⟩ := b_inv hf
                have hk := kcut (wc := (wR (q 19) (q 20) (cA 9) 400 (ar 9) (sc 9))) (wc' := (wR (q 19) (q 20) (cA 9) 400 (ar 9) (sc 9))) (wf := (wX q cA (va_up (va_up (va_up (va_up (va_up sc 21 R1.2) 13 (0 : Int32)) 14 (0 : Int32)) 21 R50.2) 21 R52.2) ar true)) hP hD hS hA [19, 20] rfl (by decide) rfl rfl
                refine k_goI (va_runV (As := []) (rest := [.long (R52.1.toInt64 + R50.1.toInt64)]) ⟨hx, hb, hml, hown, hts⟩ (kX6_count l D (q 19) (q 20) (cA 9) 400 (ar 9) (sc 9) hc58 _) (cwV 0 hts gX2_readSegment_X6_count rfl rfl rfl (by decide +kernel) ⟨Nat.le_of_ble_eq_true rfl, Nat.le_of_ble_eq_true rfl⟩) (k_preV (q0 := 0) (ci := 5) hk (hK.sub [9] rfl) NT_bl NT_u rfl rfl rfl) rfl rfl hl.1 rfl (lv_room (Nat.le_of_ble_eq_true rfl)) dX2_readSegment_91 ⟨Nat.zero_le _, Nat.zero_le _⟩) hk hS (fun H locs hP hD hS => ?_)
                refine lv_i2l (v := R57.toInt64) hx hb dX2_readSegment_94 rfl ?_
                refine W.lcmp hx hb dX2_readSegment_95 ?_
                refine lv_if_le (tgt := 101) hx hb dX2_readSegment_96 (by decide) (fun c59 => ?_) (fun c59 => ?_)
                · rw [if_pos c59] at hf
                  refine lv_aload_n hx hb dX2_readSegment_101 rfl (lv_at hl 3 rfl) ?_
                  refine lv_iload_n hx hb dX2_readSegment_102 rfl (lv_at hl 0 rfl) ?_
                  refine va_put (D := D) (ci := 1) (v := .int R52.1) (ty := .int) (C := RX2) (T := TX2) (N := 13) hx hb hts (fun w h => List.mem_cons_of_mem _ (List.mem_append_left _ (List.mem_append_left _ (List.mem_append_right _ h)))) tyX2 tyX2_ok nmX2 hown hK hP hD hS 22 rfl rfl 9 (by decide) (hts (.fieldLink RX2 55 "DeltaWindows$Decoder" "segmentPlace" "I") (List.mem_of_getElem? (i := 5) rfl)) (fun _ h9 => h9) rfl (by decide +kernel) rfl rfl (Nat.le_of_ble_eq_true rfl) dX2_readSegment_103 (fun H locs hP hD hS => ?_)
                  have hP : va_P D vwCl (wX q cA (va_up (va_up (va_up (va_up (va_up (va_up sc 21 R1.2) 13 (0 : Int32)) 14 (0 : Int32)) 21 R50.2) 21 R52.2) 13 R52.1) ar true) H := hP
                  have hD : va_D A (wX q cA (va_up (va_up (va_up (va_up (va_up (va_up sc 21 R1.2) 13 (0 : Int32)) 14 (0 : Int32)) 21 R50.2) 21 R52.2) 13 R52.1) ar true) := hD
                  refine lv_aload_n hx hb dX2_readSegment_106 rfl (lv_at hl 3 rfl) ?_
                  refine lv_iload_n hx hb dX2_readSegment_107 rfl (lv_at hl 1 rfl) ?_
                  refine va_put (D := D) (ci := 1) (v := .int R50.1) (ty := .int) (C := RX2) (T := TX2) (N := 13) hx hb hts (fun w h => List.mem_cons_of_mem _ (List.mem_append_left _ (List.mem_append_left _ (List.mem_append_right _ h)))) tyX2 tyX2_ok nmX2 hown hK hP hD hS 22 rfl rfl 10 (by decide) (hts (.fieldLink RX2 58 "DeltaWindows$Decoder" "segmentSize" "I") (List.mem_of_getElem? (i := 6) rfl)) (fun _ h9 => h9) rfl (by decide +kernel) rfl rfl (Nat.le_of_ble_eq_true rfl) dX2_readSegment_108 (fun H locs hP hD hS => ?_)
                  have hP : va_P D vwCl (wX q cA (va_up (va_up (va_up (va_up (va_up (va_up (va_up sc 21 R1.2) 13 (0 : Int32)) 14 (0 : Int32)) 21 R50.2) 21 R52.2) 13 R52.1) 14 R50.1) ar true) H := hP
                  have hD : va_D A (wX q cA (va_up (va_up (va_up (va_up (va_up (va_up (va_up sc 21 R1.2) 13 (0 : Int32)) 14 (0 : Int32)) 21 R50.2) 21 R52.2) 13 R52.1) 14 R50.1) ar true) := hD
                  refine lv_iconst (v := (1 : Int32)) hx hb dX2_readSegment_111 (by decide) ?_
                  obtain rfl := Option.some.inj hf
                  exact k_retZ hx hb hr hlocks hP hS rfl dX2_readSegment_112
                · rw [if_neg c59] at hf
                  refine lv_iconst (v := (0 : Int32)) hx hb dX2_readSegment_99 (by decide) ?_
                  obtain rfl := Option.some.inj hf
                  exact k_retZ hx hb hr hlocks hP hS rfl dX2_readSegment_100
              · rw [if_neg c56] at hf
                refine W.eq (g2 := F0 m 91 ls [.ref (q 1), .long (R52.1.toInt64 + R50.1.toInt64)]) (by rw [(Bool.not_eq_true _).mp c56]; rfl) ?_
                obtain ⟨R60, hc61, hf⟩ := b_inv hf
                have hk := kcut (wc := (wR (q 1) (q 2) (cA 0) 48 (ar 0) (sc 0))) (wc' := (wR (q 1) (q 2) (cA 0) 48 (ar 0) (sc 0))) (wf := (wX q cA (va_up (va_up (va_up (va_up (va_up sc 21 R1.2) 13 (0 : Int32)) 14 (0 : Int32)) 21 R50.2) 21 R52.2) ar true)) hP hD hS hA [1, 2] rfl (by decide) rfl rfl
                refine k_goI (va_runV (As := []) (rest := [.long (R52.1.toInt64 + R50.1.toInt64)]) ⟨hx, hb, hml, hown, hts⟩ (kX6_count l D (q 1) (q 2) (cA 0) 48 (ar 0) (sc 0) hc61 _) (cwV 0 hts gX2_readSegment_X6_count rfl rfl rfl (by decide +kernel) ⟨Nat.le_of_ble_eq_true rfl, Nat.le_of_ble_eq_true rfl⟩) (k_preV (q0 := 0) (ci := 5) hk (hK.sub [0] rfl) NT_bl NT_u rfl rfl rfl) rfl rfl hl.1 rfl (lv_room (Nat.le_of_ble_eq_true rfl)) dX2_readSegment_91 ⟨Nat.zero_le _, Nat.zero_le _⟩) hk hS (fun H locs hP hD hS => ?_)
                refine lv_i2l (v := R60.toInt64) hx hb dX2_readSegment_94 rfl ?_
                refine W.lcmp hx hb dX2_readSegment_95 ?_
                refine lv_if_le (tgt := 101) hx hb dX2_readSegment_96 (by decide) (fun c62 => ?_) (fun c62 => ?_)
                · rw [if_pos c62] at hf
                  refine lv_aload_n hx hb dX2_readSegment_101 rfl (lv_at hl 3 rfl) ?_
                  refine lv_iload_n hx hb dX2_readSegment_102 rfl (lv_at hl 0 rfl) ?_
                  refine va_put (D := D) (ci := 1) (v := .int R52.1) (ty := .int) (C := RX2) (T := TX2) (N := 13) hx hb hts (fun w h => List.mem_cons_of_mem _ (List.mem_append_left _ (List.mem_append_left _ (List.mem_append_right _ h)))) tyX2 tyX2_ok nmX2 hown hK hP hD hS 22 rfl rfl 9 (by decide) (hts (.fieldLink RX2 55 "DeltaWindows$Decoder" "segmentPlace" "I") (List.mem_of_getElem? (i := 5) rfl)) (fun _ h9 => h9) rfl (by decide +kernel) rfl rfl (Nat.le_of_ble_eq_true rfl) dX2_readSegment_103 (fun H locs hP hD hS => ?_)
                  have hP : va_P D vwCl (wX q cA (va_up (va_up (va_up (va_up (va_up (va_up sc 21 R1.2) 13 (0 : Int32)) 14 (0 : Int32)) 21 R50.2) 21 R52.2) 13 R52.1) ar true) H := hP
                  have hD : va_D A (wX q cA (va_up (va_up (va_up (va_up (va_up (va_up sc 21 R1.2) 13 (0 : Int32)) 14 (0 : Int32)) 21 R50.2) 21 R52.2) 13 R52.1) ar true) := hD
                  refine lv_aload_n hx hb dX2_readSegment_106 rfl (lv_at hl 3 rfl) ?_
                  refine lv_iload_n hx hb dX2_readSegment_107 rfl (lv_at hl 1 rfl) ?_
                  refine va_put (D := D) (ci := 1) (v := .int R50.1) (ty := .int) (C := RX2) (T := TX2) (N := 13) hx hb hts (fun w h => List.mem_cons_of_mem _ (List.mem_append_left _ (List.mem_append_left _ (List.mem_append_right _ h)))) tyX2 tyX2_ok nmX2 hown hK hP hD hS 22 rfl rfl 10 (by decide) (hts (.fieldLink RX2 58 "DeltaWindows$Decoder" "segmentSize" "I") (List.mem_of_getElem? (i := 6) rfl)) (fun _ h9 => h9) rfl (by decide +kernel) rfl rfl (Nat.le_of_ble_eq_true rfl) dX2_readSegment_108 (fun H locs hP hD hS => ?_)
                  have hP : va_P D vwCl (wX q cA (va_up (va_up (va_up (va_up (va_up (va_up (va_up sc 21 R1.2) 13 (0 : Int32)) 14 (0 : Int32)) 21 R50.2) 21 R52.2) 13 R52.1) 14 R50.1) ar true) H := hP
                  have hD : va_D A (wX q cA (va_up (va_up (va_up (va_up (va_up (va_up (va_up sc 21 R1.2) 13 (0 : Int32)) 14 (0 : Int32)) 21 R50.2) 21 R52.2) 13 R52.1) 14 R50.1) ar true) := hD
                  refine lv_iconst (v := (1 : Int32)) hx hb dX2_readSegment_111 (by decide) ?_
                  obtain rfl := Option.some.inj hf
                  exact k_retZ hx hb hr hlocks hP hS rfl dX2_readSegment_112
                · rw [if_neg c62] at hf
                  refine lv_iconst (v := (0 : Int32)) hx hb dX2_readSegment_99 (by decide) ?_
                  obtain rfl := Option.some.inj hf
                  exact k_retZ hx hb hr hlocks hP hS rfl dX2_readSegment_100
        · rw [if_neg c49] at hf
          refine lv_iconst (v := (0 : Int32)) hx hb dX2_readSegment_54 (by decide) ?_
          obtain rfl := Option.some.inj hf
          exact k_retZ hx hb hr hlocks hP hS rfl dX2_readSegment_55
    · rw [if_pos c34] at hf
      refine lv_iconst (v := (1 : Int32)) hx hb dX2_readSegment_42 (by decide) ?_
      obtain rfl := Option.some.inj hf
      exact k_retZ hx hb hr hlocks hP hS rfl dX2_readSegment_43

noncomputable def fX2_readWindowHead (sc : Nat → Int32) (ar : Nat → Nat → Int32) (sg : Bool) (x1 : Int32) : Option (Int32 × (Nat → Int32) × Bool) :=
  (fX2_readSegment sc ar sg).bind fun R1 =>
  if R1.1 = 0 then
    some ((-2 : Int32), R1.2.1, R1.2.2)
  else
    (fX5_nextInteger 1000 (R1.2.1 21) (R1.2.1 22) (ar 2) (R1.2.1 2)).bind fun R4 =>
    (fX5_place 1000 R4.2 (R1.2.1 22) (ar 2) (R1.2.1 2)).bind fun R6 =>
    (fX5_nextInteger 1000 R4.2 (R1.2.1 22) (ar 2) (R1.2.1 2)).bind fun R8 =>
    if R4.1 = (-1 : Int32) then
      some ((-2 : Int32), (va_up (va_up R1.2.1 21 R4.2) 21 R8.2), R1.2.2)
    else
      if R8.1 = (-1 : Int32) then
        some ((-2 : Int32), (va_up (va_up R1.2.1 21 R4.2) 21 R8.2), R1.2.2)
      else
        (fX6_count 400 (ar 9) (R1.2.1 9)).bind fun R12 =>
        if R8.1 ≤ (x1 - R12) then
          (fX6_count 400 (ar 9) (R1.2.1 9)).bind fun R15 =>
          (fX2_readParts (va_up (va_up (va_up (va_up R1.2.1 21 R4.2) 21 R8.2) 15 R15) 16 (R15 + R8.1)) ar R1.2.2 R6 R4.1).bind fun R17 =>
          if R17.1 = 0 then
            some ((-2 : Int32), R17.2, R1.2.2)
          else
            some ((0 : Int32), R17.2, R1.2.2)
        else
          some ((-3 : Int32), (va_up (va_up R1.2.1 21 R4.2) 21 R8.2), R1.2.2)

set_option maxHeartbeats 4000000 in
set_option maxRecDepth 100000 in
theorem kX2_readWindowHead (l : Launch) (D : va_G) (q : Nat → Nat) (cA : Nat → ClassId) (sc : Nat → Int32) (ar : Nat → Nat → Int32) (sg : Bool) (x1 : Int32) {R : Int32 × (Nat → Int32) × Bool} (hf : fX2_readWindowHead sc ar sg x1 = some R) : MI l yX2_readWindowHead wsX2_readWindowHead (rmD 3) D ([.ref (q 22), .int x1] : List Value) (wX q cA sc ar sg) (tX cA) NX R.1 (wX q cA R.2.1 ar R.2.2) := by
  refine MI.mk (cc := cX2_readWindowHead) (maxL := 5) (ret := (some .int)) (by first | decide | decide +kernel) rfl (Nat.le_of_ble_eq_true rfl) ?_
  intro p e s m below meth cd A ls hE
  obtain ⟨hx, hb, hr, hml, hts, hown, hlocks, hP, hK, hD, hA, hN, hAe, hl⟩ := hE
  have hown : s.vm.findClass RX2 = some m.cls := hown
  have hS : va_S A s.heap s.heap [] := va_S.rf
  have hl : lv_has ls 5 [(0, .ref (q 22)), (1, .int x1)] := hl
  rw [fX2_readWindowHead] at hf
  refine lv_aload_n hx hb dX2_readWindowHead_0 rfl (lv_at hl 0 rfl) ?_
  obtain ⟨R1, hc2, hf⟩ := b_inv hf
  have hk := kall (wc' := (wX q cA R1.2.1 ar R1.2.2)) hP hD hS hA rfl
  refine k_goI (va_runV (As := []) (rest := []) ⟨hx, hb, hml, hown, hts⟩ (kX2_readSegment l D q cA sc ar sg hc2 _) (cwV 0 hts gX2_readWindowHead_X2_readSegment rfl rfl rfl (by decide +kernel) ⟨Nat.le_of_ble_eq_true rfl, Nat.le_of_ble_eq_true rfl⟩) (k_preV (q0 := 22) (ci := 1) hk hK NX_bl (fun U _ hW => NX_w hW hN) rfl rfl rfl) rfl rfl hl.1 rfl (lv_room (Nat.le_of_ble_eq_true rfl)) dX2_readWindowHead_1 ⟨Nat.zero_le _, Nat.zero_le _⟩) hk hS (fun H locs hP hD hS => ?_)
  refine lv_if_ne (tgt := 10) hx hb dX2_readWindowHead_4 (by decide) (fun c3 => ?_) (fun c3 => ?_)
  · rw [if_neg c3] at hf
    refine lv_aload_n hx hb dX2_readWindowHead_10 rfl (lv_at hl 0 rfl) ?_
    refine va_get (D := D) (ci := 1) (v := .ref (q 36)) (C := RX2) (T := TX2) (N := 13) hx hb hts (fun w h => List.mem_cons_of_mem _ (List.mem_append_left _ (List.mem_append_left _ (List.mem_append_right _ h)))) hown hK hP 22 rfl rfl 3 (by decide) (hts (.fieldLink RX2 35 "DeltaWindows$Decoder" "whole" "LDeltaWindows$Reader;") (List.mem_of_getElem? (i := 1) rfl)) (fun _ h9 => h9) rfl dX2_readWindowHead_11 ?_
    obtain ⟨R4, hc5, hf⟩ := b_inv hf
    have hk := kcut (wc := (wD (q 36) (q 5) (q 6) (cA 2) 1000 (R1.2.1 21) (R1.2.1 22) (ar 2) (R1.2.1 2))) (wc' := (wD (q 36) (q 5) (q 6) (cA 2) 1000 R4.2 (R1.2.1 22) (ar 2) (R1.2.1 2))) (wf := (wX q cA (va_up R1.2.1 21 R4.2) ar R1.2.2)) hP hD hS hA [36, 5, 6] rfl (by decide) rfl rfl
    refine k_goI (va_runV (As := []) (rest := []) ⟨hx, hb, hml, hown, hts⟩ (kX5_nextInteger l D (q 36) (q 5) (q 6) (cA 2) 1000 (R1.2.1 21) (R1.2.1 22) (ar 2) (R1.2.1 2) hc5 _) (cwV 0 hts gX2_readWindowHead_X5_nextInteger rfl rfl rfl (by decide +kernel) ⟨Nat.le_of_ble_eq_true rfl, Nat.le_of_ble_eq_true rfl⟩) (k_preV (q0 := 0) (ci := 4) hk (hK.sub [2] rfl) NR_bl (fun U _ hW => NR_w hW hN.1) rfl rfl rfl) rfl rfl hl.1 rfl (lv_room (Nat.le_of_ble_eq_true rfl)) dX2_readWindowHead_14 ⟨Nat.zero_le _, Nat.zero_le _⟩) hk hS (fun H locs hP hD hS => ?_)
    refine lv_istore_n (lv' := [(2, .int R4.1), (0, .ref (q 22)), (1, .int x1)]) hx hb dX2_readWindowHead_17 rfl hl (by decide) rfl (fun ls hl => ?_)
    refine lv_aload_n hx hb dX2_readWindowHead_18 rfl (lv_at hl 1 rfl) ?_
    refine va_get (D := D) (ci := 1) (v := .ref (q 36)) (C := RX2) (T := TX2) (N := 13) hx hb hts (fun w h => List.mem_cons_of_mem _ (List.mem_append_left _ (List.mem_append_left _ (List.mem_append_right _ h)))) hown hK hP 22 rfl rfl 3 (by decide) (hts (.fieldLink RX2 35 "DeltaWindows$Decoder" "whole" "LDeltaWindows$Reader;") (List.mem_of_getElem? (i := 1) rfl)) (fun _ h9 => h9) rfl dX2_readWindowHead_19 ?_
    obtain ⟨R6, hc7, hf⟩ := b_inv hf
    have hk := kcut (wc := (wD (q 36) (q 5) (q 6) (cA 2) 1000 R4.2 (R1.2.1 22) (ar 2) (R1.2.1 2))) (wc' := (wD (q 36) (q 5) (q 6) (cA 2) 1000 R4.2 (R1.2.1 22) (ar 2) (R1.2.1 2))) (wf := (wX q cA (va_up R1.2.1 21 R4.2) ar R1.2.2)) hP hD hS hA [36, 5, 6] rfl (by decide) rfl rfl
    refine k_goI (va_runV (As := []) (rest := []) ⟨hx, hb, hml, hown, hts⟩ (kX5_place l D (q 36) (q 5) (q 6) (cA 2) 1000 R4.2 (R1.2.1 22) (ar 2) (R1.2.1 2) hc7 _) (cwV 0 hts gX2_readWindowHead_X5_place rfl rfl rfl (by decide +kernel) ⟨Nat.le_of_ble_eq_true rfl, Nat.le_of_ble_eq_true rfl⟩) (k_preV (q0 := 0) (ci := 4) hk (hK.sub [2] rfl) NR_bl (fun U _ hW => NR_w hW hN.1) rfl rfl rfl) rfl rfl hl.1 rfl (lv_room (Nat.le_of_ble_eq_true rfl)) dX2_readWindowHead_22 ⟨Nat.zero_le _, Nat.zero_le _⟩) hk hS (fun H locs hP hD hS => ?_)
    refine lv_istore_n (lv' := [(3, .int R6), (2, .int R4.1), (0, .ref (q 22)), (1, .int x1)]) hx hb dX2_readWindowHead_25 rfl hl (by decide) rfl (fun ls hl => ?_)
    refine lv_aload_n hx hb dX2_readWindowHead_26 rfl (lv_at hl 2 rfl) ?_
    refine va_get (D := D) (ci := 1) (v := .ref (q 36)) (C := RX2) (T := TX2) (N := 13) hx hb hts (fun w h => List.mem_cons_of_mem _ (List.mem_append_left _ (List.mem_append_left _ (List.mem_append_right _ h)))) hown hK hP 22 rfl rfl 3 (by decide) (hts (.fieldLink RX2 35 "DeltaWindows$Decoder" "whole" "LDeltaWindows$Reader;") (List.mem_of_getElem? (i := 1) rfl)) (fun _ h9 => h9) rfl dX2_readWindowHead_27 ?_
    obtain ⟨R8, hc9, hf⟩ := b_inv hf
    have hk := kcut (wc := (wD (q 36) (q 5) (q 6) (cA 2) 1000 R4.2 (R1.2.1 22) (ar 2) (R1.2.1 2))) (wc' := (wD (q 36) (q 5) (q 6) (cA 2) 1000 R8.2 (R1.2.1 22) (ar 2) (R1.2.1 2))) (wf := (wX q cA (va_up (va_up R1.2.1 21 R4.2) 21 R8.2) ar R1.2.2)) hP hD hS hA [36, 5, 6] rfl (by decide) rfl rfl
    refine k_goI (va_runV (As := []) (rest := []) ⟨hx, hb, hml, hown, hts⟩ (kX5_nextInteger l D (q 36) (q 5) (q 6) (cA 2) 1000 R4.2 (R1.2.1 22) (ar 2) (R1.2.1 2) hc9 _) (cwV 0 hts gX2_readWindowHead_X5_nextInteger rfl rfl rfl (by decide +kernel) ⟨Nat.le_of_ble_eq_true rfl, Nat.le_of_ble_eq_true rfl⟩) (k_preV (q0 := 0) (ci := 4) hk (hK.sub [2] rfl) NR_bl (fun U _ hW => NR_w hW hN.1) rfl rfl rfl) rfl rfl hl.1 rfl (lv_room (Nat.le_of_ble_eq_true rfl)) dX2_readWindowHead_30 ⟨Nat.zero_le _, Nat.zero_le _⟩) hk hS (fun H locs hP hD hS => ?_)
    refine lv_istore (lv' := [(4, .int R8.1), (3, .int R6), (2, .int R4.1), (0, .ref (q 22)), (1, .int x1)]) hx hb dX2_readWindowHead_33 hl (by decide) rfl (fun ls hl => ?_)
    refine lv_iload_n hx hb dX2_readWindowHead_35 rfl (lv_at hl 2 rfl) ?_
    refine lv_iconst (v := (-1 : Int32)) hx hb dX2_readWindowHead_36 (by decide) ?_
    refine lv_icmp_eq (tgt := 46) hx hb dX2_readWindowHead_37 (by decide) (fun c10 => ?_) (fun c10 => ?_)
    · rw [if_pos c10] at hf
      refine lv_bipush (v := (-2 : Int32)) hx hb dX2_readWindowHead_46 (by decide) ?_
      obtain rfl := Option.some.inj hf
      exact k_retI hx hb hr hlocks hP hS dX2_readWindowHead_48
    · rw [if_neg c10] at hf
      refine lv_iload hx hb dX2_readWindowHead_40 (lv_at hl 0 rfl) ?_
      refine lv_iconst (v := (-1 : Int32)) hx hb dX2_readWindowHead_42 (by decide) ?_
      refine lv_icmp_ne (tgt := 49) hx hb dX2_readWindowHead_43 (by decide) (fun c11 => ?_) (fun c11 => ?_)
      · rw [if_neg c11] at hf
        refine lv_iload hx hb dX2_readWindowHead_49 (lv_at hl 0 rfl) ?_
        refine lv_iload_n hx hb dX2_readWindowHead_51 rfl (lv_at hl 4 rfl) ?_
        refine lv_aload_n hx hb dX2_readWindowHead_52 rfl (lv_at hl 3 rfl) ?_
        refine va_get (D := D) (ci := 1) (v := .ref (q 19)) (C := RX2) (T := TX2) (N := 13) hx hb hts (fun w h => List.mem_cons_of_mem _ (List.mem_append_left _ (List.mem_append_left _ (List.mem_append_right _ h)))) hown hK hP 22 rfl rfl 1 (by decide) (hts (.fieldLink RX2 20 "DeltaWindows$Decoder" "made" "LDeltaWindows$Row;") (List.mem_of_getElem? (i := 2) rfl)) (fun _ h9 => h9) rfl dX2_readWindowHead_53 ?_
        obtain ⟨R12, hc13, hf⟩ := b_inv hf
        have hk := kcut (wc := (wR (q 19) (q 20) (cA 9) 400 (ar 9) (R1.2.1 9))) (wc' := (wR (q 19) (q 20) (cA 9) 400 (ar 9) (R1.2.1 9))) (wf := (wX q cA (va_up (va_up R1.2.1 21 R4.2) 21 R8.2) ar R1.2.2)) hP hD hS hA [19, 20] rfl (by decide) rfl rfl
        refine k_goI (va_runV (As := []) (rest := [.int x1, .int R8.1]) ⟨hx, hb, hml, hown, hts⟩ (kX6_count l D (q 19) (q 20) (cA 9) 400 (ar 9) (R1.2.1 9) hc13 _) (cwV 0 hts gX2_readWindowHead_X6_count rfl rfl rfl (by decide +kernel) ⟨Nat.le_of_ble_eq_true rfl, Nat.le_of_ble_eq_true rfl⟩) (k_preV (q0 := 0) (ci := 5) hk (hK.sub [9] rfl) NT_bl NT_u rfl rfl rfl) rfl rfl hl.1 rfl (lv_room (Nat.le_of_ble_eq_true rfl)) dX2_readWindowHead_56 ⟨Nat.zero_le _, Nat.zero_le _⟩) hk hS (fun H locs hP hD hS => ?_)
        refine lv_isub hx hb dX2_readWindowHead_59 ?_
        refine lv_icmp_le (tgt := 66) hx hb dX2_readWindowHead_60 (by decide) (fun c14 => ?_) (fun c14 => ?_)
        · rw [if_pos c14] at hf
          refine lv_aload_n hx hb dX2_readWindowHead_66 rfl (lv_at hl 3 rfl) ?_
          refine lv_aload_n hx hb dX2_readWindowHead_67 rfl (lv_at hl 3 rfl) ?_
          refine va_get (D := D) (ci := 1) (v := .ref (q 19)) (C := RX2) (T := TX2) (N := 13) hx hb hts (fun w h => List.mem_cons_of_mem _ (List.mem_append_left _ (List.mem_append_left _ (List.mem_append_right _ h)))) hown hK hP 22 rfl rfl 1 (by decide) (hts (.fieldLink RX2 20 "DeltaWindows$Decoder" "made" "LDeltaWindows$Row;") (List.mem_of_getElem? (i := 2) rfl)) (fun _ h9 => h9) rfl dX2_readWindowHead_68 ?_
          obtain ⟨R15, hc16, hf⟩ := b_inv hf
          have hk := kcut (wc := (wR (q 19) (q 20) (cA 9) 400 (ar 9) (R1.2.1 9))) (wc' := (wR (q 19) (q 20) (cA 9) 400 (ar 9) (R1.2.1 9))) (wf := (wX q cA (va_up (va_up R1.2.1 21 R4.2) 21 R8.2) ar R1.2.2)) hP hD hS hA [19, 20] rfl (by decide) rfl rfl
          refine k_goI (va_runV (As := []) (rest := [.ref (q 22)]) ⟨hx, hb, hml, hown, hts⟩ (kX6_count l D (q 19) (q 20) (cA 9) 400 (ar 9) (R1.2.1 9) hc16 _) (cwV 0 hts gX2_readWindowHead_X6_count rfl rfl rfl (by decide +kernel) ⟨Nat.le_of_ble_eq_true rfl, Nat.le_of_ble_eq_true rfl⟩) (k_preV (q0 := 0) (ci := 5) hk (hK.sub [9] rfl) NT_bl NT_u rfl rfl rfl) rfl rfl hl.1 rfl (lv_room (Nat.le_of_ble_eq_true rfl)) dX2_readWindowHead_71 ⟨Nat.zero_le _, Nat.zero_le _⟩) hk hS (fun H locs hP hD hS => ?_)
          refine va_put (D := D) (ci := 1) (v := .int R15) (ty := .int) (C := RX2) (T := TX2) (N := 13) hx hb hts (fun w h => List.mem_cons_of_mem _ (List.mem_append_left _ (List.mem_append_left _ (List.mem_append_right _ h)))) tyX2 tyX2_ok nmX2 hown hK hP hD hS 22 rfl rfl 11 (by decide) (hts (.fieldLink RX2 61 "DeltaWindows$Decoder" "windowStart" "I") (List.mem_of_getElem? (i := 3) rfl)) (fun _ h9 => h9) rfl (by decide +kernel) rfl rfl (Nat.le_of_ble_eq_true rfl) dX2_readWindowHead_74 (fun H locs hP hD hS => ?_)
          have hP : va_P D vwCl (wX q cA (va_up (va_up (va_up R1.2.1 21 R4.2) 21 R8.2) 15 R15) ar R1.2.2) H := hP
          have hD : va_D A (wX q cA (va_up (va_up (va_up R1.2.1 21 R4.2) 21 R8.2) 15 R15) ar R1.2.2) := hD
          refine lv_aload_n hx hb dX2_readWindowHead_77 rfl (lv_at hl 3 rfl) ?_
          refine lv_aload_n hx hb dX2_readWindowHead_78 rfl (lv_at hl 3 rfl) ?_
          refine va_get (D := D) (ci := 1) (v := .int R15) (C := RX2) (T := TX2) (N := 13) hx hb hts (fun w h => List.mem_cons_of_mem _ (List.mem_append_left _ (List.mem_append_left _ (List.mem_append_right _ h)))) hown hK hP 22 rfl rfl 11 (by decide) (hts (.fieldLink RX2 61 "DeltaWindows$Decoder" "windowStart" "I") (List.mem_of_getElem? (i := 3) rfl)) (fun _ h9 => h9) rfl dX2_readWindowHead_79 ?_
          refine lv_iload hx hb dX2_readWindowHead_82 (lv_at hl 0 rfl) ?_
          refine lv_iadd hx hb dX2_readWindowHead_84 ?_
          refine va_put (D := D) (ci := 1) (v := .int (R15 + R8.1)) (ty := .int) (C := RX2) (T := TX2) (N := 13) hx hb hts (fun w h => List.mem_cons_of_mem _ (List.mem_append_left _ (List.mem_append_left _ (List.mem_append_right _ h)))) tyX2 tyX2_ok nmX2 hown hK hP hD hS 22 rfl rfl 12 (by decide) (hts (.fieldLink RX2 64 "DeltaWindows$Decoder" "windowEnd" "I") (List.mem_of_getElem? (i := 4) rfl)) (fun _ h9 => h9) rfl (by decide +kernel) rfl rfl (Nat.le_of_ble_eq_true rfl) dX2_readWindowHead_85 (fun H locs hP hD hS => ?_)
          have hP : va_P D vwCl (wX q cA (va_up (va_up (va_up (va_up R1.2.1 21 R4.2) 21 R8.2) 15 R15) 16 (R15 + R8.1)) ar R1.2.2) H := hP
          have hD : va_D A (wX q cA (va_up (va_up (va_up (va_up R1.2.1 21 R4.2) 21 R8.2) 15 R15) 16 (R15 + R8.1)) ar R1.2.2) := hD
          refine lv_aload_n hx hb dX2_readWindowHead_88 rfl (lv_at hl 3 rfl) ?_
          refine lv_iload_n hx hb dX2_readWindowHead_89 rfl (lv_at hl 1 rfl) ?_
          refine lv_iload_n hx hb dX2_readWindowHead_90 rfl (lv_at hl 2 rfl) ?_
          obtain ⟨R17, hc18, hf⟩ := b_inv hf
          have hk := kall (wc' := (wX q cA R17.2 ar R1.2.2)) hP hD hS hA rfl
          refine k_goI (va_runV (As := [.int R6, .int R4.1]) (rest := []) ⟨hx, hb, hml, hown, hts⟩ (kX2_readParts l D q cA (va_up (va_up (va_up (va_up R1.2.1 21 R4.2) 21 R8.2) 15 R15) 16 (R15 + R8.1)) ar R1.2.2 R6 R4.1 hc18 _) (cwV 2 hts gX2_readWindowHead_X2_readParts rfl rfl rfl (by decide +kernel) ⟨Nat.le_of_ble_eq_true rfl, Nat.le_of_ble_eq_true rfl⟩) (k_preV (q0 := 22) (ci := 1) hk hK NX_bl (fun U _ hW => NX_w hW hN) rfl rfl rfl) rfl rfl hl.1 rfl (lv_room (Nat.le_of_ble_eq_true rfl)) dX2_readWindowHead_91 ⟨Nat.zero_le _, Nat.zero_le _⟩) hk hS (fun H locs hP hD hS => ?_)
          refine lv_if_eq (tgt := 101) hx hb dX2_readWindowHead_94 (by decide) (fun c19 => ?_) (fun c19 => ?_)
          · rw [if_pos c19] at hf
            refine lv_bipush (v := (-2 : Int32)) hx hb dX2_readWindowHead_101 (by decide) ?_
            obtain rfl := Option.some.inj hf
            exact k_retI hx hb hr hlocks hP hS dX2_readWindowHead_103
          · rw [if_neg c19] at hf
            refine lv_iconst (v := (0 : Int32)) hx hb dX2_readWindowHead_97 (by decide) ?_
            refine lv_goto (tgt := 103) hx hb dX2_readWindowHead_98 (by decide) ?_
            obtain rfl := Option.some.inj hf
            exact k_retI hx hb hr hlocks hP hS dX2_readWindowHead_103
        · rw [if_neg c14] at hf
          refine lv_bipush (v := (-3 : Int32)) hx hb dX2_readWindowHead_63 (by decide) ?_
          obtain rfl := Option.some.inj hf
          exact k_retI hx hb hr hlocks hP hS dX2_readWindowHead_65
      · rw [if_pos c11] at hf
        refine lv_bipush (v := (-2 : Int32)) hx hb dX2_readWindowHead_46 (by decide) ?_
        obtain rfl := Option.some.inj hf
        exact k_retI hx hb hr hlocks hP hS dX2_readWindowHead_48
  · rw [if_pos c3] at hf
    refine lv_bipush (v := (-2 : Int32)) hx hb dX2_readWindowHead_7 (by decide) ?_
    obtain rfl := Option.some.inj hf
    exact k_retI hx hb hr hlocks hP hS dX2_readWindowHead_9

noncomputable def fX2_readHead_L9 (ar : Nat → Nat → Int32) (sg : Bool) (v2 : Int32) : Nat → (Int32) → (Nat → Int32) → Option (((Nat → Int32)) ⊕ (Int32 × (Nat → Int32)))
  | 0, _, _ => none
  | k + 1, v3, sc =>
    if v2 ≤ v3 then
      some (Sum.inl sc)
    else
      if inb v3 5 = true then
      (fX5_nextByte 1000 (sc 21) (sc 22) (ar 2) (sc 2)).bind fun R3 =>
      if R3.1 = (HDf v3.toNatClampNeg) then
        fX2_readHead_L9 ar sg v2 k (v3 + (1 : Int32)) (va_up sc 21 R3.2)
      else
        some (Sum.inr ((0 : Int32), (va_up sc 21 R3.2)))
      else none

noncomputable def fX2_readHead (sc : Nat → Int32) (ar : Nat → Nat → Int32) (sg : Bool) : Option (Int32 × (Nat → Int32)) :=
  (fX2_readHead_L9 ar sg (Int32.ofNat 5) FU (0 : Int32) sc).bind fun R6o => Sum.elim (fun R6 =>
    some ((1 : Int32), R6)) (fun r => some r) R6o

set_option maxHeartbeats 4000000 in
set_option maxRecDepth 100000 in
theorem kX2_readHead (l : Launch) (D : va_G) (hd : Nat) (q : Nat → Nat) (cA : Nat → ClassId) (sc : Nat → Int32) (ar : Nat → Nat → Int32) (sg : Bool) {R : Int32 × (Nat → Int32)} (hf : fX2_readHead sc ar sg = some R) : MI l yX2_readHead wsX2_readHead (rmD 1) D ([.ref (q 22)] : List Value) (wX q cA sc ar sg) (tX cA) (NXH hd q) R.1 (wX q cA R.2 ar sg) := by
  refine MI.mk (cc := cX2_readHead) (maxL := 5) (ret := (some .boolean)) (by first | decide | decide +kernel) rfl (Nat.le_of_ble_eq_true rfl) ?_
  intro p e s m below meth cd A ls hE
  obtain ⟨hx, hb, hr, hml, hts, hown, hlocks, hP, hK, hD, hA, hN, hAe, hl⟩ := hE
  have hown : s.vm.findClass RX2 = some m.cls := hown
  have hS : va_S A s.heap s.heap [] := va_S.rf
  have hl : lv_has ls 5 [(0, .ref (q 22))] := hl
  obtain ⟨hNx, hZ0, hXh, hdl, hdq⟩ := id hN
  have hZ : va_Z RX7 "HEAD" "[I" (.ref hd) A s s.heap := hZ0.narrow (fun a h => by rw [hAe] at h; exact wX_A h)
  have hdA : ¬ A hd := fun h => hdq (by rw [hAe] at h; exact wX_A h)
  rw [fX2_readHead] at hf
  refine va_getsN hx hb hZ hS hown (va_Nw.use rfl hNx.2.2.2.2.2.2) (fun _ h9 => h9) dX2_readHead_0 ?_
  refine lv_astore_n (lv' := [(1, .ref hd), (0, .ref (q 22))]) hx hb dX2_readHead_3 rfl hl (by decide) rfl (fun ls hl => ?_)
  refine lv_aload_n hx hb dX2_readHead_4 rfl (lv_at hl 0 rfl) ?_
  refine va_slen hx hb hXh hdl hdA hS dX2_readHead_5 ?_
  refine lv_istore_n (lv' := [(2, .int (Int32.ofNat 5)), (1, .ref hd), (0, .ref (q 22))]) hx hb dX2_readHead_6 rfl hl (by decide) rfl (fun ls hl => ?_)
  refine lv_iconst (v := (0 : Int32)) hx hb dX2_readHead_7 (by decide) ?_
  refine lv_istore_n (lv' := [(3, .int (0 : Int32)), (2, .int (Int32.ofNat 5)), (1, .ref hd), (0, .ref (q 22))]) hx hb dX2_readHead_8 rfl hl (by decide) rfl (fun ls hl => ?_)
  have lp8 : ∀ (ar : Nat → Nat → Int32) (sg : Bool) (v2 : Int32), ∀ (k : Nat) (v3 : Int32) (sc : Nat → Int32) (H : Heap) (locs : List Loc) (ls : Array Slot) (o : ((Nat → Int32)) ⊕ (Int32 × (Nat → Int32))), lv_has ls 5 [(3, .int v3), (2, .int v2), (0, .ref (q 22)), (1, .ref hd)] → va_P D vwCl (wX q cA sc ar sg) H → va_D A (wX q cA sc ar sg) → va_S A s.heap H locs → fX2_readHead_L9 ar sg v2 k v3 sc = some o → (∀ o1 : (Nat → Int32), o = Sum.inl o1 → (∀ (H : Heap) (locs : List Loc) (ls : Array Slot), lv_has ls 5 [] → va_P D vwCl (wX q cA o1 ar sg) H → va_D A (wX q cA o1 ar sg) → va_S A s.heap H locs → W p l e (headSpec wsX2_readHead (rmD 1)).room s m ([.ref (q 22)] : List Value).toArray below meth cd H locs 0 0 (QI D below ([.ref (q 22)] : List Value).toArray s A R.1 (wX q cA R.2 ar sg)) (F0 m 39 ls []))) → (∀ r, o = Sum.inr r → some r = some R) → W p l e (headSpec wsX2_readHead (rmD 1)).room s m ([.ref (q 22)] : List Value).toArray below meth cd H locs 0 0 (QI D below ([.ref (q 22)] : List Value).toArray s A R.1 (wX q cA R.2 ar sg)) (F0 m 9 ls []) := by
    intro ar sg v2
    intro k
    induction k with
    | zero =>
      intro v3 sc H locs ls o hl hP hD hS hf
      exact absurd hf (by simp [fX2_readHead_L9])
    | succ k ih =>
      intro v3 sc H locs ls o hl hP hD hS hf kont kr
      rw [fX2_readHead_L9] at hf
      refine lv_iload_n hx hb dX2_readHead_9 rfl (lv_at hl 0 rfl) ?_
      refine lv_iload_n hx hb dX2_readHead_10 rfl (lv_at hl 1 rfl) ?_
      refine lv_icmp_ge (tgt := 39) hx hb dX2_readHead_11 (by decide) (fun c1 => ?_) (fun c1 => ?_)
      · rw [if_pos c1] at hf
        obtain rfl := Option.some.inj hf
        exact kont _ rfl _ _ _ (lv_sub hl [] rfl) hP hD hS
      · rw [if_neg c1] at hf
        refine lv_aload_n hx hb dX2_readHead_14 rfl (lv_at hl 3 rfl) ?_
        refine lv_iload_n hx hb dX2_readHead_15 rfl (lv_at hl 0 rfl) ?_
        obtain ⟨g2, hf⟩ := g_inv hf
        refine va_sld hx hb hXh hdl hdA hS (inb_vp g2) dX2_readHead_16 ?_
        refine lv_istore (lv' := [(4, .int (HDf v3.toNatClampNeg)), (3, .int v3), (2, .int v2), (0, .ref (q 22)), (1, .ref hd)]) hx hb dX2_readHead_17 hl (by decide) rfl (fun ls hl => ?_)
        refine lv_aload_n hx hb dX2_readHead_19 rfl (lv_at hl 3 rfl) ?_
        refine va_get (D := D) (ci := 1) (v := .ref (q 36)) (C := RX2) (T := TX2) (N := 13) hx hb hts (fun w h => List.mem_cons_of_mem _ (List.mem_append_left _ (List.mem_append_left _ (List.mem_append_right _ h)))) hown hK hP 22 rfl rfl 3 (by decide) (hts (.fieldLink RX2 35 "DeltaWindows$Decoder" "whole" "LDeltaWindows$Reader;") (List.mem_of_getElem? (i := 1) rfl)) (fun _ h9 => h9) rfl dX2_readHead_20 ?_
        obtain ⟨R3, hc4, hf⟩ := b_inv hf
        have hk := kcut (wc := (wD (q 36) (q 5) (q 6) (cA 2) 1000 (sc 21) (sc 22) (ar 2) (sc 2))) (wc' := (wD (q 36) (q 5) (q 6) (cA 2) 1000 R3.2 (sc 22) (ar 2) (sc 2))) (wf := (wX q cA (va_up sc 21 R3.2) ar sg)) hP hD hS hA [36, 5, 6] rfl (by decide) rfl rfl
        refine k_goI (va_runV (As := []) (rest := []) ⟨hx, hb, hml, hown, hts⟩ (kX5_nextByte l D (q 36) (q 5) (q 6) (cA 2) 1000 (sc 21) (sc 22) (ar 2) (sc 2) hc4 _) (cwV 0 hts gX2_readHead_X5_nextByte rfl rfl rfl (by decide +kernel) ⟨Nat.le_of_ble_eq_true rfl, Nat.le_of_ble_eq_true rfl⟩) (k_preV (q0 := 0) (ci := 4) hk (hK.sub [2] rfl) NR_bl (fun U _ hW => NR_w hW hNx.1) rfl rfl rfl) rfl rfl hl.1 rfl (lv_room (Nat.le_of_ble_eq_true rfl)) dX2_readHead_23 ⟨Nat.zero_le _, Nat.zero_le _⟩) hk hS (fun H locs hP hD hS => ?_)
        refine lv_iload hx hb dX2_readHead_26 (lv_at hl 0 rfl) ?_
        refine lv_icmp_eq (tgt := 33) hx hb dX2_readHead_28 (by decide) (fun c5 => ?_) (fun c5 => ?_)
        · rw [if_pos c5] at hf
          refine lv_iinc (v := (v3 + (1 : Int32))) (lv' := [(3, .int (v3 + (1 : Int32))), (4, .int (HDf v3.toNatClampNeg)), (2, .int v2), (0, .ref (q 22)), (1, .ref hd)]) hx hb dX2_readHead_33 hl (k := 1) rfl rfl (by decide) rfl (fun ls hl => ?_)
          refine lv_goto (tgt := 9) hx hb dX2_readHead_36 (by decide) ?_
          exact ih (v3 + (1 : Int32)) (va_up sc 21 R3.2) _ _ _ o (lv_sub hl [0, 2, 3, 4] rfl) hP hD hS hf kont kr
        · rw [if_neg c5] at hf
          refine lv_iconst (v := (0 : Int32)) hx hb dX2_readHead_31 (by decide) ?_
          obtain rfl := Option.some.inj hf
          have hf9 := kr _ rfl
          obtain rfl := Option.some.inj hf9
          exact k_retZ hx hb hr hlocks hP hS rfl dX2_readHead_32
  obtain ⟨R6o, hc7, hf⟩ := b_inv hf
  refine lp8 ar sg (Int32.ofNat 5) FU (0 : Int32) sc _ _ _ R6o (lv_sub hl [0, 1, 3, 2] rfl) hP hD hS hc7 (fun R6 ho H locs ls hl hP hD hS => ?_) (fun r ho => ?_)
  · subst ho
    simp only [Sum.elim_inl] at hf
    refine lv_iconst (v := (1 : Int32)) hx hb dX2_readHead_39 (by decide) ?_
    obtain rfl := Option.some.inj hf
    exact k_retZ hx hb hr hlocks hP hS rfl dX2_readHead_40
  · subst ho
    simpa only [Sum.elim_inr] using hf

noncomputable def fX2_readDelta_L43 (v1 : Int32) : Nat → (Int32) → (Nat → Int32) → (Nat → Nat → Int32) → (Bool) → Option (((Nat → Int32) × (Nat → Nat → Int32) × Bool) ⊕ (Int32 × (Nat → Int32) × (Nat → Nat → Int32) × Bool))
  | 0, _, _, _, _ => none
  | k + 1, v2, sc, ar, sg =>
    if (1000 : Int32) ≤ v2 then
      some (Sum.inl (sc, ar, sg))
    else
      (fX5_left 1000 (sc 21) (sc 22) (ar 2) (sc 2)).bind fun R11 =>
      if R11 ≤ 0 then
        some (Sum.inl (sc, ar, sg))
      else
        (fX2_readWindowHead sc ar sg v1).bind fun R14 =>
        if R14.1 = 0 then
          (fX2_makeWindow R14.2.1 ar R14.2.2).bind fun R17 =>
          if R17.1 = 0 then
            some (Sum.inr ((-2 : Int32), R17.2.1, R17.2.2, R14.2.2))
          else
            fX2_readDelta_L43 v1 k (v2 + (1 : Int32)) (va_up R17.2.1 12 ((R17.2.1 12) + (1 : Int32))) R17.2.2 R14.2.2
        else
          some (Sum.inr (R14.1, R14.2.1, ar, R14.2.2))

noncomputable def fX2_readDelta (sc : Nat → Int32) (ar : Nat → Nat → Int32) (sg : Bool) (x1 : Int32) : Option (Int32 × (Nat → Int32) × (Nat → Nat → Int32) × Bool) :=
  (fX6_keep 400 (ar 9) (sc 9) (0 : Int32)).bind fun R1 =>
  (fX0_clear (ar 12) (ar 13) (sc 18)).bind fun R3 =>
  (fX5_open 1000 (sc 21) (sc 22) (ar 2) (sc 2) (0 : Int32) (1000 : Int32)).bind fun R5 =>
  (fX2_readHead (va_up (va_up (va_up (va_up (va_up sc 9 R1) 18 R3.2.2) 12 (0 : Int32)) 21 R5.1) 22 R5.2) (va_up (va_up ar 12 R3.1) 13 R3.2.1) sg).bind fun R7 =>
  if R7.1 = 0 then
    some ((-2 : Int32), R7.2, (va_up (va_up ar 12 R3.1) 13 R3.2.1), sg)
  else
    (fX2_readDelta_L43 x1 FU (0 : Int32) R7.2 (va_up (va_up ar 12 R3.1) 13 R3.2.1) sg).bind fun R20o => Sum.elim (fun R20 =>
      (fX6_count 400 (R20.2.1 9) (R20.1 9)).bind fun R22 =>
      some (R22, R20.1, R20.2.1, R20.2.2)) (fun r => some r) R20o

set_option maxHeartbeats 4000000 in
set_option maxRecDepth 100000 in
theorem kX2_readDelta (l : Launch) (D : va_G) (hd : Nat) (q : Nat → Nat) (cA : Nat → ClassId) (sc : Nat → Int32) (ar : Nat → Nat → Int32) (sg : Bool) (x1 : Int32) {R : Int32 × (Nat → Int32) × (Nat → Nat → Int32) × Bool} (hf : fX2_readDelta sc ar sg x1 = some R) : MI l yX2_readDelta wsX2_readDelta (rmD 5) D ([.ref (q 22), .int x1] : List Value) (wX q cA sc ar sg) (tX cA) (NXH hd q) R.1 (wX q cA R.2.1 R.2.2.1 R.2.2.2) := by
  refine MI.mk (cc := cX2_readDelta) (maxL := 4) (ret := (some .int)) (by first | decide | decide +kernel) rfl (Nat.le_of_ble_eq_true rfl) ?_
  intro p e s m below meth cd A ls hE
  obtain ⟨hx, hb, hr, hml, hts, hown, hlocks, hP, hK, hD, hA, hN, hAe, hl⟩ := hE
  have hown : s.vm.findClass RX2 = some m.cls := hown
  have hS : va_S A s.heap s.heap [] := va_S.rf
  have hl : lv_has ls 4 [(0, .ref (q 22)), (1, .int x1)] := hl
  obtain ⟨hNx, hZ0, hXh, hdl, hdq⟩ := id hN
  have hZ : va_Z RX7 "HEAD" "[I" (.ref hd) A s s.heap := hZ0.narrow (fun a h => by rw [hAe] at h; exact wX_A h)
  have hdA : ¬ A hd := fun h => hdq (by rw [hAe] at h; exact wX_A h)
  rw [fX2_readDelta] at hf
  refine lv_aload_n hx hb dX2_readDelta_0 rfl (lv_at hl 0 rfl) ?_
  refine va_get (D := D) (ci := 1) (v := .ref (q 19)) (C := RX2) (T := TX2) (N := 13) hx hb hts (fun w h => List.mem_cons_of_mem _ (List.mem_append_left _ (List.mem_append_left _ (List.mem_append_left _ (List.mem_append_right _ h))))) hown hK hP 22 rfl rfl 1 (by decide) (hts (.fieldLink RX2 20 "DeltaWindows$Decoder" "made" "LDeltaWindows$Row;") (List.mem_of_getElem? (i := 1) rfl)) (fun _ h9 => h9) rfl dX2_readDelta_1 ?_
  refine lv_iconst (v := (0 : Int32)) hx hb dX2_readDelta_4 (by decide) ?_
  obtain ⟨R1, hc2, hf⟩ := b_inv hf
  have hk := kcut (wc := (wR (q 19) (q 20) (cA 9) 400 (ar 9) (sc 9))) (wc' := (wR (q 19) (q 20) (cA 9) 400 (ar 9) R1)) (wf := (wX q cA (va_up sc 9 R1) ar sg)) hP hD hS hA [19, 20] rfl (by decide) rfl rfl
  refine k_goV (va_runV (As := [.int (0 : Int32)]) (rest := []) ⟨hx, hb, hml, hown, hts⟩ (kX6_keep l D (q 19) (q 20) (cA 9) 400 (ar 9) (sc 9) (0 : Int32) hc2 _) (cwV 1 hts gX2_readDelta_X6_keep rfl rfl rfl (by decide +kernel) ⟨Nat.le_of_ble_eq_true rfl, Nat.le_of_ble_eq_true rfl⟩) (k_preV (q0 := 0) (ci := 5) hk (hK.sub [9] rfl) NT_bl NT_u rfl rfl rfl) rfl rfl hl.1 rfl (lv_room (Nat.le_of_ble_eq_true rfl)) dX2_readDelta_5 ⟨Nat.zero_le _, Nat.zero_le _⟩) hk hS (fun H locs hP hD hS => ?_)
  refine lv_aload_n hx hb dX2_readDelta_8 rfl (lv_at hl 0 rfl) ?_
  refine va_get (D := D) (ci := 1) (v := .ref (q 26)) (C := RX2) (T := TX2) (N := 13) hx hb hts (fun w h => List.mem_cons_of_mem _ (List.mem_append_left _ (List.mem_append_left _ (List.mem_append_left _ (List.mem_append_right _ h))))) hown hK hP 22 rfl rfl 2 (by decide) (hts (.fieldLink RX2 26 "DeltaWindows$Decoder" "caches" "LDeltaWindows$Caches;") (List.mem_of_getElem? (i := 2) rfl)) (fun _ h9 => h9) rfl dX2_readDelta_9 ?_
  obtain ⟨R3, hc4, hf⟩ := b_inv hf
  have hk := kcut (wc := (wC (q 26) (q 27) (q 28) (cA 12) (cA 13) (ar 12) (ar 13) (sc 18))) (wc' := (wC (q 26) (q 27) (q 28) (cA 12) (cA 13) R3.1 R3.2.1 R3.2.2)) (wf := (wX q cA (va_up (va_up sc 9 R1) 18 R3.2.2) (va_up (va_up ar 12 R3.1) 13 R3.2.1) sg)) hP hD hS hA [26, 27, 28] rfl (by decide) rfl rfl
  refine k_goV (va_runV (As := []) (rest := []) ⟨hx, hb, hml, hown, hts⟩ (kX0_clear l D (q 26) (q 27) (q 28) (cA 12) (cA 13) (ar 12) (ar 13) (sc 18) hc4 _) (cwV 0 hts gX2_readDelta_X0_clear rfl rfl rfl (by decide +kernel) ⟨Nat.le_of_ble_eq_true rfl, Nat.le_of_ble_eq_true rfl⟩) (k_preV (q0 := 0) (ci := 0) hk (hK.sub [12, 13] rfl) NT_bl NT_u rfl rfl rfl) rfl rfl hl.1 rfl (lv_room (Nat.le_of_ble_eq_true rfl)) dX2_readDelta_12 ⟨Nat.zero_le _, Nat.zero_le _⟩) hk hS (fun H locs hP hD hS => ?_)
  refine lv_aload_n hx hb dX2_readDelta_15 rfl (lv_at hl 0 rfl) ?_
  refine lv_iconst (v := (0 : Int32)) hx hb dX2_readDelta_16 (by decide) ?_
  refine va_put (D := D) (ci := 1) (v := .int (0 : Int32)) (ty := .int) (C := RX2) (T := TX2) (N := 13) hx hb hts (fun w h => List.mem_cons_of_mem _ (List.mem_append_left _ (List.mem_append_left _ (List.mem_append_left _ (List.mem_append_right _ h))))) tyX2 tyX2_ok nmX2 hown hK hP hD hS 22 rfl rfl 7 (by decide) (hts (.fieldLink RX2 48 "DeltaWindows$Decoder" "windowsRead" "I") (List.mem_of_getElem? (i := 3) rfl)) (fun _ h9 => h9) rfl (by decide +kernel) rfl rfl (Nat.le_of_ble_eq_true rfl) dX2_readDelta_17 (fun H locs hP hD hS => ?_)
  have hP : va_P D vwCl (wX q cA (va_up (va_up (va_up sc 9 R1) 18 R3.2.2) 12 (0 : Int32)) (va_up (va_up ar 12 R3.1) 13 R3.2.1) sg) H := hP
  have hD : va_D A (wX q cA (va_up (va_up (va_up sc 9 R1) 18 R3.2.2) 12 (0 : Int32)) (va_up (va_up ar 12 R3.1) 13 R3.2.1) sg) := hD
  refine lv_aload_n hx hb dX2_readDelta_20 rfl (lv_at hl 0 rfl) ?_
  refine va_get (D := D) (ci := 1) (v := .ref (q 36)) (C := RX2) (T := TX2) (N := 13) hx hb hts (fun w h => List.mem_cons_of_mem _ (List.mem_append_left _ (List.mem_append_left _ (List.mem_append_left _ (List.mem_append_right _ h))))) hown hK hP 22 rfl rfl 3 (by decide) (hts (.fieldLink RX2 35 "DeltaWindows$Decoder" "whole" "LDeltaWindows$Reader;") (List.mem_of_getElem? (i := 4) rfl)) (fun _ h9 => h9) rfl dX2_readDelta_21 ?_
  refine lv_iconst (v := (0 : Int32)) hx hb dX2_readDelta_24 (by decide) ?_
  refine lv_sipush (v := (1000 : Int32)) hx hb dX2_readDelta_25 (by decide) ?_
  obtain ⟨R5, hc6, hf⟩ := b_inv hf
  have hk := kcut (wc := (wD (q 36) (q 5) (q 6) (cA 2) 1000 (sc 21) (sc 22) (ar 2) (sc 2))) (wc' := (wD (q 36) (q 5) (q 6) (cA 2) 1000 R5.1 R5.2 (ar 2) (sc 2))) (wf := (wX q cA (va_up (va_up (va_up (va_up (va_up sc 9 R1) 18 R3.2.2) 12 (0 : Int32)) 21 R5.1) 22 R5.2) (va_up (va_up ar 12 R3.1) 13 R3.2.1) sg)) hP hD hS hA [36, 5, 6] rfl (by decide) rfl rfl
  refine k_goV (va_runV (As := [.int (0 : Int32), .int (1000 : Int32)]) (rest := []) ⟨hx, hb, hml, hown, hts⟩ (kX5_open l D (q 36) (q 5) (q 6) (cA 2) 1000 (sc 21) (sc 22) (ar 2) (sc 2) (0 : Int32) (1000 : Int32) hc6 _) (cwV 2 hts gX2_readDelta_X5_open rfl rfl rfl (by decide +kernel) ⟨Nat.le_of_ble_eq_true rfl, Nat.le_of_ble_eq_true rfl⟩) (k_preV (q0 := 0) (ci := 4) hk (hK.sub [2] rfl) NR_bl (fun U _ hW => NR_w hW hNx.1) rfl rfl rfl) rfl rfl hl.1 rfl (lv_room (Nat.le_of_ble_eq_true rfl)) dX2_readDelta_28 ⟨Nat.zero_le _, Nat.zero_le _⟩) hk hS (fun H locs hP hD hS => ?_)
  refine lv_aload_n hx hb dX2_readDelta_31 rfl (lv_at hl 0 rfl) ?_
  obtain ⟨R7, hc8, hf⟩ := b_inv hf
  have hk := kall (wc' := (wX q cA R7.2 (va_up (va_up ar 12 R3.1) 13 R3.2.1) sg)) hP hD hS hA rfl
  refine k_goI (va_runV (As := []) (rest := []) ⟨hx, hb, hml, hown, hts⟩ (kX2_readHead l D hd q cA (va_up (va_up (va_up (va_up (va_up sc 9 R1) 18 R3.2.2) 12 (0 : Int32)) 21 R5.1) 22 R5.2) (va_up (va_up ar 12 R3.1) 13 R3.2.1) sg hc8 _) (cwV 0 hts gX2_readDelta_X2_readHead rfl rfl rfl (by decide +kernel) ⟨Nat.le_of_ble_eq_true rfl, Nat.le_of_ble_eq_true rfl⟩) (k_preV (q0 := 22) (ci := 1) hk hK NXH_bl (fun U hU hW => NXH_w hAe hS hU hW hN) rfl rfl rfl) rfl rfl hl.1 rfl (lv_room (Nat.le_of_ble_eq_true rfl)) dX2_readDelta_32 ⟨Nat.zero_le _, Nat.zero_le _⟩) hk hS (fun H locs hP hD hS => ?_)
  refine lv_if_ne (tgt := 41) hx hb dX2_readDelta_35 (by decide) (fun c9 => ?_) (fun c9 => ?_)
  · rw [if_neg c9] at hf
    refine lv_iconst (v := (0 : Int32)) hx hb dX2_readDelta_41 (by decide) ?_
    refine lv_istore_n (lv' := [(2, .int (0 : Int32)), (0, .ref (q 22)), (1, .int x1)]) hx hb dX2_readDelta_42 rfl hl (by decide) rfl (fun ls hl => ?_)
    have lp24 : ∀ (v1 : Int32), ∀ (k : Nat) (v2 : Int32) (sc : Nat → Int32) (ar : Nat → Nat → Int32) (sg : Bool) (H : Heap) (locs : List Loc) (ls : Array Slot) (o : ((Nat → Int32) × (Nat → Nat → Int32) × Bool) ⊕ (Int32 × (Nat → Int32) × (Nat → Nat → Int32) × Bool)), lv_has ls 4 [(2, .int v2), (1, .int v1), (0, .ref (q 22))] → va_P D vwCl (wX q cA sc ar sg) H → va_D A (wX q cA sc ar sg) → va_S A s.heap H locs → fX2_readDelta_L43 v1 k v2 sc ar sg = some o → (∀ o1 : (Nat → Int32) × (Nat → Nat → Int32) × Bool, o = Sum.inl o1 → (∀ (H : Heap) (locs : List Loc) (ls : Array Slot), lv_has ls 4 [(0, .ref (q 22))] → va_P D vwCl (wX q cA o1.1 o1.2.1 o1.2.2) H → va_D A (wX q cA o1.1 o1.2.1 o1.2.2) → va_S A s.heap H locs → W p l e (headSpec wsX2_readDelta (rmD 5)).room s m ([.ref (q 22), .int x1] : List Value).toArray below meth cd H locs 0 0 (QI D below ([.ref (q 22), .int x1] : List Value).toArray s A R.1 (wX q cA R.2.1 R.2.2.1 R.2.2.2)) (F0 m 98 ls []))) → (∀ r, o = Sum.inr r → some r = some R) → W p l e (headSpec wsX2_readDelta (rmD 5)).room s m ([.ref (q 22), .int x1] : List Value).toArray below meth cd H locs 0 0 (QI D below ([.ref (q 22), .int x1] : List Value).toArray s A R.1 (wX q cA R.2.1 R.2.2.1 R.2.2.2)) (F0 m 43 ls []) := by
      intro v1
      intro k
      induction k with
      | zero =>
        intro v2 sc ar sg H locs ls o hl hP hD hS hf
        exact absurd hf (by simp [fX2_readDelta_L43])
      | succ k ih =>
        intro v2 sc ar sg H locs ls o hl hP hD hS hf kont kr
        rw [fX2_readDelta_L43] at hf
        refine lv_iload_n hx hb dX2_readDelta_43 rfl (lv_at hl 0 rfl) ?_
        refine lv_sipush (v := (1000 : Int32)) hx hb dX2_readDelta_44 (by decide) ?_
        refine lv_icmp_ge (tgt := 98) hx hb dX2_readDelta_47 (by decide) (fun c10 => ?_) (fun c10 => ?_)
        · rw [if_pos c10] at hf
          obtain rfl := Option.some.inj hf
          exact kont _ rfl _ _ _ (lv_sub hl [2] rfl) hP hD hS
        · rw [if_neg c10] at hf
          refine lv_aload_n hx hb dX2_readDelta_50 rfl (lv_at hl 2 rfl) ?_
          refine va_get (D := D) (ci := 1) (v := .ref (q 36)) (C := RX2) (T := TX2) (N := 13) hx hb hts (fun w h => List.mem_cons_of_mem _ (List.mem_append_left _ (List.mem_append_left _ (List.mem_append_left _ (List.mem_append_right _ h))))) hown hK hP 22 rfl rfl 3 (by decide) (hts (.fieldLink RX2 35 "DeltaWindows$Decoder" "whole" "LDeltaWindows$Reader;") (List.mem_of_getElem? (i := 4) rfl)) (fun _ h9 => h9) rfl dX2_readDelta_51 ?_
          obtain ⟨R11, hc12, hf⟩ := b_inv hf
          have hk := kcut (wc := (wD (q 36) (q 5) (q 6) (cA 2) 1000 (sc 21) (sc 22) (ar 2) (sc 2))) (wc' := (wD (q 36) (q 5) (q 6) (cA 2) 1000 (sc 21) (sc 22) (ar 2) (sc 2))) (wf := (wX q cA sc ar sg)) hP hD hS hA [36, 5, 6] rfl (by decide) rfl rfl
          refine k_goI (va_runV (As := []) (rest := []) ⟨hx, hb, hml, hown, hts⟩ (kX5_left l D (q 36) (q 5) (q 6) (cA 2) 1000 (sc 21) (sc 22) (ar 2) (sc 2) hc12 _) (cwV 0 hts gX2_readDelta_X5_left rfl rfl rfl (by decide +kernel) ⟨Nat.le_of_ble_eq_true rfl, Nat.le_of_ble_eq_true rfl⟩) (k_preV (q0 := 0) (ci := 4) hk (hK.sub [2] rfl) NR_bl (fun U _ hW => NR_w hW hNx.1) rfl rfl rfl) rfl rfl hl.1 rfl (lv_room (Nat.le_of_ble_eq_true rfl)) dX2_readDelta_54 ⟨Nat.zero_le _, Nat.zero_le _⟩) hk hS (fun H locs hP hD hS => ?_)
          refine lv_if_le (tgt := 98) hx hb dX2_readDelta_57 (by decide) (fun c13 => ?_) (fun c13 => ?_)
          · rw [if_pos c13] at hf
            obtain rfl := Option.some.inj hf
            exact kont _ rfl _ _ _ (lv_sub hl [2] rfl) hP hD hS
          · rw [if_neg c13] at hf
            refine lv_aload_n hx hb dX2_readDelta_60 rfl (lv_at hl 2 rfl) ?_
            refine lv_iload_n hx hb dX2_readDelta_61 rfl (lv_at hl 1 rfl) ?_
            obtain ⟨R14, hc15, hf⟩ := b_inv hf
            have hk := kall (wc' := (wX q cA R14.2.1 ar R14.2.2)) hP hD hS hA rfl
            refine k_goI (va_runV (As := [.int v1]) (rest := []) ⟨hx, hb, hml, hown, hts⟩ (kX2_readWindowHead l D q cA sc ar sg v1 hc15 _) (cwV 1 hts gX2_readDelta_X2_readWindowHead rfl rfl rfl (by decide +kernel) ⟨Nat.le_of_ble_eq_true rfl, Nat.le_of_ble_eq_true rfl⟩) (k_preV (q0 := 22) (ci := 1) hk hK NX_bl (fun U _ hW => NX_w hW hNx) rfl rfl rfl) rfl rfl hl.1 rfl (lv_room (Nat.le_of_ble_eq_true rfl)) dX2_readDelta_62 ⟨Nat.zero_le _, Nat.zero_le _⟩) hk hS (fun H locs hP hD hS => ?_)
            refine lv_istore_n (lv' := [(3, .int R14.1), (2, .int v2), (1, .int v1), (0, .ref (q 22))]) hx hb dX2_readDelta_65 rfl hl (by decide) rfl (fun ls hl => ?_)
            refine lv_iload_n hx hb dX2_readDelta_66 rfl (lv_at hl 0 rfl) ?_
            refine lv_if_eq (tgt := 72) hx hb dX2_readDelta_67 (by decide) (fun c16 => ?_) (fun c16 => ?_)
            · rw [if_pos c16] at hf
              refine lv_aload_n hx hb dX2_readDelta_72 rfl (lv_at hl 3 rfl) ?_
              obtain ⟨R17, hc18, hf⟩ := b_inv hf
              have hk := kall (wc' := (wX q cA R17.2.1 R17.2.2 R14.2.2)) hP hD hS hA rfl
              refine k_goI (va_runV (As := []) (rest := []) ⟨hx, hb, hml, hown, hts⟩ (kX2_makeWindow l D q cA R14.2.1 ar R14.2.2 hc18 _) (cwV 0 hts gX2_readDelta_X2_makeWindow rfl rfl rfl (by decide +kernel) ⟨Nat.le_of_ble_eq_true rfl, Nat.le_of_ble_eq_true rfl⟩) (k_preV (q0 := 22) (ci := 1) hk hK NX_bl (fun U _ hW => NX_w hW hNx) rfl rfl rfl) rfl rfl hl.1 rfl (lv_room (Nat.le_of_ble_eq_true rfl)) dX2_readDelta_73 ⟨Nat.zero_le _, Nat.zero_le _⟩) hk hS (fun H locs hP hD hS => ?_)
              refine lv_if_ne (tgt := 82) hx hb dX2_readDelta_76 (by decide) (fun c19 => ?_) (fun c19 => ?_)
              · rw [if_neg c19] at hf
                refine lv_aload_n hx hb dX2_readDelta_82 rfl (lv_at hl 3 rfl) ?_
                refine lv_dup hx hb dX2_readDelta_83 rfl ?_
                refine va_get (D := D) (ci := 1) (v := .int (R17.2.1 12)) (C := RX2) (T := TX2) (N := 13) hx hb hts (fun w h => List.mem_cons_of_mem _ (List.mem_append_left _ (List.mem_append_left _ (List.mem_append_left _ (List.mem_append_right _ h))))) hown hK hP 22 rfl rfl 7 (by decide) (hts (.fieldLink RX2 48 "DeltaWindows$Decoder" "windowsRead" "I") (List.mem_of_getElem? (i := 3) rfl)) (fun _ h9 => h9) rfl dX2_readDelta_84 ?_
                refine lv_iconst (v := (1 : Int32)) hx hb dX2_readDelta_87 (by decide) ?_
                refine lv_iadd hx hb dX2_readDelta_88 ?_
                refine va_put (D := D) (ci := 1) (v := .int ((R17.2.1 12) + (1 : Int32))) (ty := .int) (C := RX2) (T := TX2) (N := 13) hx hb hts (fun w h => List.mem_cons_of_mem _ (List.mem_append_left _ (List.mem_append_left _ (List.mem_append_left _ (List.mem_append_right _ h))))) tyX2 tyX2_ok nmX2 hown hK hP hD hS 22 rfl rfl 7 (by decide) (hts (.fieldLink RX2 48 "DeltaWindows$Decoder" "windowsRead" "I") (List.mem_of_getElem? (i := 3) rfl)) (fun _ h9 => h9) rfl (by decide +kernel) rfl rfl (Nat.le_of_ble_eq_true rfl) dX2_readDelta_89 (fun H locs hP hD hS => ?_)
                have hP : va_P D vwCl (wX q cA (va_up R17.2.1 12 ((R17.2.1 12) + (1 : Int32))) R17.2.2 R14.2.2) H := hP
                have hD : va_D A (wX q cA (va_up R17.2.1 12 ((R17.2.1 12) + (1 : Int32))) R17.2.2 R14.2.2) := hD
                refine lv_iinc (v := (v2 + (1 : Int32))) (lv' := [(2, .int (v2 + (1 : Int32))), (3, .int R14.1), (1, .int v1), (0, .ref (q 22))]) hx hb dX2_readDelta_92 hl (k := 1) rfl rfl (by decide) rfl (fun ls hl => ?_)
                refine lv_goto (tgt := 43) hx hb dX2_readDelta_95 (by decide) ?_
                exact ih (v2 + (1 : Int32)) (va_up R17.2.1 12 ((R17.2.1 12) + (1 : Int32))) R17.2.2 R14.2.2 _ _ _ o (lv_sub hl [0, 2, 3] rfl) hP hD hS hf kont kr
              · rw [if_pos c19] at hf
                refine lv_bipush (v := (-2 : Int32)) hx hb dX2_readDelta_79 (by decide) ?_
                obtain rfl := Option.some.inj hf
                have hf9 := kr _ rfl
                obtain rfl := Option.some.inj hf9
                exact k_retI hx hb hr hlocks hP hS dX2_readDelta_81
            · rw [if_neg c16] at hf
              refine lv_iload_n hx hb dX2_readDelta_70 rfl (lv_at hl 0 rfl) ?_
              obtain rfl := Option.some.inj hf
              have hf9 := kr _ rfl
              obtain rfl := Option.some.inj hf9
              exact k_retI hx hb hr hlocks hP hS dX2_readDelta_71
    obtain ⟨R20o, hc21, hf⟩ := b_inv hf
    refine lp24 x1 FU (0 : Int32) R7.2 (va_up (va_up ar 12 R3.1) 13 R3.2.1) sg _ _ _ R20o (lv_sub hl [0, 2, 1] rfl) hP hD hS hc21 (fun R20 ho H locs ls hl hP hD hS => ?_) (fun r ho => ?_)
    · subst ho
      simp only [Sum.elim_inl] at hf
      refine lv_aload_n hx hb dX2_readDelta_98 rfl (lv_at hl 0 rfl) ?_
      refine va_get (D := D) (ci := 1) (v := .ref (q 19)) (C := RX2) (T := TX2) (N := 13) hx hb hts (fun w h => List.mem_cons_of_mem _ (List.mem_append_left _ (List.mem_append_left _ (List.mem_append_left _ (List.mem_append_right _ h))))) hown hK hP 22 rfl rfl 1 (by decide) (hts (.fieldLink RX2 20 "DeltaWindows$Decoder" "made" "LDeltaWindows$Row;") (List.mem_of_getElem? (i := 1) rfl)) (fun _ h9 => h9) rfl dX2_readDelta_99 ?_
      obtain ⟨R22, hc23, hf⟩ := b_inv hf
      have hk := kcut (wc := (wR (q 19) (q 20) (cA 9) 400 (R20.2.1 9) (R20.1 9))) (wc' := (wR (q 19) (q 20) (cA 9) 400 (R20.2.1 9) (R20.1 9))) (wf := (wX q cA R20.1 R20.2.1 R20.2.2)) hP hD hS hA [19, 20] rfl (by decide) rfl rfl
      refine k_goI (va_runV (As := []) (rest := []) ⟨hx, hb, hml, hown, hts⟩ (kX6_count l D (q 19) (q 20) (cA 9) 400 (R20.2.1 9) (R20.1 9) hc23 _) (cwV 0 hts gX2_readDelta_X6_count rfl rfl rfl (by decide +kernel) ⟨Nat.le_of_ble_eq_true rfl, Nat.le_of_ble_eq_true rfl⟩) (k_preV (q0 := 0) (ci := 5) hk (hK.sub [9] rfl) NT_bl NT_u rfl rfl rfl) rfl rfl hl.1 rfl (lv_room (Nat.le_of_ble_eq_true rfl)) dX2_readDelta_102 ⟨Nat.zero_le _, Nat.zero_le _⟩) hk hS (fun H locs hP hD hS => ?_)
      obtain rfl := Option.some.inj hf
      exact k_retI hx hb hr hlocks hP hS dX2_readDelta_105
    · subst ho
      simpa only [Sum.elim_inr] using hf
  · rw [if_pos c9] at hf
    refine lv_bipush (v := (-2 : Int32)) hx hb dX2_readDelta_38 (by decide) ?_
    obtain rfl := Option.some.inj hf
    exact k_retI hx hb hr hlocks hP hS dX2_readDelta_40
