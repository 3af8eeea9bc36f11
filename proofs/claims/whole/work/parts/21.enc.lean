noncomputable def fX3_sameBytes_L2 (sc : Nat → Int32) (ar : Nat → Nat → Int32) (sg : Bool) (v1 : Int32) : Nat → (Int32) → Option (Int32)
  | 0, _ => none
  | k + 1, v2 =>
    (fX6_count 112 (ar 4) (sc 4)).bind fun R1 =>
    if R1 ≤ (v1 + v2) then
      some v2
    else
      (fX6_at 112 (ar 4) (sc 4) (v1 + v2)).bind fun R4 =>
      (fX6_at 112 (ar 4) (sc 4) v1).bind fun R6 =>
      if R4 = R6 then
        fX3_sameBytes_L2 sc ar sg v1 k (v2 + (1 : Int32))
      else
        some v2

noncomputable def fX3_sameBytes (sc : Nat → Int32) (ar : Nat → Nat → Int32) (sg : Bool) (x1 : Int32) : Option (Int32) :=
  (fX3_sameBytes_L2 sc ar sg x1 FU (1 : Int32)).bind fun R9 =>
  some R9

set_option maxHeartbeats 4000000 in
set_option maxRecDepth 100000 in
theorem kX3_sameBytes (l : Launch) (D : va_G) (q : Nat → Nat) (cA : Nat → ClassId) (sc : Nat → Int32) (ar : Nat → Nat → Int32) (sg : Bool) (x1 : Int32) {R : Int32} (hf : fX3_sameBytes sc ar sg x1 = some R) : MI l yX3_sameBytes wsX3_sameBytes (rmD 1) D ([.ref (q 21), .int x1] : List Value) (wX q cA sc ar sg) (tX cA) NX R (wX q cA sc ar sg) := by
  refine MI.mk (cc := cX3_sameBytes) (maxL := 3) (ret := (some .int)) (by first | decide | decide +kernel) rfl (Nat.le_of_ble_eq_true rfl) ?_
  intro p e s m below meth cd A ls hE
  obtain ⟨hx, hb, hr, hml, hts, hown, hlocks, hP, hK, hD, hA, hN, hAe, hl⟩ := hE
  have hown : s.vm.findClass RX3 = some m.cls := hown
  have hS : va_S A s.heap s.heap [] := va_S.rf
  have hl : lv_has ls 3 [(0, .ref (q 21)), (1, .int x1)] := hl
  rw [fX3_sameBytes] at hf
  refine lv_iconst (v := (1 : Int32)) hx hb dX3_sameBytes_0 (by decide) ?_
  refine lv_istore_n (lv' := [(2, .int (1 : Int32)), (0, .ref (q 21)), (1, .int x1)]) hx hb dX3_sameBytes_1 rfl hl (by decide) rfl (fun ls hl => ?_)
  have lp11 : ∀ (sc : Nat → Int32) (ar : Nat → Nat → Int32) (sg : Bool) (v1 : Int32), ∀ (k : Nat) (v2 : Int32) (H : Heap) (locs : List Loc) (ls : Array Slot) (o : Int32), lv_has ls 3 [(2, .int v2), (1, .int v1), (0, .ref (q 21))] → va_P D vwCl (wX q cA sc ar sg) H → va_D A (wX q cA sc ar sg) → va_S A s.heap H locs → fX3_sameBytes_L2 sc ar sg v1 k v2 = some o → (∀ (H : Heap) (locs : List Loc) (ls : Array Slot), lv_has ls 3 [(2, .int o)] → va_P D vwCl (wX q cA sc ar sg) H → va_D A (wX q cA sc ar sg) → va_S A s.heap H locs → W p l e (headSpec wsX3_sameBytes (rmD 1)).room s m ([.ref (q 21), .int x1] : List Value).toArray below meth cd H locs 0 0 (QI D below ([.ref (q 21), .int x1] : List Value).toArray s A R (wX q cA sc ar sg)) (F0 m 42 ls [])) → W p l e (headSpec wsX3_sameBytes (rmD 1)).room s m ([.ref (q 21), .int x1] : List Value).toArray below meth cd H locs 0 0 (QI D below ([.ref (q 21), .int x1] : List Value).toArray s A R (wX q cA sc ar sg)) (F0 m 2 ls []) := by
    intro sc ar sg v1
    intro k
    induction k with
    | zero =>
      intro v2 H locs ls o hl hP hD hS hf
      exact absurd hf (by simp [fX3_sameBytes_L2])
    | succ k ih =>
      intro v2 H locs ls o hl hP hD hS hf kont
      rw [fX3_sameBytes_L2] at hf
      refine lv_iload_n hx hb dX3_sameBytes_2 rfl (lv_at hl 1 rfl) ?_
      refine lv_iload_n hx hb dX3_sameBytes_3 rfl (lv_at hl 0 rfl) ?_
      refine lv_iadd hx hb dX3_sameBytes_4 ?_
      refine lv_aload_n hx hb dX3_sameBytes_5 rfl (lv_at hl 2 rfl) ?_
      refine va_get (D := D) (ci := 2) (v := .ref (q 9)) (C := RX3) (T := TX3) (N := 12) hx hb hts (fun w h => List.mem_cons_of_mem _ (List.mem_append_left _ (List.mem_append_right _ h))) hown hK hP 21 rfl rfl 5 (by decide) (hts (.fieldLink RX3 40 "DeltaWindows$Encoder" "string" "LDeltaWindows$Row;") (List.mem_of_getElem? (i := 1) rfl)) (fun _ h9 => h9) rfl dX3_sameBytes_6 ?_
      obtain ⟨R1, hc2, hf⟩ := b_inv hf
      have hk := kcut (wc := (wR (q 9) (q 10) (cA 4) 112 (ar 4) (sc 4))) (wc' := (wR (q 9) (q 10) (cA 4) 112 (ar 4) (sc 4))) (wf := (wX q cA sc ar sg)) hP hD hS hA [9, 10] rfl (by decide) rfl rfl
      refine k_goI (va_runV (As := []) (rest := [.int (v1 + v2)]) ⟨hx, hb, hml, hown, hts⟩ (kX6_count l D (q 9) (q 10) (cA 4) 112 (ar 4) (sc 4) hc2 _) (cwV 0 hts gX3_sameBytes_X6_count rfl rfl rfl (by decide +kernel) ⟨Nat.le_of_ble_eq_true rfl, Nat.le_of_ble_eq_true rfl⟩) (k_preV (q0 := 0) (ci := 5) hk (hK.sub [4] rfl) NT_bl NT_u rfl rfl rfl) rfl rfl hl.1 rfl (lv_room (Nat.le_of_ble_eq_true rfl)) dX3_sameBytes_9 ⟨Nat.zero_le _, Nat.zero_le _⟩) hk hS (fun H locs hP hD hS => ?_)
      refine lv_icmp_ge (tgt := 42) hx hb dX3_sameBytes_12 (by decide) (fun c3 => ?_) (fun c3 => ?_)
      · rw [if_pos c3] at hf
        obtain rfl := Option.some.inj hf
        exact kont _ _ _ (lv_sub hl [0] rfl) hP hD hS
      · rw [if_neg c3] at hf
        refine lv_aload_n hx hb dX3_sameBytes_15 rfl (lv_at hl 2 rfl) ?_
        refine va_get (D := D) (ci := 2) (v := .ref (q 9)) (C := RX3) (T := TX3) (N := 12) hx hb hts (fun w h => List.mem_cons_of_mem _ (List.mem_append_left _ (List.mem_append_right _ h))) hown hK hP 21 rfl rfl 5 (by decide) (hts (.fieldLink RX3 40 "DeltaWindows$Encoder" "string" "LDeltaWindows$Row;") (List.mem_of_getElem? (i := 1) rfl)) (fun _ h9 => h9) rfl dX3_sameBytes_16 ?_
        refine lv_iload_n hx hb dX3_sameBytes_19 rfl (lv_at hl 1 rfl) ?_
        refine lv_iload_n hx hb dX3_sameBytes_20 rfl (lv_at hl 0 rfl) ?_
        refine lv_iadd hx hb dX3_sameBytes_21 ?_
        obtain ⟨R4, hc5, hf⟩ := b_inv hf
        have hk := kcut (wc := (wR (q 9) (q 10) (cA 4) 112 (ar 4) (sc 4))) (wc' := (wR (q 9) (q 10) (cA 4) 112 (ar 4) (sc 4))) (wf := (wX q cA sc ar sg)) hP hD hS hA [9, 10] rfl (by decide) rfl rfl
        refine k_goI (va_runV (As := [.int (v1 + v2)]) (rest := []) ⟨hx, hb, hml, hown, hts⟩ (kX6_at l D (q 9) (q 10) (cA 4) 112 (ar 4) (sc 4) (v1 + v2) hc5 _) (cwV 1 hts gX3_sameBytes_X6_at rfl rfl rfl (by decide +kernel) ⟨Nat.le_of_ble_eq_true rfl, Nat.le_of_ble_eq_true rfl⟩) (k_preV (q0 := 0) (ci := 5) hk (hK.sub [4] rfl) NT_bl NT_u rfl rfl rfl) rfl rfl hl.1 rfl (lv_room (Nat.le_of_ble_eq_true rfl)) dX3_sameBytes_22 ⟨Nat.zero_le _, Nat.zero_le _⟩) hk hS (fun H locs hP hD hS => ?_)
        refine lv_aload_n hx hb dX3_sameBytes_25 rfl (lv_at hl 2 rfl) ?_
        refine va_get (D := D) (ci := 2) (v := .ref (q 9)) (C := RX3) (T := TX3) (N := 12) hx hb hts (fun w h => List.mem_cons_of_mem _ (List.mem_append_left _ (List.mem_append_right _ h))) hown hK hP 21 rfl rfl 5 (by decide) (hts (.fieldLink RX3 40 "DeltaWindows$Encoder" "string" "LDeltaWindows$Row;") (List.mem_of_getElem? (i := 1) rfl)) (fun _ h9 => h9) rfl dX3_sameBytes_26 ?_
        refine lv_iload_n hx hb dX3_sameBytes_29 rfl (lv_at hl 1 rfl) ?_
        obtain ⟨R6, hc7, hf⟩ := b_inv hf
        have hk := kcut (wc := (wR (q 9) (q 10) (cA 4) 112 (ar 4) (sc 4))) (wc' := (wR (q 9) (q 10) (cA 4) 112 (ar 4) (sc 4))) (wf := (wX q cA sc ar sg)) hP hD hS hA [9, 10] rfl (by decide) rfl rfl
        refine k_goI (va_runV (As := [.int v1]) (rest := [.int R4]) ⟨hx, hb, hml, hown, hts⟩ (kX6_at l D (q 9) (q 10) (cA 4) 112 (ar 4) (sc 4) v1 hc7 _) (cwV 1 hts gX3_sameBytes_X6_at rfl rfl rfl (by decide +kernel) ⟨Nat.le_of_ble_eq_true rfl, Nat.le_of_ble_eq_true rfl⟩) (k_preV (q0 := 0) (ci := 5) hk (hK.sub [4] rfl) NT_bl NT_u rfl rfl rfl) rfl rfl hl.1 rfl (lv_room (Nat.le_of_ble_eq_true rfl)) dX3_sameBytes_30 ⟨Nat.zero_le _, Nat.zero_le _⟩) hk hS (fun H locs hP hD hS => ?_)
        refine lv_icmp_ne (tgt := 42) hx hb dX3_sameBytes_33 (by decide) (fun c8 => ?_) (fun c8 => ?_)
        · rw [if_neg c8] at hf
          obtain rfl := Option.some.inj hf
          exact kont _ _ _ (lv_sub hl [0] rfl) hP hD hS
        · rw [if_pos c8] at hf
          refine lv_iinc (v := (v2 + (1 : Int32))) (lv' := [(2, .int (v2 + (1 : Int32))), (1, .int v1), (0, .ref (q 21))]) hx hb dX3_sameBytes_36 hl (k := 0) rfl rfl (by decide) rfl (fun ls hl => ?_)
          refine lv_goto (tgt := 2) hx hb dX3_sameBytes_39 (by decide) ?_
          exact ih (v2 + (1 : Int32)) _ _ _ o (lv_sub hl [0, 1, 2] rfl) hP hD hS hf kont
  obtain ⟨R9, hc10, hf⟩ := b_inv hf
  refine lp11 sc ar sg x1 FU (1 : Int32) _ _ _ R9 (lv_sub hl [0, 2, 1] rfl) hP hD hS hc10 (fun H locs ls hl hP hD hS => ?_)
  refine lv_iload_n hx hb dX3_sameBytes_42 rfl (lv_at hl 0 rfl) ?_
  obtain rfl := Option.some.inj hf
  exact k_retI hx hb hr hlocks hP hS dX3_sameBytes_43

noncomputable def fX3_findCopy_L19 (sc : Nat → Int32) (ar : Nat → Nat → Int32) (sg : Bool) (v1 : Int32) (v2 : Int32) : Nat → (Int32) → Option (Int32)
  | 0, _ => none
  | k + 1, v3 =>
    (fX6_count 112 (ar 4) (sc 4)).bind fun R2 =>
    if R2 ≤ (v1 + v3) then
      some v3
    else
      (fX6_at 112 (ar 4) (sc 4) (v2 + v3)).bind fun R5 =>
      (fX6_at 112 (ar 4) (sc 4) (v1 + v3)).bind fun R7 =>
      if R5 = R7 then
        fX3_findCopy_L19 sc ar sg v1 v2 k (v3 + (1 : Int32))
      else
        some v3

noncomputable def fX3_findCopy_L12 (ar : Nat → Nat → Int32) (sg : Bool) (v1 : Int32) : Nat → (Int32) → (Nat → Int32) → Option ((Nat → Int32))
  | 0, _, _ => none
  | k + 1, v2, sc =>
    if v1 ≤ v2 then
      some sc
    else
      (fX3_findCopy_L19 sc ar sg v1 v2 FU (0 : Int32)).bind fun R10 =>
      if R10 ≤ (sc 10) then
        fX3_findCopy_L12 ar sg v1 k (v2 + (1 : Int32)) sc
      else
        fX3_findCopy_L12 ar sg v1 k (v2 + (1 : Int32)) (va_up (va_up sc 10 R10) 11 v2)

noncomputable def fX3_findCopy (sc : Nat → Int32) (ar : Nat → Nat → Int32) (sg : Bool) (x1 : Int32) : Option ((Nat → Int32)) :=
  (fX3_findCopy_L12 ar sg x1 FU (0 : Int32) (va_up (va_up sc 10 (0 : Int32)) 11 (0 : Int32))).bind fun R13 =>
  some R13

set_option maxHeartbeats 4000000 in
set_option maxRecDepth 100000 in
theorem kX3_findCopy (l : Launch) (D : va_G) (q : Nat → Nat) (cA : Nat → ClassId) (sc : Nat → Int32) (ar : Nat → Nat → Int32) (sg : Bool) (x1 : Int32) {R : (Nat → Int32)} (hf : fX3_findCopy sc ar sg x1 = some R) : MV l yX3_findCopy wsX3_findCopy (rmD 1) D ([.ref (q 21), .int x1] : List Value) (wX q cA sc ar sg) (tX cA) NX (wX q cA R ar sg) := by
  refine MV.mk (cc := cX3_findCopy) (maxL := 4) (ret := none) (by first | decide | decide +kernel) rfl (Nat.le_of_ble_eq_true rfl) ?_
  intro p e s m below meth cd A ls hE
  obtain ⟨hx, hb, hr, hml, hts, hown, hlocks, hP, hK, hD, hA, hN, hAe, hl⟩ := hE
  have hown : s.vm.findClass RX3 = some m.cls := hown
  have hS : va_S A s.heap s.heap [] := va_S.rf
  have hl : lv_has ls 4 [(0, .ref (q 21)), (1, .int x1)] := hl
  rw [fX3_findCopy] at hf
  refine lv_aload_n hx hb dX3_findCopy_0 rfl (lv_at hl 0 rfl) ?_
  refine lv_iconst (v := (0 : Int32)) hx hb dX3_findCopy_1 (by decide) ?_
  refine va_put (D := D) (ci := 2) (v := .int (0 : Int32)) (ty := .int) (C := RX3) (T := TX3) (N := 12) hx hb hts (fun w h => List.mem_cons_of_mem _ (List.mem_append_left _ (List.mem_append_right _ h))) tyX3 tyX3_ok nmX3 hown hK hP hD hS 21 rfl rfl 10 (by decide) (hts (.fieldLink RX3 55 "DeltaWindows$Encoder" "copySize" "I") (List.mem_of_getElem? (i := 1) rfl)) (fun _ h9 => h9) rfl (by decide +kernel) rfl rfl (Nat.le_of_ble_eq_true rfl) dX3_findCopy_2 (fun H locs hP hD hS => ?_)
  have hP : va_P D vwCl (wX q cA (va_up sc 10 (0 : Int32)) ar sg) H := hP
  have hD : va_D A (wX q cA (va_up sc 10 (0 : Int32)) ar sg) := hD
  refine lv_aload_n hx hb dX3_findCopy_5 rfl (lv_at hl 0 rfl) ?_
  refine lv_iconst (v := (0 : Int32)) hx hb dX3_findCopy_6 (by decide) ?_
  refine va_put (D := D) (ci := 2) (v := .int (0 : Int32)) (ty := .int) (C := RX3) (T := TX3) (N := 12) hx hb hts (fun w h => List.mem_cons_of_mem _ (List.mem_append_left _ (List.mem_append_right _ h))) tyX3 tyX3_ok nmX3 hown hK hP hD hS 21 rfl rfl 11 (by decide) (hts (.fieldLink RX3 59 "DeltaWindows$Encoder" "copyAddress" "I") (List.mem_of_getElem? (i := 2) rfl)) (fun _ h9 => h9) rfl (by decide +kernel) rfl rfl (Nat.le_of_ble_eq_true rfl) dX3_findCopy_7 (fun H locs hP hD hS => ?_)
  have hP : va_P D vwCl (wX q cA (va_up (va_up sc 10 (0 : Int32)) 11 (0 : Int32)) ar sg) H := hP
  have hD : va_D A (wX q cA (va_up (va_up sc 10 (0 : Int32)) 11 (0 : Int32)) ar sg) := hD
  refine lv_iconst (v := (0 : Int32)) hx hb dX3_findCopy_10 (by decide) ?_
  refine lv_istore_n (lv' := [(2, .int (0 : Int32)), (0, .ref (q 21)), (1, .int x1)]) hx hb dX3_findCopy_11 rfl hl (by decide) rfl (fun ls hl => ?_)
  have lp15 : ∀ (ar : Nat → Nat → Int32) (sg : Bool) (v1 : Int32), ∀ (k : Nat) (v2 : Int32) (sc : Nat → Int32) (H : Heap) (locs : List Loc) (ls : Array Slot) (o : (Nat → Int32)), lv_has ls 4 [(2, .int v2), (1, .int v1), (0, .ref (q 21))] → va_P D vwCl (wX q cA sc ar sg) H → va_D A (wX q cA sc ar sg) → va_S A s.heap H locs → fX3_findCopy_L12 ar sg v1 k v2 sc = some o → (∀ (H : Heap) (locs : List Loc) (ls : Array Slot), lv_has ls 4 [] → va_P D vwCl (wX q cA o ar sg) H → va_D A (wX q cA o ar sg) → va_S A s.heap H locs → W p l e (headSpec wsX3_findCopy (rmD 1)).room s m ([.ref (q 21), .int x1] : List Value).toArray below meth cd H locs 0 0 (QV D below ([.ref (q 21), .int x1] : List Value).toArray s A (wX q cA R ar sg)) (F0 m 85 ls [])) → W p l e (headSpec wsX3_findCopy (rmD 1)).room s m ([.ref (q 21), .int x1] : List Value).toArray below meth cd H locs 0 0 (QV D below ([.ref (q 21), .int x1] : List Value).toArray s A (wX q cA R ar sg)) (F0 m 12 ls []) := by
    intro ar sg v1
    intro k
    induction k with
    | zero =>
      intro v2 sc H locs ls o hl hP hD hS hf
      exact absurd hf (by simp [fX3_findCopy_L12])
    | succ k ih =>
      intro v2 sc H locs ls o hl hP hD hS hf kont
      rw [fX3_findCopy_L12] at hf
      refine lv_iload_n hx hb dX3_findCopy_12 rfl (lv_at hl 0 rfl) ?_
      refine lv_iload_n hx hb dX3_findCopy_13 rfl (lv_at hl 1 rfl) ?_
      refine lv_icmp_ge (tgt := 85) hx hb dX3_findCopy_14 (by decide) (fun c1 => ?_) (fun c1 => ?_)
      · rw [if_pos c1] at hf
        obtain rfl := Option.some.inj hf
        exact kont _ _ _ (lv_sub hl [] rfl) hP hD hS
      · rw [if_neg c1] at hf
        refine lv_iconst (v := (0 : Int32)) hx hb dX3_findCopy_17 (by decide) ?_
        refine lv_istore_n (lv' := [(3, .int (0 : Int32)), (2, .int v2), (1, .int v1), (0, .ref (q 21))]) hx hb dX3_findCopy_18 rfl hl (by decide) rfl (fun ls hl => ?_)
        have lp16 : ∀ (sc : Nat → Int32) (ar : Nat → Nat → Int32) (sg : Bool) (v1 : Int32) (v2 : Int32), ∀ (k : Nat) (v3 : Int32) (H : Heap) (locs : List Loc) (ls : Array Slot) (o : Int32), lv_has ls 4 [(3, .int v3), (1, .int v1), (2, .int v2), (0, .ref (q 21))] → va_P D vwCl (wX q cA sc ar sg) H → va_D A (wX q cA sc ar sg) → va_S A s.heap H locs → fX3_findCopy_L19 sc ar sg v1 v2 k v3 = some o → (∀ (H : Heap) (locs : List Loc) (ls : Array Slot), lv_has ls 4 [(3, .int o), (1, .int v1), (2, .int v2), (0, .ref (q 21))] → va_P D vwCl (wX q cA sc ar sg) H → va_D A (wX q cA sc ar sg) → va_S A s.heap H locs → W p l e (headSpec wsX3_findCopy (rmD 1)).room s m ([.ref (q 21), .int x1] : List Value).toArray below meth cd H locs 0 0 (QV D below ([.ref (q 21), .int x1] : List Value).toArray s A (wX q cA R ar sg)) (F0 m 61 ls [])) → W p l e (headSpec wsX3_findCopy (rmD 1)).room s m ([.ref (q 21), .int x1] : List Value).toArray below meth cd H locs 0 0 (QV D below ([.ref (q 21), .int x1] : List Value).toArray s A (wX q cA R ar sg)) (F0 m 19 ls []) := by
          intro sc ar sg v1 v2
          intro k
          induction k with
          | zero =>
            intro v3 H locs ls o hl hP hD hS hf
            exact absurd hf (by simp [fX3_findCopy_L19])
          | succ k ih =>
            intro v3 H locs ls o hl hP hD hS hf kont
            rw [fX3_findCopy_L19] at hf
            refine lv_iload_n hx hb dX3_findCopy_19 rfl (lv_at hl 1 rfl) ?_
            refine lv_iload_n hx hb dX3_findCopy_20 rfl (lv_at hl 0 rfl) ?_
            refine lv_iadd hx hb dX3_findCopy_21 ?_
            refine lv_aload_n hx hb dX3_findCopy_22 rfl (lv_at hl 3 rfl) ?_
            refine va_get (D := D) (ci := 2) (v := .ref (q 9)) (C := RX3) (T := TX3) (N := 12) hx hb hts (fun w h => List.mem_cons_of_mem _ (List.mem_append_left _ (List.mem_append_right _ h))) hown hK hP 21 rfl rfl 5 (by decide) (hts (.fieldLink RX3 40 "DeltaWindows$Encoder" "string" "LDeltaWindows$Row;") (List.mem_of_getElem? (i := 3) rfl)) (fun _ h9 => h9) rfl dX3_findCopy_23 ?_
            obtain ⟨R2, hc3, hf⟩ := b_inv hf
            have hk := kcut (wc := (wR (q 9) (q 10) (cA 4) 112 (ar 4) (sc 4))) (wc' := (wR (q 9) (q 10) (cA 4) 112 (ar 4) (sc 4))) (wf := (wX q cA sc ar sg)) hP hD hS hA [9, 10] rfl (by decide) rfl rfl
            refine k_goI (va_runV (As := []) (rest := [.int (v1 + v3)]) ⟨hx, hb, hml, hown, hts⟩ (kX6_count l D (q 9) (q 10) (cA 4) 112 (ar 4) (sc 4) hc3 _) (cwV 0 hts gX3_findCopy_X6_count rfl rfl rfl (by decide +kernel) ⟨Nat.le_of_ble_eq_true rfl, Nat.le_of_ble_eq_true rfl⟩) (k_preV (q0 := 0) (ci := 5) hk (hK.sub [4] rfl) NT_bl NT_u rfl rfl rfl) rfl rfl hl.1 rfl (lv_room (Nat.le_of_ble_eq_true rfl)) dX3_findCopy_26 ⟨Nat.zero_le _, Nat.zero_le _⟩) hk hS (fun H locs hP hD hS => ?_)
            refine lv_icmp_ge (tgt := 61) hx hb dX3_findCopy_29 (by decide) (fun c4 => ?_) (fun c4 => ?_)
            · rw [if_pos c4] at hf
              obtain rfl := Option.some.inj hf
              exact kont _ _ _ (lv_sub hl [0, 1, 2, 3] rfl) hP hD hS
            · rw [if_neg c4] at hf
              refine lv_aload_n hx hb dX3_findCopy_32 rfl (lv_at hl 3 rfl) ?_
              refine va_get (D := D) (ci := 2) (v := .ref (q 9)) (C := RX3) (T := TX3) (N := 12) hx hb hts (fun w h => List.mem_cons_of_mem _ (List.mem_append_left _ (List.mem_append_right _ h))) hown hK hP 21 rfl rfl 5 (by decide) (hts (.fieldLink RX3 40 "DeltaWindows$Encoder" "string" "LDeltaWindows$Row;") (List.mem_of_getElem? (i := 3) rfl)) (fun _ h9 => h9) rfl dX3_findCopy_33 ?_
              refine lv_iload_n hx hb dX3_findCopy_36 rfl (lv_at hl 2 rfl) ?_
              refine lv_iload_n hx hb dX3_findCopy_37 rfl (lv_at hl 0 rfl) ?_
              refine lv_iadd hx hb dX3_findCopy_38 ?_
              obtain ⟨R5, hc6, hf⟩ := b_inv hf
              have hk := kcut (wc := (wR (q 9) (q 10) (cA 4) 112 (ar 4) (sc 4))) (wc' := (wR (q 9) (q 10) (cA 4) 112 (ar 4) (sc 4))) (wf := (wX q cA sc ar sg)) hP hD hS hA [9, 10] rfl (by decide) rfl rfl
              refine k_goI (va_runV (As := [.int (v2 + v3)]) (rest := []) ⟨hx, hb, hml, hown, hts⟩ (kX6_at l D (q 9) (q 10) (cA 4) 112 (ar 4) (sc 4) (v2 + v3) hc6 _) (cwV 1 hts gX3_findCopy_X6_at rfl rfl rfl (by decide +kernel) ⟨Nat.le_of_ble_eq_true rfl, Nat.le_of_ble_eq_true rfl⟩) (k_preV (q0 := 0) (ci := 5) hk (hK.sub [4] rfl) NT_bl NT_u rfl rfl rfl) rfl rfl hl.1 rfl (lv_room (Nat.le_of_ble_eq_true rfl)) dX3_findCopy_39 ⟨Nat.zero_le _, Nat.zero_le _⟩) hk hS (fun H locs hP hD hS => ?_)
              refine lv_aload_n hx hb dX3_findCopy_42 rfl (lv_at hl 3 rfl) ?_
              refine va_get (D := D) (ci := 2) (v := .ref (q 9)) (C := RX3) (T := TX3) (N := 12) hx hb hts (fun w h => List.mem_cons_of_mem _ (List.mem_append_left _ (List.mem_append_right _ h))) hown hK hP 21 rfl rfl 5 (by decide) (hts (.fieldLink RX3 40 "DeltaWindows$Encoder" "string" "LDeltaWindows$Row;") (List.mem_of_getElem? (i := 3) rfl)) (fun _ h9 => h9) rfl dX3_findCopy_43 ?_
              refine lv_iload_n hx hb dX3_findCopy_46 rfl (lv_at hl 1 rfl) ?_
              refine lv_iload_n hx hb dX3_findCopy_47 rfl (lv_at hl 0 rfl) ?_
              refine lv_iadd hx hb dX3_findCopy_48 ?_
              obtain ⟨R7, hc8, hf⟩ := b_inv hf
              have hk := kcut (wc := (wR (q 9) (q 10) (cA 4) 112 (ar 4) (sc 4))) (wc' := (wR (q 9) (q 10) (cA 4) 112 (ar 4) (sc 4))) (wf := (wX q cA sc ar sg)) hP hD hS hA [9, 10] rfl (by decide) rfl rfl
              refine k_goI (va_runV (As := [.int (v1 + v3)]) (rest := [.int R5]) ⟨hx, hb, hml, hown, hts⟩ (kX6_at l D (q 9) (q 10) (cA 4) 112 (ar 4) (sc 4) (v1 + v3) hc8 _) (cwV 1 hts gX3_findCopy_X6_at rfl rfl rfl (by decide +kernel) ⟨Nat.le_of_ble_eq_true rfl, Nat.le_of_ble_eq_true rfl⟩) (k_preV (q0 := 0) (ci := 5) hk (hK.sub [4] rfl) NT_bl NT_u rfl rfl rfl) rfl rfl hl.1 rfl (lv_room (Nat.le_of_ble_eq_true rfl)) dX3_findCopy_49 ⟨Nat.zero_le _, Nat.zero_le _⟩) hk hS (fun H locs hP hD hS => ?_)
              refine lv_icmp_ne (tgt := 61) hx hb dX3_findCopy_52 (by decide) (fun c9 => ?_) (fun c9 => ?_)
              · rw [if_neg c9] at hf
                obtain rfl := Option.some.inj hf
                exact kont _ _ _ (lv_sub hl [0, 1, 2, 3] rfl) hP hD hS
              · rw [if_pos c9] at hf
                refine lv_iinc (v := (v3 + (1 : Int32))) (lv' := [(3, .int (v3 + (1 : Int32))), (1, .int v1), (2, .int v2), (0, .ref (q 21))]) hx hb dX3_findCopy_55 hl (k := 0) rfl rfl (by decide) rfl (fun ls hl => ?_)
                refine lv_goto (tgt := 19) hx hb dX3_findCopy_58 (by decide) ?_
                exact ih (v3 + (1 : Int32)) _ _ _ o (lv_sub hl [0, 1, 2, 3] rfl) hP hD hS hf kont
        obtain ⟨R10, hc11, hf⟩ := b_inv hf
        refine lp16 sc ar sg v1 v2 FU (0 : Int32) _ _ _ R10 (lv_sub hl [0, 2, 1, 3] rfl) hP hD hS hc11 (fun H locs ls hl hP hD hS => ?_)
        refine lv_iload_n hx hb dX3_findCopy_61 rfl (lv_at hl 0 rfl) ?_
        refine lv_aload_n hx hb dX3_findCopy_62 rfl (lv_at hl 3 rfl) ?_
        refine va_get (D := D) (ci := 2) (v := .int (sc 10)) (C := RX3) (T := TX3) (N := 12) hx hb hts (fun w h => List.mem_cons_of_mem _ (List.mem_append_left _ (List.mem_append_right _ h))) hown hK hP 21 rfl rfl 10 (by decide) (hts (.fieldLink RX3 55 "DeltaWindows$Encoder" "copySize" "I") (List.mem_of_getElem? (i := 1) rfl)) (fun _ h9 => h9) rfl dX3_findCopy_63 ?_
        refine lv_icmp_le (tgt := 79) hx hb dX3_findCopy_66 (by decide) (fun c12 => ?_) (fun c12 => ?_)
        · rw [if_pos c12] at hf
          refine lv_iinc (v := (v2 + (1 : Int32))) (lv' := [(2, .int (v2 + (1 : Int32))), (3, .int R10), (1, .int v1), (0, .ref (q 21))]) hx hb dX3_findCopy_79 hl (k := 2) rfl rfl (by decide) rfl (fun ls hl => ?_)
          refine lv_goto (tgt := 12) hx hb dX3_findCopy_82 (by decide) ?_
          exact ih (v2 + (1 : Int32)) sc _ _ _ o (lv_sub hl [0, 2, 3] rfl) hP hD hS hf kont
        · rw [if_neg c12] at hf
          refine lv_aload_n hx hb dX3_findCopy_69 rfl (lv_at hl 3 rfl) ?_
          refine lv_iload_n hx hb dX3_findCopy_70 rfl (lv_at hl 0 rfl) ?_
          refine va_put (D := D) (ci := 2) (v := .int R10) (ty := .int) (C := RX3) (T := TX3) (N := 12) hx hb hts (fun w h => List.mem_cons_of_mem _ (List.mem_append_left _ (List.mem_append_right _ h))) tyX3 tyX3_ok nmX3 hown hK hP hD hS 21 rfl rfl 10 (by decide) (hts (.fieldLink RX3 55 "DeltaWindows$Encoder" "copySize" "I") (List.mem_of_getElem? (i := 1) rfl)) (fun _ h9 => h9) rfl (by decide +kernel) rfl rfl (Nat.le_of_ble_eq_true rfl) dX3_findCopy_71 (fun H locs hP hD hS => ?_)
          have hP : va_P D vwCl (wX q cA (va_up sc 10 R10) ar sg) H := hP
          have hD : va_D A (wX q cA (va_up sc 10 R10) ar sg) := hD
          refine lv_aload_n hx hb dX3_findCopy_74 rfl (lv_at hl 3 rfl) ?_
          refine lv_iload_n hx hb dX3_findCopy_75 rfl (lv_at hl 2 rfl) ?_
          refine va_put (D := D) (ci := 2) (v := .int v2) (ty := .int) (C := RX3) (T := TX3) (N := 12) hx hb hts (fun w h => List.mem_cons_of_mem _ (List.mem_append_left _ (List.mem_append_right _ h))) tyX3 tyX3_ok nmX3 hown hK hP hD hS 21 rfl rfl 11 (by decide) (hts (.fieldLink RX3 59 "DeltaWindows$Encoder" "copyAddress" "I") (List.mem_of_getElem? (i := 2) rfl)) (fun _ h9 => h9) rfl (by decide +kernel) rfl rfl (Nat.le_of_ble_eq_true rfl) dX3_findCopy_76 (fun H locs hP hD hS => ?_)
          have hP : va_P D vwCl (wX q cA (va_up (va_up sc 10 R10) 11 v2) ar sg) H := hP
          have hD : va_D A (wX q cA (va_up (va_up sc 10 R10) 11 v2) ar sg) := hD
          refine lv_iinc (v := (v2 + (1 : Int32))) (lv' := [(2, .int (v2 + (1 : Int32))), (3, .int R10), (1, .int v1), (0, .ref (q 21))]) hx hb dX3_findCopy_79 hl (k := 2) rfl rfl (by decide) rfl (fun ls hl => ?_)
          refine lv_goto (tgt := 12) hx hb dX3_findCopy_82 (by decide) ?_
          exact ih (v2 + (1 : Int32)) (va_up (va_up sc 10 R10) 11 v2) _ _ _ o (lv_sub hl [0, 2, 3] rfl) hP hD hS hf kont
  obtain ⟨R13, hc14, hf⟩ := b_inv hf
  refine lp15 ar sg x1 FU (0 : Int32) (va_up (va_up sc 10 (0 : Int32)) 11 (0 : Int32)) _ _ _ R13 (lv_sub hl [0, 2, 1] rfl) hP hD hS hc14 (fun H locs ls hl hP hD hS => ?_)
  obtain rfl := Option.some.inj hf
  exact k_retV hx hb hr hlocks hP hS dX3_findCopy_85

noncomputable def fX3_writeAddress (sc : Nat → Int32) (ar : Nat → Nat → Int32) (sg : Bool) (x1 : Int32) (x2 : Int32) : Option (Int32 × (Nat → Int32) × (Nat → Nat → Int32)) :=
  (fJ9_floorMod_7cf53 x1 (768 : Int32)).bind fun R1 =>
  (fX0_same (ar 10) (ar 11) (sc 17) R1).bind fun R3 =>
  if R3 = x1 then
    (fX6_append 64 (ar 7) (sc 7) (R1 - R1 / (256 : Int32) * (256 : Int32))).bind fun R14 =>
    (fX0_learn (ar 10) (ar 11) (sc 17) x1).bind fun R16 =>
    some (((6 : Int32) + (R1 / (256 : Int32))), (va_up (va_up sc 7 R14.2) 17 R16.2.2), (va_up (va_up (va_up ar 7 R14.1) 10 R16.1) 11 R16.2.1))
  else
    (fX0_leastMode (ar 10) (ar 11) (sc 17) x1 x2).bind fun R6 =>
    (fX0_integerFor (ar 10) (ar 11) (sc 17) R6 x1 x2).bind fun R8 =>
    (fX6_appendInteger 64 (ar 7) (sc 7) R8).bind fun R10 =>
    (fX0_learn (ar 10) (ar 11) (sc 17) x1).bind fun R12 =>
    some (R6, (va_up (va_up sc 7 R10.2) 17 R12.2.2), (va_up (va_up (va_up ar 7 R10.1) 10 R12.1) 11 R12.2.1))

set_option maxHeartbeats 4000000 in
set_option maxRecDepth 100000 in
theorem kX3_writeAddress (l : Launch) (D : va_G) (q : Nat → Nat) (cA : Nat → ClassId) (sc : Nat → Int32) (ar : Nat → Nat → Int32) (sg : Bool) (x1 : Int32) (x2 : Int32) {R : Int32 × (Nat → Int32) × (Nat → Nat → Int32)} (hf : fX3_writeAddress sc ar sg x1 x2 = some R) : MI l yX3_writeAddress wsX3_writeAddress (rmD 2) D ([.ref (q 21), .int x1, .int x2] : List Value) (wX q cA sc ar sg) (tX cA) NX R.1 (wX q cA R.2.1 R.2.2 sg) := by
  refine MI.mk (cc := cX3_writeAddress) (maxL := 5) (ret := (some .int)) (by first | decide | decide +kernel) rfl (Nat.le_of_ble_eq_true rfl) ?_
  intro p e s m below meth cd A ls hE
  obtain ⟨hx, hb, hr, hml, hts, hown, hlocks, hP, hK, hD, hA, hN, hAe, hl⟩ := hE
  have hown : s.vm.findClass RX3 = some m.cls := hown
  have hS : va_S A s.heap s.heap [] := va_S.rf
  have hl : lv_has ls 5 [(0, .ref (q 21)), (1, .int x1), (2, .int x2)] := hl
  rw [fX3_writeAddress] at hf
  refine lv_iload_n hx hb dX3_writeAddress_0 rfl (lv_at hl 1 rfl) ?_
  refine lv_sipush (v := (768 : Int32)) hx hb dX3_writeAddress_1 (by decide) ?_
  obtain ⟨R1, hc2, hf⟩ := b_inv hf
  have hk := kcut (wc := ([] : va_W)) (wc' := ([] : va_W)) (wf := (wX q cA sc ar sg)) hP hD hS hA [] rfl (by decide) rfl rfl
  refine k_goI (va_runS (As := [.int x1, .int (768 : Int32)]) (rest := []) ⟨hx, hb, hml, hown, hts⟩ (kJ9_floorMod_7cf53 l D x1 (768 : Int32) hc2 _) ⟨callB_of 2 hts ggX3_writeAddress_J9_floorMod_7cf53 rfl rfl rfl (hts (.initialized RJ9) (List.mem_of_getElem? (i := 5) rfl)) (hts (.methodLink RX3 128 yJ9_floorMod_7cf53) (List.mem_of_getElem? (i := 3) rfl)) (by decide +kernel) ⟨Nat.le_of_ble_eq_true rfl, Nat.le_of_ble_eq_true rfl⟩, (hts (.static yJ9_floorMod_7cf53) (List.mem_of_getElem? (i := 4) rfl))⟩ (k_preS hk (hK.sub [] rfl) NT_bl NT_u) rfl rfl hl.1 rfl (lv_room (Nat.le_of_ble_eq_true rfl)) dX3_writeAddress_4 ⟨Nat.zero_le _, Nat.zero_le _⟩) hk hS (fun H locs hP hD hS => ?_)
  refine lv_istore_n (lv' := [(3, .int R1), (0, .ref (q 21)), (1, .int x1), (2, .int x2)]) hx hb dX3_writeAddress_7 rfl hl (by decide) rfl (fun ls hl => ?_)
  refine lv_aload_n hx hb dX3_writeAddress_8 rfl (lv_at hl 1 rfl) ?_
  refine va_get (D := D) (ci := 2) (v := .ref (q 23)) (C := RX3) (T := TX3) (N := 12) hx hb hts (fun w h => List.mem_cons_of_mem _ (List.mem_append_left _ (List.mem_append_left _ (List.mem_append_right _ h)))) hown hK hP 21 rfl rfl 3 (by decide) (hts (.fieldLink RX3 24 "DeltaWindows$Encoder" "caches" "LDeltaWindows$Caches;") (List.mem_of_getElem? (i := 1) rfl)) (fun _ h9 => h9) rfl dX3_writeAddress_9 ?_
  refine lv_iload_n hx hb dX3_writeAddress_12 rfl (lv_at hl 0 rfl) ?_
  obtain ⟨R3, hc4, hf⟩ := b_inv hf
  have hk := kcut (wc := (wC (q 23) (q 24) (q 25) (cA 10) (cA 11) (ar 10) (ar 11) (sc 17))) (wc' := (wC (q 23) (q 24) (q 25) (cA 10) (cA 11) (ar 10) (ar 11) (sc 17))) (wf := (wX q cA sc ar sg)) hP hD hS hA [23, 24, 25] rfl (by decide) rfl rfl
  refine k_goI (va_runV (As := [.int R1]) (rest := []) ⟨hx, hb, hml, hown, hts⟩ (kX0_same l D (q 23) (q 24) (q 25) (cA 10) (cA 11) (ar 10) (ar 11) (sc 17) R1 hc4 _) (cwV 1 hts gX3_writeAddress_X0_same rfl rfl rfl (by decide +kernel) ⟨Nat.le_of_ble_eq_true rfl, Nat.le_of_ble_eq_true rfl⟩) (k_preV (q0 := 0) (ci := 0) hk (hK.sub [10, 11] rfl) NT_bl NT_u rfl rfl rfl) rfl rfl hl.1 rfl (lv_room (Nat.le_of_ble_eq_true rfl)) dX3_writeAddress_13 ⟨Nat.zero_le _, Nat.zero_le _⟩) hk hS (fun H locs hP hD hS => ?_)
  refine lv_iload_n hx hb dX3_writeAddress_16 rfl (lv_at hl 2 rfl) ?_
  refine lv_icmp_ne (tgt := 45) hx hb dX3_writeAddress_17 (by decide) (fun c5 => ?_) (fun c5 => ?_)
  · rw [if_neg c5] at hf
    refine lv_aload_n hx hb dX3_writeAddress_45 rfl (lv_at hl 1 rfl) ?_
    refine va_get (D := D) (ci := 2) (v := .ref (q 23)) (C := RX3) (T := TX3) (N := 12) hx hb hts (fun w h => List.mem_cons_of_mem _ (List.mem_append_left _ (List.mem_append_left _ (List.mem_append_right _ h)))) hown hK hP 21 rfl rfl 3 (by decide) (hts (.fieldLink RX3 24 "DeltaWindows$Encoder" "caches" "LDeltaWindows$Caches;") (List.mem_of_getElem? (i := 1) rfl)) (fun _ h9 => h9) rfl dX3_writeAddress_46 ?_
    refine lv_iload_n hx hb dX3_writeAddress_49 rfl (lv_at hl 2 rfl) ?_
    refine lv_iload_n hx hb dX3_writeAddress_50 rfl (lv_at hl 3 rfl) ?_
    obtain ⟨R6, hc7, hf⟩ := b_inv hf
    have hk := kcut (wc := (wC (q 23) (q 24) (q 25) (cA 10) (cA 11) (ar 10) (ar 11) (sc 17))) (wc' := (wC (q 23) (q 24) (q 25) (cA 10) (cA 11) (ar 10) (ar 11) (sc 17))) (wf := (wX q cA sc ar sg)) hP hD hS hA [23, 24, 25] rfl (by decide) rfl rfl
    refine k_goI (va_runV (As := [.int x1, .int x2]) (rest := []) ⟨hx, hb, hml, hown, hts⟩ (kX0_leastMode l D (q 23) (q 24) (q 25) (cA 10) (cA 11) (ar 10) (ar 11) (sc 17) x1 x2 hc7 _) (cwV 2 hts gX3_writeAddress_X0_leastMode rfl rfl rfl (by decide +kernel) ⟨Nat.le_of_ble_eq_true rfl, Nat.le_of_ble_eq_true rfl⟩) (k_preV (q0 := 0) (ci := 0) hk (hK.sub [10, 11] rfl) NT_bl NT_u rfl rfl rfl) rfl rfl hl.1 rfl (lv_room (Nat.le_of_ble_eq_true rfl)) dX3_writeAddress_51 ⟨Nat.zero_le _, Nat.zero_le _⟩) hk hS (fun H locs hP hD hS => ?_)
    refine lv_istore (lv' := [(4, .int R6), (3, .int R1), (0, .ref (q 21)), (1, .int x1), (2, .int x2)]) hx hb dX3_writeAddress_54 hl (by decide) rfl (fun ls hl => ?_)
    refine lv_aload_n hx hb dX3_writeAddress_56 rfl (lv_at hl 2 rfl) ?_
    refine va_get (D := D) (ci := 2) (v := .ref (q 15)) (C := RX3) (T := TX3) (N := 12) hx hb hts (fun w h => List.mem_cons_of_mem _ (List.mem_append_left _ (List.mem_append_left _ (List.mem_append_right _ h)))) hown hK hP 21 rfl rfl 8 (by decide) (hts (.fieldLink RX3 49 "DeltaWindows$Encoder" "addresses" "LDeltaWindows$Row;") (List.mem_of_getElem? (i := 2) rfl)) (fun _ h9 => h9) rfl dX3_writeAddress_57 ?_
    refine lv_aload_n hx hb dX3_writeAddress_60 rfl (lv_at hl 2 rfl) ?_
    refine va_get (D := D) (ci := 2) (v := .ref (q 23)) (C := RX3) (T := TX3) (N := 12) hx hb hts (fun w h => List.mem_cons_of_mem _ (List.mem_append_left _ (List.mem_append_left _ (List.mem_append_right _ h)))) hown hK hP 21 rfl rfl 3 (by decide) (hts (.fieldLink RX3 24 "DeltaWindows$Encoder" "caches" "LDeltaWindows$Caches;") (List.mem_of_getElem? (i := 1) rfl)) (fun _ h9 => h9) rfl dX3_writeAddress_61 ?_
    refine lv_iload hx hb dX3_writeAddress_64 (lv_at hl 0 rfl) ?_
    refine lv_iload_n hx hb dX3_writeAddress_66 rfl (lv_at hl 3 rfl) ?_
    refine lv_iload_n hx hb dX3_writeAddress_67 rfl (lv_at hl 4 rfl) ?_
    obtain ⟨R8, hc9, hf⟩ := b_inv hf
    have hk := kcut (wc := (wC (q 23) (q 24) (q 25) (cA 10) (cA 11) (ar 10) (ar 11) (sc 17))) (wc' := (wC (q 23) (q 24) (q 25) (cA 10) (cA 11) (ar 10) (ar 11) (sc 17))) (wf := (wX q cA sc ar sg)) hP hD hS hA [23, 24, 25] rfl (by decide) rfl rfl
    refine k_goI (va_runV (As := [.int R6, .int x1, .int x2]) (rest := [.ref (q 15)]) ⟨hx, hb, hml, hown, hts⟩ (kX0_integerFor l D (q 23) (q 24) (q 25) (cA 10) (cA 11) (ar 10) (ar 11) (sc 17) R6 x1 x2 hc9 _) (cwV 3 hts gX3_writeAddress_X0_integerFor rfl rfl rfl (by decide +kernel) ⟨Nat.le_of_ble_eq_true rfl, Nat.le_of_ble_eq_true rfl⟩) (k_preV (q0 := 0) (ci := 0) hk (hK.sub [10, 11] rfl) NT_bl NT_u rfl rfl rfl) rfl rfl hl.1 rfl (lv_room (Nat.le_of_ble_eq_true rfl)) dX3_writeAddress_68 ⟨Nat.zero_le _, Nat.zero_le _⟩) hk hS (fun H locs hP hD hS => ?_)
    obtain ⟨R10, hc11, hf⟩ := b_inv hf
    have hk := kcut (wc := (wR (q 15) (q 16) (cA 7) 64 (ar 7) (sc 7))) (wc' := (wR (q 15) (q 16) (cA 7) 64 R10.1 R10.2)) (wf := (wX q cA (va_up sc 7 R10.2) (va_up ar 7 R10.1) sg)) hP hD hS hA [15, 16] rfl (by decide) rfl rfl
    refine k_goV (va_runV (As := [.int R8]) (rest := []) ⟨hx, hb, hml, hown, hts⟩ (kX6_appendInteger l D (q 15) (q 16) (cA 7) 64 (ar 7) (sc 7) R8 hc11 _) (cwV 1 hts gX3_writeAddress_X6_appendInteger rfl rfl rfl (by decide +kernel) ⟨Nat.le_of_ble_eq_true rfl, Nat.le_of_ble_eq_true rfl⟩) (k_preV (q0 := 0) (ci := 5) hk (hK.sub [7] rfl) NT_bl NT_u rfl rfl rfl) rfl rfl hl.1 rfl (lv_room (Nat.le_of_ble_eq_true rfl)) dX3_writeAddress_71 ⟨Nat.zero_le _, Nat.zero_le _⟩) hk hS (fun H locs hP hD hS => ?_)
    refine lv_aload_n hx hb dX3_writeAddress_74 rfl (lv_at hl 2 rfl) ?_
    refine va_get (D := D) (ci := 2) (v := .ref (q 23)) (C := RX3) (T := TX3) (N := 12) hx hb hts (fun w h => List.mem_cons_of_mem _ (List.mem_append_left _ (List.mem_append_left _ (List.mem_append_right _ h)))) hown hK hP 21 rfl rfl 3 (by decide) (hts (.fieldLink RX3 24 "DeltaWindows$Encoder" "caches" "LDeltaWindows$Caches;") (List.mem_of_getElem? (i := 1) rfl)) (fun _ h9 => h9) rfl dX3_writeAddress_75 ?_
    refine lv_iload_n hx hb dX3_writeAddress_78 rfl (lv_at hl 3 rfl) ?_
    obtain ⟨R12, hc13, hf⟩ := b_inv hf
    have hk := kcut (wc := (wC (q 23) (q 24) (q 25) (cA 10) (cA 11) (ar 10) (ar 11) (sc 17))) (wc' := (wC (q 23) (q 24) (q 25) (cA 10) (cA 11) R12.1 R12.2.1 R12.2.2)) (wf := (wX q cA (va_up (va_up sc 7 R10.2) 17 R12.2.2) (va_up (va_up (va_up ar 7 R10.1) 10 R12.1) 11 R12.2.1) sg)) hP hD hS hA [23, 24, 25] rfl (by decide) rfl rfl
    refine k_goV (va_runV (As := [.int x1]) (rest := []) ⟨hx, hb, hml, hown, hts⟩ (kX0_learn l D (q 23) (q 24) (q 25) (cA 10) (cA 11) (ar 10) (ar 11) (sc 17) x1 hc13 _) (cwV 1 hts gX3_writeAddress_X0_learn rfl rfl rfl (by decide +kernel) ⟨Nat.le_of_ble_eq_true rfl, Nat.le_of_ble_eq_true rfl⟩) (k_preV (q0 := 0) (ci := 0) hk (hK.sub [10, 11] rfl) NT_bl NT_u rfl rfl rfl) rfl rfl hl.1 rfl (lv_room (Nat.le_of_ble_eq_true rfl)) dX3_writeAddress_79 ⟨Nat.zero_le _, Nat.zero_le _⟩) hk hS (fun H locs hP hD hS => ?_)
    refine lv_iload hx hb dX3_writeAddress_82 (lv_at hl 0 rfl) ?_
    obtain rfl := Option.some.inj hf
    exact k_retI hx hb hr hlocks hP hS dX3_writeAddress_84
  · rw [if_pos c5] at hf
    refine lv_bipush (v := (6 : Int32)) hx hb dX3_writeAddress_20 (by decide) ?_
    refine lv_iload_n hx hb dX3_writeAddress_22 rfl (lv_at hl 0 rfl) ?_
    refine lv_sipush (v := (256 : Int32)) hx hb dX3_writeAddress_23 (by decide) ?_
    refine lv_idiv hx hb dX3_writeAddress_26 (by decide) ?_
    refine lv_iadd hx hb dX3_writeAddress_27 ?_
    refine lv_istore (lv' := [(4, .int ((6 : Int32) + (R1 / (256 : Int32)))), (3, .int R1), (0, .ref (q 21)), (1, .int x1), (2, .int x2)]) hx hb dX3_writeAddress_28 hl (by decide) rfl (fun ls hl => ?_)
    refine lv_aload_n hx hb dX3_writeAddress_30 rfl (lv_at hl 2 rfl) ?_
    refine va_get (D := D) (ci := 2) (v := .ref (q 15)) (C := RX3) (T := TX3) (N := 12) hx hb hts (fun w h => List.mem_cons_of_mem _ (List.mem_append_left _ (List.mem_append_left _ (List.mem_append_right _ h)))) hown hK hP 21 rfl rfl 8 (by decide) (hts (.fieldLink RX3 49 "DeltaWindows$Encoder" "addresses" "LDeltaWindows$Row;") (List.mem_of_getElem? (i := 2) rfl)) (fun _ h9 => h9) rfl dX3_writeAddress_31 ?_
    refine lv_iload_n hx hb dX3_writeAddress_34 rfl (lv_at hl 1 rfl) ?_
    refine lv_sipush (v := (256 : Int32)) hx hb dX3_writeAddress_35 (by decide) ?_
    refine lv_irem hx hb dX3_writeAddress_38 (by decide) ?_
    obtain ⟨R14, hc15, hf⟩ := b_inv hf
    have hk := kcut (wc := (wR (q 15) (q 16) (cA 7) 64 (ar 7) (sc 7))) (wc' := (wR (q 15) (q 16) (cA 7) 64 R14.1 R14.2)) (wf := (wX q cA (va_up sc 7 R14.2) (va_up ar 7 R14.1) sg)) hP hD hS hA [15, 16] rfl (by decide) rfl rfl
    refine k_goV (va_runV (As := [.int (R1 - R1 / (256 : Int32) * (256 : Int32))]) (rest := []) ⟨hx, hb, hml, hown, hts⟩ (kX6_append l D (q 15) (q 16) (cA 7) 64 (ar 7) (sc 7) (R1 - R1 / (256 : Int32) * (256 : Int32)) hc15 _) (cwV 1 hts gX3_writeAddress_X6_append rfl rfl rfl (by decide +kernel) ⟨Nat.le_of_ble_eq_true rfl, Nat.le_of_ble_eq_true rfl⟩) (k_preV (q0 := 0) (ci := 5) hk (hK.sub [7] rfl) NT_bl NT_u rfl rfl rfl) rfl rfl hl.1 rfl (lv_room (Nat.le_of_ble_eq_true rfl)) dX3_writeAddress_39 ⟨Nat.zero_le _, Nat.zero_le _⟩) hk hS (fun H locs hP hD hS => ?_)
    refine lv_goto (tgt := 74) hx hb dX3_writeAddress_42 (by decide) ?_
    refine lv_aload_n hx hb dX3_writeAddress_74 rfl (lv_at hl 2 rfl) ?_
    refine va_get (D := D) (ci := 2) (v := .ref (q 23)) (C := RX3) (T := TX3) (N := 12) hx hb hts (fun w h => List.mem_cons_of_mem _ (List.mem_append_left _ (List.mem_append_left _ (List.mem_append_right _ h)))) hown hK hP 21 rfl rfl 3 (by decide) (hts (.fieldLink RX3 24 "DeltaWindows$Encoder" "caches" "LDeltaWindows$Caches;") (List.mem_of_getElem? (i := 1) rfl)) (fun _ h9 => h9) rfl dX3_writeAddress_75 ?_
    refine lv_iload_n hx hb dX3_writeAddress_78 rfl (lv_at hl 3 rfl) ?_
    obtain ⟨R16, hc17, hf⟩ := b_inv hf
    have hk := kcut (wc := (wC (q 23) (q 24) (q 25) (cA 10) (cA 11) (ar 10) (ar 11) (sc 17))) (wc' := (wC (q 23) (q 24) (q 25) (cA 10) (cA 11) R16.1 R16.2.1 R16.2.2)) (wf := (wX q cA (va_up (va_up sc 7 R14.2) 17 R16.2.2) (va_up (va_up (va_up ar 7 R14.1) 10 R16.1) 11 R16.2.1) sg)) hP hD hS hA [23, 24, 25] rfl (by decide) rfl rfl
    refine k_goV (va_runV (As := [.int x1]) (rest := []) ⟨hx, hb, hml, hown, hts⟩ (kX0_learn l D (q 23) (q 24) (q 25) (cA 10) (cA 11) (ar 10) (ar 11) (sc 17) x1 hc17 _) (cwV 1 hts gX3_writeAddress_X0_learn rfl rfl rfl (by decide +kernel) ⟨Nat.le_of_ble_eq_true rfl, Nat.le_of_ble_eq_true rfl⟩) (k_preV (q0 := 0) (ci := 0) hk (hK.sub [10, 11] rfl) NT_bl NT_u rfl rfl rfl) rfl rfl hl.1 rfl (lv_room (Nat.le_of_ble_eq_true rfl)) dX3_writeAddress_79 ⟨Nat.zero_le _, Nat.zero_le _⟩) hk hS (fun H locs hP hD hS => ?_)
    refine lv_iload hx hb dX3_writeAddress_82 (lv_at hl 0 rfl) ?_
    obtain rfl := Option.some.inj hf
    exact k_retI hx hb hr hlocks hP hS dX3_writeAddress_84

noncomputable def fX3_findInstruction (sc : Nat → Int32) (ar : Nat → Nat → Int32) (sg : Bool) (x1 : Int32) : Option (Int32 × (Nat → Int32) × (Nat → Nat → Int32)) :=
  (fX3_sameBytes sc ar sg x1).bind fun R1 =>
  (fX3_findCopy sc ar sg x1).bind fun R3 =>
  if R1 < (4 : Int32) then
    if (R3 10) < (4 : Int32) then
      (fX4_appendAddedByte (ar 16) (ar 17) (ar 18) (R3 20)).bind fun R7 =>
      (fX6_at 112 (ar 4) (R3 4) x1).bind fun R9 =>
      (fX6_append 64 (ar 5) (R3 5) R9).bind fun R11 =>
      some ((1 : Int32), (va_up (va_up R3 20 R7.2.2.2) 5 R11.2), (va_up (va_up (va_up (va_up ar 16 R7.1) 17 R7.2.1) 18 R7.2.2.1) 5 R11.1))
    else
      (fX3_writeAddress R3 ar sg (R3 11) x1).bind fun R13 =>
      (fX4_append (R13.2.2 16) (R13.2.2 17) (R13.2.2 18) (R13.2.1 20) (3 : Int32) (R3 10) R13.1).bind fun R15 =>
      some ((R13.2.1 10), (va_up R13.2.1 20 R15.2.2.2), (va_up (va_up (va_up R13.2.2 16 R15.1) 17 R15.2.1) 18 R15.2.2.1))
  else
    if R1 < (R3 10) then
      if (R3 10) < (4 : Int32) then
        (fX4_appendAddedByte (ar 16) (ar 17) (ar 18) (R3 20)).bind fun R19 =>
        (fX6_at 112 (ar 4) (R3 4) x1).bind fun R21 =>
        (fX6_append 64 (ar 5) (R3 5) R21).bind fun R23 =>
        some ((1 : Int32), (va_up (va_up R3 20 R19.2.2.2) 5 R23.2), (va_up (va_up (va_up (va_up ar 16 R19.1) 17 R19.2.1) 18 R19.2.2.1) 5 R23.1))
      else
        (fX3_writeAddress R3 ar sg (R3 11) x1).bind fun R25 =>
        (fX4_append (R25.2.2 16) (R25.2.2 17) (R25.2.2 18) (R25.2.1 20) (3 : Int32) (R3 10) R25.1).bind fun R27 =>
        some ((R25.2.1 10), (va_up R25.2.1 20 R27.2.2.2), (va_up (va_up (va_up R25.2.2 16 R27.1) 17 R27.2.1) 18 R27.2.2.1))
    else
      (fX4_append (ar 16) (ar 17) (ar 18) (R3 20) (2 : Int32) R1 (0 : Int32)).bind fun R29 =>
      (fX6_at 112 (ar 4) (R3 4) x1).bind fun R31 =>
      (fX6_append 64 (ar 5) (R3 5) R31).bind fun R33 =>
      some (R1, (va_up (va_up R3 20 R29.2.2.2) 5 R33.2), (va_up (va_up (va_up (va_up ar 16 R29.1) 17 R29.2.1) 18 R29.2.2.1) 5 R33.1))

set_option maxHeartbeats 4000000 in
set_option maxRecDepth 100000 in
theorem kX3_findInstruction (l : Launch) (D : va_G) (q : Nat → Nat) (cA : Nat → ClassId) (sc : Nat → Int32) (ar : Nat → Nat → Int32) (sg : Bool) (x1 : Int32) {R : Int32 × (Nat → Int32) × (Nat → Nat → Int32)} (hf : fX3_findInstruction sc ar sg x1 = some R) : MI l yX3_findInstruction wsX3_findInstruction (rmD 3) D ([.ref (q 21), .int x1] : List Value) (wX q cA sc ar sg) (tX cA) NX R.1 (wX q cA R.2.1 R.2.2 sg) := by
  refine MI.mk (cc := cX3_findInstruction) (maxL := 3) (ret := (some .int)) (by first | decide | decide +kernel) rfl (Nat.le_of_ble_eq_true rfl) ?_
  intro p e s m below meth cd A ls hE
  obtain ⟨hx, hb, hr, hml, hts, hown, hlocks, hP, hK, hD, hA, hN, hAe, hl⟩ := hE
  have hown : s.vm.findClass RX3 = some m.cls := hown
  have hS : va_S A s.heap s.heap [] := va_S.rf
  have hl : lv_has ls 3 [(0, .ref (q 21)), (1, .int x1)] := hl
  rw [fX3_findInstruction] at hf
  refine lv_aload_n hx hb dX3_findInstruction_0 rfl (lv_at hl 0 rfl) ?_
  refine lv_iload_n hx hb dX3_findInstruction_1 rfl (lv_at hl 1 rfl) ?_
  obtain ⟨R1, hc2, hf⟩ := b_inv hf
  have hk := kall (wc' := (wX q cA sc ar sg)) hP hD hS hA rfl
  refine k_goI (va_runV (As := [.int x1]) (rest := []) ⟨hx, hb, hml, hown, hts⟩ (kX3_sameBytes l D q cA sc ar sg x1 hc2 _) (cwV 1 hts gX3_findInstruction_X3_sameBytes rfl rfl rfl (by decide +kernel) ⟨Nat.le_of_ble_eq_true rfl, Nat.le_of_ble_eq_true rfl⟩) (k_preV (q0 := 21) (ci := 2) hk hK NX_bl (fun U _ hW => NX_w hW hN) rfl rfl rfl) rfl rfl hl.1 rfl (lv_room (Nat.le_of_ble_eq_true rfl)) dX3_findInstruction_2 ⟨Nat.zero_le _, Nat.zero_le _⟩) hk hS (fun H locs hP hD hS => ?_)
  refine lv_istore_n (lv' := [(2, .int R1), (0, .ref (q 21)), (1, .int x1)]) hx hb dX3_findInstruction_5 rfl hl (by decide) rfl (fun ls hl => ?_)
  refine lv_aload_n hx hb dX3_findInstruction_6 rfl (lv_at hl 1 rfl) ?_
  refine lv_iload_n hx hb dX3_findInstruction_7 rfl (lv_at hl 2 rfl) ?_
  obtain ⟨R3, hc4, hf⟩ := b_inv hf
  have hk := kall (wc' := (wX q cA R3 ar sg)) hP hD hS hA rfl
  refine k_goV (va_runV (As := [.int x1]) (rest := []) ⟨hx, hb, hml, hown, hts⟩ (kX3_findCopy l D q cA sc ar sg x1 hc4 _) (cwV 1 hts gX3_findInstruction_X3_findCopy rfl rfl rfl (by decide +kernel) ⟨Nat.le_of_ble_eq_true rfl, Nat.le_of_ble_eq_true rfl⟩) (k_preV (q0 := 21) (ci := 2) hk hK NX_bl (fun U _ hW => NX_w hW hN) rfl rfl rfl) rfl rfl hl.1 rfl (lv_room (Nat.le_of_ble_eq_true rfl)) dX3_findInstruction_8 ⟨Nat.zero_le _, Nat.zero_le _⟩) hk hS (fun H locs hP hD hS => ?_)
  refine lv_iload_n hx hb dX3_findInstruction_11 rfl (lv_at hl 0 rfl) ?_
  refine lv_iconst (v := (4 : Int32)) hx hb dX3_findInstruction_12 (by decide) ?_
  refine lv_icmp_lt (tgt := 51) hx hb dX3_findInstruction_13 (by decide) (fun c5 => ?_) (fun c5 => ?_)
  · rw [if_pos c5] at hf
    refine lv_aload_n hx hb dX3_findInstruction_51 rfl (lv_at hl 1 rfl) ?_
    refine va_get (D := D) (ci := 2) (v := .int (R3 10)) (C := RX3) (T := TX3) (N := 12) hx hb hts (fun w h => List.mem_cons_of_mem _ (List.mem_append_left _ (List.mem_append_left _ (List.mem_append_left _ (List.mem_append_right _ h))))) hown hK hP 21 rfl rfl 10 (by decide) (hts (.fieldLink RX3 55 "DeltaWindows$Encoder" "copySize" "I") (List.mem_of_getElem? (i := 1) rfl)) (fun _ h9 => h9) rfl dX3_findInstruction_52 ?_
    refine lv_iconst (v := (4 : Int32)) hx hb dX3_findInstruction_55 (by decide) ?_
    refine lv_icmp_lt (tgt := 85) hx hb dX3_findInstruction_56 (by decide) (fun c6 => ?_) (fun c6 => ?_)
    · rw [if_pos c6] at hf
      refine lv_aload_n hx hb dX3_findInstruction_85 rfl (lv_at hl 1 rfl) ?_
      refine va_get (D := D) (ci := 2) (v := .ref (q 32)) (C := RX3) (T := TX3) (N := 12) hx hb hts (fun w h => List.mem_cons_of_mem _ (List.mem_append_left _ (List.mem_append_left _ (List.mem_append_left _ (List.mem_append_right _ h))))) hown hK hP 21 rfl rfl 4 (by decide) (hts (.fieldLink RX3 31 "DeltaWindows$Encoder" "found" "LDeltaWindows$Instructions;") (List.mem_of_getElem? (i := 2) rfl)) (fun _ h9 => h9) rfl dX3_findInstruction_86 ?_
      obtain ⟨R7, hc8, hf⟩ := b_inv hf
      have hk := kcut (wc := (wI (q 32) (q 33) (q 34) (q 35) (cA 16) (cA 17) (cA 18) (ar 16) (ar 17) (ar 18) (R3 20))) (wc' := (wI (q 32) (q 33) (q 34) (q 35) (cA 16) (cA 17) (cA 18) R7.1 R7.2.1 R7.2.2.1 R7.2.2.2)) (wf := (wX q cA (va_up R3 20 R7.2.2.2) (va_up (va_up (va_up ar 16 R7.1) 17 R7.2.1) 18 R7.2.2.1) sg)) hP hD hS hA [32, 33, 34, 35] rfl (by decide) rfl rfl
      refine k_goV (va_runV (As := []) (rest := []) ⟨hx, hb, hml, hown, hts⟩ (kX4_appendAddedByte l D (q 32) (q 33) (q 34) (q 35) (cA 16) (cA 17) (cA 18) (ar 16) (ar 17) (ar 18) (R3 20) hc8 _) (cwV 0 hts gX3_findInstruction_X4_appendAddedByte rfl rfl rfl (by decide +kernel) ⟨Nat.le_of_ble_eq_true rfl, Nat.le_of_ble_eq_true rfl⟩) (k_preV (q0 := 0) (ci := 3) hk (hK.sub [16, 17, 18] rfl) NT_bl NT_u rfl rfl rfl) rfl rfl hl.1 rfl (lv_room (Nat.le_of_ble_eq_true rfl)) dX3_findInstruction_89 ⟨Nat.zero_le _, Nat.zero_le _⟩) hk hS (fun H locs hP hD hS => ?_)
      refine lv_aload_n hx hb dX3_findInstruction_92 rfl (lv_at hl 1 rfl) ?_
      refine va_get (D := D) (ci := 2) (v := .ref (q 11)) (C := RX3) (T := TX3) (N := 12) hx hb hts (fun w h => List.mem_cons_of_mem _ (List.mem_append_left _ (List.mem_append_left _ (List.mem_append_left _ (List.mem_append_right _ h))))) hown hK hP 21 rfl rfl 6 (by decide) (hts (.fieldLink RX3 43 "DeltaWindows$Encoder" "data" "LDeltaWindows$Row;") (List.mem_of_getElem? (i := 3) rfl)) (fun _ h9 => h9) rfl dX3_findInstruction_93 ?_
      refine lv_aload_n hx hb dX3_findInstruction_96 rfl (lv_at hl 1 rfl) ?_
      refine va_get (D := D) (ci := 2) (v := .ref (q 9)) (C := RX3) (T := TX3) (N := 12) hx hb hts (fun w h => List.mem_cons_of_mem _ (List.mem_append_left _ (List.mem_append_left _ (List.mem_append_left _ (List.mem_append_right _ h))))) hown hK hP 21 rfl rfl 5 (by decide) (hts (.fieldLink RX3 40 "DeltaWindows$Encoder" "string" "LDeltaWindows$Row;") (List.mem_of_getElem? (i := 4) rfl)) (fun _ h9 => h9) rfl dX3_findInstruction_97 ?_
      refine lv_iload_n hx hb dX3_findInstruction_100 rfl (lv_at hl 2 rfl) ?_
      obtain ⟨R9, hc10, hf⟩ := b_inv hf
      have hk := kcut (wc := (wR (q 9) (q 10) (cA 4) 112 (ar 4) (R3 4))) (wc' := (wR (q 9) (q 10) (cA 4) 112 (ar 4) (R3 4))) (wf := (wX q cA (va_up R3 20 R7.2.2.2) (va_up (va_up (va_up ar 16 R7.1) 17 R7.2.1) 18 R7.2.2.1) sg)) hP hD hS hA [9, 10] rfl (by decide) rfl rfl
      refine k_goI (va_runV (As := [.int x1]) (rest := [.ref (q 11)]) ⟨hx, hb, hml, hown, hts⟩ (kX6_at l D (q 9) (q 10) (cA 4) 112 (ar 4) (R3 4) x1 hc10 _) (cwV 1 hts gX3_findInstruction_X6_at rfl rfl rfl (by decide +kernel) ⟨Nat.le_of_ble_eq_true rfl, Nat.le_of_ble_eq_true rfl⟩) (k_preV (q0 := 0) (ci := 5) hk (hK.sub [4] rfl) NT_bl NT_u rfl rfl rfl) rfl rfl hl.1 rfl (lv_room (Nat.le_of_ble_eq_true rfl)) dX3_findInstruction_101 ⟨Nat.zero_le _, Nat.zero_le _⟩) hk hS (fun H locs hP hD hS => ?_)
      obtain ⟨R11, hc12, hf⟩ := b_inv hf
      have hk := kcut (wc := (wR (q 11) (q 12) (cA 5) 64 (ar 5) (R3 5))) (wc' := (wR (q 11) (q 12) (cA 5) 64 R11.1 R11.2)) (wf := (wX q cA (va_up (va_up R3 20 R7.2.2.2) 5 R11.2) (va_up (va_up (va_up (va_up ar 16 R7.1) 17 R7.2.1) 18 R7.2.2.1) 5 R11.1) sg)) hP hD hS hA [11, 12] rfl (by decide) rfl rfl
      refine k_goV (va_runV (As := [.int R9]) (rest := []) ⟨hx, hb, hml, hown, hts⟩ (kX6_append l D (q 11) (q 12) (cA 5) 64 (ar 5) (R3 5) R9 hc12 _) (cwV 1 hts gX3_findInstruction_X6_append rfl rfl rfl (by decide +kernel) ⟨Nat.le_of_ble_eq_true rfl, Nat.le_of_ble_eq_true rfl⟩) (k_preV (q0 := 0) (ci := 5) hk (hK.sub [5] rfl) NT_bl NT_u rfl rfl rfl) rfl rfl hl.1 rfl (lv_room (Nat.le_of_ble_eq_true rfl)) dX3_findInstruction_104 ⟨Nat.zero_le _, Nat.zero_le _⟩) hk hS (fun H locs hP hD hS => ?_)
      refine lv_iconst (v := (1 : Int32)) hx hb dX3_findInstruction_107 (by decide) ?_
      obtain rfl := Option.some.inj hf
      exact k_retI hx hb hr hlocks hP hS dX3_findInstruction_108
    · rw [if_neg c6] at hf
      refine lv_aload_n hx hb dX3_findInstruction_59 rfl (lv_at hl 1 rfl) ?_
      refine va_get (D := D) (ci := 2) (v := .ref (q 32)) (C := RX3) (T := TX3) (N := 12) hx hb hts (fun w h => List.mem_cons_of_mem _ (List.mem_append_left _ (List.mem_append_left _ (List.mem_append_left _ (List.mem_append_right _ h))))) hown hK hP 21 rfl rfl 4 (by decide) (hts (.fieldLink RX3 31 "DeltaWindows$Encoder" "found" "LDeltaWindows$Instructions;") (List.mem_of_getElem? (i := 2) rfl)) (fun _ h9 => h9) rfl dX3_findInstruction_60 ?_
      refine lv_iconst (v := (3 : Int32)) hx hb dX3_findInstruction_63 (by decide) ?_
      refine lv_aload_n hx hb dX3_findInstruction_64 rfl (lv_at hl 1 rfl) ?_
      refine va_get (D := D) (ci := 2) (v := .int (R3 10)) (C := RX3) (T := TX3) (N := 12) hx hb hts (fun w h => List.mem_cons_of_mem _ (List.mem_append_left _ (List.mem_append_left _ (List.mem_append_left _ (List.mem_append_right _ h))))) hown hK hP 21 rfl rfl 10 (by decide) (hts (.fieldLink RX3 55 "DeltaWindows$Encoder" "copySize" "I") (List.mem_of_getElem? (i := 1) rfl)) (fun _ h9 => h9) rfl dX3_findInstruction_65 ?_
      refine lv_aload_n hx hb dX3_findInstruction_68 rfl (lv_at hl 1 rfl) ?_
      refine lv_aload_n hx hb dX3_findInstruction_69 rfl (lv_at hl 1 rfl) ?_
      refine va_get (D := D) (ci := 2) (v := .int (R3 11)) (C := RX3) (T := TX3) (N := 12) hx hb hts (fun w h => List.mem_cons_of_mem _ (List.mem_append_left _ (List.mem_append_left _ (List.mem_append_left _ (List.mem_append_right _ h))))) hown hK hP 21 rfl rfl 11 (by decide) (hts (.fieldLink RX3 59 "DeltaWindows$Encoder" "copyAddress" "I") (List.mem_of_getElem? (i := 5) rfl)) (fun _ h9 => h9) rfl dX3_findInstruction_70 ?_
      refine lv_iload_n hx hb dX3_findInstruction_73 rfl (lv_at hl 2 rfl) ?_
      obtain ⟨R13, hc14, hf⟩ := b_inv hf
      have hk := kall (wc' := (wX q cA R13.2.1 R13.2.2 sg)) hP hD hS hA rfl
      refine k_goI (va_runV (As := [.int (R3 11), .int x1]) (rest := [.int (R3 10), .int (3 : Int32), .ref (q 32)]) ⟨hx, hb, hml, hown, hts⟩ (kX3_writeAddress l D q cA R3 ar sg (R3 11) x1 hc14 _) (cwV 2 hts gX3_findInstruction_X3_writeAddress rfl rfl rfl (by decide +kernel) ⟨Nat.le_of_ble_eq_true rfl, Nat.le_of_ble_eq_true rfl⟩) (k_preV (q0 := 21) (ci := 2) hk hK NX_bl (fun U _ hW => NX_w hW hN) rfl rfl rfl) rfl rfl hl.1 rfl (lv_room (Nat.le_of_ble_eq_true rfl)) dX3_findInstruction_74 ⟨Nat.zero_le _, Nat.zero_le _⟩) hk hS (fun H locs hP hD hS => ?_)
      obtain ⟨R15, hc16, hf⟩ := b_inv hf
      have hk := kcut (wc := (wI (q 32) (q 33) (q 34) (q 35) (cA 16) (cA 17) (cA 18) (R13.2.2 16) (R13.2.2 17) (R13.2.2 18) (R13.2.1 20))) (wc' := (wI (q 32) (q 33) (q 34) (q 35) (cA 16) (cA 17) (cA 18) R15.1 R15.2.1 R15.2.2.1 R15.2.2.2)) (wf := (wX q cA (va_up R13.2.1 20 R15.2.2.2) (va_up (va_up (va_up R13.2.2 16 R15.1) 17 R15.2.1) 18 R15.2.2.1) sg)) hP hD hS hA [32, 33, 34, 35] rfl (by decide) rfl rfl
      refine k_goV (va_runV (As := [.int (3 : Int32), .int (R3 10), .int R13.1]) (rest := []) ⟨hx, hb, hml, hown, hts⟩ (kX4_append l D (q 32) (q 33) (q 34) (q 35) (cA 16) (cA 17) (cA 18) (R13.2.2 16) (R13.2.2 17) (R13.2.2 18) (R13.2.1 20) (3 : Int32) (R3 10) R13.1 hc16 _) (cwV 3 hts gX3_findInstruction_X4_append rfl rfl rfl (by decide +kernel) ⟨Nat.le_of_ble_eq_true rfl, Nat.le_of_ble_eq_true rfl⟩) (k_preV (q0 := 0) (ci := 3) hk (hK.sub [16, 17, 18] rfl) NT_bl NT_u rfl rfl rfl) rfl rfl hl.1 rfl (lv_room (Nat.le_of_ble_eq_true rfl)) dX3_findInstruction_77 ⟨Nat.zero_le _, Nat.zero_le _⟩) hk hS (fun H locs hP hD hS => ?_)
      refine lv_aload_n hx hb dX3_findInstruction_80 rfl (lv_at hl 1 rfl) ?_
      refine va_get (D := D) (ci := 2) (v := .int (R13.2.1 10)) (C := RX3) (T := TX3) (N := 12) hx hb hts (fun w h => List.mem_cons_of_mem _ (List.mem_append_left _ (List.mem_append_left _ (List.mem_append_left _ (List.mem_append_right _ h))))) hown hK hP 21 rfl rfl 10 (by decide) (hts (.fieldLink RX3 55 "DeltaWindows$Encoder" "copySize" "I") (List.mem_of_getElem? (i := 1) rfl)) (fun _ h9 => h9) rfl dX3_findInstruction_81 ?_
      obtain rfl := Option.some.inj hf
      exact k_retI hx hb hr hlocks hP hS dX3_findInstruction_84
  · rw [if_neg c5] at hf
    refine lv_iload_n hx hb dX3_findInstruction_16 rfl (lv_at hl 0 rfl) ?_
    refine lv_aload_n hx hb dX3_findInstruction_17 rfl (lv_at hl 1 rfl) ?_
    refine va_get (D := D) (ci := 2) (v := .int (R3 10)) (C := RX3) (T := TX3) (N := 12) hx hb hts (fun w h => List.mem_cons_of_mem _ (List.mem_append_left _ (List.mem_append_left _ (List.mem_append_left _ (List.mem_append_right _ h))))) hown hK hP 21 rfl rfl 10 (by decide) (hts (.fieldLink RX3 55 "DeltaWindows$Encoder" "copySize" "I") (List.mem_of_getElem? (i := 1) rfl)) (fun _ h9 => h9) rfl dX3_findInstruction_18 ?_
    refine lv_icmp_lt (tgt := 51) hx hb dX3_findInstruction_21 (by decide) (fun c17 => ?_) (fun c17 => ?_)
    · rw [if_pos c17] at hf
      refine lv_aload_n hx hb dX3_findInstruction_51 rfl (lv_at hl 1 rfl) ?_
      refine va_get (D := D) (ci := 2) (v := .int (R3 10)) (C := RX3) (T := TX3) (N := 12) hx hb hts (fun w h => List.mem_cons_of_mem _ (List.mem_append_left _ (List.mem_append_left _ (List.mem_append_left _ (List.mem_append_right _ h))))) hown hK hP 21 rfl rfl 10 (by decide) (hts (.fieldLink RX3 55 "DeltaWindows$Encoder" "copySize" "I") (List.mem_of_getElem? (i := 1) rfl)) (fun _ h9 => h9) rfl dX3_findInstruction_52 ?_
      refine lv_iconst (v := (4 : Int32)) hx hb dX3_findInstruction_55 (by decide) ?_
      refine lv_icmp_lt (tgt := 85) hx hb dX3_findInstruction_56 (by decide) (fun c18 => ?_) (fun c18 => ?_)
      · rw [if_pos c18] at hf
        refine lv_aload_n hx hb dX3_findInstruction_85 rfl (lv_at hl 1 rfl) ?_
        refine va_get (D := D) (ci := 2) (v := .ref (q 32)) (C := RX3) (T := TX3) (N := 12) hx hb hts (fun w h => List.mem_cons_of_mem _ (List.mem_append_left _ (List.mem_append_left _ (List.mem_append_left _ (List.mem_append_right _ h))))) hown hK hP 21 rfl rfl 4 (by decide) (hts (.fieldLink RX3 31 "DeltaWindows$Encoder" "found" "LDeltaWindows$Instructions;") (List.mem_of_getElem? (i := 2) rfl)) (fun _ h9 => h9) rfl dX3_findInstruction_86 ?_
        obtain ⟨R19, hc20, hf⟩ := b_inv hf
        have hk := kcut (wc := (wI (q 32) (q 33) (q 34) (q 35) (cA 16) (cA 17) (cA 18) (ar 16) (ar 17) (ar 18) (R3 20))) (wc' := (wI (q 32) (q 33) (q 34) (q 35) (cA 16) (cA 17) (cA 18) R19.1 R19.2.1 R19.2.2.1 R19.2.2.2)) (wf := (wX q cA (va_up R3 20 R19.2.2.2) (va_up (va_up (va_up ar 16 R19.1) 17 R19.2.1) 18 R19.2.2.1) sg)) hP hD hS hA [32, 33, 34, 35] rfl (by decide) rfl rfl
        refine k_goV (va_runV (As := []) (rest := []) ⟨hx, hb, hml, hown, hts⟩ (kX4_appendAddedByte l D (q 32) (q 33) (q 34) (q 35) (cA 16) (cA 17) (cA 18) (ar 16) (ar 17) (ar 18) (R3 20) hc20 _) (cwV 0 hts gX3_findInstruction_X4_appendAddedByte rfl rfl rfl (by decide +kernel) ⟨Nat.le_of_ble_eq_true rfl, Nat.le_of_ble_eq_true rfl⟩) (k_preV (q0 := 0) (ci := 3) hk (hK.sub [16, 17, 18] rfl) NT_bl NT_u rfl rfl rfl) rfl rfl hl.1 rfl (lv_room (Nat.le_of_ble_eq_true rfl)) dX3_findInstruction_89 ⟨Nat.zero_le _, Nat.zero_le _⟩) hk hS (fun H locs hP hD hS => ?_)
        refine lv_aload_n hx hb dX3_findInstruction_92 rfl (lv_at hl 1 rfl) ?_
        refine va_get (D := D) (ci := 2) (v := .ref (q 11)) (C := RX3) (T := TX3) (N := 12) hx hb hts (fun w h => List.mem_cons_of_mem _ (List.mem_append_left _ (List.mem_append_left _ (List.mem_append_left _ (List.mem_append_right _ h))))) hown hK hP 21 rfl rfl 6 (by decide) (hts (.fieldLink RX3 43 "DeltaWindows$Encoder" "data" "LDeltaWindows$Row;") (List.mem_of_getElem? (i := 3) rfl)) (fun _ h9 => h9) rfl dX3_findInstruction_93 ?_
        refine lv_aload_n hx hb dX3_findInstruction_96 rfl (lv_at hl 1 rfl) ?_
        refine va_get (D := D) (ci := 2) (v := .ref (q 9)) (C := RX3) (T := TX3) (N := 12) hx hb hts (fun w h => List.mem_cons_of_mem _ (List.mem_append_left _ (List.mem_append_left _ (List.mem_append_left _ (List.mem_append_right _ h))))) hown hK hP 21 rfl rfl 5 (by decide) (hts (.fieldLink RX3 40 "DeltaWindows$Encoder" "string" "LDeltaWindows$Row;") (List.mem_of_getElem? (i := 4) rfl)) (fun _ h9 => h9) rfl dX3_findInstruction_97 ?_
        refine lv_iload_n hx hb dX3_findInstruction_100 rfl (lv_at hl 2 rfl) ?_
        obtain ⟨R21, hc22, hf⟩ := b_inv hf
        have hk := kcut (wc := (wR (q 9) (q 10) (cA 4) 112 (ar 4) (R3 4))) (wc' := (wR (q 9) (q 10) (cA 4) 112 (ar 4) (R3 4))) (wf := (wX q cA (va_up R3 20 R19.2.2.2) (va_up (va_up (va_up ar 16 R19.1) 17 R19.2.1) 18 R19.2.2.1) sg)) hP hD hS hA [9, 10] rfl (by decide) rfl rfl
        refine k_goI (va_runV (As := [.int x1]) (rest := [.ref (q 11)]) ⟨hx, hb, hml, hown, hts⟩ (kX6_at l D (q 9) (q 10) (cA 4) 112 (ar 4) (R3 4) x1 hc22 _) (cwV 1 hts gX3_findInstruction_X6_at rfl rfl rfl (by decide +kernel) ⟨Nat.le_of_ble_eq_true rfl, Nat.le_of_ble_eq_true rfl⟩) (k_preV (q0 := 0) (ci := 5) hk (hK.sub [4] rfl) NT_bl NT_u rfl rfl rfl) rfl rfl hl.1 rfl (lv_room (Nat.le_of_ble_eq_true rfl)) dX3_findInstruction_101 ⟨Nat.zero_le _, Nat.zero_le _⟩) hk hS (fun H locs hP hD hS => ?_)
        obtain ⟨R23, hc24, hf⟩ := b_inv hf
        have hk := kcut (wc := (wR (q 11) (q 12) (cA 5) 64 (ar 5) (R3 5))) (wc' := (wR (q 11) (q 12) (cA 5) 64 R23.1 R23.2)) (wf := (wX q cA (va_up (va_up R3 20 R19.2.2.2) 5 R23.2) (va_up (va_up (va_up (va_up ar 16 R19.1) 17 R19.2.1) 18 R19.2.2.1) 5 R23.1) sg)) hP hD hS hA [11, 12] rfl (by decide) rfl rfl
        refine k_goV (va_runV (As := [.int R21]) (rest := []) ⟨hx, hb, hml, hown, hts⟩ (kX6_append l D (q 11) (q 12) (cA 5) 64 (ar 5) (R3 5) R21 hc24 _) (cwV 1 hts gX3_findInstruction_X6_append rfl rfl rfl (by decide +kernel) ⟨Nat.le_of_ble_eq_true rfl, Nat.le_of_ble_eq_true rfl⟩) (k_preV (q0 := 0) (ci := 5) hk (hK.sub [5] rfl) NT_bl NT_u rfl rfl rfl) rfl rfl hl.1 rfl (lv_room (Nat.le_of_ble_eq_true rfl)) dX3_findInstruction_104 ⟨Nat.zero_le _, Nat.zero_le _⟩) hk hS (fun H locs hP hD hS => ?_)
        refine lv_iconst (v := (1 : Int32)) hx hb dX3_findInstruction_107 (by decide) ?_
        obtain rfl := Option.some.inj hf
        exact k_retI hx hb hr hlocks hP hS dX3_findInstruction_108
      · rw [if_neg c18] at hf
        refine lv_aload_n hx hb dX3_findInstruction_59 rfl (lv_at hl 1 rfl) ?_
        refine va_get (D := D) (ci := 2) (v := .ref (q 32)) (C := RX3) (T := TX3) (N := 12) hx hb hts (fun w h => List.mem_cons_of_mem _ (List.mem_append_left _ (List.mem_append_left _ (List.mem_append_left _ (List.mem_append_right _ h))))) hown hK hP 21 rfl rfl 4 (by decide) (hts (.fieldLink RX3 31 "DeltaWindows$Encoder" "found" "LDeltaWindows$Instructions;") (List.mem_of_getElem? (i := 2) rfl)) (fun _ h9 => h9) rfl dX3_findInstruction_60 ?_
        refine lv_iconst (v := (3 : Int32)) hx hb dX3_findInstruction_63 (by decide) ?_
        refine lv_aload_n hx hb dX3_findInstruction_64 rfl (lv_at hl 1 rfl) ?_
        refine va_get (D := D) (ci := 2) (v := .int (R3 10)) (C := RX3) (T := TX3) (N := 12) hx hb hts (fun w h => List.mem_cons_of_mem _ (List.mem_append_left _ (List.mem_append_left _ (List.mem_append_left _ (List.mem_append_right _ h))))) hown hK hP 21 rfl rfl 10 (by decide) (hts (.fieldLink RX3 55 "DeltaWindows$Encoder" "copySize" "I") (List.mem_of_getElem? (i := 1) rfl)) (fun _ h9 => h9) rfl dX3_findInstruction_65 ?_
        refine lv_aload_n hx hb dX3_findInstruction_68 rfl (lv_at hl 1 rfl) ?_
        refine lv_aload_n hx hb dX3_findInstruction_69 rfl (lv_at hl 1 rfl) ?_
        refine va_get (D := D) (ci := 2) (v := .int (R3 11)) (C := RX3) (T := TX3) (N := 12) hx hb hts (fun w h => List.mem_cons_of_mem _ (List.mem_append_left _ (List.mem_append_left _ (List.mem_append_left _ (List.mem_append_right _ h))))) hown hK hP 21 rfl rfl 11 (by decide) (hts (.fieldLink RX3 59 "DeltaWindows$Encoder" "copyAddress" "I") (List.mem_of_getElem? (i := 5) rfl)) (fun _ h9 => h9) rfl dX3_findInstruction_70 ?_
        refine lv_iload_n hx hb dX3_findInstruction_73 rfl (lv_at hl 2 rfl) ?_
        obtain ⟨R25, hc26, hf⟩ := b_inv hf
        have hk := kall (wc' := (wX q cA R25.2.1 R25.2.2 sg)) hP hD hS hA rfl
        refine k_goI (va_runV (As := [.int (R3 11), .int x1]) (rest := [.int (R3 10), .int (3 : Int32), .ref (q 32)]) ⟨hx, hb, hml, hown, hts⟩ (kX3_writeAddress l D q cA R3 ar sg (R3 11) x1 hc26 _) (cwV 2 hts gX3_findInstruction_X3_writeAddress rfl rfl rfl (by decide +kernel) ⟨Nat.le_of_ble_eq_true rfl, Nat.le_of_ble_eq_true rfl⟩) (k_preV (q0 := 21) (ci := 2) hk hK NX_bl (fun U _ hW => NX_w hW hN) rfl rfl rfl) rfl rfl hl.1 rfl (lv_room (Nat.le_of_ble_eq_true rfl)) dX3_findInstruction_74 ⟨Nat.zero_le _, Nat.zero_le _⟩) hk hS (fun H locs hP hD hS => ?_)
        obtain ⟨R27, hc28, hf⟩ := b_inv hf
        have hk := kcut (wc := (wI (q 32) (q 33) (q 34) (q 35) (cA 16) (cA 17) (cA 18) (R25.2.2 16) (R25.2.2 17) (R25.2.2 18) (R25.2.1 20))) (wc' := (wI (q 32) (q 33) (q 34) (q 35) (cA 16) (cA 17) (cA 18) R27.1 R27.2.1 R27.2.2.1 R27.2.2.2)) (wf := (wX q cA (va_up R25.2.1 20 R27.2.2.2) (va_up (va_up (va_up R25.2.2 16 R27.1) 17 R27.2.1) 18 R27.2.2.1) sg)) hP hD hS hA [32, 33, 34, 35] rfl (by decide) rfl rfl
        refine k_goV (va_runV (As := [.int (3 : Int32), .int (R3 10), .int R25.1]) (rest := []) ⟨hx, hb, hml, hown, hts⟩ (kX4_append l D (q 32) (q 33) (q 34) (q 35) (cA 16) (cA 17) (cA 18) (R25.2.2 16) (R25.2.2 17) (R25.2.2 18) (R25.2.1 20) (3 : Int32) (R3 10) R25.1 hc28 _) (cwV 3 hts gX3_findInstruction_X4_append rfl rfl rfl (by decide +kernel) ⟨Nat.le_of_ble_eq_true rfl, Nat.le_of_ble_eq_true rfl⟩) (k_preV (q0 := 0) (ci := 3) hk (hK.sub [16, 17, 18] rfl) NT_bl NT_u rfl rfl rfl) rfl rfl hl.1 rfl (lv_room (Nat.le_of_ble_eq_true rfl)) dX3_findInstruction_77 ⟨Nat.zero_le _, Nat.zero_le _⟩) hk hS (fun H locs hP hD hS => ?_)
        refine lv_aload_n hx hb dX3_findInstruction_80 rfl (lv_at hl 1 rfl) ?_
        refine va_get (D := D) (ci := 2) (v := .int (R25.2.1 10)) (C := RX3) (T := TX3) (N := 12) hx hb hts (fun w h => List.mem_cons_of_mem _ (List.mem_append_left _ (List.mem_append_left _ (List.mem_append_left _ (List.mem_append_right _ h))))) hown hK hP 21 rfl rfl 10 (by decide) (hts (.fieldLink RX3 55 "DeltaWindows$Encoder" "copySize" "I") (List.mem_of_getElem? (i := 1) rfl)) (fun _ h9 => h9) rfl dX3_findInstruction_81 ?_
        obtain rfl := Option.some.inj hf
        exact k_retI hx hb hr hlocks hP hS dX3_findInstruction_84
    · rw [if_neg c17] at hf
      refine lv_aload_n hx hb dX3_findInstruction_24 rfl (lv_at hl 1 rfl) ?_
      refine va_get (D := D) (ci := 2) (v := .ref (q 32)) (C := RX3) (T := TX3) (N := 12) hx hb hts (fun w h => List.mem_cons_of_mem _ (List.mem_append_left _ (List.mem_append_left _ (List.mem_append_left _ (List.mem_append_right _ h))))) hown hK hP 21 rfl rfl 4 (by decide) (hts (.fieldLink RX3 31 "DeltaWindows$Encoder" "found" "LDeltaWindows$Instructions;") (List.mem_of_getElem? (i := 2) rfl)) (fun _ h9 => h9) rfl dX3_findInstruction_25 ?_
      refine lv_iconst (v := (2 : Int32)) hx hb dX3_findInstruction_28 (by decide) ?_
      refine lv_iload_n hx hb dX3_findInstruction_29 rfl (lv_at hl 0 rfl) ?_
      refine lv_iconst (v := (0 : Int32)) hx hb dX3_findInstruction_30 (by decide) ?_
      obtain ⟨R29, hc30, hf⟩ := b_inv hf
      have hk := kcut (wc := (wI (q 32) (q 33) (q 34) (q 35) (cA 16) (cA 17) (cA 18) (ar 16) (ar 17) (ar 18) (R3 20))) (wc' := (wI (q 32) (q 33) (q 34) (q 35) (cA 16) (cA 17) (cA 18) R29.1 R29.2.1 R29.2.2.1 R29.2.2.2)) (wf := (wX q cA (va_up R3 20 R29.2.2.2) (va_up (va_up (va_up ar 16 R29.1) 17 R29.2.1) 18 R29.2.2.1) sg)) hP hD hS hA [32, 33, 34, 35] rfl (by decide) rfl rfl
      refine k_goV (va_runV (As := [.int (2 : Int32), .int R1, .int (0 : Int32)]) (rest := []) ⟨hx, hb, hml, hown, hts⟩ (kX4_append l D (q 32) (q 33) (q 34) (q 35) (cA 16) (cA 17) (cA 18) (ar 16) (ar 17) (ar 18) (R3 20) (2 : Int32) R1 (0 : Int32) hc30 _) (cwV 3 hts gX3_findInstruction_X4_append rfl rfl rfl (by decide +kernel) ⟨Nat.le_of_ble_eq_true rfl, Nat.le_of_ble_eq_true rfl⟩) (k_preV (q0 := 0) (ci := 3) hk (hK.sub [16, 17, 18] rfl) NT_bl NT_u rfl rfl rfl) rfl rfl hl.1 rfl (lv_room (Nat.le_of_ble_eq_true rfl)) dX3_findInstruction_31 ⟨Nat.zero_le _, Nat.zero_le _⟩) hk hS (fun H locs hP hD hS => ?_)
      refine lv_aload_n hx hb dX3_findInstruction_34 rfl (lv_at hl 1 rfl) ?_
      refine va_get (D := D) (ci := 2) (v := .ref (q 11)) (C := RX3) (T := TX3) (N := 12) hx hb hts (fun w h => List.mem_cons_of_mem _ (List.mem_append_left _ (List.mem_append_left _ (List.mem_append_left _ (List.mem_append_right _ h))))) hown hK hP 21 rfl rfl 6 (by decide) (hts (.fieldLink RX3 43 "DeltaWindows$Encoder" "data" "LDeltaWindows$Row;") (List.mem_of_getElem? (i := 3) rfl)) (fun _ h9 => h9) rfl dX3_findInstruction_35 ?_
      refine lv_aload_n hx hb dX3_findInstruction_38 rfl (lv_at hl 1 rfl) ?_
      refine va_get (D := D) (ci := 2) (v := .ref (q 9)) (C := RX3) (T := TX3) (N := 12) hx hb hts (fun w h => List.mem_cons_of_mem _ (List.mem_append_left _ (List.mem_append_left _ (List.mem_append_left _ (List.mem_append_right _ h))))) hown hK hP 21 rfl rfl 5 (by decide) (hts (.fieldLink RX3 40 "DeltaWindows$Encoder" "string" "LDeltaWindows$Row;") (List.mem_of_getElem? (i := 4) rfl)) (fun _ h9 => h9) rfl dX3_findInstruction_39 ?_
      refine lv_iload_n hx hb dX3_findInstruction_42 rfl (lv_at hl 2 rfl) ?_
      obtain ⟨R31, hc32, hf⟩ := b_inv hf
      have hk := kcut (wc := (wR (q 9) (q 10) (cA 4) 112 (ar 4) (R3 4))) (wc' := (wR (q 9) (q 10) (cA 4) 112 (ar 4) (R3 4))) (wf := (wX q cA (va_up R3 20 R29.2.2.2) (va_up (va_up (va_up ar 16 R29.1) 17 R29.2.1) 18 R29.2.2.1) sg)) hP hD hS hA [9, 10] rfl (by decide) rfl rfl
      refine k_goI (va_runV (As := [.int x1]) (rest := [.ref (q 11)]) ⟨hx, hb, hml, hown, hts⟩ (kX6_at l D (q 9) (q 10) (cA 4) 112 (ar 4) (R3 4) x1 hc32 _) (cwV 1 hts gX3_findInstruction_X6_at rfl rfl rfl (by decide +kernel) ⟨Nat.le_of_ble_eq_true rfl, Nat.le_of_ble_eq_true rfl⟩) (k_preV (q0 := 0) (ci := 5) hk (hK.sub [4] rfl) NT_bl NT_u rfl rfl rfl) rfl rfl hl.1 rfl (lv_room (Nat.le_of_ble_eq_true rfl)) dX3_findInstruction_43 ⟨Nat.zero_le _, Nat.zero_le _⟩) hk hS (fun H locs hP hD hS => ?_)
      obtain ⟨R33, hc34, hf⟩ := b_inv hf
      have hk := kcut (wc := (wR (q 11) (q 12) (cA 5) 64 (ar 5) (R3 5))) (wc' := (wR (q 11) (q 12) (cA 5) 64 R33.1 R33.2)) (wf := (wX q cA (va_up (va_up R3 20 R29.2.2.2) 5 R33.2) (va_up (va_up (va_up (va_up ar 16 R29.1) 17 R29.2.1) 18 R29.2.2.1) 5 R33.1) sg)) hP hD hS hA [11, 12] rfl (by decide) rfl rfl
      refine k_goV (va_runV (As := [.int R31]) (rest := []) ⟨hx, hb, hml, hown, hts⟩ (kX6_append l D (q 11) (q 12) (cA 5) 64 (ar 5) (R3 5) R31 hc34 _) (cwV 1 hts gX3_findInstruction_X6_append rfl rfl rfl (by decide +kernel) ⟨Nat.le_of_ble_eq_true rfl, Nat.le_of_ble_eq_true rfl⟩) (k_preV (q0 := 0) (ci := 5) hk (hK.sub [5] rfl) NT_bl NT_u rfl rfl rfl) rfl rfl hl.1 rfl (lv_room (Nat.le_of_ble_eq_true rfl)) dX3_findInstruction_46 ⟨Nat.zero_le _, Nat.zero_le _⟩) hk hS (fun H locs hP hD hS => ?_)
      refine lv_iload_n hx hb dX3_findInstruction_49 rfl (lv_at hl 0 rfl) ?_
      obtain rfl := Option.some.inj hf
      exact k_retI hx hb hr hlocks hP hS dX3_findInstruction_50

noncomputable def fX3_findInstructions_L16 (sg : Bool) : Nat → (Int32) → (Int32) → (Nat → Int32) → (Nat → Nat → Int32) → Option ((Nat → Int32) × (Nat → Nat → Int32))
  | 0, _, _, _, _ => none
  | k + 1, v1, v2, sc, ar =>
    (fX6_count 112 (ar 4) (sc 4)).bind fun R5 =>
    if R5 ≤ v2 then
      some (sc, ar)
    else
      if v2 = v1 then
        (fX3_findInstruction sc ar sg v2).bind fun R9 =>
        fX3_findInstructions_L16 sg k (v1 + R9.1) (v2 + (1 : Int32)) R9.2.1 R9.2.2
      else
        fX3_findInstructions_L16 sg k v1 (v2 + (1 : Int32)) sc ar

noncomputable def fX3_findInstructions (sc : Nat → Int32) (ar : Nat → Nat → Int32) (sg : Bool) : Option ((Nat → Int32) × (Nat → Nat → Int32)) :=
  (fX6_count 48 (ar 0) (sc 0)).bind fun R1 =>
  (fX6_count 48 (ar 0) (sc 0)).bind fun R3 =>
  (fX3_findInstructions_L16 sg FU R1 R3 sc ar).bind fun R11 =>
  some (R11.1, R11.2)

set_option maxHeartbeats 4000000 in
set_option maxRecDepth 100000 in
theorem kX3_findInstructions (l : Launch) (D : va_G) (q : Nat → Nat) (cA : Nat → ClassId) (sc : Nat → Int32) (ar : Nat → Nat → Int32) (sg : Bool) {R : (Nat → Int32) × (Nat → Nat → Int32)} (hf : fX3_findInstructions sc ar sg = some R) : MV l yX3_findInstructions wsX3_findInstructions (rmD 4) D ([.ref (q 21)] : List Value) (wX q cA sc ar sg) (tX cA) NX (wX q cA R.1 R.2 sg) := by
  refine MV.mk (cc := cX3_findInstructions) (maxL := 3) (ret := none) (by first | decide | decide +kernel) rfl (Nat.le_of_ble_eq_true rfl) ?_
  intro p e s m below meth cd A ls hE
  obtain ⟨hx, hb, hr, hml, hts, hown, hlocks, hP, hK, hD, hA, hN, hAe, hl⟩ := hE
  have hown : s.vm.findClass RX3 = some m.cls := hown
  have hS : va_S A s.heap s.heap [] := va_S.rf
  have hl : lv_has ls 3 [(0, .ref (q 21))] := hl
  rw [fX3_findInstructions] at hf
  refine lv_aload_n hx hb dX3_findInstructions_0 rfl (lv_at hl 0 rfl) ?_
  refine va_get (D := D) (ci := 2) (v := .ref (q 1)) (C := RX3) (T := TX3) (N := 12) hx hb hts (fun w h => List.mem_cons_of_mem _ (List.mem_append_left _ (List.mem_append_left _ (List.mem_append_left _ (List.mem_append_right _ h))))) hown hK hP 21 rfl rfl 0 (by decide) (hts (.fieldLink RX3 9 "DeltaWindows$Encoder" "source" "LDeltaWindows$Row;") (List.mem_of_getElem? (i := 1) rfl)) (fun _ h9 => h9) rfl dX3_findInstructions_1 ?_
  obtain ⟨R1, hc2, hf⟩ := b_inv hf
  have hk := kcut (wc := (wR (q 1) (q 2) (cA 0) 48 (ar 0) (sc 0))) (wc' := (wR (q 1) (q 2) (cA 0) 48 (ar 0) (sc 0))) (wf := (wX q cA sc ar sg)) hP hD hS hA [1, 2] rfl (by decide) rfl rfl
  refine k_goI (va_runV (As := []) (rest := []) ⟨hx, hb, hml, hown, hts⟩ (kX6_count l D (q 1) (q 2) (cA 0) 48 (ar 0) (sc 0) hc2 _) (cwV 0 hts gX3_findInstructions_X6_count rfl rfl rfl (by decide +kernel) ⟨Nat.le_of_ble_eq_true rfl, Nat.le_of_ble_eq_true rfl⟩) (k_preV (q0 := 0) (ci := 5) hk (hK.sub [0] rfl) NT_bl NT_u rfl rfl rfl) rfl rfl hl.1 rfl (lv_room (Nat.le_of_ble_eq_true rfl)) dX3_findInstructions_4 ⟨Nat.zero_le _, Nat.zero_le _⟩) hk hS (fun H locs hP hD hS => ?_)
  refine lv_istore_n (lv' := [(1, .int R1), (0, .ref (q 21))]) hx hb dX3_findInstructions_7 rfl hl (by decide) rfl (fun ls hl => ?_)
  refine lv_aload_n hx hb dX3_findInstructions_8 rfl (lv_at hl 1 rfl) ?_
  refine va_get (D := D) (ci := 2) (v := .ref (q 1)) (C := RX3) (T := TX3) (N := 12) hx hb hts (fun w h => List.mem_cons_of_mem _ (List.mem_append_left _ (List.mem_append_left _ (List.mem_append_left _ (List.mem_append_right _ h))))) hown hK hP 21 rfl rfl 0 (by decide) (hts (.fieldLink RX3 9 "DeltaWindows$Encoder" "source" "LDeltaWindows$Row;") (List.mem_of_getElem? (i := 1) rfl)) (fun _ h9 => h9) rfl dX3_findInstructions_9 ?_
  obtain ⟨R3, hc4, hf⟩ := b_inv hf
  have hk := kcut (wc := (wR (q 1) (q 2) (cA 0) 48 (ar 0) (sc 0))) (wc' := (wR (q 1) (q 2) (cA 0) 48 (ar 0) (sc 0))) (wf := (wX q cA sc ar sg)) hP hD hS hA [1, 2] rfl (by decide) rfl rfl
  refine k_goI (va_runV (As := []) (rest := []) ⟨hx, hb, hml, hown, hts⟩ (kX6_count l D (q 1) (q 2) (cA 0) 48 (ar 0) (sc 0) hc4 _) (cwV 0 hts gX3_findInstructions_X6_count rfl rfl rfl (by decide +kernel) ⟨Nat.le_of_ble_eq_true rfl, Nat.le_of_ble_eq_true rfl⟩) (k_preV (q0 := 0) (ci := 5) hk (hK.sub [0] rfl) NT_bl NT_u rfl rfl rfl) rfl rfl hl.1 rfl (lv_room (Nat.le_of_ble_eq_true rfl)) dX3_findInstructions_12 ⟨Nat.zero_le _, Nat.zero_le _⟩) hk hS (fun H locs hP hD hS => ?_)
  refine lv_istore_n (lv' := [(2, .int R3), (1, .int R1), (0, .ref (q 21))]) hx hb dX3_findInstructions_15 rfl hl (by decide) rfl (fun ls hl => ?_)
  have lp13 : ∀ (sg : Bool), ∀ (k : Nat) (v1 : Int32) (v2 : Int32) (sc : Nat → Int32) (ar : Nat → Nat → Int32) (H : Heap) (locs : List Loc) (ls : Array Slot) (o : (Nat → Int32) × (Nat → Nat → Int32)), lv_has ls 3 [(1, .int v1), (2, .int v2), (0, .ref (q 21))] → va_P D vwCl (wX q cA sc ar sg) H → va_D A (wX q cA sc ar sg) → va_S A s.heap H locs → fX3_findInstructions_L16 sg k v1 v2 sc ar = some o → (∀ (H : Heap) (locs : List Loc) (ls : Array Slot), lv_has ls 3 [] → va_P D vwCl (wX q cA o.1 o.2 sg) H → va_D A (wX q cA o.1 o.2 sg) → va_S A s.heap H locs → W p l e (headSpec wsX3_findInstructions (rmD 4)).room s m ([.ref (q 21)] : List Value).toArray below meth cd H locs 0 0 (QV D below ([.ref (q 21)] : List Value).toArray s A (wX q cA R.1 R.2 sg)) (F0 m 46 ls [])) → W p l e (headSpec wsX3_findInstructions (rmD 4)).room s m ([.ref (q 21)] : List Value).toArray below meth cd H locs 0 0 (QV D below ([.ref (q 21)] : List Value).toArray s A (wX q cA R.1 R.2 sg)) (F0 m 16 ls []) := by
    intro sg
    intro k
    induction k with
    | zero =>
      intro v1 v2 sc ar H locs ls o hl hP hD hS hf
      exact absurd hf (by simp [fX3_findInstructions_L16])
    | succ k ih =>
      intro v1 v2 sc ar H locs ls o hl hP hD hS hf kont
      rw [fX3_findInstructions_L16] at hf
      refine lv_iload_n hx hb dX3_findInstructions_16 rfl (lv_at hl 1 rfl) ?_
      refine lv_aload_n hx hb dX3_findInstructions_17 rfl (lv_at hl 2 rfl) ?_
      refine va_get (D := D) (ci := 2) (v := .ref (q 9)) (C := RX3) (T := TX3) (N := 12) hx hb hts (fun w h => List.mem_cons_of_mem _ (List.mem_append_left _ (List.mem_append_left _ (List.mem_append_left _ (List.mem_append_right _ h))))) hown hK hP 21 rfl rfl 5 (by decide) (hts (.fieldLink RX3 40 "DeltaWindows$Encoder" "string" "LDeltaWindows$Row;") (List.mem_of_getElem? (i := 2) rfl)) (fun _ h9 => h9) rfl dX3_findInstructions_18 ?_
      obtain ⟨R5, hc6, hf⟩ := b_inv hf
      have hk := kcut (wc := (wR (q 9) (q 10) (cA 4) 112 (ar 4) (sc 4))) (wc' := (wR (q 9) (q 10) (cA 4) 112 (ar 4) (sc 4))) (wf := (wX q cA sc ar sg)) hP hD hS hA [9, 10] rfl (by decide) rfl rfl
      refine k_goI (va_runV (As := []) (rest := [.int v2]) ⟨hx, hb, hml, hown, hts⟩ (kX6_count l D (q 9) (q 10) (cA 4) 112 (ar 4) (sc 4) hc6 _) (cwV 0 hts gX3_findInstructions_X6_count rfl rfl rfl (by decide +kernel) ⟨Nat.le_of_ble_eq_true rfl, Nat.le_of_ble_eq_true rfl⟩) (k_preV (q0 := 0) (ci := 5) hk (hK.sub [4] rfl) NT_bl NT_u rfl rfl rfl) rfl rfl hl.1 rfl (lv_room (Nat.le_of_ble_eq_true rfl)) dX3_findInstructions_21 ⟨Nat.zero_le _, Nat.zero_le _⟩) hk hS (fun H locs hP hD hS => ?_)
      refine lv_icmp_ge (tgt := 46) hx hb dX3_findInstructions_24 (by decide) (fun c7 => ?_) (fun c7 => ?_)
      · rw [if_pos c7] at hf
        obtain rfl := Option.some.inj hf
        exact kont _ _ _ (lv_sub hl [] rfl) hP hD hS
      · rw [if_neg c7] at hf
        refine lv_iload_n hx hb dX3_findInstructions_27 rfl (lv_at hl 1 rfl) ?_
        refine lv_iload_n hx hb dX3_findInstructions_28 rfl (lv_at hl 0 rfl) ?_
        refine lv_icmp_ne (tgt := 40) hx hb dX3_findInstructions_29 (by decide) (fun c8 => ?_) (fun c8 => ?_)
        · rw [if_neg c8] at hf
          refine lv_iinc (v := (v2 + (1 : Int32))) (lv' := [(2, .int (v2 + (1 : Int32))), (1, .int v1), (0, .ref (q 21))]) hx hb dX3_findInstructions_40 hl (k := 1) rfl rfl (by decide) rfl (fun ls hl => ?_)
          refine lv_goto (tgt := 16) hx hb dX3_findInstructions_43 (by decide) ?_
          exact ih v1 (v2 + (1 : Int32)) sc ar _ _ _ o (lv_sub hl [1, 0, 2] rfl) hP hD hS hf kont
        · rw [if_pos c8] at hf
          refine lv_iload_n hx hb dX3_findInstructions_32 rfl (lv_at hl 0 rfl) ?_
          refine lv_aload_n hx hb dX3_findInstructions_33 rfl (lv_at hl 2 rfl) ?_
          refine lv_iload_n hx hb dX3_findInstructions_34 rfl (lv_at hl 1 rfl) ?_
          obtain ⟨R9, hc10, hf⟩ := b_inv hf
          have hk := kall (wc' := (wX q cA R9.2.1 R9.2.2 sg)) hP hD hS hA rfl
          refine k_goI (va_runV (As := [.int v2]) (rest := [.int v1]) ⟨hx, hb, hml, hown, hts⟩ (kX3_findInstruction l D q cA sc ar sg v2 hc10 _) (cwV 1 hts gX3_findInstructions_X3_findInstruction rfl rfl rfl (by decide +kernel) ⟨Nat.le_of_ble_eq_true rfl, Nat.le_of_ble_eq_true rfl⟩) (k_preV (q0 := 21) (ci := 2) hk hK NX_bl (fun U _ hW => NX_w hW hN) rfl rfl rfl) rfl rfl hl.1 rfl (lv_room (Nat.le_of_ble_eq_true rfl)) dX3_findInstructions_35 ⟨Nat.zero_le _, Nat.zero_le _⟩) hk hS (fun H locs hP hD hS => ?_)
          refine lv_iadd hx hb dX3_findInstructions_38 ?_
          refine lv_istore_n (lv' := [(1, .int (v1 + R9.1)), (2, .int v2), (0, .ref (q 21))]) hx hb dX3_findInstructions_39 rfl hl (by decide) rfl (fun ls hl => ?_)
          refine lv_iinc (v := (v2 + (1 : Int32))) (lv' := [(2, .int (v2 + (1 : Int32))), (1, .int (v1 + R9.1)), (0, .ref (q 21))]) hx hb dX3_findInstructions_40 hl (k := 1) rfl rfl (by decide) rfl (fun ls hl => ?_)
          refine lv_goto (tgt := 16) hx hb dX3_findInstructions_43 (by decide) ?_
          exact ih (v1 + R9.1) (v2 + (1 : Int32)) R9.2.1 R9.2.2 _ _ _ o (lv_sub hl [1, 0, 2] rfl) hP hD hS hf kont
  obtain ⟨R11, hc12, hf⟩ := b_inv hf
  refine lp13 sg FU R1 R3 sc ar _ _ _ R11 (lv_sub hl [1, 0, 2] rfl) hP hD hS hc12 (fun H locs ls hl hP hD hS => ?_)
  obtain rfl := Option.some.inj hf
  exact k_retV hx hb hr hlocks hP hS dX3_findInstructions_46

noncomputable def fX3_takePiece_L13 (sg : Bool) (v2 : Int32) : Nat → (Int32) → (Nat → Int32) → (Nat → Nat → Int32) → Option ((Nat → Int32) × (Nat → Nat → Int32))
  | 0, _, _, _ => none
  | k + 1, v3, sc, ar =>
    if v2 ≤ v3 then
      some (sc, ar)
    else
      (fX6_at 64 (ar 1) (sc 1) v3).bind fun R4 =>
      (fX6_append 112 (ar 4) (sc 4) R4).bind fun R6 =>
      fX3_takePiece_L13 sg v2 k (v3 + (1 : Int32)) (va_up sc 4 R6.2) (va_up ar 4 R6.1)

noncomputable def fX3_takePiece (sc : Nat → Int32) (ar : Nat → Nat → Int32) (sg : Bool) (x1 : Int32) (x2 : Int32) : Option ((Nat → Int32) × (Nat → Nat → Int32)) :=
  (fX6_become 112 48 (ar 4) (sc 4) (ar 0) (sc 0)).bind fun R1 =>
  (fX3_takePiece_L13 sg x2 FU x1 (va_up (va_up sc 4 R1.2.1) 0 R1.2.2) (va_up ar 4 R1.1)).bind fun R8 =>
  (fX0_clear (R8.2 10) (R8.2 11) (R8.1 17)).bind fun R10 =>
  (fX4_clear (R8.2 16) (R8.2 17) (R8.2 18) (R8.1 20)).bind fun R12 =>
  (fX6_keep 64 (R8.2 5) (R8.1 5) (0 : Int32)).bind fun R14 =>
  (fX6_keep 128 (R8.2 6) (R8.1 6) (0 : Int32)).bind fun R16 =>
  (fX6_keep 64 (R8.2 7) (R8.1 7) (0 : Int32)).bind fun R18 =>
  (fX6_keep 320 (R8.2 8) (R8.1 8) (0 : Int32)).bind fun R20 =>
  some ((va_up (va_up (va_up (va_up (va_up (va_up R8.1 17 R10.2.2) 20 R12) 5 R14) 6 R16) 7 R18) 8 R20), (va_up (va_up R8.2 10 R10.1) 11 R10.2.1))

set_option maxHeartbeats 4000000 in
set_option maxRecDepth 100000 in
theorem kX3_takePiece (l : Launch) (D : va_G) (q : Nat → Nat) (cA : Nat → ClassId) (sc : Nat → Int32) (ar : Nat → Nat → Int32) (sg : Bool) (x1 : Int32) (x2 : Int32) {R : (Nat → Int32) × (Nat → Nat → Int32)} (hf : fX3_takePiece sc ar sg x1 x2 = some R) : MV l yX3_takePiece wsX3_takePiece (rmD 3) D ([.ref (q 21), .int x1, .int x2] : List Value) (wX q cA sc ar sg) (tX cA) NX (wX q cA R.1 R.2 sg) := by
  refine MV.mk (cc := cX3_takePiece) (maxL := 4) (ret := none) (by first | decide | decide +kernel) rfl (Nat.le_of_ble_eq_true rfl) ?_
  intro p e s m below meth cd A ls hE
  obtain ⟨hx, hb, hr, hml, hts, hown, hlocks, hP, hK, hD, hA, hN, hAe, hl⟩ := hE
  have hown : s.vm.findClass RX3 = some m.cls := hown
  have hS : va_S A s.heap s.heap [] := va_S.rf
  have hl : lv_has ls 4 [(0, .ref (q 21)), (1, .int x1), (2, .int x2)] := hl
  rw [fX3_takePiece] at hf
  refine lv_aload_n hx hb dX3_takePiece_0 rfl (lv_at hl 0 rfl) ?_
  refine va_get (D := D) (ci := 2) (v := .ref (q 9)) (C := RX3) (T := TX3) (N := 12) hx hb hts (fun w h => List.mem_cons_of_mem _ (List.mem_append_left _ (List.mem_append_left _ (List.mem_append_left _ (List.mem_append_right _ h))))) hown hK hP 21 rfl rfl 5 (by decide) (hts (.fieldLink RX3 40 "DeltaWindows$Encoder" "string" "LDeltaWindows$Row;") (List.mem_of_getElem? (i := 1) rfl)) (fun _ h9 => h9) rfl dX3_takePiece_1 ?_
  refine lv_aload_n hx hb dX3_takePiece_4 rfl (lv_at hl 0 rfl) ?_
  refine va_get (D := D) (ci := 2) (v := .ref (q 1)) (C := RX3) (T := TX3) (N := 12) hx hb hts (fun w h => List.mem_cons_of_mem _ (List.mem_append_left _ (List.mem_append_left _ (List.mem_append_left _ (List.mem_append_right _ h))))) hown hK hP 21 rfl rfl 0 (by decide) (hts (.fieldLink RX3 9 "DeltaWindows$Encoder" "source" "LDeltaWindows$Row;") (List.mem_of_getElem? (i := 2) rfl)) (fun _ h9 => h9) rfl dX3_takePiece_5 ?_
  obtain ⟨R1, hc2, hf⟩ := b_inv hf
  have hk := kcut (wc := (wRR (q 9) (q 10) (cA 4) 112 (q 1) (q 2) (cA 0) 48 (ar 4) (sc 4) (ar 0) (sc 0))) (wc' := (wRR (q 9) (q 10) (cA 4) 112 (q 1) (q 2) (cA 0) 48 R1.1 R1.2.1 (ar 0) R1.2.2)) (wf := (wX q cA (va_up (va_up sc 4 R1.2.1) 0 R1.2.2) (va_up ar 4 R1.1) sg)) hP hD hS hA [9, 10, 1, 2] rfl (by decide) rfl rfl
  refine k_goV (va_runV (As := [.ref (q 1)]) (rest := []) ⟨hx, hb, hml, hown, hts⟩ (kX6_become l D (q 9) (q 10) (cA 4) (q 1) (q 2) (cA 0) 112 48 (ar 4) (sc 4) (ar 0) (sc 0) hc2 _) (cwV 1 hts gX3_takePiece_X6_become rfl rfl rfl (by decide +kernel) ⟨Nat.le_of_ble_eq_true rfl, Nat.le_of_ble_eq_true rfl⟩) (k_preV (q0 := 0) (ci := 5) hk (hK.sub [4, 0] rfl) NT_bl NT_u rfl rfl rfl) rfl rfl hl.1 rfl (lv_room (Nat.le_of_ble_eq_true rfl)) dX3_takePiece_8 ⟨Nat.zero_le _, Nat.zero_le _⟩) hk hS (fun H locs hP hD hS => ?_)
  refine lv_iload_n hx hb dX3_takePiece_11 rfl (lv_at hl 1 rfl) ?_
  refine lv_istore_n (lv' := [(3, .int x1), (0, .ref (q 21)), (1, .int x1), (2, .int x2)]) hx hb dX3_takePiece_12 rfl hl (by decide) rfl (fun ls hl => ?_)
  have lp22 : ∀ (sg : Bool) (v2 : Int32), ∀ (k : Nat) (v3 : Int32) (sc : Nat → Int32) (ar : Nat → Nat → Int32) (H : Heap) (locs : List Loc) (ls : Array Slot) (o : (Nat → Int32) × (Nat → Nat → Int32)), lv_has ls 4 [(3, .int v3), (2, .int v2), (0, .ref (q 21))] → va_P D vwCl (wX q cA sc ar sg) H → va_D A (wX q cA sc ar sg) → va_S A s.heap H locs → fX3_takePiece_L13 sg v2 k v3 sc ar = some o → (∀ (H : Heap) (locs : List Loc) (ls : Array Slot), lv_has ls 4 [(0, .ref (q 21))] → va_P D vwCl (wX q cA o.1 o.2 sg) H → va_D A (wX q cA o.1 o.2 sg) → va_S A s.heap H locs → W p l e (headSpec wsX3_takePiece (rmD 3)).room s m ([.ref (q 21), .int x1, .int x2] : List Value).toArray below meth cd H locs 0 0 (QV D below ([.ref (q 21), .int x1, .int x2] : List Value).toArray s A (wX q cA R.1 R.2 sg)) (F0 m 39 ls [])) → W p l e (headSpec wsX3_takePiece (rmD 3)).room s m ([.ref (q 21), .int x1, .int x2] : List Value).toArray below meth cd H locs 0 0 (QV D below ([.ref (q 21), .int x1, .int x2] : List Value).toArray s A (wX q cA R.1 R.2 sg)) (F0 m 13 ls []) := by
    intro sg v2
    intro k
    induction k with
    | zero =>
      intro v3 sc ar H locs ls o hl hP hD hS hf
      exact absurd hf (by simp [fX3_takePiece_L13])
    | succ k ih =>
      intro v3 sc ar H locs ls o hl hP hD hS hf kont
      rw [fX3_takePiece_L13] at hf
      refine lv_iload_n hx hb dX3_takePiece_13 rfl (lv_at hl 0 rfl) ?_
      refine lv_iload_n hx hb dX3_takePiece_14 rfl (lv_at hl 1 rfl) ?_
      refine lv_icmp_ge (tgt := 39) hx hb dX3_takePiece_15 (by decide) (fun c3 => ?_) (fun c3 => ?_)
      · rw [if_pos c3] at hf
        obtain rfl := Option.some.inj hf
        exact kont _ _ _ (lv_sub hl [2] rfl) hP hD hS
      · rw [if_neg c3] at hf
        refine lv_aload_n hx hb dX3_takePiece_18 rfl (lv_at hl 2 rfl) ?_
        refine va_get (D := D) (ci := 2) (v := .ref (q 9)) (C := RX3) (T := TX3) (N := 12) hx hb hts (fun w h => List.mem_cons_of_mem _ (List.mem_append_left _ (List.mem_append_left _ (List.mem_append_left _ (List.mem_append_right _ h))))) hown hK hP 21 rfl rfl 5 (by decide) (hts (.fieldLink RX3 40 "DeltaWindows$Encoder" "string" "LDeltaWindows$Row;") (List.mem_of_getElem? (i := 1) rfl)) (fun _ h9 => h9) rfl dX3_takePiece_19 ?_
        refine lv_aload_n hx hb dX3_takePiece_22 rfl (lv_at hl 2 rfl) ?_
        refine va_get (D := D) (ci := 2) (v := .ref (q 3)) (C := RX3) (T := TX3) (N := 12) hx hb hts (fun w h => List.mem_cons_of_mem _ (List.mem_append_left _ (List.mem_append_left _ (List.mem_append_left _ (List.mem_append_right _ h))))) hown hK hP 21 rfl rfl 1 (by decide) (hts (.fieldLink RX3 15 "DeltaWindows$Encoder" "target" "LDeltaWindows$Row;") (List.mem_of_getElem? (i := 3) rfl)) (fun _ h9 => h9) rfl dX3_takePiece_23 ?_
        refine lv_iload_n hx hb dX3_takePiece_26 rfl (lv_at hl 0 rfl) ?_
        obtain ⟨R4, hc5, hf⟩ := b_inv hf
        have hk := kcut (wc := (wR (q 3) (q 4) (cA 1) 64 (ar 1) (sc 1))) (wc' := (wR (q 3) (q 4) (cA 1) 64 (ar 1) (sc 1))) (wf := (wX q cA sc ar sg)) hP hD hS hA [3, 4] rfl (by decide) rfl rfl
        refine k_goI (va_runV (As := [.int v3]) (rest := [.ref (q 9)]) ⟨hx, hb, hml, hown, hts⟩ (kX6_at l D (q 3) (q 4) (cA 1) 64 (ar 1) (sc 1) v3 hc5 _) (cwV 1 hts gX3_takePiece_X6_at rfl rfl rfl (by decide +kernel) ⟨Nat.le_of_ble_eq_true rfl, Nat.le_of_ble_eq_true rfl⟩) (k_preV (q0 := 0) (ci := 5) hk (hK.sub [1] rfl) NT_bl NT_u rfl rfl rfl) rfl rfl hl.1 rfl (lv_room (Nat.le_of_ble_eq_true rfl)) dX3_takePiece_27 ⟨Nat.zero_le _, Nat.zero_le _⟩) hk hS (fun H locs hP hD hS => ?_)
        obtain ⟨R6, hc7, hf⟩ := b_inv hf
        have hk := kcut (wc := (wR (q 9) (q 10) (cA 4) 112 (ar 4) (sc 4))) (wc' := (wR (q 9) (q 10) (cA 4) 112 R6.1 R6.2)) (wf := (wX q cA (va_up sc 4 R6.2) (va_up ar 4 R6.1) sg)) hP hD hS hA [9, 10] rfl (by decide) rfl rfl
        refine k_goV (va_runV (As := [.int R4]) (rest := []) ⟨hx, hb, hml, hown, hts⟩ (kX6_append l D (q 9) (q 10) (cA 4) 112 (ar 4) (sc 4) R4 hc7 _) (cwV 1 hts gX3_takePiece_X6_append rfl rfl rfl (by decide +kernel) ⟨Nat.le_of_ble_eq_true rfl, Nat.le_of_ble_eq_true rfl⟩) (k_preV (q0 := 0) (ci := 5) hk (hK.sub [4] rfl) NT_bl NT_u rfl rfl rfl) rfl rfl hl.1 rfl (lv_room (Nat.le_of_ble_eq_true rfl)) dX3_takePiece_30 ⟨Nat.zero_le _, Nat.zero_le _⟩) hk hS (fun H locs hP hD hS => ?_)
        refine lv_iinc (v := (v3 + (1 : Int32))) (lv' := [(3, .int (v3 + (1 : Int32))), (2, .int v2), (0, .ref (q 21))]) hx hb dX3_takePiece_33 hl (k := 0) rfl rfl (by decide) rfl (fun ls hl => ?_)
        refine lv_goto (tgt := 13) hx hb dX3_takePiece_36 (by decide) ?_
        exact ih (v3 + (1 : Int32)) (va_up sc 4 R6.2) (va_up ar 4 R6.1) _ _ _ o (lv_sub hl [0, 1, 2] rfl) hP hD hS hf kont
  obtain ⟨R8, hc9, hf⟩ := b_inv hf
  refine lp22 sg x2 FU x1 (va_up (va_up sc 4 R1.2.1) 0 R1.2.2) (va_up ar 4 R1.1) _ _ _ R8 (lv_sub hl [0, 3, 1] rfl) hP hD hS hc9 (fun H locs ls hl hP hD hS => ?_)
  refine lv_aload_n hx hb dX3_takePiece_39 rfl (lv_at hl 0 rfl) ?_
  refine va_get (D := D) (ci := 2) (v := .ref (q 23)) (C := RX3) (T := TX3) (N := 12) hx hb hts (fun w h => List.mem_cons_of_mem _ (List.mem_append_left _ (List.mem_append_left _ (List.mem_append_left _ (List.mem_append_right _ h))))) hown hK hP 21 rfl rfl 3 (by decide) (hts (.fieldLink RX3 24 "DeltaWindows$Encoder" "caches" "LDeltaWindows$Caches;") (List.mem_of_getElem? (i := 4) rfl)) (fun _ h9 => h9) rfl dX3_takePiece_40 ?_
  obtain ⟨R10, hc11, hf⟩ := b_inv hf
  have hk := kcut (wc := (wC (q 23) (q 24) (q 25) (cA 10) (cA 11) (R8.2 10) (R8.2 11) (R8.1 17))) (wc' := (wC (q 23) (q 24) (q 25) (cA 10) (cA 11) R10.1 R10.2.1 R10.2.2)) (wf := (wX q cA (va_up R8.1 17 R10.2.2) (va_up (va_up R8.2 10 R10.1) 11 R10.2.1) sg)) hP hD hS hA [23, 24, 25] rfl (by decide) rfl rfl
  refine k_goV (va_runV (As := []) (rest := []) ⟨hx, hb, hml, hown, hts⟩ (kX0_clear l D (q 23) (q 24) (q 25) (cA 10) (cA 11) (R8.2 10) (R8.2 11) (R8.1 17) hc11 _) (cwV 0 hts gX3_takePiece_X0_clear rfl rfl rfl (by decide +kernel) ⟨Nat.le_of_ble_eq_true rfl, Nat.le_of_ble_eq_true rfl⟩) (k_preV (q0 := 0) (ci := 0) hk (hK.sub [10, 11] rfl) NT_bl NT_u rfl rfl rfl) rfl rfl hl.1 rfl (lv_room (Nat.le_of_ble_eq_true rfl)) dX3_takePiece_43 ⟨Nat.zero_le _, Nat.zero_le _⟩) hk hS (fun H locs hP hD hS => ?_)
  refine lv_aload_n hx hb dX3_takePiece_46 rfl (lv_at hl 0 rfl) ?_
  refine va_get (D := D) (ci := 2) (v := .ref (q 32)) (C := RX3) (T := TX3) (N := 12) hx hb hts (fun w h => List.mem_cons_of_mem _ (List.mem_append_left _ (List.mem_append_left _ (List.mem_append_left _ (List.mem_append_right _ h))))) hown hK hP 21 rfl rfl 4 (by decide) (hts (.fieldLink RX3 31 "DeltaWindows$Encoder" "found" "LDeltaWindows$Instructions;") (List.mem_of_getElem? (i := 5) rfl)) (fun _ h9 => h9) rfl dX3_takePiece_47 ?_
  obtain ⟨R12, hc13, hf⟩ := b_inv hf
  have hk := kcut (wc := (wI (q 32) (q 33) (q 34) (q 35) (cA 16) (cA 17) (cA 18) (R8.2 16) (R8.2 17) (R8.2 18) (R8.1 20))) (wc' := (wI (q 32) (q 33) (q 34) (q 35) (cA 16) (cA 17) (cA 18) (R8.2 16) (R8.2 17) (R8.2 18) R12)) (wf := (wX q cA (va_up (va_up R8.1 17 R10.2.2) 20 R12) (va_up (va_up R8.2 10 R10.1) 11 R10.2.1) sg)) hP hD hS hA [32, 33, 34, 35] rfl (by decide) rfl rfl
  refine k_goV (va_runV (As := []) (rest := []) ⟨hx, hb, hml, hown, hts⟩ (kX4_clear l D (q 32) (q 33) (q 34) (q 35) (cA 16) (cA 17) (cA 18) (R8.2 16) (R8.2 17) (R8.2 18) (R8.1 20) hc13 _) (cwV 0 hts gX3_takePiece_X4_clear rfl rfl rfl (by decide +kernel) ⟨Nat.le_of_ble_eq_true rfl, Nat.le_of_ble_eq_true rfl⟩) (k_preV (q0 := 0) (ci := 3) hk (hK.sub [16, 17, 18] rfl) NT_bl NT_u rfl rfl rfl) rfl rfl hl.1 rfl (lv_room (Nat.le_of_ble_eq_true rfl)) dX3_takePiece_50 ⟨Nat.zero_le _, Nat.zero_le _⟩) hk hS (fun H locs hP hD hS => ?_)
  refine lv_aload_n hx hb dX3_takePiece_53 rfl (lv_at hl 0 rfl) ?_
  refine va_get (D := D) (ci := 2) (v := .ref (q 11)) (C := RX3) (T := TX3) (N := 12) hx hb hts (fun w h => List.mem_cons_of_mem _ (List.mem_append_left _ (List.mem_append_left _ (List.mem_append_left _ (List.mem_append_right _ h))))) hown hK hP 21 rfl rfl 6 (by decide) (hts (.fieldLink RX3 43 "DeltaWindows$Encoder" "data" "LDeltaWindows$Row;") (List.mem_of_getElem? (i := 6) rfl)) (fun _ h9 => h9) rfl dX3_takePiece_54 ?_
  refine lv_iconst (v := (0 : Int32)) hx hb dX3_takePiece_57 (by decide) ?_
  obtain ⟨R14, hc15, hf⟩ := b_inv hf
  have hk := kcut (wc := (wR (q 11) (q 12) (cA 5) 64 (R8.2 5) (R8.1 5))) (wc' := (wR (q 11) (q 12) (cA 5) 64 (R8.2 5) R14)) (wf := (wX q cA (va_up (va_up (va_up R8.1 17 R10.2.2) 20 R12) 5 R14) (va_up (va_up R8.2 10 R10.1) 11 R10.2.1) sg)) hP hD hS hA [11, 12] rfl (by decide) rfl rfl
  refine k_goV (va_runV (As := [.int (0 : Int32)]) (rest := []) ⟨hx, hb, hml, hown, hts⟩ (kX6_keep l D (q 11) (q 12) (cA 5) 64 (R8.2 5) (R8.1 5) (0 : Int32) hc15 _) (cwV 1 hts gX3_takePiece_X6_keep rfl rfl rfl (by decide +kernel) ⟨Nat.le_of_ble_eq_true rfl, Nat.le_of_ble_eq_true rfl⟩) (k_preV (q0 := 0) (ci := 5) hk (hK.sub [5] rfl) NT_bl NT_u rfl rfl rfl) rfl rfl hl.1 rfl (lv_room (Nat.le_of_ble_eq_true rfl)) dX3_takePiece_58 ⟨Nat.zero_le _, Nat.zero_le _⟩) hk hS (fun H locs hP hD hS => ?_)
  refine lv_aload_n hx hb dX3_takePiece_61 rfl (lv_at hl 0 rfl) ?_
  refine va_get (D := D) (ci := 2) (v := .ref (q 13)) (C := RX3) (T := TX3) (N := 12) hx hb hts (fun w h => List.mem_cons_of_mem _ (List.mem_append_left _ (List.mem_append_left _ (List.mem_append_left _ (List.mem_append_right _ h))))) hown hK hP 21 rfl rfl 7 (by decide) (hts (.fieldLink RX3 46 "DeltaWindows$Encoder" "codes" "LDeltaWindows$Row;") (List.mem_of_getElem? (i := 7) rfl)) (fun _ h9 => h9) rfl dX3_takePiece_62 ?_
  refine lv_iconst (v := (0 : Int32)) hx hb dX3_takePiece_65 (by decide) ?_
  obtain ⟨R16, hc17, hf⟩ := b_inv hf
  have hk := kcut (wc := (wR (q 13) (q 14) (cA 6) 128 (R8.2 6) (R8.1 6))) (wc' := (wR (q 13) (q 14) (cA 6) 128 (R8.2 6) R16)) (wf := (wX q cA (va_up (va_up (va_up (va_up R8.1 17 R10.2.2) 20 R12) 5 R14) 6 R16) (va_up (va_up R8.2 10 R10.1) 11 R10.2.1) sg)) hP hD hS hA [13, 14] rfl (by decide) rfl rfl
  refine k_goV (va_runV (As := [.int (0 : Int32)]) (rest := []) ⟨hx, hb, hml, hown, hts⟩ (kX6_keep l D (q 13) (q 14) (cA 6) 128 (R8.2 6) (R8.1 6) (0 : Int32) hc17 _) (cwV 1 hts gX3_takePiece_X6_keep rfl rfl rfl (by decide +kernel) ⟨Nat.le_of_ble_eq_true rfl, Nat.le_of_ble_eq_true rfl⟩) (k_preV (q0 := 0) (ci := 5) hk (hK.sub [6] rfl) NT_bl NT_u rfl rfl rfl) rfl rfl hl.1 rfl (lv_room (Nat.le_of_ble_eq_true rfl)) dX3_takePiece_66 ⟨Nat.zero_le _, Nat.zero_le _⟩) hk hS (fun H locs hP hD hS => ?_)
  refine lv_aload_n hx hb dX3_takePiece_69 rfl (lv_at hl 0 rfl) ?_
  refine va_get (D := D) (ci := 2) (v := .ref (q 15)) (C := RX3) (T := TX3) (N := 12) hx hb hts (fun w h => List.mem_cons_of_mem _ (List.mem_append_left _ (List.mem_append_left _ (List.mem_append_left _ (List.mem_append_right _ h))))) hown hK hP 21 rfl rfl 8 (by decide) (hts (.fieldLink RX3 49 "DeltaWindows$Encoder" "addresses" "LDeltaWindows$Row;") (List.mem_of_getElem? (i := 8) rfl)) (fun _ h9 => h9) rfl dX3_takePiece_70 ?_
  refine lv_iconst (v := (0 : Int32)) hx hb dX3_takePiece_73 (by decide) ?_
  obtain ⟨R18, hc19, hf⟩ := b_inv hf
  have hk := kcut (wc := (wR (q 15) (q 16) (cA 7) 64 (R8.2 7) (R8.1 7))) (wc' := (wR (q 15) (q 16) (cA 7) 64 (R8.2 7) R18)) (wf := (wX q cA (va_up (va_up (va_up (va_up (va_up R8.1 17 R10.2.2) 20 R12) 5 R14) 6 R16) 7 R18) (va_up (va_up R8.2 10 R10.1) 11 R10.2.1) sg)) hP hD hS hA [15, 16] rfl (by decide) rfl rfl
  refine k_goV (va_runV (As := [.int (0 : Int32)]) (rest := []) ⟨hx, hb, hml, hown, hts⟩ (kX6_keep l D (q 15) (q 16) (cA 7) 64 (R8.2 7) (R8.1 7) (0 : Int32) hc19 _) (cwV 1 hts gX3_takePiece_X6_keep rfl rfl rfl (by decide +kernel) ⟨Nat.le_of_ble_eq_true rfl, Nat.le_of_ble_eq_true rfl⟩) (k_preV (q0 := 0) (ci := 5) hk (hK.sub [7] rfl) NT_bl NT_u rfl rfl rfl) rfl rfl hl.1 rfl (lv_room (Nat.le_of_ble_eq_true rfl)) dX3_takePiece_74 ⟨Nat.zero_le _, Nat.zero_le _⟩) hk hS (fun H locs hP hD hS => ?_)
  refine lv_aload_n hx hb dX3_takePiece_77 rfl (lv_at hl 0 rfl) ?_
  refine va_get (D := D) (ci := 2) (v := .ref (q 17)) (C := RX3) (T := TX3) (N := 12) hx hb hts (fun w h => List.mem_cons_of_mem _ (List.mem_append_left _ (List.mem_append_left _ (List.mem_append_left _ (List.mem_append_right _ h))))) hown hK hP 21 rfl rfl 9 (by decide) (hts (.fieldLink RX3 52 "DeltaWindows$Encoder" "body" "LDeltaWindows$Row;") (List.mem_of_getElem? (i := 9) rfl)) (fun _ h9 => h9) rfl dX3_takePiece_78 ?_
  refine lv_iconst (v := (0 : Int32)) hx hb dX3_takePiece_81 (by decide) ?_
  obtain ⟨R20, hc21, hf⟩ := b_inv hf
  have hk := kcut (wc := (wR (q 17) (q 18) (cA 8) 320 (R8.2 8) (R8.1 8))) (wc' := (wR (q 17) (q 18) (cA 8) 320 (R8.2 8) R20)) (wf := (wX q cA (va_up (va_up (va_up (va_up (va_up (va_up R8.1 17 R10.2.2) 20 R12) 5 R14) 6 R16) 7 R18) 8 R20) (va_up (va_up R8.2 10 R10.1) 11 R10.2.1) sg)) hP hD hS hA [17, 18] rfl (by decide) rfl rfl
  refine k_goV (va_runV (As := [.int (0 : Int32)]) (rest := []) ⟨hx, hb, hml, hown, hts⟩ (kX6_keep l D (q 17) (q 18) (cA 8) 320 (R8.2 8) (R8.1 8) (0 : Int32) hc21 _) (cwV 1 hts gX3_takePiece_X6_keep rfl rfl rfl (by decide +kernel) ⟨Nat.le_of_ble_eq_true rfl, Nat.le_of_ble_eq_true rfl⟩) (k_preV (q0 := 0) (ci := 5) hk (hK.sub [8] rfl) NT_bl NT_u rfl rfl rfl) rfl rfl hl.1 rfl (lv_room (Nat.le_of_ble_eq_true rfl)) dX3_takePiece_82 ⟨Nat.zero_le _, Nat.zero_le _⟩) hk hS (fun H locs hP hD hS => ?_)
  obtain rfl := Option.some.inj hf
  exact k_retV hx hb hr hlocks hP hS dX3_takePiece_85

noncomputable def fX3_chooseCodes_L2 (sg : Bool) : Nat → (Int32) → (Nat → Int32) → (Nat → Nat → Int32) → Option ((Nat → Int32) × (Nat → Nat → Int32))
  | 0, _, _, _ => none
  | k + 1, v1, sc, ar =>
    (fX4_count (ar 16) (ar 17) (ar 18) (sc 20)).bind fun R1 =>
    if R1 ≤ v1 then
      some (sc, ar)
    else
      (fX4_pairCode (ar 16) (ar 17) (ar 18) (sc 20) v1).bind fun R4 =>
      if R4 = (-1 : Int32) then
        (fX4_singleCode (ar 16) (ar 17) (ar 18) (sc 20) v1).bind fun R7 =>
        (fX6_append 128 (ar 6) (sc 6) R7).bind fun R9 =>
        (fX1_partOf R7 (1 : Int32)).bind fun R11 =>
        if R11 = 0 then
          (fX4_sizeOf (ar 16) (ar 17) (ar 18) (sc 20) v1).bind fun R14 =>
          (fX6_appendInteger 128 R9.1 R9.2 R14).bind fun R16 =>
          fX3_chooseCodes_L2 sg k (v1 + (1 : Int32)) (va_up (va_up sc 6 R9.2) 6 R16.2) (va_up (va_up ar 6 R9.1) 6 R16.1)
        else
          fX3_chooseCodes_L2 sg k (v1 + (1 : Int32)) (va_up sc 6 R9.2) (va_up ar 6 R9.1)
      else
        (fX6_append 128 (ar 6) (sc 6) R4).bind fun R18 =>
        fX3_chooseCodes_L2 sg k ((v1 + (1 : Int32)) + (1 : Int32)) (va_up sc 6 R18.2) (va_up ar 6 R18.1)

noncomputable def fX3_chooseCodes (sc : Nat → Int32) (ar : Nat → Nat → Int32) (sg : Bool) : Option ((Nat → Int32) × (Nat → Nat → Int32)) :=
  (fX3_chooseCodes_L2 sg FU (0 : Int32) sc ar).bind fun R20 =>
  some (R20.1, R20.2)

set_option maxHeartbeats 4000000 in
set_option maxRecDepth 100000 in
theorem kX3_chooseCodes (l : Launch) (D : va_G) (q : Nat → Nat) (cA : Nat → ClassId) (sc : Nat → Int32) (ar : Nat → Nat → Int32) (sg : Bool) {R : (Nat → Int32) × (Nat → Nat → Int32)} (hf : fX3_chooseCodes sc ar sg = some R) : MV l yX3_chooseCodes wsX3_chooseCodes (rmD 2) D ([.ref (q 21)] : List Value) (wX q cA sc ar sg) (tX cA) NX (wX q cA R.1 R.2 sg) := by
  refine MV.mk (cc := cX3_chooseCodes) (maxL := 4) (ret := none) (by first | decide | decide +kernel) rfl (Nat.le_of_ble_eq_true rfl) ?_
  intro p e s m below meth cd A ls hE
  obtain ⟨hx, hb, hr, hml, hts, hown, hlocks, hP, hK, hD, hA, hN, hAe, hl⟩ := hE
  have hown : s.vm.findClass RX3 = some m.cls := hown
  have hS : va_S A s.heap s.heap [] := va_S.rf
  have hl : lv_has ls 4 [(0, .ref (q 21))] := hl
  rw [fX3_chooseCodes] at hf
  refine lv_iconst (v := (0 : Int32)) hx hb dX3_chooseCodes_0 (by decide) ?_
  refine lv_istore_n (lv' := [(1, .int (0 : Int32)), (0, .ref (q 21))]) hx hb dX3_chooseCodes_1 rfl hl (by decide) rfl (fun ls hl => ?_)
  have lp22 : ∀ (sg : Bool), ∀ (k : Nat) (v1 : Int32) (sc : Nat → Int32) (ar : Nat → Nat → Int32) (H : Heap) (locs : List Loc) (ls : Array Slot) (o : (Nat → Int32) × (Nat → Nat → Int32)), lv_has ls 4 [(1, .int v1), (0, .ref (q 21))] → va_P D vwCl (wX q cA sc ar sg) H → va_D A (wX q cA sc ar sg) → va_S A s.heap H locs → fX3_chooseCodes_L2 sg k v1 sc ar = some o → (∀ (H : Heap) (locs : List Loc) (ls : Array Slot), lv_has ls 4 [] → va_P D vwCl (wX q cA o.1 o.2 sg) H → va_D A (wX q cA o.1 o.2 sg) → va_S A s.heap H locs → W p l e (headSpec wsX3_chooseCodes (rmD 2)).room s m ([.ref (q 21)] : List Value).toArray below meth cd H locs 0 0 (QV D below ([.ref (q 21)] : List Value).toArray s A (wX q cA R.1 R.2 sg)) (F0 m 87 ls [])) → W p l e (headSpec wsX3_chooseCodes (rmD 2)).room s m ([.ref (q 21)] : List Value).toArray below meth cd H locs 0 0 (QV D below ([.ref (q 21)] : List Value).toArray s A (wX q cA R.1 R.2 sg)) (F0 m 2 ls []) := by
    intro sg
    intro k
    induction k with
    | zero =>
      intro v1 sc ar H locs ls o hl hP hD hS hf
      exact absurd hf (by simp [fX3_chooseCodes_L2])
    | succ k ih =>
      intro v1 sc ar H locs ls o hl hP hD hS hf kont
      rw [fX3_chooseCodes_L2] at hf
      refine lv_iload_n hx hb dX3_chooseCodes_2 rfl (lv_at hl 0 rfl) ?_
      refine lv_aload_n hx hb dX3_chooseCodes_3 rfl (lv_at hl 1 rfl) ?_
      refine va_get (D := D) (ci := 2) (v := .ref (q 32)) (C := RX3) (T := TX3) (N := 12) hx hb hts (fun w h => List.mem_cons_of_mem _ (List.mem_append_left _ (List.mem_append_left _ (List.mem_append_right _ h)))) hown hK hP 21 rfl rfl 4 (by decide) (hts (.fieldLink RX3 31 "DeltaWindows$Encoder" "found" "LDeltaWindows$Instructions;") (List.mem_of_getElem? (i := 1) rfl)) (fun _ h9 => h9) rfl dX3_chooseCodes_4 ?_
      obtain ⟨R1, hc2, hf⟩ := b_inv hf
      have hk := kcut (wc := (wI (q 32) (q 33) (q 34) (q 35) (cA 16) (cA 17) (cA 18) (ar 16) (ar 17) (ar 18) (sc 20))) (wc' := (wI (q 32) (q 33) (q 34) (q 35) (cA 16) (cA 17) (cA 18) (ar 16) (ar 17) (ar 18) (sc 20))) (wf := (wX q cA sc ar sg)) hP hD hS hA [32, 33, 34, 35] rfl (by decide) rfl rfl
      refine k_goI (va_runV (As := []) (rest := [.int v1]) ⟨hx, hb, hml, hown, hts⟩ (kX4_count l D (q 32) (q 33) (q 34) (q 35) (cA 16) (cA 17) (cA 18) (ar 16) (ar 17) (ar 18) (sc 20) hc2 _) (cwV 0 hts gX3_chooseCodes_X4_count rfl rfl rfl (by decide +kernel) ⟨Nat.le_of_ble_eq_true rfl, Nat.le_of_ble_eq_true rfl⟩) (k_preV (q0 := 0) (ci := 3) hk (hK.sub [16, 17, 18] rfl) NT_bl NT_u rfl rfl rfl) rfl rfl hl.1 rfl (lv_room (Nat.le_of_ble_eq_true rfl)) dX3_chooseCodes_7 ⟨Nat.zero_le _, Nat.zero_le _⟩) hk hS (fun H locs hP hD hS => ?_)
      refine lv_icmp_ge (tgt := 87) hx hb dX3_chooseCodes_10 (by decide) (fun c3 => ?_) (fun c3 => ?_)
      · rw [if_pos c3] at hf
        obtain rfl := Option.some.inj hf
        exact kont _ _ _ (lv_sub hl [] rfl) hP hD hS
      · rw [if_neg c3] at hf
        refine lv_aload_n hx hb dX3_chooseCodes_13 rfl (lv_at hl 1 rfl) ?_
        refine va_get (D := D) (ci := 2) (v := .ref (q 32)) (C := RX3) (T := TX3) (N := 12) hx hb hts (fun w h => List.mem_cons_of_mem _ (List.mem_append_left _ (List.mem_append_left _ (List.mem_append_right _ h)))) hown hK hP 21 rfl rfl 4 (by decide) (hts (.fieldLink RX3 31 "DeltaWindows$Encoder" "found" "LDeltaWindows$Instructions;") (List.mem_of_getElem? (i := 1) rfl)) (fun _ h9 => h9) rfl dX3_chooseCodes_14 ?_
        refine lv_iload_n hx hb dX3_chooseCodes_17 rfl (lv_at hl 0 rfl) ?_
        obtain ⟨R4, hc5, hf⟩ := b_inv hf
        have hk := kcut (wc := (wI (q 32) (q 33) (q 34) (q 35) (cA 16) (cA 17) (cA 18) (ar 16) (ar 17) (ar 18) (sc 20))) (wc' := (wI (q 32) (q 33) (q 34) (q 35) (cA 16) (cA 17) (cA 18) (ar 16) (ar 17) (ar 18) (sc 20))) (wf := (wX q cA sc ar sg)) hP hD hS hA [32, 33, 34, 35] rfl (by decide) rfl rfl
        refine k_goI (va_runV (As := [.int v1]) (rest := []) ⟨hx, hb, hml, hown, hts⟩ (kX4_pairCode l D (q 32) (q 33) (q 34) (q 35) (cA 16) (cA 17) (cA 18) (ar 16) (ar 17) (ar 18) (sc 20) v1 hc5 _) (cwV 1 hts gX3_chooseCodes_X4_pairCode rfl rfl rfl (by decide +kernel) ⟨Nat.le_of_ble_eq_true rfl, Nat.le_of_ble_eq_true rfl⟩) (k_preV (q0 := 0) (ci := 3) hk (hK.sub [16, 17, 18] rfl) NT_bl NT_u rfl rfl rfl) rfl rfl hl.1 rfl (lv_room (Nat.le_of_ble_eq_true rfl)) dX3_chooseCodes_18 ⟨Nat.zero_le _, Nat.zero_le _⟩) hk hS (fun H locs hP hD hS => ?_)
        refine lv_istore_n (lv' := [(2, .int R4), (1, .int v1), (0, .ref (q 21))]) hx hb dX3_chooseCodes_21 rfl hl (by decide) rfl (fun ls hl => ?_)
        refine lv_iload_n hx hb dX3_chooseCodes_22 rfl (lv_at hl 0 rfl) ?_
        refine lv_iconst (v := (-1 : Int32)) hx hb dX3_chooseCodes_23 (by decide) ?_
        refine lv_icmp_eq (tgt := 41) hx hb dX3_chooseCodes_24 (by decide) (fun c6 => ?_) (fun c6 => ?_)
        · rw [if_pos c6] at hf
          refine lv_aload_n hx hb dX3_chooseCodes_41 rfl (lv_at hl 2 rfl) ?_
          refine va_get (D := D) (ci := 2) (v := .ref (q 32)) (C := RX3) (T := TX3) (N := 12) hx hb hts (fun w h => List.mem_cons_of_mem _ (List.mem_append_left _ (List.mem_append_left _ (List.mem_append_right _ h)))) hown hK hP 21 rfl rfl 4 (by decide) (hts (.fieldLink RX3 31 "DeltaWindows$Encoder" "found" "LDeltaWindows$Instructions;") (List.mem_of_getElem? (i := 1) rfl)) (fun _ h9 => h9) rfl dX3_chooseCodes_42 ?_
          refine lv_iload_n hx hb dX3_chooseCodes_45 rfl (lv_at hl 1 rfl) ?_
          obtain ⟨R7, hc8, hf⟩ := b_inv hf
          have hk := kcut (wc := (wI (q 32) (q 33) (q 34) (q 35) (cA 16) (cA 17) (cA 18) (ar 16) (ar 17) (ar 18) (sc 20))) (wc' := (wI (q 32) (q 33) (q 34) (q 35) (cA 16) (cA 17) (cA 18) (ar 16) (ar 17) (ar 18) (sc 20))) (wf := (wX q cA sc ar sg)) hP hD hS hA [32, 33, 34, 35] rfl (by decide) rfl rfl
          refine k_goI (va_runV (As := [.int v1]) (rest := []) ⟨hx, hb, hml, hown, hts⟩ (kX4_singleCode l D (q 32) (q 33) (q 34) (q 35) (cA 16) (cA 17) (cA 18) (ar 16) (ar 17) (ar 18) (sc 20) v1 hc8 _) (cwV 1 hts gX3_chooseCodes_X4_singleCode rfl rfl rfl (by decide +kernel) ⟨Nat.le_of_ble_eq_true rfl, Nat.le_of_ble_eq_true rfl⟩) (k_preV (q0 := 0) (ci := 3) hk (hK.sub [16, 17, 18] rfl) NT_bl NT_u rfl rfl rfl) rfl rfl hl.1 rfl (lv_room (Nat.le_of_ble_eq_true rfl)) dX3_chooseCodes_46 ⟨Nat.zero_le _, Nat.zero_le _⟩) hk hS (fun H locs hP hD hS => ?_)
          refine lv_istore_n (lv' := [(3, .int R7), (2, .int R4), (1, .int v1), (0, .ref (q 21))]) hx hb dX3_chooseCodes_49 rfl hl (by decide) rfl (fun ls hl => ?_)
          refine lv_aload_n hx hb dX3_chooseCodes_50 rfl (lv_at hl 3 rfl) ?_
          refine va_get (D := D) (ci := 2) (v := .ref (q 13)) (C := RX3) (T := TX3) (N := 12) hx hb hts (fun w h => List.mem_cons_of_mem _ (List.mem_append_left _ (List.mem_append_left _ (List.mem_append_right _ h)))) hown hK hP 21 rfl rfl 7 (by decide) (hts (.fieldLink RX3 46 "DeltaWindows$Encoder" "codes" "LDeltaWindows$Row;") (List.mem_of_getElem? (i := 2) rfl)) (fun _ h9 => h9) rfl dX3_chooseCodes_51 ?_
          refine lv_iload_n hx hb dX3_chooseCodes_54 rfl (lv_at hl 0 rfl) ?_
          obtain ⟨R9, hc10, hf⟩ := b_inv hf
          have hk := kcut (wc := (wR (q 13) (q 14) (cA 6) 128 (ar 6) (sc 6))) (wc' := (wR (q 13) (q 14) (cA 6) 128 R9.1 R9.2)) (wf := (wX q cA (va_up sc 6 R9.2) (va_up ar 6 R9.1) sg)) hP hD hS hA [13, 14] rfl (by decide) rfl rfl
          refine k_goV (va_runV (As := [.int R7]) (rest := []) ⟨hx, hb, hml, hown, hts⟩ (kX6_append l D (q 13) (q 14) (cA 6) 128 (ar 6) (sc 6) R7 hc10 _) (cwV 1 hts gX3_chooseCodes_X6_append rfl rfl rfl (by decide +kernel) ⟨Nat.le_of_ble_eq_true rfl, Nat.le_of_ble_eq_true rfl⟩) (k_preV (q0 := 0) (ci := 5) hk (hK.sub [6] rfl) NT_bl NT_u rfl rfl rfl) rfl rfl hl.1 rfl (lv_room (Nat.le_of_ble_eq_true rfl)) dX3_chooseCodes_55 ⟨Nat.zero_le _, Nat.zero_le _⟩) hk hS (fun H locs hP hD hS => ?_)
          refine lv_iload_n hx hb dX3_chooseCodes_58 rfl (lv_at hl 0 rfl) ?_
          refine lv_iconst (v := (1 : Int32)) hx hb dX3_chooseCodes_59 (by decide) ?_
          obtain ⟨R11, hc12, hf⟩ := b_inv hf
          have hk := kcut (wc := ([] : va_W)) (wc' := ([] : va_W)) (wf := (wX q cA (va_up sc 6 R9.2) (va_up ar 6 R9.1) sg)) hP hD hS hA [] rfl (by decide) rfl rfl
          refine k_goI (va_runS (As := [.int R7, .int (1 : Int32)]) (rest := []) ⟨hx, hb, hml, hown, hts⟩ (kX1_partOf l D R7 (1 : Int32) hc12 _) ⟨callB_of 2 hts ggX3_chooseCodes_X1_partOf rfl rfl rfl (hts (.initialized RX1) (List.mem_of_getElem? (i := 18) rfl)) (hts (.methodLink RX3 154 yX1_partOf) (List.mem_of_getElem? (i := 37) rfl)) (by decide +kernel) ⟨Nat.le_of_ble_eq_true rfl, Nat.le_of_ble_eq_true rfl⟩, (hts (.static yX1_partOf) (List.mem_of_getElem? (i := 38) rfl))⟩ (k_preS hk (hK.sub [] rfl) NT_bl NT_u) rfl rfl hl.1 rfl (lv_room (Nat.le_of_ble_eq_true rfl)) dX3_chooseCodes_60 ⟨Nat.zero_le _, Nat.zero_le _⟩) hk hS (fun H locs hP hD hS => ?_)
          refine lv_if_ne (tgt := 81) hx hb dX3_chooseCodes_63 (by decide) (fun c13 => ?_) (fun c13 => ?_)
          · rw [if_neg c13] at hf
            refine lv_iinc (v := (v1 + (1 : Int32))) (lv' := [(1, .int (v1 + (1 : Int32))), (3, .int R7), (2, .int R4), (0, .ref (q 21))]) hx hb dX3_chooseCodes_81 hl (k := 2) rfl rfl (by decide) rfl (fun ls hl => ?_)
            refine lv_goto (tgt := 2) hx hb dX3_chooseCodes_84 (by decide) ?_
            exact ih (v1 + (1 : Int32)) (va_up sc 6 R9.2) (va_up ar 6 R9.1) _ _ _ o (lv_sub hl [0, 3] rfl) hP hD hS hf kont
          · rw [if_pos c13] at hf
            refine lv_aload_n hx hb dX3_chooseCodes_66 rfl (lv_at hl 3 rfl) ?_
            refine va_get (D := D) (ci := 2) (v := .ref (q 13)) (C := RX3) (T := TX3) (N := 12) hx hb hts (fun w h => List.mem_cons_of_mem _ (List.mem_append_left _ (List.mem_append_left _ (List.mem_append_right _ h)))) hown hK hP 21 rfl rfl 7 (by decide) (hts (.fieldLink RX3 46 "DeltaWindows$Encoder" "codes" "LDeltaWindows$Row;") (List.mem_of_getElem? (i := 2) rfl)) (fun _ h9 => h9) rfl dX3_chooseCodes_67 ?_
            refine lv_aload_n hx hb dX3_chooseCodes_70 rfl (lv_at hl 3 rfl) ?_
            refine va_get (D := D) (ci := 2) (v := .ref (q 32)) (C := RX3) (T := TX3) (N := 12) hx hb hts (fun w h => List.mem_cons_of_mem _ (List.mem_append_left _ (List.mem_append_left _ (List.mem_append_right _ h)))) hown hK hP 21 rfl rfl 4 (by decide) (hts (.fieldLink RX3 31 "DeltaWindows$Encoder" "found" "LDeltaWindows$Instructions;") (List.mem_of_getElem? (i := 1) rfl)) (fun _ h9 => h9) rfl dX3_chooseCodes_71 ?_
            refine lv_iload_n hx hb dX3_chooseCodes_74 rfl (lv_at hl 2 rfl) ?_
            obtain ⟨R14, hc15, hf⟩ := b_inv hf
            have hk := kcut (wc := (wI (q 32) (q 33) (q 34) (q 35) (cA 16) (cA 17) (cA 18) (ar 16) (ar 17) (ar 18) (sc 20))) (wc' := (wI (q 32) (q 33) (q 34) (q 35) (cA 16) (cA 17) (cA 18) (ar 16) (ar 17) (ar 18) (sc 20))) (wf := (wX q cA (va_up sc 6 R9.2) (va_up ar 6 R9.1) sg)) hP hD hS hA [32, 33, 34, 35] rfl (by decide) rfl rfl
            refine k_goI (va_runV (As := [.int v1]) (rest := [.ref (q 13)]) ⟨hx, hb, hml, hown, hts⟩ (kX4_sizeOf l D (q 32) (q 33) (q 34) (q 35) (cA 16) (cA 17) (cA 18) (ar 16) (ar 17) (ar 18) (sc 20) v1 hc15 _) (cwV 1 hts gX3_chooseCodes_X4_sizeOf rfl rfl rfl (by decide +kernel) ⟨Nat.le_of_ble_eq_true rfl, Nat.le_of_ble_eq_true rfl⟩) (k_preV (q0 := 0) (ci := 3) hk (hK.sub [16, 17, 18] rfl) NT_bl NT_u rfl rfl rfl) rfl rfl hl.1 rfl (lv_room (Nat.le_of_ble_eq_true rfl)) dX3_chooseCodes_75 ⟨Nat.zero_le _, Nat.zero_le _⟩) hk hS (fun H locs hP hD hS => ?_)
            obtain ⟨R16, hc17, hf⟩ := b_inv hf
            have hk := kcut (wc := (wR (q 13) (q 14) (cA 6) 128 R9.1 R9.2)) (wc' := (wR (q 13) (q 14) (cA 6) 128 R16.1 R16.2)) (wf := (wX q cA (va_up (va_up sc 6 R9.2) 6 R16.2) (va_up (va_up ar 6 R9.1) 6 R16.1) sg)) hP hD hS hA [13, 14] rfl (by decide) rfl rfl
            refine k_goV (va_runV (As := [.int R14]) (rest := []) ⟨hx, hb, hml, hown, hts⟩ (kX6_appendInteger l D (q 13) (q 14) (cA 6) 128 R9.1 R9.2 R14 hc17 _) (cwV 1 hts gX3_chooseCodes_X6_appendInteger rfl rfl rfl (by decide +kernel) ⟨Nat.le_of_ble_eq_true rfl, Nat.le_of_ble_eq_true rfl⟩) (k_preV (q0 := 0) (ci := 5) hk (hK.sub [6] rfl) NT_bl NT_u rfl rfl rfl) rfl rfl hl.1 rfl (lv_room (Nat.le_of_ble_eq_true rfl)) dX3_chooseCodes_78 ⟨Nat.zero_le _, Nat.zero_le _⟩) hk hS (fun H locs hP hD hS => ?_)
            refine lv_iinc (v := (v1 + (1 : Int32))) (lv' := [(1, .int (v1 + (1 : Int32))), (3, .int R7), (2, .int R4), (0, .ref (q 21))]) hx hb dX3_chooseCodes_81 hl (k := 2) rfl rfl (by decide) rfl (fun ls hl => ?_)
            refine lv_goto (tgt := 2) hx hb dX3_chooseCodes_84 (by decide) ?_
            exact ih (v1 + (1 : Int32)) (va_up (va_up sc 6 R9.2) 6 R16.2) (va_up (va_up ar 6 R9.1) 6 R16.1) _ _ _ o (lv_sub hl [0, 3] rfl) hP hD hS hf kont
        · rw [if_neg c6] at hf
          refine lv_aload_n hx hb dX3_chooseCodes_27 rfl (lv_at hl 2 rfl) ?_
          refine va_get (D := D) (ci := 2) (v := .ref (q 13)) (C := RX3) (T := TX3) (N := 12) hx hb hts (fun w h => List.mem_cons_of_mem _ (List.mem_append_left _ (List.mem_append_left _ (List.mem_append_right _ h)))) hown hK hP 21 rfl rfl 7 (by decide) (hts (.fieldLink RX3 46 "DeltaWindows$Encoder" "codes" "LDeltaWindows$Row;") (List.mem_of_getElem? (i := 2) rfl)) (fun _ h9 => h9) rfl dX3_chooseCodes_28 ?_
          refine lv_iload_n hx hb dX3_chooseCodes_31 rfl (lv_at hl 0 rfl) ?_
          obtain ⟨R18, hc19, hf⟩ := b_inv hf
          have hk := kcut (wc := (wR (q 13) (q 14) (cA 6) 128 (ar 6) (sc 6))) (wc' := (wR (q 13) (q 14) (cA 6) 128 R18.1 R18.2)) (wf := (wX q cA (va_up sc 6 R18.2) (va_up ar 6 R18.1) sg)) hP hD hS hA [13, 14] rfl (by decide) rfl rfl
          refine k_goV (va_runV (As := [.int R4]) (rest := []) ⟨hx, hb, hml, hown, hts⟩ (kX6_append l D (q 13) (q 14) (cA 6) 128 (ar 6) (sc 6) R4 hc19 _) (cwV 1 hts gX3_chooseCodes_X6_append rfl rfl rfl (by decide +kernel) ⟨Nat.le_of_ble_eq_true rfl, Nat.le_of_ble_eq_true rfl⟩) (k_preV (q0 := 0) (ci := 5) hk (hK.sub [6] rfl) NT_bl NT_u rfl rfl rfl) rfl rfl hl.1 rfl (lv_room (Nat.le_of_ble_eq_true rfl)) dX3_chooseCodes_32 ⟨Nat.zero_le _, Nat.zero_le _⟩) hk hS (fun H locs hP hD hS => ?_)
          refine lv_iinc (v := (v1 + (1 : Int32))) (lv' := [(1, .int (v1 + (1 : Int32))), (2, .int R4), (0, .ref (q 21))]) hx hb dX3_chooseCodes_35 hl (k := 1) rfl rfl (by decide) rfl (fun ls hl => ?_)
          refine lv_goto (tgt := 81) hx hb dX3_chooseCodes_38 (by decide) ?_
          refine lv_iinc (v := ((v1 + (1 : Int32)) + (1 : Int32))) (lv' := [(1, .int ((v1 + (1 : Int32)) + (1 : Int32))), (2, .int R4), (0, .ref (q 21))]) hx hb dX3_chooseCodes_81 hl (k := 0) rfl rfl (by decide) rfl (fun ls hl => ?_)
          refine lv_goto (tgt := 2) hx hb dX3_chooseCodes_84 (by decide) ?_
          exact ih ((v1 + (1 : Int32)) + (1 : Int32)) (va_up sc 6 R18.2) (va_up ar 6 R18.1) _ _ _ o (lv_sub hl [0, 2] rfl) hP hD hS hf kont
  obtain ⟨R20, hc21, hf⟩ := b_inv hf
  refine lp22 sg FU (0 : Int32) sc ar _ _ _ R20 (lv_sub hl [0, 1] rfl) hP hD hS hc21 (fun H locs ls hl hP hD hS => ?_)
  obtain rfl := Option.some.inj hf
  exact k_retV hx hb hr hlocks hP hS dX3_chooseCodes_87

noncomputable def fX3_writeWindow (sc : Nat → Int32) (ar : Nat → Nat → Int32) (sg : Bool) : Option ((Nat → Int32) × (Nat → Nat → Int32)) :=
  (fX6_count 48 (ar 0) (sc 0)).bind fun R1 =>
  (if R1 = 0 then
      (fX6_append 1000 (ar 2) (sc 2) (0 : Int32)).bind fun R13 =>
      some ((va_up sc 2 R13.2), (va_up ar 2 R13.1))
    else
      (fX6_append 1000 (ar 2) (sc 2) (1 : Int32)).bind fun R5 =>
      (fX6_count 48 (ar 0) (sc 0)).bind fun R7 =>
      (fX6_appendInteger 1000 R5.1 R5.2 R7).bind fun R9 =>
      (fX6_appendInteger 1000 R9.1 R9.2 (0 : Int32)).bind fun R11 =>
      some ((va_up (va_up (va_up sc 2 R5.2) 2 R9.2) 2 R11.2), (va_up (va_up (va_up ar 2 R5.1) 2 R9.1) 2 R11.1)) : Option ((Nat → Int32) × (Nat → Nat → Int32))).bind fun R15 =>
  (fX6_count 112 (R15.2 4) (R15.1 4)).bind fun R16 =>
  (fX6_count 48 (R15.2 0) (R15.1 0)).bind fun R18 =>
  (fX6_appendInteger 320 (R15.2 8) (R15.1 8) (R16 - R18)).bind fun R20 =>
  (fX6_append 320 R20.1 R20.2 (0 : Int32)).bind fun R22 =>
  (fX6_count 64 (R15.2 5) (R15.1 5)).bind fun R24 =>
  (fX6_appendInteger 320 R22.1 R22.2 R24).bind fun R26 =>
  (fX6_count 128 (R15.2 6) (R15.1 6)).bind fun R28 =>
  (fX6_appendInteger 320 R26.1 R26.2 R28).bind fun R30 =>
  (fX6_count 64 (R15.2 7) (R15.1 7)).bind fun R32 =>
  (fX6_appendInteger 320 R30.1 R30.2 R32).bind fun R34 =>
  (fX6_appendRow 320 64 R34.1 R34.2 (R15.2 5) (R15.1 5)).bind fun R36 =>
  (fX6_appendRow 320 128 R36.1 R36.2 (R15.2 6) (R15.1 6)).bind fun R38 =>
  (fX6_appendRow 320 64 R38.1 R38.2 (R15.2 7) (R15.1 7)).bind fun R40 =>
  (fX6_count 320 R40.1 R40.2).bind fun R42 =>
  (fX6_appendInteger 1000 (R15.2 2) (R15.1 2) R42).bind fun R44 =>
  (fX6_appendRow 1000 320 R44.1 R44.2 R40.1 R40.2).bind fun R46 =>
  some ((va_up (va_up (va_up (va_up (va_up (va_up (va_up (va_up (va_up (va_up R15.1 8 R20.2) 8 R22.2) 8 R26.2) 8 R30.2) 8 R34.2) 8 R36.2) 8 R38.2) 8 R40.2) 2 R44.2) 2 R46.2), (va_up (va_up (va_up (va_up (va_up (va_up (va_up (va_up (va_up (va_up R15.2 8 R20.1) 8 R22.1) 8 R26.1) 8 R30.1) 8 R34.1) 8 R36.1) 8 R38.1) 8 R40.1) 2 R44.1) 2 R46.1))

set_option maxHeartbeats 4000000 in
set_option maxRecDepth 100000 in
theorem kX3_writeWindow (l : Launch) (D : va_G) (q : Nat → Nat) (cA : Nat → ClassId) (sc : Nat → Int32) (ar : Nat → Nat → Int32) (sg : Bool) {R : (Nat → Int32) × (Nat → Nat → Int32)} (hf : fX3_writeWindow sc ar sg = some R) : MV l yX3_writeWindow wsX3_writeWindow (rmD 2) D ([.ref (q 21)] : List Value) (wX q cA sc ar sg) (tX cA) NX (wX q cA R.1 R.2 sg) := by
  refine MV.mk (cc := cX3_writeWindow) (maxL := 1) (ret := none) (by first | decide | decide +kernel) rfl (Nat.le_of_ble_eq_true rfl) ?_
  intro p e s m below meth cd A ls hE
  obtain ⟨hx, hb, hr, hml, hts, hown, hlocks, hP, hK, hD, hA, hN, hAe, hl⟩ := hE
  have hown : s.vm.findClass RX3 = some m.cls := hown
  have hS : va_S A s.heap s.heap [] := va_S.rf
  have hl : lv_has ls 1 [(0, .ref (q 21))] := hl
  rw [fX3_writeWindow] at hf
  refine lv_aload_n hx hb dX3_writeWindow_0 rfl (lv_at hl 0 rfl) ?_
  refine va_get (D := D) (ci := 2) (v := .ref (q 1)) (C := RX3) (T := TX3) (N := 12) hx hb hts (fun w h => List.mem_cons_of_mem _ (List.mem_append_left _ (List.mem_append_right _ h))) hown hK hP 21 rfl rfl 0 (by decide) (hts (.fieldLink RX3 9 "DeltaWindows$Encoder" "source" "LDeltaWindows$Row;") (List.mem_of_getElem? (i := 1) rfl)) (fun _ h9 => h9) rfl dX3_writeWindow_1 ?_
  obtain ⟨R1, hc2, hf⟩ := b_inv hf
  have hk := kcut (wc := (wR (q 1) (q 2) (cA 0) 48 (ar 0) (sc 0))) (wc' := (wR (q 1) (q 2) (cA 0) 48 (ar 0) (sc 0))) (wf := (wX q cA sc ar sg)) hP hD hS hA [1, 2] rfl (by decide) rfl rfl
  refine k_goI (va_runV (As := []) (rest := []) ⟨hx, hb, hml, hown, hts⟩ (kX6_count l D (q 1) (q 2) (cA 0) 48 (ar 0) (sc 0) hc2 _) (cwV 0 hts gX3_writeWindow_X6_count rfl rfl rfl (by decide +kernel) ⟨Nat.le_of_ble_eq_true rfl, Nat.le_of_ble_eq_true rfl⟩) (k_preV (q0 := 0) (ci := 5) hk (hK.sub [0] rfl) NT_bl NT_u rfl rfl rfl) rfl rfl hl.1 rfl (lv_room (Nat.le_of_ble_eq_true rfl)) dX3_writeWindow_4 ⟨Nat.zero_le _, Nat.zero_le _⟩) hk hS (fun H locs hP hD hS => ?_)
  obtain ⟨R15, hj48, hf⟩ := b_inv hf
  have kont : ∀ (H : Heap) (locs : List Loc) (ls : Array Slot), lv_has ls 1 [(0, .ref (q 21))] → va_P D vwCl (wX q cA R15.1 R15.2 sg) H → va_D A (wX q cA R15.1 R15.2 sg) → va_S A s.heap H locs → W p l e (headSpec wsX3_writeWindow (rmD 2)).room s m ([.ref (q 21)] : List Value).toArray below meth cd H locs 0 0 (QV D below ([.ref (q 21)] : List Value).toArray s A (wX q cA R.1 R.2 sg)) (F0 m 51 ls []) := by
    intro H locs ls hl hP hD hS
    refine lv_aload_n hx hb dX3_writeWindow_51 rfl (lv_at hl 0 rfl) ?_
    refine va_get (D := D) (ci := 2) (v := .ref (q 17)) (C := RX3) (T := TX3) (N := 12) hx hb hts (fun w h => List.mem_cons_of_mem _ (List.mem_append_left _ (List.mem_append_right _ h))) hown hK hP 21 rfl rfl 9 (by decide) (hts (.fieldLink RX3 52 "DeltaWindows$Encoder" "body" "LDeltaWindows$Row;") (List.mem_of_getElem? (i := 3) rfl)) (fun _ h9 => h9) rfl dX3_writeWindow_52 ?_
    refine lv_aload_n hx hb dX3_writeWindow_55 rfl (lv_at hl 0 rfl) ?_
    refine va_get (D := D) (ci := 2) (v := .ref (q 9)) (C := RX3) (T := TX3) (N := 12) hx hb hts (fun w h => List.mem_cons_of_mem _ (List.mem_append_left _ (List.mem_append_right _ h))) hown hK hP 21 rfl rfl 5 (by decide) (hts (.fieldLink RX3 40 "DeltaWindows$Encoder" "string" "LDeltaWindows$Row;") (List.mem_of_getElem? (i := 4) rfl)) (fun _ h9 => h9) rfl dX3_writeWindow_56 ?_
    obtain ⟨R16, hc17, hf⟩ := b_inv hf
    have hk := kcut (wc := (wR (q 9) (q 10) (cA 4) 112 (R15.2 4) (R15.1 4))) (wc' := (wR (q 9) (q 10) (cA 4) 112 (R15.2 4) (R15.1 4))) (wf := (wX q cA R15.1 R15.2 sg)) hP hD hS hA [9, 10] rfl (by decide) rfl rfl
    refine k_goI (va_runV (As := []) (rest := [.ref (q 17)]) ⟨hx, hb, hml, hown, hts⟩ (kX6_count l D (q 9) (q 10) (cA 4) 112 (R15.2 4) (R15.1 4) hc17 _) (cwV 0 hts gX3_writeWindow_X6_count rfl rfl rfl (by decide +kernel) ⟨Nat.le_of_ble_eq_true rfl, Nat.le_of_ble_eq_true rfl⟩) (k_preV (q0 := 0) (ci := 5) hk (hK.sub [4] rfl) NT_bl NT_u rfl rfl rfl) rfl rfl hl.1 rfl (lv_room (Nat.le_of_ble_eq_true rfl)) dX3_writeWindow_59 ⟨Nat.zero_le _, Nat.zero_le _⟩) hk hS (fun H locs hP hD hS => ?_)
    refine lv_aload_n hx hb dX3_writeWindow_62 rfl (lv_at hl 0 rfl) ?_
    refine va_get (D := D) (ci := 2) (v := .ref (q 1)) (C := RX3) (T := TX3) (N := 12) hx hb hts (fun w h => List.mem_cons_of_mem _ (List.mem_append_left _ (List.mem_append_right _ h))) hown hK hP 21 rfl rfl 0 (by decide) (hts (.fieldLink RX3 9 "DeltaWindows$Encoder" "source" "LDeltaWindows$Row;") (List.mem_of_getElem? (i := 1) rfl)) (fun _ h9 => h9) rfl dX3_writeWindow_63 ?_
    obtain ⟨R18, hc19, hf⟩ := b_inv hf
    have hk := kcut (wc := (wR (q 1) (q 2) (cA 0) 48 (R15.2 0) (R15.1 0))) (wc' := (wR (q 1) (q 2) (cA 0) 48 (R15.2 0) (R15.1 0))) (wf := (wX q cA R15.1 R15.2 sg)) hP hD hS hA [1, 2] rfl (by decide) rfl rfl
    refine k_goI (va_runV (As := []) (rest := [.int R16, .ref (q 17)]) ⟨hx, hb, hml, hown, hts⟩ (kX6_count l D (q 1) (q 2) (cA 0) 48 (R15.2 0) (R15.1 0) hc19 _) (cwV 0 hts gX3_writeWindow_X6_count rfl rfl rfl (by decide +kernel) ⟨Nat.le_of_ble_eq_true rfl, Nat.le_of_ble_eq_true rfl⟩) (k_preV (q0 := 0) (ci := 5) hk (hK.sub [0] rfl) NT_bl NT_u rfl rfl rfl) rfl rfl hl.1 rfl (lv_room (Nat.le_of_ble_eq_true rfl)) dX3_writeWindow_66 ⟨Nat.zero_le _, Nat.zero_le _⟩) hk hS (fun H locs hP hD hS => ?_)
    refine lv_isub hx hb dX3_writeWindow_69 ?_
    obtain ⟨R20, hc21, hf⟩ := b_inv hf
    have hk := kcut (wc := (wR (q 17) (q 18) (cA 8) 320 (R15.2 8) (R15.1 8))) (wc' := (wR (q 17) (q 18) (cA 8) 320 R20.1 R20.2)) (wf := (wX q cA (va_up R15.1 8 R20.2) (va_up R15.2 8 R20.1) sg)) hP hD hS hA [17, 18] rfl (by decide) rfl rfl
    refine k_goV (va_runV (As := [.int (R16 - R18)]) (rest := []) ⟨hx, hb, hml, hown, hts⟩ (kX6_appendInteger l D (q 17) (q 18) (cA 8) 320 (R15.2 8) (R15.1 8) (R16 - R18) hc21 _) (cwV 1 hts gX3_writeWindow_X6_appendInteger rfl rfl rfl (by decide +kernel) ⟨Nat.le_of_ble_eq_true rfl, Nat.le_of_ble_eq_true rfl⟩) (k_preV (q0 := 0) (ci := 5) hk (hK.sub [8] rfl) NT_bl NT_u rfl rfl rfl) rfl rfl hl.1 rfl (lv_room (Nat.le_of_ble_eq_true rfl)) dX3_writeWindow_70 ⟨Nat.zero_le _, Nat.zero_le _⟩) hk hS (fun H locs hP hD hS => ?_)
    refine lv_aload_n hx hb dX3_writeWindow_73 rfl (lv_at hl 0 rfl) ?_
    refine va_get (D := D) (ci := 2) (v := .ref (q 17)) (C := RX3) (T := TX3) (N := 12) hx hb hts (fun w h => List.mem_cons_of_mem _ (List.mem_append_left _ (List.mem_append_right _ h))) hown hK hP 21 rfl rfl 9 (by decide) (hts (.fieldLink RX3 52 "DeltaWindows$Encoder" "body" "LDeltaWindows$Row;") (List.mem_of_getElem? (i := 3) rfl)) (fun _ h9 => h9) rfl dX3_writeWindow_74 ?_
    refine lv_iconst (v := (0 : Int32)) hx hb dX3_writeWindow_77 (by decide) ?_
    obtain ⟨R22, hc23, hf⟩ := b_inv hf
    have hk := kcut (wc := (wR (q 17) (q 18) (cA 8) 320 R20.1 R20.2)) (wc' := (wR (q 17) (q 18) (cA 8) 320 R22.1 R22.2)) (wf := (wX q cA (va_up (va_up R15.1 8 R20.2) 8 R22.2) (va_up (va_up R15.2 8 R20.1) 8 R22.1) sg)) hP hD hS hA [17, 18] rfl (by decide) rfl rfl
    refine k_goV (va_runV (As := [.int (0 : Int32)]) (rest := []) ⟨hx, hb, hml, hown, hts⟩ (kX6_append l D (q 17) (q 18) (cA 8) 320 R20.1 R20.2 (0 : Int32) hc23 _) (cwV 1 hts gX3_writeWindow_X6_append rfl rfl rfl (by decide +kernel) ⟨Nat.le_of_ble_eq_true rfl, Nat.le_of_ble_eq_true rfl⟩) (k_preV (q0 := 0) (ci := 5) hk (hK.sub [8] rfl) NT_bl NT_u rfl rfl rfl) rfl rfl hl.1 rfl (lv_room (Nat.le_of_ble_eq_true rfl)) dX3_writeWindow_78 ⟨Nat.zero_le _, Nat.zero_le _⟩) hk hS (fun H locs hP hD hS => ?_)
    refine lv_aload_n hx hb dX3_writeWindow_81 rfl (lv_at hl 0 rfl) ?_
    refine va_get (D := D) (ci := 2) (v := .ref (q 17)) (C := RX3) (T := TX3) (N := 12) hx hb hts (fun w h => List.mem_cons_of_mem _ (List.mem_append_left _ (List.mem_append_right _ h))) hown hK hP 21 rfl rfl 9 (by decide) (hts (.fieldLink RX3 52 "DeltaWindows$Encoder" "body" "LDeltaWindows$Row;") (List.mem_of_getElem? (i := 3) rfl)) (fun _ h9 => h9) rfl dX3_writeWindow_82 ?_
    refine lv_aload_n hx hb dX3_writeWindow_85 rfl (lv_at hl 0 rfl) ?_
    refine va_get (D := D) (ci := 2) (v := .ref (q 11)) (C := RX3) (T := TX3) (N := 12) hx hb hts (fun w h => List.mem_cons_of_mem _ (List.mem_append_left _ (List.mem_append_right _ h))) hown hK hP 21 rfl rfl 6 (by decide) (hts (.fieldLink RX3 43 "DeltaWindows$Encoder" "data" "LDeltaWindows$Row;") (List.mem_of_getElem? (i := 5) rfl)) (fun _ h9 => h9) rfl dX3_writeWindow_86 ?_
    obtain ⟨R24, hc25, hf⟩ := b_inv hf
    have hk := kcut (wc := (wR (q 11) (q 12) (cA 5) 64 (R15.2 5) (R15.1 5))) (wc' := (wR (q 11) (q 12) (cA 5) 64 (R15.2 5) (R15.1 5))) (wf := (wX q cA (va_up (va_up R15.1 8 R20.2) 8 R22.2) (va_up (va_up R15.2 8 R20.1) 8 R22.1) sg)) hP hD hS hA [11, 12] rfl (by decide) rfl rfl
    refine k_goI (va_runV (As := []) (rest := [.ref (q 17)]) ⟨hx, hb, hml, hown, hts⟩ (kX6_count l D (q 11) (q 12) (cA 5) 64 (R15.2 5) (R15.1 5) hc25 _) (cwV 0 hts gX3_writeWindow_X6_count rfl rfl rfl (by decide +kernel) ⟨Nat.le_of_ble_eq_true rfl, Nat.le_of_ble_eq_true rfl⟩) (k_preV (q0 := 0) (ci := 5) hk (hK.sub [5] rfl) NT_bl NT_u rfl rfl rfl) rfl rfl hl.1 rfl (lv_room (Nat.le_of_ble_eq_true rfl)) dX3_writeWindow_89 ⟨Nat.zero_le _, Nat.zero_le _⟩) hk hS (fun H locs hP hD hS => ?_)
    obtain ⟨R26, hc27, hf⟩ := b_inv hf
    have hk := kcut (wc := (wR (q 17) (q 18) (cA 8) 320 R22.1 R22.2)) (wc' := (wR (q 17) (q 18) (cA 8) 320 R26.1 R26.2)) (wf := (wX q cA (va_up (va_up (va_up R15.1 8 R20.2) 8 R22.2) 8 R26.2) (va_up (va_up (va_up R15.2 8 R20.1) 8 R22.1) 8 R26.1) sg)) hP hD hS hA [17, 18] rfl (by decide) rfl rfl
    refine k_goV (va_runV (As := [.int R24]) (rest := []) ⟨hx, hb, hml, hown, hts⟩ (kX6_appendInteger l D (q 17) (q 18) (cA 8) 320 R22.1 R22.2 R24 hc27 _) (cwV 1 hts gX3_writeWindow_X6_appendInteger rfl rfl rfl (by decide +kernel) ⟨Nat.le_of_ble_eq_true rfl, Nat.le_of_ble_eq_true rfl⟩) (k_preV (q0 := 0) (ci := 5) hk (hK.sub [8] rfl) NT_bl NT_u rfl rfl rfl) rfl rfl hl.1 rfl (lv_room (Nat.le_of_ble_eq_true rfl)) dX3_writeWindow_92 ⟨Nat.zero_le _, Nat.zero_le _⟩) hk hS (fun H locs hP hD hS => ?_)
    refine lv_aload_n hx hb dX3_writeWindow_95 rfl (lv_at hl 0 rfl) ?_
    refine va_get (D := D) (ci := 2) (v := .ref (q 17)) (C := RX3) (T := TX3) (N := 12) hx hb hts (fun w h => List.mem_cons_of_mem _ (List.mem_append_left _ (List.mem_append_right _ h))) hown hK hP 21 rfl rfl 9 (by decide) (hts (.fieldLink RX3 52 "DeltaWindows$Encoder" "body" "LDeltaWindows$Row;") (List.mem_of_getElem? (i := 3) rfl)) (fun _ h9 => h9) rfl dX3_writeWindow_96 ?_
    refine lv_aload_n hx hb dX3_writeWindow_99 rfl (lv_at hl 0 rfl) ?_
    refine va_get (D := D) (ci := 2) (v := .ref (q 13)) (C := RX3) (T := TX3) (N := 12) hx hb hts (fun w h => List.mem_cons_of_mem _ (List.mem_append_left _ (List.mem_append_right _ h))) hown hK hP 21 rfl rfl 7 (by decide) (hts (.fieldLink RX3 46 "DeltaWindows$Encoder" "codes" "LDeltaWindows$Row;") (List.mem_of_getElem? (i := 6) rfl)) (fun _ h9 => h9) rfl dX3_writeWindow_100 ?_
    obtain ⟨R28, hc29, hf⟩ := b_inv hf
    have hk := kcut (wc := (wR (q 13) (q 14) (cA 6) 128 (R15.2 6) (R15.1 6))) (wc' := (wR (q 13) (q 14) (cA 6) 128 (R15.2 6) (R15.1 6))) (wf := (wX q cA (va_up (va_up (va_up R15.1 8 R20.2) 8 R22.2) 8 R26.2) (va_up (va_up (va_up R15.2 8 R20.1) 8 R22.1) 8 R26.1) sg)) hP hD hS hA [13, 14] rfl (by decide) rfl rfl
    refine k_goI (va_runV (As := []) (rest := [.ref (q 17)]) ⟨hx, hb, hml, hown, hts⟩ (kX6_count l D (q 13) (q 14) (cA 6) 128 (R15.2 6) (R15.1 6) hc29 _) (cwV 0 hts gX3_writeWindow_X6_count rfl rfl rfl (by decide +kernel) ⟨Nat.le_of_ble_eq_true rfl, Nat.le_of_ble_eq_true rfl⟩) (k_preV (q0 := 0) (ci := 5) hk (hK.sub [6] rfl) NT_bl NT_u rfl rfl rfl) rfl rfl hl.1 rfl (lv_room (Nat.le_of_ble_eq_true rfl)) dX3_writeWindow_103 ⟨Nat.zero_le _, Nat.zero_le _⟩) hk hS (fun H locs hP hD hS => ?_)
    obtain ⟨R30, hc31, hf⟩ := b_inv hf
    have hk := kcut (wc := (wR (q 17) (q 18) (cA 8) 320 R26.1 R26.2)) (wc' := (wR (q 17) (q 18) (cA 8) 320 R30.1 R30.2)) (wf := (wX q cA (va_up (va_up (va_up (va_up R15.1 8 R20.2) 8 R22.2) 8 R26.2) 8 R30.2) (va_up (va_up (va_up (va_up R15.2 8 R20.1) 8 R22.1) 8 R26.1) 8 R30.1) sg)) hP hD hS hA [17, 18] rfl (by decide) rfl rfl
    refine k_goV (va_runV (As := [.int R28]) (rest := []) ⟨hx, hb, hml, hown, hts⟩ (kX6_appendInteger l D (q 17) (q 18) (cA 8) 320 R26.1 R26.2 R28 hc31 _) (cwV 1 hts gX3_writeWindow_X6_appendInteger rfl rfl rfl (by decide +kernel) ⟨Nat.le_of_ble_eq_true rfl, Nat.le_of_ble_eq_true rfl⟩) (k_preV (q0 := 0) (ci := 5) hk (hK.sub [8] rfl) NT_bl NT_u rfl rfl rfl) rfl rfl hl.1 rfl (lv_room (Nat.le_of_ble_eq_true rfl)) dX3_writeWindow_106 ⟨Nat.zero_le _, Nat.zero_le _⟩) hk hS (fun H locs hP hD hS => ?_)
    refine lv_aload_n hx hb dX3_writeWindow_109 rfl (lv_at hl 0 rfl) ?_
    refine va_get (D := D) (ci := 2) (v := .ref (q 17)) (C := RX3) (T := TX3) (N := 12) hx hb hts (fun w h => List.mem_cons_of_mem _ (List.mem_append_left _ (List.mem_append_right _ h))) hown hK hP 21 rfl rfl 9 (by decide) (hts (.fieldLink RX3 52 "DeltaWindows$Encoder" "body" "LDeltaWindows$Row;") (List.mem_of_getElem? (i := 3) rfl)) (fun _ h9 => h9) rfl dX3_writeWindow_110 ?_
    refine lv_aload_n hx hb dX3_writeWindow_113 rfl (lv_at hl 0 rfl) ?_
    refine va_get (D := D) (ci := 2) (v := .ref (q 15)) (C := RX3) (T := TX3) (N := 12) hx hb hts (fun w h => List.mem_cons_of_mem _ (List.mem_append_left _ (List.mem_append_right _ h))) hown hK hP 21 rfl rfl 8 (by decide) (hts (.fieldLink RX3 49 "DeltaWindows$Encoder" "addresses" "LDeltaWindows$Row;") (List.mem_of_getElem? (i := 7) rfl)) (fun _ h9 => h9) rfl dX3_writeWindow_114 ?_
    obtain ⟨R32, hc33, hf⟩ := b_inv hf
    have hk := kcut (wc := (wR (q 15) (q 16) (cA 7) 64 (R15.2 7) (R15.1 7))) (wc' := (wR (q 15) (q 16) (cA 7) 64 (R15.2 7) (R15.1 7))) (wf := (wX q cA (va_up (va_up (va_up (va_up R15.1 8 R20.2) 8 R22.2) 8 R26.2) 8 R30.2) (va_up (va_up (va_up (va_up R15.2 8 R20.1) 8 R22.1) 8 R26.1) 8 R30.1) sg)) hP hD hS hA [15, 16] rfl (by decide) rfl rfl
    refine k_goI (va_runV (As := []) (rest := [.ref (q 17)]) ⟨hx, hb, hml, hown, hts⟩ (kX6_count l D (q 15) (q 16) (cA 7) 64 (R15.2 7) (R15.1 7) hc33 _) (cwV 0 hts gX3_writeWindow_X6_count rfl rfl rfl (by decide +kernel) ⟨Nat.le_of_ble_eq_true rfl, Nat.le_of_ble_eq_true rfl⟩) (k_preV (q0 := 0) (ci := 5) hk (hK.sub [7] rfl) NT_bl NT_u rfl rfl rfl) rfl rfl hl.1 rfl (lv_room (Nat.le_of_ble_eq_true rfl)) dX3_writeWindow_117 ⟨Nat.zero_le _, Nat.zero_le _⟩) hk hS (fun H locs hP hD hS => ?_)
    obtain ⟨R34, hc35, hf⟩ := b_inv hf
    have hk := kcut (wc := (wR (q 17) (q 18) (cA 8) 320 R30.1 R30.2)) (wc' := (wR (q 17) (q 18) (cA 8) 320 R34.1 R34.2)) (wf := (wX q cA (va_up (va_up (va_up (va_up (va_up R15.1 8 R20.2) 8 R22.2) 8 R26.2) 8 R30.2) 8 R34.2) (va_up (va_up (va_up (va_up (va_up R15.2 8 R20.1) 8 R22.1) 8 R26.1) 8 R30.1) 8 R34.1) sg)) hP hD hS hA [17, 18] rfl (by decide) rfl rfl
    refine k_goV (va_runV (As := [.int R32]) (rest := []) ⟨hx, hb, hml, hown, hts⟩ (kX6_appendInteger l D (q 17) (q 18) (cA 8) 320 R30.1 R30.2 R32 hc35 _) (cwV 1 hts gX3_writeWindow_X6_appendInteger rfl rfl rfl (by decide +kernel) ⟨Nat.le_of_ble_eq_true rfl, Nat.le_of_ble_eq_true rfl⟩) (k_preV (q0 := 0) (ci := 5) hk (hK.sub [8] rfl) NT_bl NT_u rfl rfl rfl) rfl rfl hl.1 rfl (lv_room (Nat.le_of_ble_eq_true rfl)) dX3_writeWindow_120 ⟨Nat.zero_le _, Nat.zero_le _⟩) hk hS (fun H locs hP hD hS => ?_)
    refine lv_aload_n hx hb dX3_writeWindow_123 rfl (lv_at hl 0 rfl) ?_
    refine va_get (D := D) (ci := 2) (v := .ref (q 17)) (C := RX3) (T := TX3) (N := 12) hx hb hts (fun w h => List.mem_cons_of_mem _ (List.mem_append_left _ (List.mem_append_right _ h))) hown hK hP 21 rfl rfl 9 (by decide) (hts (.fieldLink RX3 52 "DeltaWindows$Encoder" "body" "LDeltaWindows$Row;") (List.mem_of_getElem? (i := 3) rfl)) (fun _ h9 => h9) rfl dX3_writeWindow_124 ?_
    refine lv_aload_n hx hb dX3_writeWindow_127 rfl (lv_at hl 0 rfl) ?_
    refine va_get (D := D) (ci := 2) (v := .ref (q 11)) (C := RX3) (T := TX3) (N := 12) hx hb hts (fun w h => List.mem_cons_of_mem _ (List.mem_append_left _ (List.mem_append_right _ h))) hown hK hP 21 rfl rfl 6 (by decide) (hts (.fieldLink RX3 43 "DeltaWindows$Encoder" "data" "LDeltaWindows$Row;") (List.mem_of_getElem? (i := 5) rfl)) (fun _ h9 => h9) rfl dX3_writeWindow_128 ?_
    obtain ⟨R36, hc37, hf⟩ := b_inv hf
    have hk := kcut (wc := (wRR (q 17) (q 18) (cA 8) 320 (q 11) (q 12) (cA 5) 64 R34.1 R34.2 (R15.2 5) (R15.1 5))) (wc' := (wRR (q 17) (q 18) (cA 8) 320 (q 11) (q 12) (cA 5) 64 R36.1 R36.2 (R15.2 5) (R15.1 5))) (wf := (wX q cA (va_up (va_up (va_up (va_up (va_up (va_up R15.1 8 R20.2) 8 R22.2) 8 R26.2) 8 R30.2) 8 R34.2) 8 R36.2) (va_up (va_up (va_up (va_up (va_up (va_up R15.2 8 R20.1) 8 R22.1) 8 R26.1) 8 R30.1) 8 R34.1) 8 R36.1) sg)) hP hD hS hA [17, 18, 11, 12] rfl (by decide) rfl rfl
    refine k_goV (va_runV (As := [.ref (q 11)]) (rest := []) ⟨hx, hb, hml, hown, hts⟩ (kX6_appendRow l D (q 17) (q 18) (cA 8) (q 11) (q 12) (cA 5) 320 64 R34.1 R34.2 (R15.2 5) (R15.1 5) hc37 _) (cwV 1 hts gX3_writeWindow_X6_appendRow rfl rfl rfl (by decide +kernel) ⟨Nat.le_of_ble_eq_true rfl, Nat.le_of_ble_eq_true rfl⟩) (k_preV (q0 := 0) (ci := 5) hk (hK.sub [8, 5] rfl) NT_bl NT_u rfl rfl rfl) rfl rfl hl.1 rfl (lv_room (Nat.le_of_ble_eq_true rfl)) dX3_writeWindow_131 ⟨Nat.zero_le _, Nat.zero_le _⟩) hk hS (fun H locs hP hD hS => ?_)
    refine lv_aload_n hx hb dX3_writeWindow_134 rfl (lv_at hl 0 rfl) ?_
    refine va_get (D := D) (ci := 2) (v := .ref (q 17)) (C := RX3) (T := TX3) (N := 12) hx hb hts (fun w h => List.mem_cons_of_mem _ (List.mem_append_left _ (List.mem_append_right _ h))) hown hK hP 21 rfl rfl 9 (by decide) (hts (.fieldLink RX3 52 "DeltaWindows$Encoder" "body" "LDeltaWindows$Row;") (List.mem_of_getElem? (i := 3) rfl)) (fun _ h9 => h9) rfl dX3_writeWindow_135 ?_
    refine lv_aload_n hx hb dX3_writeWindow_138 rfl (lv_at hl 0 rfl) ?_
    refine va_get (D := D) (ci := 2) (v := .ref (q 13)) (C := RX3) (T := TX3) (N := 12) hx hb hts (fun w h => List.mem_cons_of_mem _ (List.mem_append_left _ (List.mem_append_right _ h))) hown hK hP 21 rfl rfl 7 (by decide) (hts (.fieldLink RX3 46 "DeltaWindows$Encoder" "codes" "LDeltaWindows$Row;") (List.mem_of_getElem? (i := 6) rfl)) (fun _ h9 => h9) rfl dX3_writeWindow_139 ?_
    obtain ⟨R38, hc39, hf⟩ := b_inv hf
    have hk := kcut (wc := (wRR (q 17) (q 18) (cA 8) 320 (q 13) (q 14) (cA 6) 128 R36.1 R36.2 (R15.2 6) (R15.1 6))) (wc' := (wRR (q 17) (q 18) (cA 8) 320 (q 13) (q 14) (cA 6) 128 R38.1 R38.2 (R15.2 6) (R15.1 6))) (wf := (wX q cA (va_up (va_up (va_up (va_up (va_up (va_up (va_up R15.1 8 R20.2) 8 R22.2) 8 R26.2) 8 R30.2) 8 R34.2) 8 R36.2) 8 R38.2) (va_up (va_up (va_up (va_up (va_up (va_up (va_up R15.2 8 R20.1) 8 R22.1) 8 R26.1) 8 R30.1) 8 R34.1) 8 R36.1) 8 R38.1) sg)) hP hD hS hA [17, 18, 13, 14] rfl (by decide) rfl rfl
    refine k_goV (va_runV (As := [.ref (q 13)]) (rest := []) ⟨hx, hb, hml, hown, hts⟩ (kX6_appendRow l D (q 17) (q 18) (cA 8) (q 13) (q 14) (cA 6) 320 128 R36.1 R36.2 (R15.2 6) (R15.1 6) hc39 _) (cwV 1 hts gX3_writeWindow_X6_appendRow rfl rfl rfl (by decide +kernel) ⟨Nat.le_of_ble_eq_true rfl, Nat.le_of_ble_eq_true rfl⟩) (k_preV (q0 := 0) (ci := 5) hk (hK.sub [8, 6] rfl) NT_bl NT_u rfl rfl rfl) rfl rfl hl.1 rfl (lv_room (Nat.le_of_ble_eq_true rfl)) dX3_writeWindow_142 ⟨Nat.zero_le _, Nat.zero_le _⟩) hk hS (fun H locs hP hD hS => ?_)
    refine lv_aload_n hx hb dX3_writeWindow_145 rfl (lv_at hl 0 rfl) ?_
    refine va_get (D := D) (ci := 2) (v := .ref (q 17)) (C := RX3) (T := TX3) (N := 12) hx hb hts (fun w h => List.mem_cons_of_mem _ (List.mem_append_left _ (List.mem_append_right _ h))) hown hK hP 21 rfl rfl 9 (by decide) (hts (.fieldLink RX3 52 "DeltaWindows$Encoder" "body" "LDeltaWindows$Row;") (List.mem_of_getElem? (i := 3) rfl)) (fun _ h9 => h9) rfl dX3_writeWindow_146 ?_
    refine lv_aload_n hx hb dX3_writeWindow_149 rfl (lv_at hl 0 rfl) ?_
    refine va_get (D := D) (ci := 2) (v := .ref (q 15)) (C := RX3) (T := TX3) (N := 12) hx hb hts (fun w h => List.mem_cons_of_mem _ (List.mem_append_left _ (List.mem_append_right _ h))) hown hK hP 21 rfl rfl 8 (by decide) (hts (.fieldLink RX3 49 "DeltaWindows$Encoder" "addresses" "LDeltaWindows$Row;") (List.mem_of_getElem? (i := 7) rfl)) (fun _ h9 => h9) rfl dX3_writeWindow_150 ?_
    obtain ⟨R40, hc41, hf⟩ := b_inv hf
    have hk := kcut (wc := (wRR (q 17) (q 18) (cA 8) 320 (q 15) (q 16) (cA 7) 64 R38.1 R38.2 (R15.2 7) (R15.1 7))) (wc' := (wRR (q 17) (q 18) (cA 8) 320 (q 15) (q 16) (cA 7) 64 R40.1 R40.2 (R15.2 7) (R15.1 7))) (wf := (wX q cA (va_up (va_up (va_up (va_up (va_up (va_up (va_up (va_up R15.1 8 R20.2) 8 R22.2) 8 R26.2) 8 R30.2) 8 R34.2) 8 R36.2) 8 R38.2) 8 R40.2) (va_up (va_up (va_up (va_up (va_up (va_up (va_up (va_up R15.2 8 R20.1) 8 R22.1) 8 R26.1) 8 R30.1) 8 R34.1) 8 R36.1) 8 R38.1) 8 R40.1) sg)) hP hD hS hA [17, 18, 15, 16] rfl (by decide) rfl rfl
    refine k_goV (va_runV (As := [.ref (q 15)]) (rest := []) ⟨hx, hb, hml, hown, hts⟩ (kX6_appendRow l D (q 17) (q 18) (cA 8) (q 15) (q 16) (cA 7) 320 64 R38.1 R38.2 (R15.2 7) (R15.1 7) hc41 _) (cwV 1 hts gX3_writeWindow_X6_appendRow rfl rfl rfl (by decide +kernel) ⟨Nat.le_of_ble_eq_true rfl, Nat.le_of_ble_eq_true rfl⟩) (k_preV (q0 := 0) (ci := 5) hk (hK.sub [8, 7] rfl) NT_bl NT_u rfl rfl rfl) rfl rfl hl.1 rfl (lv_room (Nat.le_of_ble_eq_true rfl)) dX3_writeWindow_153 ⟨Nat.zero_le _, Nat.zero_le _⟩) hk hS (fun H locs hP hD hS => ?_)
    refine lv_aload_n hx hb dX3_writeWindow_156 rfl (lv_at hl 0 rfl) ?_
    refine va_get (D := D) (ci := 2) (v := .ref (q 5)) (C := RX3) (T := TX3) (N := 12) hx hb hts (fun w h => List.mem_cons_of_mem _ (List.mem_append_left _ (List.mem_append_right _ h))) hown hK hP 21 rfl rfl 2 (by decide) (hts (.fieldLink RX3 18 "DeltaWindows$Encoder" "delta" "LDeltaWindows$Row;") (List.mem_of_getElem? (i := 2) rfl)) (fun _ h9 => h9) rfl dX3_writeWindow_157 ?_
    refine lv_aload_n hx hb dX3_writeWindow_160 rfl (lv_at hl 0 rfl) ?_
    refine va_get (D := D) (ci := 2) (v := .ref (q 17)) (C := RX3) (T := TX3) (N := 12) hx hb hts (fun w h => List.mem_cons_of_mem _ (List.mem_append_left _ (List.mem_append_right _ h))) hown hK hP 21 rfl rfl 9 (by decide) (hts (.fieldLink RX3 52 "DeltaWindows$Encoder" "body" "LDeltaWindows$Row;") (List.mem_of_getElem? (i := 3) rfl)) (fun _ h9 => h9) rfl dX3_writeWindow_161 ?_
    obtain ⟨R42, hc43, hf⟩ := b_inv hf
    have hk := kcut (wc := (wR (q 17) (q 18) (cA 8) 320 R40.1 R40.2)) (wc' := (wR (q 17) (q 18) (cA 8) 320 R40.1 R40.2)) (wf := (wX q cA (va_up (va_up (va_up (va_up (va_up (va_up (va_up (va_up R15.1 8 R20.2) 8 R22.2) 8 R26.2) 8 R30.2) 8 R34.2) 8 R36.2) 8 R38.2) 8 R40.2) (va_up (va_up (va_up (va_up (va_up (va_up (va_up (va_up R15.2 8 R20.1) 8 R22.1) 8 R26.1) 8 R30.1) 8 R34.1) 8 R36.1) 8 R38.1) 8 R40.1) sg)) hP hD hS hA [17, 18] rfl (by decide) rfl rfl
    refine k_goI (va_runV (As := []) (rest := [.ref (q 5)]) ⟨hx, hb, hml, hown, hts⟩ (kX6_count l D (q 17) (q 18) (cA 8) 320 R40.1 R40.2 hc43 _) (cwV 0 hts gX3_writeWindow_X6_count rfl rfl rfl (by decide +kernel) ⟨Nat.le_of_ble_eq_true rfl, Nat.le_of_ble_eq_true rfl⟩) (k_preV (q0 := 0) (ci := 5) hk (hK.sub [8] rfl) NT_bl NT_u rfl rfl rfl) rfl rfl hl.1 rfl (lv_room (Nat.le_of_ble_eq_true rfl)) dX3_writeWindow_164 ⟨Nat.zero_le _, Nat.zero_le _⟩) hk hS (fun H locs hP hD hS => ?_)
    obtain ⟨R44, hc45, hf⟩ := b_inv hf
    have hk := kcut (wc := (wR (q 5) (q 6) (cA 2) 1000 (R15.2 2) (R15.1 2))) (wc' := (wR (q 5) (q 6) (cA 2) 1000 R44.1 R44.2)) (wf := (wX q cA (va_up (va_up (va_up (va_up (va_up (va_up (va_up (va_up (va_up R15.1 8 R20.2) 8 R22.2) 8 R26.2) 8 R30.2) 8 R34.2) 8 R36.2) 8 R38.2) 8 R40.2) 2 R44.2) (va_up (va_up (va_up (va_up (va_up (va_up (va_up (va_up (va_up R15.2 8 R20.1) 8 R22.1) 8 R26.1) 8 R30.1) 8 R34.1) 8 R36.1) 8 R38.1) 8 R40.1) 2 R44.1) sg)) hP hD hS hA [5, 6] rfl (by decide) rfl rfl
    refine k_goV (va_runV (As := [.int R42]) (rest := []) ⟨hx, hb, hml, hown, hts⟩ (kX6_appendInteger l D (q 5) (q 6) (cA 2) 1000 (R15.2 2) (R15.1 2) R42 hc45 _) (cwV 1 hts gX3_writeWindow_X6_appendInteger rfl rfl rfl (by decide +kernel) ⟨Nat.le_of_ble_eq_true rfl, Nat.le_of_ble_eq_true rfl⟩) (k_preV (q0 := 0) (ci := 5) hk (hK.sub [2] rfl) NT_bl NT_u rfl rfl rfl) rfl rfl hl.1 rfl (lv_room (Nat.le_of_ble_eq_true rfl)) dX3_writeWindow_167 ⟨Nat.zero_le _, Nat.zero_le _⟩) hk hS (fun H locs hP hD hS => ?_)
    refine lv_aload_n hx hb dX3_writeWindow_170 rfl (lv_at hl 0 rfl) ?_
    refine va_get (D := D) (ci := 2) (v := .ref (q 5)) (C := RX3) (T := TX3) (N := 12) hx hb hts (fun w h => List.mem_cons_of_mem _ (List.mem_append_left _ (List.mem_append_right _ h))) hown hK hP 21 rfl rfl 2 (by decide) (hts (.fieldLink RX3 18 "DeltaWindows$Encoder" "delta" "LDeltaWindows$Row;") (List.mem_of_getElem? (i := 2) rfl)) (fun _ h9 => h9) rfl dX3_writeWindow_171 ?_
    refine lv_aload_n hx hb dX3_writeWindow_174 rfl (lv_at hl 0 rfl) ?_
    refine va_get (D := D) (ci := 2) (v := .ref (q 17)) (C := RX3) (T := TX3) (N := 12) hx hb hts (fun w h => List.mem_cons_of_mem _ (List.mem_append_left _ (List.mem_append_right _ h))) hown hK hP 21 rfl rfl 9 (by decide) (hts (.fieldLink RX3 52 "DeltaWindows$Encoder" "body" "LDeltaWindows$Row;") (List.mem_of_getElem? (i := 3) rfl)) (fun _ h9 => h9) rfl dX3_writeWindow_175 ?_
    obtain ⟨R46, hc47, hf⟩ := b_inv hf
    have hk := kcut (wc := (wRR (q 5) (q 6) (cA 2) 1000 (q 17) (q 18) (cA 8) 320 R44.1 R44.2 R40.1 R40.2)) (wc' := (wRR (q 5) (q 6) (cA 2) 1000 (q 17) (q 18) (cA 8) 320 R46.1 R46.2 R40.1 R40.2)) (wf := (wX q cA (va_up (va_up (va_up (va_up (va_up (va_up (va_up (va_up (va_up (va_up R15.1 8 R20.2) 8 R22.2) 8 R26.2) 8 R30.2) 8 R34.2) 8 R36.2) 8 R38.2) 8 R40.2) 2 R44.2) 2 R46.2) (va_up (va_up (va_up (va_up (va_up (va_up (va_up (va_up (va_up (va_up R15.2 8 R20.1) 8 R22.1) 8 R26.1) 8 R30.1) 8 R34.1) 8 R36.1) 8 R38.1) 8 R40.1) 2 R44.1) 2 R46.1) sg)) hP hD hS hA [5, 6, 17, 18] rfl (by decide) rfl rfl
    refine k_goV (va_runV (As := [.ref (q 17)]) (rest := []) ⟨hx, hb, hml, hown, hts⟩ (kX6_appendRow l D (q 5) (q 6) (cA 2) (q 17) (q 18) (cA 8) 1000 320 R44.1 R44.2 R40.1 R40.2 hc47 _) (cwV 1 hts gX3_writeWindow_X6_appendRow rfl rfl rfl (by decide +kernel) ⟨Nat.le_of_ble_eq_true rfl, Nat.le_of_ble_eq_true rfl⟩) (k_preV (q0 := 0) (ci := 5) hk (hK.sub [2, 8] rfl) NT_bl NT_u rfl rfl rfl) rfl rfl hl.1 rfl (lv_room (Nat.le_of_ble_eq_true rfl)) dX3_writeWindow_178 ⟨Nat.zero_le _, Nat.zero_le _⟩) hk hS (fun H locs hP hD hS => ?_)
    obtain rfl := Option.some.inj hf
    exact k_retV hx hb hr hlocks hP hS dX3_writeWindow_181
  refine lv_if_ne (tgt := 21) hx hb dX3_writeWindow_7 (by decide) (fun c4 => ?_) (fun c4 => ?_)
  · rw [if_neg c4] at hj48
    refine lv_aload_n hx hb dX3_writeWindow_21 rfl (lv_at hl 0 rfl) ?_
    refine va_get (D := D) (ci := 2) (v := .ref (q 5)) (C := RX3) (T := TX3) (N := 12) hx hb hts (fun w h => List.mem_cons_of_mem _ (List.mem_append_left _ (List.mem_append_right _ h))) hown hK hP 21 rfl rfl 2 (by decide) (hts (.fieldLink RX3 18 "DeltaWindows$Encoder" "delta" "LDeltaWindows$Row;") (List.mem_of_getElem? (i := 2) rfl)) (fun _ h9 => h9) rfl dX3_writeWindow_22 ?_
    refine lv_iconst (v := (1 : Int32)) hx hb dX3_writeWindow_25 (by decide) ?_
    obtain ⟨R5, hc6, hj48⟩ := b_inv hj48
    have hk := kcut (wc := (wR (q 5) (q 6) (cA 2) 1000 (ar 2) (sc 2))) (wc' := (wR (q 5) (q 6) (cA 2) 1000 R5.1 R5.2)) (wf := (wX q cA (va_up sc 2 R5.2) (va_up ar 2 R5.1) sg)) hP hD hS hA [5, 6] rfl (by decide) rfl rfl
    refine k_goV (va_runV (As := [.int (1 : Int32)]) (rest := []) ⟨hx, hb, hml, hown, hts⟩ (kX6_append l D (q 5) (q 6) (cA 2) 1000 (ar 2) (sc 2) (1 : Int32) hc6 _) (cwV 1 hts gX3_writeWindow_X6_append rfl rfl rfl (by decide +kernel) ⟨Nat.le_of_ble_eq_true rfl, Nat.le_of_ble_eq_true rfl⟩) (k_preV (q0 := 0) (ci := 5) hk (hK.sub [2] rfl) NT_bl NT_u rfl rfl rfl) rfl rfl hl.1 rfl (lv_room (Nat.le_of_ble_eq_true rfl)) dX3_writeWindow_26 ⟨Nat.zero_le _, Nat.zero_le _⟩) hk hS (fun H locs hP hD hS => ?_)
    refine lv_aload_n hx hb dX3_writeWindow_29 rfl (lv_at hl 0 rfl) ?_
    refine va_get (D := D) (ci := 2) (v := .ref (q 5)) (C := RX3) (T := TX3) (N := 12) hx hb hts (fun w h => List.mem_cons_of_mem _ (List.mem_append_left _ (List.mem_append_right _ h))) hown hK hP 21 rfl rfl 2 (by decide) (hts (.fieldLink RX3 18 "DeltaWindows$Encoder" "delta" "LDeltaWindows$Row;") (List.mem_of_getElem? (i := 2) rfl)) (fun _ h9 => h9) rfl dX3_writeWindow_30 ?_
    refine lv_aload_n hx hb dX3_writeWindow_33 rfl (lv_at hl 0 rfl) ?_
    refine va_get (D := D) (ci := 2) (v := .ref (q 1)) (C := RX3) (T := TX3) (N := 12) hx hb hts (fun w h => List.mem_cons_of_mem _ (List.mem_append_left _ (List.mem_append_right _ h))) hown hK hP 21 rfl rfl 0 (by decide) (hts (.fieldLink RX3 9 "DeltaWindows$Encoder" "source" "LDeltaWindows$Row;") (List.mem_of_getElem? (i := 1) rfl)) (fun _ h9 => h9) rfl dX3_writeWindow_34 ?_
    obtain ⟨R7, hc8, hj48⟩ := b_inv hj48
    have hk := kcut (wc := (wR (q 1) (q 2) (cA 0) 48 (ar 0) (sc 0))) (wc' := (wR (q 1) (q 2) (cA 0) 48 (ar 0) (sc 0))) (wf := (wX q cA (va_up sc 2 R5.2) (va_up ar 2 R5.1) sg)) hP hD hS hA [1, 2] rfl (by decide) rfl rfl
    refine k_goI (va_runV (As := []) (rest := [.ref (q 5)]) ⟨hx, hb, hml, hown, hts⟩ (kX6_count l D (q 1) (q 2) (cA 0) 48 (ar 0) (sc 0) hc8 _) (cwV 0 hts gX3_writeWindow_X6_count rfl rfl rfl (by decide +kernel) ⟨Nat.le_of_ble_eq_true rfl, Nat.le_of_ble_eq_true rfl⟩) (k_preV (q0 := 0) (ci := 5) hk (hK.sub [0] rfl) NT_bl NT_u rfl rfl rfl) rfl rfl hl.1 rfl (lv_room (Nat.le_of_ble_eq_true rfl)) dX3_writeWindow_37 ⟨Nat.zero_le _, Nat.zero_le _⟩) hk hS (fun H locs hP hD hS => ?_)
    obtain ⟨R9, hc10, hj48⟩ := b_inv hj48
    have hk := kcut (wc := (wR (q 5) (q 6) (cA 2) 1000 R5.1 R5.2)) (wc' := (wR (q 5) (q 6) (cA 2) 1000 R9.1 R9.2)) (wf := (wX q cA (va_up (va_up sc 2 R5.2) 2 R9.2) (va_up (va_up ar 2 R5.1) 2 R9.1) sg)) hP hD hS hA [5, 6] rfl (by decide) rfl rfl
    refine k_goV (va_runV (As := [.int R7]) (rest := []) ⟨hx, hb, hml, hown, hts⟩ (kX6_appendInteger l D (q 5) (q 6) (cA 2) 1000 R5.1 R5.2 R7 hc10 _) (cwV 1 hts gX3_writeWindow_X6_appendInteger rfl rfl rfl (by decide +kernel) ⟨Nat.le_of_ble_eq_true rfl, Nat.le_of_ble_eq_true rfl⟩) (k_preV (q0 := 0) (ci := 5) hk (hK.sub [2] rfl) NT_bl NT_u rfl rfl rfl) rfl rfl hl.1 rfl (lv_room (Nat.le_of_ble_eq_true rfl)) dX3_writeWindow_40 ⟨Nat.zero_le _, Nat.zero_le _⟩) hk hS (fun H locs hP hD hS => ?_)
    refine lv_aload_n hx hb dX3_writeWindow_43 rfl (lv_at hl 0 rfl) ?_
    refine va_get (D := D) (ci := 2) (v := .ref (q 5)) (C := RX3) (T := TX3) (N := 12) hx hb hts (fun w h => List.mem_cons_of_mem _ (List.mem_append_left _ (List.mem_append_right _ h))) hown hK hP 21 rfl rfl 2 (by decide) (hts (.fieldLink RX3 18 "DeltaWindows$Encoder" "delta" "LDeltaWindows$Row;") (List.mem_of_getElem? (i := 2) rfl)) (fun _ h9 => h9) rfl dX3_writeWindow_44 ?_
    refine lv_iconst (v := (0 : Int32)) hx hb dX3_writeWindow_47 (by decide) ?_
    obtain ⟨R11, hc12, hj48⟩ := b_inv hj48
    have hk := kcut (wc := (wR (q 5) (q 6) (cA 2) 1000 R9.1 R9.2)) (wc' := (wR (q 5) (q 6) (cA 2) 1000 R11.1 R11.2)) (wf := (wX q cA (va_up (va_up (va_up sc 2 R5.2) 2 R9.2) 2 R11.2) (va_up (va_up (va_up ar 2 R5.1) 2 R9.1) 2 R11.1) sg)) hP hD hS hA [5, 6] rfl (by decide) rfl rfl
    refine k_goV (va_runV (As := [.int (0 : Int32)]) (rest := []) ⟨hx, hb, hml, hown, hts⟩ (kX6_appendInteger l D (q 5) (q 6) (cA 2) 1000 R9.1 R9.2 (0 : Int32) hc12 _) (cwV 1 hts gX3_writeWindow_X6_appendInteger rfl rfl rfl (by decide +kernel) ⟨Nat.le_of_ble_eq_true rfl, Nat.le_of_ble_eq_true rfl⟩) (k_preV (q0 := 0) (ci := 5) hk (hK.sub [2] rfl) NT_bl NT_u rfl rfl rfl) rfl rfl hl.1 rfl (lv_room (Nat.le_of_ble_eq_true rfl)) dX3_writeWindow_48 ⟨Nat.zero_le _, Nat.zero_le _⟩) hk hS (fun H locs hP hD hS => ?_)
    obtain rfl := Option.some.inj hj48
    exact kont _ _ _ (lv_sub hl [0] rfl) hP hD hS
  · rw [if_pos c4] at hj48
    refine lv_aload_n hx hb dX3_writeWindow_10 rfl (lv_at hl 0 rfl) ?_
    refine va_get (D := D) (ci := 2) (v := .ref (q 5)) (C := RX3) (T := TX3) (N := 12) hx hb hts (fun w h => List.mem_cons_of_mem _ (List.mem_append_left _ (List.mem_append_right _ h))) hown hK hP 21 rfl rfl 2 (by decide) (hts (.fieldLink RX3 18 "DeltaWindows$Encoder" "delta" "LDeltaWindows$Row;") (List.mem_of_getElem? (i := 2) rfl)) (fun _ h9 => h9) rfl dX3_writeWindow_11 ?_
    refine lv_iconst (v := (0 : Int32)) hx hb dX3_writeWindow_14 (by decide) ?_
    obtain ⟨R13, hc14, hj48⟩ := b_inv hj48
    have hk := kcut (wc := (wR (q 5) (q 6) (cA 2) 1000 (ar 2) (sc 2))) (wc' := (wR (q 5) (q 6) (cA 2) 1000 R13.1 R13.2)) (wf := (wX q cA (va_up sc 2 R13.2) (va_up ar 2 R13.1) sg)) hP hD hS hA [5, 6] rfl (by decide) rfl rfl
    refine k_goV (va_runV (As := [.int (0 : Int32)]) (rest := []) ⟨hx, hb, hml, hown, hts⟩ (kX6_append l D (q 5) (q 6) (cA 2) 1000 (ar 2) (sc 2) (0 : Int32) hc14 _) (cwV 1 hts gX3_writeWindow_X6_append rfl rfl rfl (by decide +kernel) ⟨Nat.le_of_ble_eq_true rfl, Nat.le_of_ble_eq_true rfl⟩) (k_preV (q0 := 0) (ci := 5) hk (hK.sub [2] rfl) NT_bl NT_u rfl rfl rfl) rfl rfl hl.1 rfl (lv_room (Nat.le_of_ble_eq_true rfl)) dX3_writeWindow_15 ⟨Nat.zero_le _, Nat.zero_le _⟩) hk hS (fun H locs hP hD hS => ?_)
    refine lv_goto (tgt := 51) hx hb dX3_writeWindow_18 (by decide) ?_
    obtain rfl := Option.some.inj hj48
    exact kont _ _ _ (lv_sub hl [0] rfl) hP hD hS

noncomputable def fX3_writeDelta_L18 (sg : Bool) (v1 : Int32) (v3 : Int32) : Nat → (Int32) → (Nat → Int32) → (Nat → Nat → Int32) → Option ((Nat → Int32) × (Nat → Nat → Int32))
  | 0, _, _, _ => none
  | k + 1, v4, sc, ar =>
    if v3 ≤ v4 then
      some (sc, ar)
    else
      if inb v4 5 = true then
      (fX6_append 1000 (ar 2) (sc 2) (HDf v4.toNatClampNeg)).bind fun R5 =>
      fX3_writeDelta_L18 sg v1 v3 k (v4 + (1 : Int32)) (va_up sc 2 R5.2) (va_up ar 2 R5.1)
      else none

noncomputable def fX3_writeDelta_L54 (sg : Bool) (v1 : Int32) : Nat → (Int32) → (Nat → Int32) → (Nat → Nat → Int32) → Option ((Nat → Int32) × (Nat → Nat → Int32))
  | 0, _, _, _ => none
  | k + 1, v2, sc, ar =>
    (fX6_count 64 (ar 1) (sc 1)).bind fun R11 =>
    if R11 ≤ v2 then
      some (sc, ar)
    else
      (fX6_count 64 (ar 1) (sc 1)).bind fun R14 =>
      (fX3_takePiece sc ar sg v2 (if R14 < (v2 + v1) then R14 else (v2 + v1))).bind fun R16 =>
      (fX3_findInstructions R16.1 R16.2 sg).bind fun R18 =>
      (fX3_chooseCodes R18.1 R18.2 sg).bind fun R20 =>
      (fX3_writeWindow R20.1 R20.2 sg).bind fun R22 =>
      fX3_writeDelta_L54 sg v1 k (v2 + (if (1 : Int32) < v1 then v1 else (1 : Int32))) R22.1 R22.2

noncomputable def fX3_writeDelta (sc : Nat → Int32) (ar : Nat → Nat → Int32) (sg : Bool) (x1 : Int32) : Option ((Nat → Int32) × (Nat → Nat → Int32)) :=
  (fX6_keep 1000 (ar 2) (sc 2) (0 : Int32)).bind fun R1 =>
  (fX3_writeDelta_L18 sg x1 (Int32.ofNat 5) FU (0 : Int32) (va_up sc 2 R1) ar).bind fun R7 =>
  (fX0_clear (R7.2 10) (R7.2 11) (R7.1 17)).bind fun R9 =>
  (fX3_writeDelta_L54 sg x1 FU (0 : Int32) (va_up R7.1 17 R9.2.2) (va_up (va_up R7.2 10 R9.1) 11 R9.2.1)).bind fun R24 =>
  some (R24.1, R24.2)

set_option maxHeartbeats 4000000 in
set_option maxRecDepth 100000 in
theorem kX3_writeDelta (l : Launch) (D : va_G) (hd : Nat) (q : Nat → Nat) (cA : Nat → ClassId) (sc : Nat → Int32) (ar : Nat → Nat → Int32) (sg : Bool) (x1 : Int32) {R : (Nat → Int32) × (Nat → Nat → Int32)} (hf : fX3_writeDelta sc ar sg x1 = some R) : MV l yX3_writeDelta wsX3_writeDelta (rmD 5) D ([.ref (q 21), .int x1] : List Value) (wX q cA sc ar sg) (tX cA) (NXH hd q) (wX q cA R.1 R.2 sg) := by
  refine MV.mk (cc := cX3_writeDelta) (maxL := 6) (ret := none) (by first | decide | decide +kernel) rfl (Nat.le_of_ble_eq_true rfl) ?_
  intro p e s m below meth cd A ls hE
  obtain ⟨hx, hb, hr, hml, hts, hown, hlocks, hP, hK, hD, hA, hN, hAe, hl⟩ := hE
  have hown : s.vm.findClass RX3 = some m.cls := hown
  have hS : va_S A s.heap s.heap [] := va_S.rf
  have hl : lv_has ls 6 [(0, .ref (q 21)), (1, .int x1)] := hl
  obtain ⟨hNx, hZ0, hXh, hdl, hdq⟩ := id hN
  have hZ : va_Z RX7 "HEAD" "[I" (.ref hd) A s s.heap := hZ0.narrow (fun a h => by rw [hAe] at h; exact wX_A h)
  have hdA : ¬ A hd := fun h => hdq (by rw [hAe] at h; exact wX_A h)
  rw [fX3_writeDelta] at hf
  refine lv_aload_n hx hb dX3_writeDelta_0 rfl (lv_at hl 0 rfl) ?_
  refine va_get (D := D) (ci := 2) (v := .ref (q 5)) (C := RX3) (T := TX3) (N := 12) hx hb hts (fun w h => List.mem_cons_of_mem _ (List.mem_append_left _ (List.mem_append_left _ (List.mem_append_left _ (List.mem_append_right _ h))))) hown hK hP 21 rfl rfl 2 (by decide) (hts (.fieldLink RX3 18 "DeltaWindows$Encoder" "delta" "LDeltaWindows$Row;") (List.mem_of_getElem? (i := 1) rfl)) (fun _ h9 => h9) rfl dX3_writeDelta_1 ?_
  refine lv_iconst (v := (0 : Int32)) hx hb dX3_writeDelta_4 (by decide) ?_
  obtain ⟨R1, hc2, hf⟩ := b_inv hf
  have hk := kcut (wc := (wR (q 5) (q 6) (cA 2) 1000 (ar 2) (sc 2))) (wc' := (wR (q 5) (q 6) (cA 2) 1000 (ar 2) R1)) (wf := (wX q cA (va_up sc 2 R1) ar sg)) hP hD hS hA [5, 6] rfl (by decide) rfl rfl
  refine k_goV (va_runV (As := [.int (0 : Int32)]) (rest := []) ⟨hx, hb, hml, hown, hts⟩ (kX6_keep l D (q 5) (q 6) (cA 2) 1000 (ar 2) (sc 2) (0 : Int32) hc2 _) (cwV 1 hts gX3_writeDelta_X6_keep rfl rfl rfl (by decide +kernel) ⟨Nat.le_of_ble_eq_true rfl, Nat.le_of_ble_eq_true rfl⟩) (k_preV (q0 := 0) (ci := 5) hk (hK.sub [2] rfl) NT_bl NT_u rfl rfl rfl) rfl rfl hl.1 rfl (lv_room (Nat.le_of_ble_eq_true rfl)) dX3_writeDelta_5 ⟨Nat.zero_le _, Nat.zero_le _⟩) hk hS (fun H locs hP hD hS => ?_)
  refine va_getsN hx hb hZ hS hown (va_Nw.use rfl hNx.2.2.2.2.2.1) (fun _ h9 => h9) dX3_writeDelta_8 ?_
  refine lv_astore_n (lv' := [(2, .ref hd), (0, .ref (q 21)), (1, .int x1)]) hx hb dX3_writeDelta_11 rfl hl (by decide) rfl (fun ls hl => ?_)
  refine lv_aload_n hx hb dX3_writeDelta_12 rfl (lv_at hl 0 rfl) ?_
  refine va_slen hx hb hXh hdl hdA hS dX3_writeDelta_13 ?_
  refine lv_istore_n (lv' := [(3, .int (Int32.ofNat 5)), (2, .ref hd), (0, .ref (q 21)), (1, .int x1)]) hx hb dX3_writeDelta_14 rfl hl (by decide) rfl (fun ls hl => ?_)
  refine lv_iconst (v := (0 : Int32)) hx hb dX3_writeDelta_15 (by decide) ?_
  refine lv_istore (lv' := [(4, .int (0 : Int32)), (3, .int (Int32.ofNat 5)), (2, .ref hd), (0, .ref (q 21)), (1, .int x1)]) hx hb dX3_writeDelta_16 hl (by decide) rfl (fun ls hl => ?_)
  have lp26 : ∀ (sg : Bool) (v1 : Int32) (v3 : Int32), ∀ (k : Nat) (v4 : Int32) (sc : Nat → Int32) (ar : Nat → Nat → Int32) (H : Heap) (locs : List Loc) (ls : Array Slot) (o : (Nat → Int32) × (Nat → Nat → Int32)), lv_has ls 6 [(4, .int v4), (1, .int v1), (3, .int v3), (0, .ref (q 21)), (2, .ref hd)] → va_P D vwCl (wX q cA sc ar sg) H → va_D A (wX q cA sc ar sg) → va_S A s.heap H locs → fX3_writeDelta_L18 sg v1 v3 k v4 sc ar = some o → (∀ (H : Heap) (locs : List Loc) (ls : Array Slot), lv_has ls 6 [(1, .int v1), (0, .ref (q 21))] → va_P D vwCl (wX q cA o.1 o.2 sg) H → va_D A (wX q cA o.1 o.2 sg) → va_S A s.heap H locs → W p l e (headSpec wsX3_writeDelta (rmD 5)).room s m ([.ref (q 21), .int x1] : List Value).toArray below meth cd H locs 0 0 (QV D below ([.ref (q 21), .int x1] : List Value).toArray s A (wX q cA R.1 R.2 sg)) (F0 m 45 ls [])) → W p l e (headSpec wsX3_writeDelta (rmD 5)).room s m ([.ref (q 21), .int x1] : List Value).toArray below meth cd H locs 0 0 (QV D below ([.ref (q 21), .int x1] : List Value).toArray s A (wX q cA R.1 R.2 sg)) (F0 m 18 ls []) := by
    intro sg v1 v3
    intro k
    induction k with
    | zero =>
      intro v4 sc ar H locs ls o hl hP hD hS hf
      exact absurd hf (by simp [fX3_writeDelta_L18])
    | succ k ih =>
      intro v4 sc ar H locs ls o hl hP hD hS hf kont
      rw [fX3_writeDelta_L18] at hf
      refine lv_iload hx hb dX3_writeDelta_18 (lv_at hl 0 rfl) ?_
      refine lv_iload_n hx hb dX3_writeDelta_20 rfl (lv_at hl 2 rfl) ?_
      refine lv_icmp_ge (tgt := 45) hx hb dX3_writeDelta_21 (by decide) (fun c3 => ?_) (fun c3 => ?_)
      · rw [if_pos c3] at hf
        obtain rfl := Option.some.inj hf
        exact kont _ _ _ (lv_sub hl [1, 3] rfl) hP hD hS
      · rw [if_neg c3] at hf
        refine lv_aload_n hx hb dX3_writeDelta_24 rfl (lv_at hl 4 rfl) ?_
        refine lv_iload hx hb dX3_writeDelta_25 (lv_at hl 0 rfl) ?_
        obtain ⟨g4, hf⟩ := g_inv hf
        refine va_sld hx hb hXh hdl hdA hS (inb_vp g4) dX3_writeDelta_27 ?_
        refine lv_istore (lv' := [(5, .int (HDf v4.toNatClampNeg)), (4, .int v4), (1, .int v1), (3, .int v3), (0, .ref (q 21)), (2, .ref hd)]) hx hb dX3_writeDelta_28 hl (by decide) rfl (fun ls hl => ?_)
        refine lv_aload_n hx hb dX3_writeDelta_30 rfl (lv_at hl 4 rfl) ?_
        refine va_get (D := D) (ci := 2) (v := .ref (q 5)) (C := RX3) (T := TX3) (N := 12) hx hb hts (fun w h => List.mem_cons_of_mem _ (List.mem_append_left _ (List.mem_append_left _ (List.mem_append_left _ (List.mem_append_right _ h))))) hown hK hP 21 rfl rfl 2 (by decide) (hts (.fieldLink RX3 18 "DeltaWindows$Encoder" "delta" "LDeltaWindows$Row;") (List.mem_of_getElem? (i := 1) rfl)) (fun _ h9 => h9) rfl dX3_writeDelta_31 ?_
        refine lv_iload hx hb dX3_writeDelta_34 (lv_at hl 0 rfl) ?_
        obtain ⟨R5, hc6, hf⟩ := b_inv hf
        have hk := kcut (wc := (wR (q 5) (q 6) (cA 2) 1000 (ar 2) (sc 2))) (wc' := (wR (q 5) (q 6) (cA 2) 1000 R5.1 R5.2)) (wf := (wX q cA (va_up sc 2 R5.2) (va_up ar 2 R5.1) sg)) hP hD hS hA [5, 6] rfl (by decide) rfl rfl
        refine k_goV (va_runV (As := [.int (HDf v4.toNatClampNeg)]) (rest := []) ⟨hx, hb, hml, hown, hts⟩ (kX6_append l D (q 5) (q 6) (cA 2) 1000 (ar 2) (sc 2) (HDf v4.toNatClampNeg) hc6 _) (cwV 1 hts gX3_writeDelta_X6_append rfl rfl rfl (by decide +kernel) ⟨Nat.le_of_ble_eq_true rfl, Nat.le_of_ble_eq_true rfl⟩) (k_preV (q0 := 0) (ci := 5) hk (hK.sub [2] rfl) NT_bl NT_u rfl rfl rfl) rfl rfl hl.1 rfl (lv_room (Nat.le_of_ble_eq_true rfl)) dX3_writeDelta_36 ⟨Nat.zero_le _, Nat.zero_le _⟩) hk hS (fun H locs hP hD hS => ?_)
        refine lv_iinc (v := (v4 + (1 : Int32))) (lv' := [(4, .int (v4 + (1 : Int32))), (5, .int (HDf v4.toNatClampNeg)), (1, .int v1), (3, .int v3), (0, .ref (q 21)), (2, .ref hd)]) hx hb dX3_writeDelta_39 hl (k := 1) rfl rfl (by decide) rfl (fun ls hl => ?_)
        refine lv_goto (tgt := 18) hx hb dX3_writeDelta_42 (by decide) ?_
        exact ih (v4 + (1 : Int32)) (va_up sc 2 R5.2) (va_up ar 2 R5.1) _ _ _ o (lv_sub hl [0, 2, 3, 4, 5] rfl) hP hD hS hf kont
  obtain ⟨R7, hc8, hf⟩ := b_inv hf
  refine lp26 sg x1 (Int32.ofNat 5) FU (0 : Int32) (va_up sc 2 R1) ar _ _ _ R7 (lv_sub hl [0, 4, 1, 3, 2] rfl) hP hD hS hc8 (fun H locs ls hl hP hD hS => ?_)
  refine lv_aload_n hx hb dX3_writeDelta_45 rfl (lv_at hl 1 rfl) ?_
  refine va_get (D := D) (ci := 2) (v := .ref (q 23)) (C := RX3) (T := TX3) (N := 12) hx hb hts (fun w h => List.mem_cons_of_mem _ (List.mem_append_left _ (List.mem_append_left _ (List.mem_append_left _ (List.mem_append_right _ h))))) hown hK hP 21 rfl rfl 3 (by decide) (hts (.fieldLink RX3 24 "DeltaWindows$Encoder" "caches" "LDeltaWindows$Caches;") (List.mem_of_getElem? (i := 2) rfl)) (fun _ h9 => h9) rfl dX3_writeDelta_46 ?_
  obtain ⟨R9, hc10, hf⟩ := b_inv hf
  have hk := kcut (wc := (wC (q 23) (q 24) (q 25) (cA 10) (cA 11) (R7.2 10) (R7.2 11) (R7.1 17))) (wc' := (wC (q 23) (q 24) (q 25) (cA 10) (cA 11) R9.1 R9.2.1 R9.2.2)) (wf := (wX q cA (va_up R7.1 17 R9.2.2) (va_up (va_up R7.2 10 R9.1) 11 R9.2.1) sg)) hP hD hS hA [23, 24, 25] rfl (by decide) rfl rfl
  refine k_goV (va_runV (As := []) (rest := []) ⟨hx, hb, hml, hown, hts⟩ (kX0_clear l D (q 23) (q 24) (q 25) (cA 10) (cA 11) (R7.2 10) (R7.2 11) (R7.1 17) hc10 _) (cwV 0 hts gX3_writeDelta_X0_clear rfl rfl rfl (by decide +kernel) ⟨Nat.le_of_ble_eq_true rfl, Nat.le_of_ble_eq_true rfl⟩) (k_preV (q0 := 0) (ci := 0) hk (hK.sub [10, 11] rfl) NT_bl NT_u rfl rfl rfl) rfl rfl hl.1 rfl (lv_room (Nat.le_of_ble_eq_true rfl)) dX3_writeDelta_49 ⟨Nat.zero_le _, Nat.zero_le _⟩) hk hS (fun H locs hP hD hS => ?_)
  refine lv_iconst (v := (0 : Int32)) hx hb dX3_writeDelta_52 (by decide) ?_
  refine lv_istore_n (lv' := [(2, .int (0 : Int32)), (1, .int x1), (0, .ref (q 21))]) hx hb dX3_writeDelta_53 rfl hl (by decide) rfl (fun ls hl => ?_)
  have lp27 : ∀ (sg : Bool) (v1 : Int32), ∀ (k : Nat) (v2 : Int32) (sc : Nat → Int32) (ar : Nat → Nat → Int32) (H : Heap) (locs : List Loc) (ls : Array Slot) (o : (Nat → Int32) × (Nat → Nat → Int32)), lv_has ls 6 [(2, .int v2), (1, .int v1), (0, .ref (q 21))] → va_P D vwCl (wX q cA sc ar sg) H → va_D A (wX q cA sc ar sg) → va_S A s.heap H locs → fX3_writeDelta_L54 sg v1 k v2 sc ar = some o → (∀ (H : Heap) (locs : List Loc) (ls : Array Slot), lv_has ls 6 [] → va_P D vwCl (wX q cA o.1 o.2 sg) H → va_D A (wX q cA o.1 o.2 sg) → va_S A s.heap H locs → W p l e (headSpec wsX3_writeDelta (rmD 5)).room s m ([.ref (q 21), .int x1] : List Value).toArray below meth cd H locs 0 0 (QV D below ([.ref (q 21), .int x1] : List Value).toArray s A (wX q cA R.1 R.2 sg)) (F0 m 106 ls [])) → W p l e (headSpec wsX3_writeDelta (rmD 5)).room s m ([.ref (q 21), .int x1] : List Value).toArray below meth cd H locs 0 0 (QV D below ([.ref (q 21), .int x1] : List Value).toArray s A (wX q cA R.1 R.2 sg)) (F0 m 54 ls []) := by
    intro sg v1
    intro k
    induction k with
    | zero =>
      intro v2 sc ar H locs ls o hl hP hD hS hf
      exact absurd hf (by simp [fX3_writeDelta_L54])
    | succ k ih =>
      intro v2 sc ar H locs ls o hl hP hD hS hf kont
      rw [fX3_writeDelta_L54] at hf
      refine lv_iload_n hx hb dX3_writeDelta_54 rfl (lv_at hl 0 rfl) ?_
      refine lv_aload_n hx hb dX3_writeDelta_55 rfl (lv_at hl 2 rfl) ?_
      refine va_get (D := D) (ci := 2) (v := .ref (q 3)) (C := RX3) (T := TX3) (N := 12) hx hb hts (fun w h => List.mem_cons_of_mem _ (List.mem_append_left _ (List.mem_append_left _ (List.mem_append_left _ (List.mem_append_right _ h))))) hown hK hP 21 rfl rfl 1 (by decide) (hts (.fieldLink RX3 15 "DeltaWindows$Encoder" "target" "LDeltaWindows$Row;") (List.mem_of_getElem? (i := 3) rfl)) (fun _ h9 => h9) rfl dX3_writeDelta_56 ?_
      obtain ⟨R11, hc12, hf⟩ := b_inv hf
      have hk := kcut (wc := (wR (q 3) (q 4) (cA 1) 64 (ar 1) (sc 1))) (wc' := (wR (q 3) (q 4) (cA 1) 64 (ar 1) (sc 1))) (wf := (wX q cA sc ar sg)) hP hD hS hA [3, 4] rfl (by decide) rfl rfl
      refine k_goI (va_runV (As := []) (rest := [.int v2]) ⟨hx, hb, hml, hown, hts⟩ (kX6_count l D (q 3) (q 4) (cA 1) 64 (ar 1) (sc 1) hc12 _) (cwV 0 hts gX3_writeDelta_X6_count rfl rfl rfl (by decide +kernel) ⟨Nat.le_of_ble_eq_true rfl, Nat.le_of_ble_eq_true rfl⟩) (k_preV (q0 := 0) (ci := 5) hk (hK.sub [1] rfl) NT_bl NT_u rfl rfl rfl) rfl rfl hl.1 rfl (lv_room (Nat.le_of_ble_eq_true rfl)) dX3_writeDelta_59 ⟨Nat.zero_le _, Nat.zero_le _⟩) hk hS (fun H locs hP hD hS => ?_)
      refine lv_icmp_ge (tgt := 106) hx hb dX3_writeDelta_62 (by decide) (fun c13 => ?_) (fun c13 => ?_)
      · rw [if_pos c13] at hf
        obtain rfl := Option.some.inj hf
        exact kont _ _ _ (lv_sub hl [] rfl) hP hD hS
      · rw [if_neg c13] at hf
        refine lv_aload_n hx hb dX3_writeDelta_65 rfl (lv_at hl 2 rfl) ?_
        refine lv_iload_n hx hb dX3_writeDelta_66 rfl (lv_at hl 0 rfl) ?_
        refine lv_iload_n hx hb dX3_writeDelta_67 rfl (lv_at hl 0 rfl) ?_
        refine lv_iload_n hx hb dX3_writeDelta_68 rfl (lv_at hl 1 rfl) ?_
        refine lv_iadd hx hb dX3_writeDelta_69 ?_
        refine lv_aload_n hx hb dX3_writeDelta_70 rfl (lv_at hl 2 rfl) ?_
        refine va_get (D := D) (ci := 2) (v := .ref (q 3)) (C := RX3) (T := TX3) (N := 12) hx hb hts (fun w h => List.mem_cons_of_mem _ (List.mem_append_left _ (List.mem_append_left _ (List.mem_append_left _ (List.mem_append_right _ h))))) hown hK hP 21 rfl rfl 1 (by decide) (hts (.fieldLink RX3 15 "DeltaWindows$Encoder" "target" "LDeltaWindows$Row;") (List.mem_of_getElem? (i := 3) rfl)) (fun _ h9 => h9) rfl dX3_writeDelta_71 ?_
        obtain ⟨R14, hc15, hf⟩ := b_inv hf
        have hk := kcut (wc := (wR (q 3) (q 4) (cA 1) 64 (ar 1) (sc 1))) (wc' := (wR (q 3) (q 4) (cA 1) 64 (ar 1) (sc 1))) (wf := (wX q cA sc ar sg)) hP hD hS hA [3, 4] rfl (by decide) rfl rfl
        refine k_goI (va_runV (As := []) (rest := [.int (v2 + v1), .int v2, .ref (q 21)]) ⟨hx, hb, hml, hown, hts⟩ (kX6_count l D (q 3) (q 4) (cA 1) 64 (ar 1) (sc 1) hc15 _) (cwV 0 hts gX3_writeDelta_X6_count rfl rfl rfl (by decide +kernel) ⟨Nat.le_of_ble_eq_true rfl, Nat.le_of_ble_eq_true rfl⟩) (k_preV (q0 := 0) (ci := 5) hk (hK.sub [1] rfl) NT_bl NT_u rfl rfl rfl) rfl rfl hl.1 rfl (lv_room (Nat.le_of_ble_eq_true rfl)) dX3_writeDelta_74 ⟨Nat.zero_le _, Nat.zero_le _⟩) hk hS (fun H locs hP hD hS => ?_)
        refine va_mmin hx hb (by rw [hml]; exact hl.1.symm) hown (hts (.methodLink RX3 79 Lib.Math.min.name) (List.mem_of_getElem? (i := 4) rfl)) (hts (.static Lib.Math.min.name) (List.mem_of_getElem? (i := 5) rfl)) (hts (.initialized "java/lang/Math") (List.mem_of_getElem? (i := 6) rfl)) (hts (.code Lib.Math.min.name Lib.Math.min.code 2 (some .int)) (List.mem_of_getElem? (i := 7) rfl)) (Nat.le_of_ble_eq_true rfl) (Nat.le_of_ble_eq_true rfl) (Nat.zero_le _) (Nat.zero_le _) dX3_writeDelta_77 ?_
        obtain ⟨R16, hc17, hf⟩ := b_inv hf
        have hk := kall (wc' := (wX q cA R16.1 R16.2 sg)) hP hD hS hA rfl
        refine k_goV (va_runV (As := [.int v2, .int (if R14 < (v2 + v1) then R14 else (v2 + v1))]) (rest := []) ⟨hx, hb, hml, hown, hts⟩ (kX3_takePiece l D q cA sc ar sg v2 (if R14 < (v2 + v1) then R14 else (v2 + v1)) hc17 _) (cwV 2 hts gX3_writeDelta_X3_takePiece rfl rfl rfl (by decide +kernel) ⟨Nat.le_of_ble_eq_true rfl, Nat.le_of_ble_eq_true rfl⟩) (k_preV (q0 := 21) (ci := 2) hk hK NX_bl (fun U _ hW => NX_w hW hNx) rfl rfl rfl) rfl rfl hl.1 rfl (lv_room (Nat.le_of_ble_eq_true rfl)) dX3_writeDelta_80 ⟨Nat.zero_le _, Nat.zero_le _⟩) hk hS (fun H locs hP hD hS => ?_)
        refine lv_aload_n hx hb dX3_writeDelta_83 rfl (lv_at hl 2 rfl) ?_
        obtain ⟨R18, hc19, hf⟩ := b_inv hf
        have hk := kall (wc' := (wX q cA R18.1 R18.2 sg)) hP hD hS hA rfl
        refine k_goV (va_runV (As := []) (rest := []) ⟨hx, hb, hml, hown, hts⟩ (kX3_findInstructions l D q cA R16.1 R16.2 sg hc19 _) (cwV 0 hts gX3_writeDelta_X3_findInstructions rfl rfl rfl (by decide +kernel) ⟨Nat.le_of_ble_eq_true rfl, Nat.le_of_ble_eq_true rfl⟩) (k_preV (q0 := 21) (ci := 2) hk hK NX_bl (fun U _ hW => NX_w hW hNx) rfl rfl rfl) rfl rfl hl.1 rfl (lv_room (Nat.le_of_ble_eq_true rfl)) dX3_writeDelta_84 ⟨Nat.zero_le _, Nat.zero_le _⟩) hk hS (fun H locs hP hD hS => ?_)
        refine lv_aload_n hx hb dX3_writeDelta_87 rfl (lv_at hl 2 rfl) ?_
        obtain ⟨R20, hc21, hf⟩ := b_inv hf
        have hk := kall (wc' := (wX q cA R20.1 R20.2 sg)) hP hD hS hA rfl
        refine k_goV (va_runV (As := []) (rest := []) ⟨hx, hb, hml, hown, hts⟩ (kX3_chooseCodes l D q cA R18.1 R18.2 sg hc21 _) (cwV 0 hts gX3_writeDelta_X3_chooseCodes rfl rfl rfl (by decide +kernel) ⟨Nat.le_of_ble_eq_true rfl, Nat.le_of_ble_eq_true rfl⟩) (k_preV (q0 := 21) (ci := 2) hk hK NX_bl (fun U _ hW => NX_w hW hNx) rfl rfl rfl) rfl rfl hl.1 rfl (lv_room (Nat.le_of_ble_eq_true rfl)) dX3_writeDelta_88 ⟨Nat.zero_le _, Nat.zero_le _⟩) hk hS (fun H locs hP hD hS => ?_)
        refine lv_aload_n hx hb dX3_writeDelta_91 rfl (lv_at hl 2 rfl) ?_
        obtain ⟨R22, hc23, hf⟩ := b_inv hf
        have hk := kall (wc' := (wX q cA R22.1 R22.2 sg)) hP hD hS hA rfl
        refine k_goV (va_runV (As := []) (rest := []) ⟨hx, hb, hml, hown, hts⟩ (kX3_writeWindow l D q cA R20.1 R20.2 sg hc23 _) (cwV 0 hts gX3_writeDelta_X3_writeWindow rfl rfl rfl (by decide +kernel) ⟨Nat.le_of_ble_eq_true rfl, Nat.le_of_ble_eq_true rfl⟩) (k_preV (q0 := 21) (ci := 2) hk hK NX_bl (fun U _ hW => NX_w hW hNx) rfl rfl rfl) rfl rfl hl.1 rfl (lv_room (Nat.le_of_ble_eq_true rfl)) dX3_writeDelta_92 ⟨Nat.zero_le _, Nat.zero_le _⟩) hk hS (fun H locs hP hD hS => ?_)
        refine lv_iload_n hx hb dX3_writeDelta_95 rfl (lv_at hl 0 rfl) ?_
        refine lv_iconst (v := (1 : Int32)) hx hb dX3_writeDelta_96 (by decide) ?_
        refine lv_iload_n hx hb dX3_writeDelta_97 rfl (lv_at hl 1 rfl) ?_
        refine va_mmax hx hb (by rw [hml]; exact hl.1.symm) hown (hts (.methodLink RX3 98 Lib.Math.max.name) (List.mem_of_getElem? (i := 8) rfl)) (hts (.static Lib.Math.max.name) (List.mem_of_getElem? (i := 9) rfl)) (hts (.initialized "java/lang/Math") (List.mem_of_getElem? (i := 6) rfl)) (hts (.code Lib.Math.max.name Lib.Math.max.code 2 (some .int)) (List.mem_of_getElem? (i := 10) rfl)) (Nat.le_of_ble_eq_true rfl) (Nat.le_of_ble_eq_true rfl) (Nat.zero_le _) (Nat.zero_le _) dX3_writeDelta_98 ?_
        refine lv_iadd hx hb dX3_writeDelta_101 ?_
        refine lv_istore_n (lv' := [(2, .int (v2 + (if (1 : Int32) < v1 then v1 else (1 : Int32)))), (1, .int v1), (0, .ref (q 21))]) hx hb dX3_writeDelta_102 rfl hl (by decide) rfl (fun ls hl => ?_)
        refine lv_goto (tgt := 54) hx hb dX3_writeDelta_103 (by decide) ?_
        exact ih (v2 + (if (1 : Int32) < v1 then v1 else (1 : Int32))) R22.1 R22.2 _ _ _ o (lv_sub hl [0, 1, 2] rfl) hP hD hS hf kont
  obtain ⟨R24, hc25, hf⟩ := b_inv hf
  refine lp27 sg x1 FU (0 : Int32) (va_up R7.1 17 R9.2.2) (va_up (va_up R7.2 10 R9.1) 11 R9.2.1) _ _ _ R24 (lv_sub hl [0, 1, 2] rfl) hP hD hS hc25 (fun H locs ls hl hP hD hS => ?_)
  obtain rfl := Option.some.inj hf
  exact k_retV hx hb hr hlocks hP hS dX3_writeDelta_106
