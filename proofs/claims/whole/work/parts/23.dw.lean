noncomputable def fX7_isByte (x0 : Int32) : Option (Int32) :=
  if x0 < 0 then
    some (0 : Int32)
  else
    if (255 : Int32) < x0 then
      some (0 : Int32)
    else
      some (1 : Int32)

set_option maxHeartbeats 4000000 in
set_option maxRecDepth 100000 in
theorem kX7_isByte (l : Launch) (D : va_G) (x0 : Int32) {R : Int32} (hf : fX7_isByte x0 = some R) : MI l yX7_isByte wsX7_isByte (rmD 0) D ([.int x0] : List Value) ([] : va_W) [] NT R ([] : va_W) := by
  refine MI.mk (cc := cX7_isByte) (maxL := 1) (ret := (some .boolean)) (by first | decide | decide +kernel) rfl (Nat.le_of_ble_eq_true rfl) ?_
  intro p e s m below meth cd A ls hE
  obtain ⟨hx, hb, hr, hml, hts, hown, hlocks, hP, hK, hD, hA, hN, hAe, hl⟩ := hE
  have hown : s.vm.findClass RX7 = some m.cls := hown
  have hS : va_S A s.heap s.heap [] := va_S.rf
  have hl : lv_has ls 1 [(0, .int x0)] := hl
  rw [fX7_isByte] at hf
  refine lv_iload_n hx hb dX7_isByte_0 rfl (lv_at hl 0 rfl) ?_
  refine lv_if_lt (tgt := 15) hx hb dX7_isByte_1 (by decide) (fun c1 => ?_) (fun c1 => ?_)
  · rw [if_pos c1] at hf
    refine lv_iconst (v := (0 : Int32)) hx hb dX7_isByte_15 (by decide) ?_
    obtain rfl := Option.some.inj hf
    exact k_retZ hx hb hr hlocks hP hS rfl dX7_isByte_16
  · rw [if_neg c1] at hf
    refine lv_iload_n hx hb dX7_isByte_4 rfl (lv_at hl 0 rfl) ?_
    refine lv_sipush (v := (255 : Int32)) hx hb dX7_isByte_5 (by decide) ?_
    refine lv_icmp_gt (tgt := 15) hx hb dX7_isByte_8 (by decide) (fun c2 => ?_) (fun c2 => ?_)
    · rw [if_pos c2] at hf
      refine lv_iconst (v := (0 : Int32)) hx hb dX7_isByte_15 (by decide) ?_
      obtain rfl := Option.some.inj hf
      exact k_retZ hx hb hr hlocks hP hS rfl dX7_isByte_16
    · rw [if_neg c2] at hf
      refine lv_iconst (v := (1 : Int32)) hx hb dX7_isByte_11 (by decide) ?_
      refine lv_goto (tgt := 16) hx hb dX7_isByte_12 (by decide) ?_
      obtain rfl := Option.some.inj hf
      exact k_retZ hx hb hr hlocks hP hS rfl dX7_isByte_16

noncomputable def fX7_anyRow (sc : Nat → Int32) (ar : Nat → Nat → Int32) (sg : Bool) (x1 : Int32) : Option (Option Nat) :=
  if x1 = (0 : Int32) then
    some (some 0)
  else
    if x1 = (1 : Int32) then
      some (some 1)
    else
      if x1 = (2 : Int32) then
        some (some 2)
      else
        if x1 = (3 : Int32) then
          some (some 3)
        else
          some (none : Option Nat)

set_option maxHeartbeats 4000000 in
set_option maxRecDepth 100000 in
theorem kX7_anyRow (l : Launch) (D : va_G) (q : Nat → Nat) (cA : Nat → ClassId) (sc : Nat → Int32) (ar : Nat → Nat → Int32) (sg : Bool) (x1 : Int32) {R : Option Nat} (hf : fX7_anyRow sc ar sg x1 = some R) : MR l yX7_anyRow wsX7_anyRow (rmD 0) D ([.ref (q 0), .int x1] : List Value) (wX q cA sc ar sg) (tX cA) NX (R.map (fun k => q (1 + 2 * k))) (wX q cA sc ar sg) := by
  refine MR.mk (cc := cX7_anyRow) (maxL := 2) (ret := (some (.object "DeltaWindows$Row"))) (by first | decide | decide +kernel) rfl (Nat.le_of_ble_eq_true rfl) ?_
  intro p e s m below meth cd A ls hE
  obtain ⟨hx, hb, hr, hml, hts, hown, hlocks, hP, hK, hD, hA, hN, hAe, hl⟩ := hE
  have hown : s.vm.findClass RX7 = some m.cls := hown
  have hS : va_S A s.heap s.heap [] := va_S.rf
  have hl : lv_has ls 2 [(0, .ref (q 0)), (1, .int x1)] := hl
  rw [fX7_anyRow] at hf
  refine lv_iload_n hx hb dX7_anyRow_0 rfl (lv_at hl 1 rfl) ?_
  by_cases c1 : x1 = (0 : Int32)
  · rw [if_pos c1] at hf
    refine lv_tableIn (tgt := 32) hx hb dX7_anyRow_1 (by rw [c1]; decide) (by rw [c1]; decide) (by rw [c1]; rfl) (by decide) ?_
    refine lv_aload_n hx hb dX7_anyRow_32 rfl (lv_at hl 0 rfl) ?_
    refine va_get (D := D) (ci := 6) (v := .ref (q 1)) (C := RX7) (T := TX7) (N := 8) hx hb hts (fun w h => List.mem_cons_of_mem _ (List.mem_append_right _ h)) hown hK hP 0 rfl rfl 0 (by decide) (hts (.fieldLink RX7 14 "DeltaWindows" "source" "LDeltaWindows$Row;") (List.mem_of_getElem? (i := 1) rfl)) (fun _ h9 => h9) rfl dX7_anyRow_33 ?_
    obtain rfl := Option.some.inj hf
    exact k_retR hx hb hr (Or.inl ⟨_, rfl⟩) hlocks hP hS dX7_anyRow_36
  · rw [if_neg c1] at hf
    by_cases c2 : x1 = (1 : Int32)
    · rw [if_pos c2] at hf
      refine lv_tableIn (tgt := 37) hx hb dX7_anyRow_1 (by rw [c2]; decide) (by rw [c2]; decide) (by rw [c2]; rfl) (by decide) ?_
      refine lv_aload_n hx hb dX7_anyRow_37 rfl (lv_at hl 0 rfl) ?_
      refine va_get (D := D) (ci := 6) (v := .ref (q 3)) (C := RX7) (T := TX7) (N := 8) hx hb hts (fun w h => List.mem_cons_of_mem _ (List.mem_append_right _ h)) hown hK hP 0 rfl rfl 1 (by decide) (hts (.fieldLink RX7 18 "DeltaWindows" "target" "LDeltaWindows$Row;") (List.mem_of_getElem? (i := 2) rfl)) (fun _ h9 => h9) rfl dX7_anyRow_38 ?_
      obtain rfl := Option.some.inj hf
      exact k_retR hx hb hr (Or.inl ⟨_, rfl⟩) hlocks hP hS dX7_anyRow_41
    · rw [if_neg c2] at hf
      by_cases c3 : x1 = (2 : Int32)
      · rw [if_pos c3] at hf
        refine lv_tableIn (tgt := 42) hx hb dX7_anyRow_1 (by rw [c3]; decide) (by rw [c3]; decide) (by rw [c3]; rfl) (by decide) ?_
        refine lv_aload_n hx hb dX7_anyRow_42 rfl (lv_at hl 0 rfl) ?_
        refine va_get (D := D) (ci := 6) (v := .ref (q 5)) (C := RX7) (T := TX7) (N := 8) hx hb hts (fun w h => List.mem_cons_of_mem _ (List.mem_append_right _ h)) hown hK hP 0 rfl rfl 2 (by decide) (hts (.fieldLink RX7 21 "DeltaWindows" "delta" "LDeltaWindows$Row;") (List.mem_of_getElem? (i := 3) rfl)) (fun _ h9 => h9) rfl dX7_anyRow_43 ?_
        obtain rfl := Option.some.inj hf
        exact k_retR hx hb hr (Or.inl ⟨_, rfl⟩) hlocks hP hS dX7_anyRow_46
      · rw [if_neg c3] at hf
        by_cases c4 : x1 = (3 : Int32)
        · rw [if_pos c4] at hf
          refine lv_tableIn (tgt := 47) hx hb dX7_anyRow_1 (by rw [c4]; decide) (by rw [c4]; decide) (by rw [c4]; rfl) (by decide) ?_
          refine lv_aload_n hx hb dX7_anyRow_47 rfl (lv_at hl 0 rfl) ?_
          refine va_get (D := D) (ci := 6) (v := .ref (q 7)) (C := RX7) (T := TX7) (N := 8) hx hb hts (fun w h => List.mem_cons_of_mem _ (List.mem_append_right _ h)) hown hK hP 0 rfl rfl 3 (by decide) (hts (.fieldLink RX7 24 "DeltaWindows" "output" "LDeltaWindows$Row;") (List.mem_of_getElem? (i := 4) rfl)) (fun _ h9 => h9) rfl dX7_anyRow_48 ?_
          obtain rfl := Option.some.inj hf
          exact k_retR hx hb hr (Or.inl ⟨_, rfl⟩) hlocks hP hS dX7_anyRow_51
        · rw [if_neg c4] at hf
          refine lv_tableOut (tgt := 52) hx hb dX7_anyRow_1 (by have := lv_neT (a := 0) c1 (by decide); have := lv_neT (a := 1) c2 (by decide); have := lv_neT (a := 2) c3 (by decide); have := lv_neT (a := 3) c4 (by decide); omega) (by decide) ?_
          refine lv_null hx hb dX7_anyRow_52 ?_
          obtain rfl := Option.some.inj hf
          exact k_retR hx hb hr (Or.inl ⟨_, rfl⟩) hlocks hP hS dX7_anyRow_53

noncomputable def fX7_inputRow (sc : Nat → Int32) (ar : Nat → Nat → Int32) (sg : Bool) (x1 : Int32) : Option (Option Nat) :=
  if x1 = (3 : Int32) then
    some (none : Option Nat)
  else
    (fX7_anyRow sc ar sg x1).bind fun R2 =>
    if R2 = none then
      some (none : Option Nat)
    else
      if R2 = some 0 then
        some (some 0)
      else
        if R2 = some 1 then
          some (some 1)
        else
          if R2 = some 2 then
            some (some 2)
          else
            if R2 = some 3 then
              some (some 3)
            else
              none

set_option maxHeartbeats 4000000 in
set_option maxRecDepth 100000 in
theorem kX7_inputRow (l : Launch) (D : va_G) (q : Nat → Nat) (cA : Nat → ClassId) (sc : Nat → Int32) (ar : Nat → Nat → Int32) (sg : Bool) (x1 : Int32) {R : Option Nat} (hf : fX7_inputRow sc ar sg x1 = some R) : MR l yX7_inputRow wsX7_inputRow (rmD 1) D ([.ref (q 0), .int x1] : List Value) (wX q cA sc ar sg) (tX cA) NX (R.map (fun k => q (1 + 2 * k))) (wX q cA sc ar sg) := by
  refine MR.mk (cc := cX7_inputRow) (maxL := 2) (ret := (some (.object "DeltaWindows$Row"))) (by first | decide | decide +kernel) rfl (Nat.le_of_ble_eq_true rfl) ?_
  intro p e s m below meth cd A ls hE
  obtain ⟨hx, hb, hr, hml, hts, hown, hlocks, hP, hK, hD, hA, hN, hAe, hl⟩ := hE
  have hown : s.vm.findClass RX7 = some m.cls := hown
  have hS : va_S A s.heap s.heap [] := va_S.rf
  have hl : lv_has ls 2 [(0, .ref (q 0)), (1, .int x1)] := hl
  rw [fX7_inputRow] at hf
  refine lv_iload_n hx hb dX7_inputRow_0 rfl (lv_at hl 1 rfl) ?_
  refine lv_iconst (v := (3 : Int32)) hx hb dX7_inputRow_1 (by decide) ?_
  refine lv_icmp_ne (tgt := 9) hx hb dX7_inputRow_2 (by decide) (fun c1 => ?_) (fun c1 => ?_)
  · rw [if_neg c1] at hf
    refine lv_aload_n hx hb dX7_inputRow_9 rfl (lv_at hl 0 rfl) ?_
    refine lv_iload_n hx hb dX7_inputRow_10 rfl (lv_at hl 1 rfl) ?_
    obtain ⟨R2, hc3, hf⟩ := b_inv hf
    have hk := kall (wc' := (wX q cA sc ar sg)) hP hD hS hA rfl
    refine k_goR (va_runV (As := [.int x1]) (rest := []) ⟨hx, hb, hml, hown, hts⟩ (kX7_anyRow l D q cA sc ar sg x1 hc3 _) (cwV 1 hts gX7_inputRow_X7_anyRow rfl rfl rfl (by decide +kernel) ⟨Nat.le_of_ble_eq_true rfl, Nat.le_of_ble_eq_true rfl⟩) (k_preV (q0 := 0) (ci := 6) hk hK NX_bl (fun U _ hW => NX_w hW hN) rfl rfl rfl) rfl rfl hl.1 rfl (lv_room (Nat.le_of_ble_eq_true rfl)) dX7_inputRow_11 ⟨Nat.zero_le _, Nat.zero_le _⟩) hk hS (fun H locs hP hD hS => ?_)
    by_cases c4 : R2 = none
    · rw [if_pos c4] at hf
      subst c4
      refine W.eq (g2 := F0 m 14 ls [.null]) rfl ?_
      obtain rfl := Option.some.inj hf
      exact k_retR hx hb hr (Or.inl ⟨_, rfl⟩) hlocks hP hS dX7_inputRow_14
    · rw [if_neg c4] at hf
      by_cases c5 : R2 = some 0
      · rw [if_pos c5] at hf
        subst c5
        refine W.eq (g2 := F0 m 14 ls [.ref (q 1)]) rfl ?_
        obtain rfl := Option.some.inj hf
        exact k_retR hx hb hr (Or.inl ⟨_, rfl⟩) hlocks hP hS dX7_inputRow_14
      · rw [if_neg c5] at hf
        by_cases c6 : R2 = some 1
        · rw [if_pos c6] at hf
          subst c6
          refine W.eq (g2 := F0 m 14 ls [.ref (q 3)]) rfl ?_
          obtain rfl := Option.some.inj hf
          exact k_retR hx hb hr (Or.inl ⟨_, rfl⟩) hlocks hP hS dX7_inputRow_14
        · rw [if_neg c6] at hf
          by_cases c7 : R2 = some 2
          · rw [if_pos c7] at hf
            subst c7
            refine W.eq (g2 := F0 m 14 ls [.ref (q 5)]) rfl ?_
            obtain rfl := Option.some.inj hf
            exact k_retR hx hb hr (Or.inl ⟨_, rfl⟩) hlocks hP hS dX7_inputRow_14
          · rw [if_neg c7] at hf
            by_cases c8 : R2 = some 3
            · rw [if_pos c8] at hf
              subst c8
              refine W.eq (g2 := F0 m 14 ls [.ref (q 7)]) rfl ?_
              obtain rfl := Option.some.inj hf
              exact k_retR hx hb hr (Or.inl ⟨_, rfl⟩) hlocks hP hS dX7_inputRow_14
            · rw [if_neg c8] at hf
              exact absurd hf (by simp)
  · rw [if_pos c1] at hf
    refine lv_null hx hb dX7_inputRow_5 ?_
    refine lv_goto (tgt := 14) hx hb dX7_inputRow_6 (by decide) ?_
    obtain rfl := Option.some.inj hf
    exact k_retR hx hb hr (Or.inl ⟨_, rfl⟩) hlocks hP hS dX7_inputRow_14

noncomputable def fX7_put_L44_source (sg : Bool) (v2 : Int32) (v3 : Int32) : Nat → (Int32) → (Nat → Int32) → (Nat → Nat → Int32) → Option ((Nat → Int32) × (Nat → Nat → Int32))
  | 0, _, _, _ => none
  | k + 1, v5, sc, ar =>
    if v3 ≤ v5 then
      some (sc, ar)
    else
      (fX6_append 48 (ar 0) (sc 0) v2).bind fun R14 =>
      fX7_put_L44_source sg v2 v3 k (v5 + (1 : Int32)) (va_up sc 0 R14.2) (va_up ar 0 R14.1)

noncomputable def fX7_put_L44_target (sg : Bool) (v2 : Int32) (v3 : Int32) : Nat → (Int32) → (Nat → Int32) → (Nat → Nat → Int32) → Option ((Nat → Int32) × (Nat → Nat → Int32))
  | 0, _, _, _ => none
  | k + 1, v5, sc, ar =>
    if v3 ≤ v5 then
      some (sc, ar)
    else
      (fX6_append 64 (ar 1) (sc 1) v2).bind fun R28 =>
      fX7_put_L44_target sg v2 v3 k (v5 + (1 : Int32)) (va_up sc 1 R28.2) (va_up ar 1 R28.1)

noncomputable def fX7_put_L44_delta (sg : Bool) (v2 : Int32) (v3 : Int32) : Nat → (Int32) → (Nat → Int32) → (Nat → Nat → Int32) → Option ((Nat → Int32) × (Nat → Nat → Int32))
  | 0, _, _, _ => none
  | k + 1, v5, sc, ar =>
    if v3 ≤ v5 then
      some (sc, ar)
    else
      (fX6_append 1000 (ar 2) (sc 2) v2).bind fun R42 =>
      fX7_put_L44_delta sg v2 v3 k (v5 + (1 : Int32)) (va_up sc 2 R42.2) (va_up ar 2 R42.1)

noncomputable def fX7_put_L44_output (sg : Bool) (v2 : Int32) (v3 : Int32) : Nat → (Int32) → (Nat → Int32) → (Nat → Nat → Int32) → Option ((Nat → Int32) × (Nat → Nat → Int32))
  | 0, _, _, _ => none
  | k + 1, v5, sc, ar =>
    if v3 ≤ v5 then
      some (sc, ar)
    else
      (fX6_append 400 (ar 3) (sc 3) v2).bind fun R56 =>
      fX7_put_L44_output sg v2 v3 k (v5 + (1 : Int32)) (va_up sc 3 R56.2) (va_up ar 3 R56.1)

noncomputable def fX7_put (sc : Nat → Int32) (ar : Nat → Nat → Int32) (sg : Bool) (x1 : Int32) (x2 : Int32) (x3 : Int32) : Option (Int32 × (Nat → Int32) × (Nat → Nat → Int32)) :=
  (fX7_inputRow sc ar sg x1).bind fun R1 =>
  if R1 = none then
    some ((0 : Int32), sc, ar)
  else
    if R1 = some 0 then
      (fX7_isByte x2).bind fun R5 =>
      if R5 = 0 then
        some ((0 : Int32), sc, ar)
      else
        if x3 < (1 : Int32) then
          some ((0 : Int32), sc, ar)
        else
          if (16 : Int32) < x3 then
            some ((0 : Int32), sc, ar)
          else
            (fX6_room 48 (ar 0) (sc 0)).bind fun R10 =>
            if x3 ≤ R10 then
              (fX7_put_L44_source sg x2 x3 FU (0 : Int32) sc ar).bind fun R16 =>
              some ((1 : Int32), R16.1, R16.2)
            else
              some ((0 : Int32), sc, ar)
    else
      if R1 = some 1 then
        (fX7_isByte x2).bind fun R19 =>
        if R19 = 0 then
          some ((0 : Int32), sc, ar)
        else
          if x3 < (1 : Int32) then
            some ((0 : Int32), sc, ar)
          else
            if (16 : Int32) < x3 then
              some ((0 : Int32), sc, ar)
            else
              (fX6_room 64 (ar 1) (sc 1)).bind fun R24 =>
              if x3 ≤ R24 then
                (fX7_put_L44_target sg x2 x3 FU (0 : Int32) sc ar).bind fun R30 =>
                some ((1 : Int32), R30.1, R30.2)
              else
                some ((0 : Int32), sc, ar)
      else
        if R1 = some 2 then
          (fX7_isByte x2).bind fun R33 =>
          if R33 = 0 then
            some ((0 : Int32), sc, ar)
          else
            if x3 < (1 : Int32) then
              some ((0 : Int32), sc, ar)
            else
              if (16 : Int32) < x3 then
                some ((0 : Int32), sc, ar)
              else
                (fX6_room 1000 (ar 2) (sc 2)).bind fun R38 =>
                if x3 ≤ R38 then
                  (fX7_put_L44_delta sg x2 x3 FU (0 : Int32) sc ar).bind fun R44 =>
                  some ((1 : Int32), R44.1, R44.2)
                else
                  some ((0 : Int32), sc, ar)
        else
          if R1 = some 3 then
            (fX7_isByte x2).bind fun R47 =>
            if R47 = 0 then
              some ((0 : Int32), sc, ar)
            else
              if x3 < (1 : Int32) then
                some ((0 : Int32), sc, ar)
              else
                if (16 : Int32) < x3 then
                  some ((0 : Int32), sc, ar)
                else
                  (fX6_room 400 (ar 3) (sc 3)).bind fun R52 =>
                  if x3 ≤ R52 then
                    (fX7_put_L44_output sg x2 x3 FU (0 : Int32) sc ar).bind fun R58 =>
                    some ((1 : Int32), R58.1, R58.2)
                  else
                    some ((0 : Int32), sc, ar)
          else
            none

set_option maxHeartbeats 4000000 in
set_option maxRecDepth 100000 in
theorem kX7_put (l : Launch) (D : va_G) (q : Nat → Nat) (cA : Nat → ClassId) (sc : Nat → Int32) (ar : Nat → Nat → Int32) (sg : Bool) (x1 : Int32) (x2 : Int32) (x3 : Int32) {R : Int32 × (Nat → Int32) × (Nat → Nat → Int32)} (hf : fX7_put sc ar sg x1 x2 x3 = some R) : MI l yX7_put wsX7_put (rmD 2) D ([.ref (q 0), .int x1, .int x2, .int x3] : List Value) (wX q cA sc ar sg) (tX cA) NX R.1 (wX q cA R.2.1 R.2.2 sg) := by
  refine MI.mk (cc := cX7_put) (maxL := 6) (ret := (some .boolean)) (by first | decide | decide +kernel) rfl (Nat.le_of_ble_eq_true rfl) ?_
  intro p e s m below meth cd A ls hE
  obtain ⟨hx, hb, hr, hml, hts, hown, hlocks, hP, hK, hD, hA, hN, hAe, hl⟩ := hE
  have hown : s.vm.findClass RX7 = some m.cls := hown
  have hS : va_S A s.heap s.heap [] := va_S.rf
  have hl : lv_has ls 6 [(0, .ref (q 0)), (1, .int x1), (2, .int x2), (3, .int x3)] := hl
  rw [fX7_put] at hf
  refine lv_aload_n hx hb dX7_put_0 rfl (lv_at hl 0 rfl) ?_
  refine lv_iload_n hx hb dX7_put_1 rfl (lv_at hl 1 rfl) ?_
  obtain ⟨R1, hc2, hf⟩ := b_inv hf
  have hk := kall (wc' := (wX q cA sc ar sg)) hP hD hS hA rfl
  refine k_goR (va_runV (As := [.int x1]) (rest := []) ⟨hx, hb, hml, hown, hts⟩ (kX7_inputRow l D q cA sc ar sg x1 hc2 _) (cwV 1 hts gX7_put_X7_inputRow rfl rfl rfl (by decide +kernel) ⟨Nat.le_of_ble_eq_true rfl, Nat.le_of_ble_eq_true rfl⟩) (k_preV (q0 := 0) (ci := 6) hk hK NX_bl (fun U _ hW => NX_w hW hN) rfl rfl rfl) rfl rfl hl.1 rfl (lv_room (Nat.le_of_ble_eq_true rfl)) dX7_put_2 ⟨Nat.zero_le _, Nat.zero_le _⟩) hk hS (fun H locs hP hD hS => ?_)
  by_cases c3 : R1 = none
  · rw [if_pos c3] at hf
    subst c3
    refine W.eq (g2 := F0 m 5 ls [.null]) rfl ?_
    refine lv_astoreN (lv' := [(4, .null), (0, .ref (q 0)), (1, .int x1), (2, .int x2), (3, .int x3)]) hx hb dX7_put_5 hl (by decide) rfl (fun ls hl => ?_)
    refine lv_aloadN hx hb dX7_put_7 (lv_at hl 0 rfl) ?_
    refine lv_ifnullN (tgt := 39) hx hb dX7_put_9 (by decide) ?_
    refine lv_iconst (v := (0 : Int32)) hx hb dX7_put_39 (by decide) ?_
    obtain rfl := Option.some.inj hf
    exact k_retZ hx hb hr hlocks hP hS rfl dX7_put_40
  · rw [if_neg c3] at hf
    by_cases c4 : R1 = some 0
    · rw [if_pos c4] at hf
      subst c4
      refine W.eq (g2 := F0 m 5 ls [.ref (q 1)]) rfl ?_
      refine lv_astore (lv' := [(4, .ref (q 1)), (0, .ref (q 0)), (1, .int x1), (2, .int x2), (3, .int x3)]) hx hb dX7_put_5 hl (by decide) rfl (fun ls hl => ?_)
      refine lv_aload hx hb dX7_put_7 (lv_at hl 0 rfl) ?_
      refine lv_ifnull hx hb dX7_put_9 ?_
      refine lv_iload_n hx hb dX7_put_12 rfl (lv_at hl 3 rfl) ?_
      obtain ⟨R5, hc6, hf⟩ := b_inv hf
      have hk := kcut (wc := ([] : va_W)) (wc' := ([] : va_W)) (wf := (wX q cA sc ar sg)) hP hD hS hA [] rfl (by decide) rfl rfl
      refine k_goI (va_runS (As := [.int x2]) (rest := []) ⟨hx, hb, hml, hown, hts⟩ (kX7_isByte l D x2 hc6 _) ⟨callB_of 1 hts ggX7_put_X7_isByte rfl rfl rfl (hts (.initialized RX7) (List.mem_of_getElem? (i := 4) rfl)) (hts (.methodLink RX7 60 yX7_isByte) (List.mem_of_getElem? (i := 14) rfl)) (by decide +kernel) ⟨Nat.le_of_ble_eq_true rfl, Nat.le_of_ble_eq_true rfl⟩, (hts (.static yX7_isByte) (List.mem_of_getElem? (i := 15) rfl))⟩ (k_preS hk (hK.sub [] rfl) NT_bl NT_u) rfl rfl hl.1 rfl (lv_room (Nat.le_of_ble_eq_true rfl)) dX7_put_13 ⟨Nat.zero_le _, Nat.zero_le _⟩) hk hS (fun H locs hP hD hS => ?_)
      refine lv_if_eq (tgt := 39) hx hb dX7_put_16 (by decide) (fun c7 => ?_) (fun c7 => ?_)
      · rw [if_pos c7] at hf
        refine lv_iconst (v := (0 : Int32)) hx hb dX7_put_39 (by decide) ?_
        obtain rfl := Option.some.inj hf
        exact k_retZ hx hb hr hlocks hP hS rfl dX7_put_40
      · rw [if_neg c7] at hf
        refine lv_iload_n hx hb dX7_put_19 rfl (lv_at hl 4 rfl) ?_
        refine lv_iconst (v := (1 : Int32)) hx hb dX7_put_20 (by decide) ?_
        refine lv_icmp_lt (tgt := 39) hx hb dX7_put_21 (by decide) (fun c8 => ?_) (fun c8 => ?_)
        · rw [if_pos c8] at hf
          refine lv_iconst (v := (0 : Int32)) hx hb dX7_put_39 (by decide) ?_
          obtain rfl := Option.some.inj hf
          exact k_retZ hx hb hr hlocks hP hS rfl dX7_put_40
        · rw [if_neg c8] at hf
          refine lv_iload_n hx hb dX7_put_24 rfl (lv_at hl 4 rfl) ?_
          refine lv_bipush (v := (16 : Int32)) hx hb dX7_put_25 (by decide) ?_
          refine lv_icmp_gt (tgt := 39) hx hb dX7_put_27 (by decide) (fun c9 => ?_) (fun c9 => ?_)
          · rw [if_pos c9] at hf
            refine lv_iconst (v := (0 : Int32)) hx hb dX7_put_39 (by decide) ?_
            obtain rfl := Option.some.inj hf
            exact k_retZ hx hb hr hlocks hP hS rfl dX7_put_40
          · rw [if_neg c9] at hf
            refine lv_iload_n hx hb dX7_put_30 rfl (lv_at hl 4 rfl) ?_
            refine lv_aload hx hb dX7_put_31 (lv_at hl 0 rfl) ?_
            obtain ⟨R10, hc11, hf⟩ := b_inv hf
            have hk := kcut (wc := (wR (q 1) (q 2) (cA 0) 48 (ar 0) (sc 0))) (wc' := (wR (q 1) (q 2) (cA 0) 48 (ar 0) (sc 0))) (wf := (wX q cA sc ar sg)) hP hD hS hA [1, 2] rfl (by decide) rfl rfl
            refine k_goI (va_runV (As := []) (rest := [.int x3]) ⟨hx, hb, hml, hown, hts⟩ (kX6_room l D (q 1) (q 2) (cA 0) 48 (ar 0) (sc 0) hc11 _) (cwV 0 hts gX7_put_X6_room rfl rfl rfl (by decide +kernel) ⟨Nat.le_of_ble_eq_true rfl, Nat.le_of_ble_eq_true rfl⟩) (k_preV (q0 := 0) (ci := 5) hk (hK.sub [0] rfl) NT_bl NT_u rfl rfl rfl) rfl rfl hl.1 rfl (lv_room (Nat.le_of_ble_eq_true rfl)) dX7_put_33 ⟨Nat.zero_le _, Nat.zero_le _⟩) hk hS (fun H locs hP hD hS => ?_)
            refine lv_icmp_le (tgt := 41) hx hb dX7_put_36 (by decide) (fun c12 => ?_) (fun c12 => ?_)
            · rw [if_pos c12] at hf
              refine lv_iconst (v := (0 : Int32)) hx hb dX7_put_41 (by decide) ?_
              refine lv_istore (lv' := [(5, .int (0 : Int32)), (4, .ref (q 1)), (0, .ref (q 0)), (1, .int x1), (2, .int x2), (3, .int x3)]) hx hb dX7_put_42 hl (by decide) rfl (fun ls hl => ?_)
              have lp60 : ∀ (sg : Bool) (v2 : Int32) (v3 : Int32), ∀ (k : Nat) (v5 : Int32) (sc : Nat → Int32) (ar : Nat → Nat → Int32) (H : Heap) (locs : List Loc) (ls : Array Slot) (o : (Nat → Int32) × (Nat → Nat → Int32)), lv_has ls 6 [(5, .int v5), (2, .int v2), (3, .int v3), (4, .ref (q 1))] → va_P D vwCl (wX q cA sc ar sg) H → va_D A (wX q cA sc ar sg) → va_S A s.heap H locs → fX7_put_L44_source sg v2 v3 k v5 sc ar = some o → (∀ (H : Heap) (locs : List Loc) (ls : Array Slot), lv_has ls 6 [] → va_P D vwCl (wX q cA o.1 o.2 sg) H → va_D A (wX q cA o.1 o.2 sg) → va_S A s.heap H locs → W p l e (headSpec wsX7_put (rmD 2)).room s m ([.ref (q 0), .int x1, .int x2, .int x3] : List Value).toArray below meth cd H locs 0 0 (QI D below ([.ref (q 0), .int x1, .int x2, .int x3] : List Value).toArray s A R.1 (wX q cA R.2.1 R.2.2 sg)) (F0 m 62 ls [])) → W p l e (headSpec wsX7_put (rmD 2)).room s m ([.ref (q 0), .int x1, .int x2, .int x3] : List Value).toArray below meth cd H locs 0 0 (QI D below ([.ref (q 0), .int x1, .int x2, .int x3] : List Value).toArray s A R.1 (wX q cA R.2.1 R.2.2 sg)) (F0 m 44 ls []) := by
                intro sg v2 v3
                intro k
                induction k with
                | zero =>
                  intro v5 sc ar H locs ls o hl hP hD hS hf
                  exact absurd hf (by simp [fX7_put_L44_source])
                | succ k ih =>
                  intro v5 sc ar H locs ls o hl hP hD hS hf kont
                  rw [fX7_put_L44_source] at hf
                  refine lv_iload hx hb dX7_put_44 (lv_at hl 0 rfl) ?_
                  refine lv_iload_n hx hb dX7_put_46 rfl (lv_at hl 2 rfl) ?_
                  refine lv_icmp_ge (tgt := 62) hx hb dX7_put_47 (by decide) (fun c13 => ?_) (fun c13 => ?_)
                  · rw [if_pos c13] at hf
                    obtain rfl := Option.some.inj hf
                    exact kont _ _ _ (lv_sub hl [] rfl) hP hD hS
                  · rw [if_neg c13] at hf
                    refine lv_aload hx hb dX7_put_50 (lv_at hl 3 rfl) ?_
                    refine lv_iload_n hx hb dX7_put_52 rfl (lv_at hl 1 rfl) ?_
                    obtain ⟨R14, hc15, hf⟩ := b_inv hf
                    have hk := kcut (wc := (wR (q 1) (q 2) (cA 0) 48 (ar 0) (sc 0))) (wc' := (wR (q 1) (q 2) (cA 0) 48 R14.1 R14.2)) (wf := (wX q cA (va_up sc 0 R14.2) (va_up ar 0 R14.1) sg)) hP hD hS hA [1, 2] rfl (by decide) rfl rfl
                    refine k_goV (va_runV (As := [.int v2]) (rest := []) ⟨hx, hb, hml, hown, hts⟩ (kX6_append l D (q 1) (q 2) (cA 0) 48 (ar 0) (sc 0) v2 hc15 _) (cwV 1 hts gX7_put_X6_append rfl rfl rfl (by decide +kernel) ⟨Nat.le_of_ble_eq_true rfl, Nat.le_of_ble_eq_true rfl⟩) (k_preV (q0 := 0) (ci := 5) hk (hK.sub [0] rfl) NT_bl NT_u rfl rfl rfl) rfl rfl hl.1 rfl (lv_room (Nat.le_of_ble_eq_true rfl)) dX7_put_53 ⟨Nat.zero_le _, Nat.zero_le _⟩) hk hS (fun H locs hP hD hS => ?_)
                    refine lv_iinc (v := (v5 + (1 : Int32))) (lv' := [(5, .int (v5 + (1 : Int32))), (2, .int v2), (3, .int v3), (4, .ref (q 1))]) hx hb dX7_put_56 hl (k := 0) rfl rfl (by decide) rfl (fun ls hl => ?_)
                    refine lv_goto (tgt := 44) hx hb dX7_put_59 (by decide) ?_
                    exact ih (v5 + (1 : Int32)) (va_up sc 0 R14.2) (va_up ar 0 R14.1) _ _ _ o (lv_sub hl [0, 1, 2, 3] rfl) hP hD hS hf kont
              obtain ⟨R16, hc17, hf⟩ := b_inv hf
              refine lp60 sg x2 x3 FU (0 : Int32) sc ar _ _ _ R16 (lv_sub hl [0, 4, 5, 1] rfl) hP hD hS hc17 (fun H locs ls hl hP hD hS => ?_)
              refine lv_iconst (v := (1 : Int32)) hx hb dX7_put_62 (by decide) ?_
              obtain rfl := Option.some.inj hf
              exact k_retZ hx hb hr hlocks hP hS rfl dX7_put_63
            · rw [if_neg c12] at hf
              refine lv_iconst (v := (0 : Int32)) hx hb dX7_put_39 (by decide) ?_
              obtain rfl := Option.some.inj hf
              exact k_retZ hx hb hr hlocks hP hS rfl dX7_put_40
    · rw [if_neg c4] at hf
      by_cases c18 : R1 = some 1
      · rw [if_pos c18] at hf
        subst c18
        refine W.eq (g2 := F0 m 5 ls [.ref (q 3)]) rfl ?_
        refine lv_astore (lv' := [(4, .ref (q 3)), (0, .ref (q 0)), (1, .int x1), (2, .int x2), (3, .int x3)]) hx hb dX7_put_5 hl (by decide) rfl (fun ls hl => ?_)
        refine lv_aload hx hb dX7_put_7 (lv_at hl 0 rfl) ?_
        refine lv_ifnull hx hb dX7_put_9 ?_
        refine lv_iload_n hx hb dX7_put_12 rfl (lv_at hl 3 rfl) ?_
        obtain ⟨R19, hc20, hf⟩ := b_inv hf
        have hk := kcut (wc := ([] : va_W)) (wc' := ([] : va_W)) (wf := (wX q cA sc ar sg)) hP hD hS hA [] rfl (by decide) rfl rfl
        refine k_goI (va_runS (As := [.int x2]) (rest := []) ⟨hx, hb, hml, hown, hts⟩ (kX7_isByte l D x2 hc20 _) ⟨callB_of 1 hts ggX7_put_X7_isByte rfl rfl rfl (hts (.initialized RX7) (List.mem_of_getElem? (i := 4) rfl)) (hts (.methodLink RX7 60 yX7_isByte) (List.mem_of_getElem? (i := 14) rfl)) (by decide +kernel) ⟨Nat.le_of_ble_eq_true rfl, Nat.le_of_ble_eq_true rfl⟩, (hts (.static yX7_isByte) (List.mem_of_getElem? (i := 15) rfl))⟩ (k_preS hk (hK.sub [] rfl) NT_bl NT_u) rfl rfl hl.1 rfl (lv_room (Nat.le_of_ble_eq_true rfl)) dX7_put_13 ⟨Nat.zero_le _, Nat.zero_le _⟩) hk hS (fun H locs hP hD hS => ?_)
        refine lv_if_eq (tgt := 39) hx hb dX7_put_16 (by decide) (fun c21 => ?_) (fun c21 => ?_)
        · rw [if_pos c21] at hf
          refine lv_iconst (v := (0 : Int32)) hx hb dX7_put_39 (by decide) ?_
          obtain rfl := Option.some.inj hf
          exact k_retZ hx hb hr hlocks hP hS rfl dX7_put_40
        · rw [if_neg c21] at hf
          refine lv_iload_n hx hb dX7_put_19 rfl (lv_at hl 4 rfl) ?_
          refine lv_iconst (v := (1 : Int32)) hx hb dX7_put_20 (by decide) ?_
          refine lv_icmp_lt (tgt := 39) hx hb dX7_put_21 (by decide) (fun c22 => ?_) (fun c22 => ?_)
          · rw [if_pos c22] at hf
            refine lv_iconst (v := (0 : Int32)) hx hb dX7_put_39 (by decide) ?_
            obtain rfl := Option.some.inj hf
            exact k_retZ hx hb hr hlocks hP hS rfl dX7_put_40
          · rw [if_neg c22] at hf
            refine lv_iload_n hx hb dX7_put_24 rfl (lv_at hl 4 rfl) ?_
            refine lv_bipush (v := (16 : Int32)) hx hb dX7_put_25 (by decide) ?_
            refine lv_icmp_gt (tgt := 39) hx hb dX7_put_27 (by decide) (fun c23 => ?_) (fun c23 => ?_)
            · rw [if_pos c23] at hf
              refine lv_iconst (v := (0 : Int32)) hx hb dX7_put_39 (by decide) ?_
              obtain rfl := Option.some.inj hf
              exact k_retZ hx hb hr hlocks hP hS rfl dX7_put_40
            · rw [if_neg c23] at hf
              refine lv_iload_n hx hb dX7_put_30 rfl (lv_at hl 4 rfl) ?_
              refine lv_aload hx hb dX7_put_31 (lv_at hl 0 rfl) ?_
              obtain ⟨R24, hc25, hf⟩ := b_inv hf
              have hk := kcut (wc := (wR (q 3) (q 4) (cA 1) 64 (ar 1) (sc 1))) (wc' := (wR (q 3) (q 4) (cA 1) 64 (ar 1) (sc 1))) (wf := (wX q cA sc ar sg)) hP hD hS hA [3, 4] rfl (by decide) rfl rfl
              refine k_goI (va_runV (As := []) (rest := [.int x3]) ⟨hx, hb, hml, hown, hts⟩ (kX6_room l D (q 3) (q 4) (cA 1) 64 (ar 1) (sc 1) hc25 _) (cwV 0 hts gX7_put_X6_room rfl rfl rfl (by decide +kernel) ⟨Nat.le_of_ble_eq_true rfl, Nat.le_of_ble_eq_true rfl⟩) (k_preV (q0 := 0) (ci := 5) hk (hK.sub [1] rfl) NT_bl NT_u rfl rfl rfl) rfl rfl hl.1 rfl (lv_room (Nat.le_of_ble_eq_true rfl)) dX7_put_33 ⟨Nat.zero_le _, Nat.zero_le _⟩) hk hS (fun H locs hP hD hS => ?_)
              refine lv_icmp_le (tgt := 41) hx hb dX7_put_36 (by decide) (fun c26 => ?_) (fun c26 => ?_)
              · rw [if_pos c26] at hf
                refine lv_iconst (v := (0 : Int32)) hx hb dX7_put_41 (by decide) ?_
                refine lv_istore (lv' := [(5, .int (0 : Int32)), (4, .ref (q 3)), (0, .ref (q 0)), (1, .int x1), (2, .int x2), (3, .int x3)]) hx hb dX7_put_42 hl (by decide) rfl (fun ls hl => ?_)
                have lp61 : ∀ (sg : Bool) (v2 : Int32) (v3 : Int32), ∀ (k : Nat) (v5 : Int32) (sc : Nat → Int32) (ar : Nat → Nat → Int32) (H : Heap) (locs : List Loc) (ls : Array Slot) (o : (Nat → Int32) × (Nat → Nat → Int32)), lv_has ls 6 [(5, .int v5), (2, .int v2), (3, .int v3), (4, .ref (q 3))] → va_P D vwCl (wX q cA sc ar sg) H → va_D A (wX q cA sc ar sg) → va_S A s.heap H locs → fX7_put_L44_target sg v2 v3 k v5 sc ar = some o → (∀ (H : Heap) (locs : List Loc) (ls : Array Slot), lv_has ls 6 [] → va_P D vwCl (wX q cA o.1 o.2 sg) H → va_D A (wX q cA o.1 o.2 sg) → va_S A s.heap H locs → W p l e (headSpec wsX7_put (rmD 2)).room s m ([.ref (q 0), .int x1, .int x2, .int x3] : List Value).toArray below meth cd H locs 0 0 (QI D below ([.ref (q 0), .int x1, .int x2, .int x3] : List Value).toArray s A R.1 (wX q cA R.2.1 R.2.2 sg)) (F0 m 62 ls [])) → W p l e (headSpec wsX7_put (rmD 2)).room s m ([.ref (q 0), .int x1, .int x2, .int x3] : List Value).toArray below meth cd H locs 0 0 (QI D below ([.ref (q 0), .int x1, .int x2, .int x3] : List Value).toArray s A R.1 (wX q cA R.2.1 R.2.2 sg)) (F0 m 44 ls []) := by
                  intro sg v2 v3
                  intro k
                  induction k with
                  | zero =>
                    intro v5 sc ar H locs ls o hl hP hD hS hf
                    exact absurd hf (by simp [fX7_put_L44_target])
                  | succ k ih =>
                    intro v5 sc ar H locs ls o hl hP hD hS hf kont
                    rw [fX7_put_L44_target] at hf
                    refine lv_iload hx hb dX7_put_44 (lv_at hl 0 rfl) ?_
                    refine lv_iload_n hx hb dX7_put_46 rfl (lv_at hl 2 rfl) ?_
                    refine lv_icmp_ge (tgt := 62) hx hb dX7_put_47 (by decide) (fun c27 => ?_) (fun c27 => ?_)
                    · rw [if_pos c27] at hf
                      obtain rfl := Option.some.inj hf
                      exact kont _ _ _ (lv_sub hl [] rfl) hP hD hS
                    · rw [if_neg c27] at hf
                      refine lv_aload hx hb dX7_put_50 (lv_at hl 3 rfl) ?_
                      refine lv_iload_n hx hb dX7_put_52 rfl (lv_at hl 1 rfl) ?_
                      obtain ⟨R28, hc29, hf⟩ := b_inv hf
                      have hk := kcut (wc := (wR (q 3) (q 4) (cA 1) 64 (ar 1) (sc 1))) (wc' := (wR (q 3) (q 4) (cA 1) 64 R28.1 R28.2)) (wf := (wX q cA (va_up sc 1 R28.2) (va_up ar 1 R28.1) sg)) hP hD hS hA [3, 4] rfl (by decide) rfl rfl
                      refine k_goV (va_runV (As := [.int v2]) (rest := []) ⟨hx, hb, hml, hown, hts⟩ (kX6_append l D (q 3) (q 4) (cA 1) 64 (ar 1) (sc 1) v2 hc29 _) (cwV 1 hts gX7_put_X6_append rfl rfl rfl (by decide +kernel) ⟨Nat.le_of_ble_eq_true rfl, Nat.le_of_ble_eq_true rfl⟩) (k_preV (q0 := 0) (ci := 5) hk (hK.sub [1] rfl) NT_bl NT_u rfl rfl rfl) rfl rfl hl.1 rfl (lv_room (Nat.le_of_ble_eq_true rfl)) dX7_put_53 ⟨Nat.zero_le _, Nat.zero_le _⟩) hk hS (fun H locs hP hD hS => ?_)
                      refine lv_iinc (v := (v5 + (1 : Int32))) (lv' := [(5, .int (v5 + (1 : Int32))), (2, .int v2), (3, .int v3), (4, .ref (q 3))]) hx hb dX7_put_56 hl (k := 0) rfl rfl (by decide) rfl (fun ls hl => ?_)
                      refine lv_goto (tgt := 44) hx hb dX7_put_59 (by decide) ?_
                      exact ih (v5 + (1 : Int32)) (va_up sc 1 R28.2) (va_up ar 1 R28.1) _ _ _ o (lv_sub hl [0, 1, 2, 3] rfl) hP hD hS hf kont
                obtain ⟨R30, hc31, hf⟩ := b_inv hf
                refine lp61 sg x2 x3 FU (0 : Int32) sc ar _ _ _ R30 (lv_sub hl [0, 4, 5, 1] rfl) hP hD hS hc31 (fun H locs ls hl hP hD hS => ?_)
                refine lv_iconst (v := (1 : Int32)) hx hb dX7_put_62 (by decide) ?_
                obtain rfl := Option.some.inj hf
                exact k_retZ hx hb hr hlocks hP hS rfl dX7_put_63
              · rw [if_neg c26] at hf
                refine lv_iconst (v := (0 : Int32)) hx hb dX7_put_39 (by decide) ?_
                obtain rfl := Option.some.inj hf
                exact k_retZ hx hb hr hlocks hP hS rfl dX7_put_40
      · rw [if_neg c18] at hf
        by_cases c32 : R1 = some 2
        · rw [if_pos c32] at hf
          subst c32
          refine W.eq (g2 := F0 m 5 ls [.ref (q 5)]) rfl ?_
          refine lv_astore (lv' := [(4, .ref (q 5)), (0, .ref (q 0)), (1, .int x1), (2, .int x2), (3, .int x3)]) hx hb dX7_put_5 hl (by decide) rfl (fun ls hl => ?_)
          refine lv_aload hx hb dX7_put_7 (lv_at hl 0 rfl) ?_
          refine lv_ifnull hx hb dX7_put_9 ?_
          refine lv_iload_n hx hb dX7_put_12 rfl (lv_at hl 3 rfl) ?_
          obtain ⟨R33, hc34, hf⟩ := b_inv hf
          have hk := kcut (wc := ([] : va_W)) (wc' := ([] : va_W)) (wf := (wX q cA sc ar sg)) hP hD hS hA [] rfl (by decide) rfl rfl
          refine k_goI (va_runS (As := [.int x2]) (rest := []) ⟨hx, hb, hml, hown, hts⟩ (kX7_isByte l D x2 hc34 _) ⟨callB_of 1 hts ggX7_put_X7_isByte rfl rfl rfl (hts (.initialized RX7) (List.mem_of_getElem? (i := 4) rfl)) (hts (.methodLink RX7 60 yX7_isByte) (List.mem_of_getElem? (i := 14) rfl)) (by decide +kernel) ⟨Nat.le_of_ble_eq_true rfl, Nat.le_of_ble_eq_true rfl⟩, (hts (.static yX7_isByte) (List.mem_of_getElem? (i := 15) rfl))⟩ (k_preS hk (hK.sub [] rfl) NT_bl NT_u) rfl rfl hl.1 rfl (lv_room (Nat.le_of_ble_eq_true rfl)) dX7_put_13 ⟨Nat.zero_le _, Nat.zero_le _⟩) hk hS (fun H locs hP hD hS => ?_)
          refine lv_if_eq (tgt := 39) hx hb dX7_put_16 (by decide) (fun c35 => ?_) (fun c35 => ?_)
          · rw [if_pos c35] at hf
            refine lv_iconst (v := (0 : Int32)) hx hb dX7_put_39 (by decide) ?_
            obtain rfl := Option.some.inj hf
            exact k_retZ hx hb hr hlocks hP hS rfl dX7_put_40
          · rw [if_neg c35] at hf
            refine lv_iload_n hx hb dX7_put_19 rfl (lv_at hl 4 rfl) ?_
            refine lv_iconst (v := (1 : Int32)) hx hb dX7_put_20 (by decide) ?_
            refine lv_icmp_lt (tgt := 39) hx hb dX7_put_21 (by decide) (fun c36 => ?_) (fun c36 => ?_)
            · rw [if_pos c36] at hf
              refine lv_iconst (v := (0 : Int32)) hx hb dX7_put_39 (by decide) ?_
              obtain rfl := Option.some.inj hf
              exact k_retZ hx hb hr hlocks hP hS rfl dX7_put_40
            · rw [if_neg c36] at hf
              refine lv_iload_n hx hb dX7_put_24 rfl (lv_at hl 4 rfl) ?_
              refine lv_bipush (v := (16 : Int32)) hx hb dX7_put_25 (by decide) ?_
              refine lv_icmp_gt (tgt := 39) hx hb dX7_put_27 (by decide) (fun c37 => ?_) (fun c37 => ?_)
              · rw [if_pos c37] at hf
                refine lv_iconst (v := (0 : Int32)) hx hb dX7_put_39 (by decide) ?_
                obtain rfl := Option.some.inj hf
                exact k_retZ hx hb hr hlocks hP hS rfl dX7_put_40
              · rw [if_neg c37] at hf
                refine lv_iload_n hx hb dX7_put_30 rfl (lv_at hl 4 rfl) ?_
                refine lv_aload hx hb dX7_put_31 (lv_at hl 0 rfl) ?_
                obtain ⟨R38, hc39, hf⟩ := b_inv hf
                have hk := kcut (wc := (wR (q 5) (q 6) (cA 2) 1000 (ar 2) (sc 2))) (wc' := (wR (q 5) (q 6) (cA 2) 1000 (ar 2) (sc 2))) (wf := (wX q cA sc ar sg)) hP hD hS hA [5, 6] rfl (by decide) rfl rfl
                refine k_goI (va_runV (As := []) (rest := [.int x3]) ⟨hx, hb, hml, hown, hts⟩ (kX6_room l D (q 5) (q 6) (cA 2) 1000 (ar 2) (sc 2) hc39 _) (cwV 0 hts gX7_put_X6_room rfl rfl rfl (by decide +kernel) ⟨Nat.le_of_ble_eq_true rfl, Nat.le_of_ble_eq_true rfl⟩) (k_preV (q0 := 0) (ci := 5) hk (hK.sub [2] rfl) NT_bl NT_u rfl rfl rfl) rfl rfl hl.1 rfl (lv_room (Nat.le_of_ble_eq_true rfl)) dX7_put_33 ⟨Nat.zero_le _, Nat.zero_le _⟩) hk hS (fun H locs hP hD hS => ?_)
                refine lv_icmp_le (tgt := 41) hx hb dX7_put_36 (by decide) (fun c40 => ?_) (fun c40 => ?_)
                · rw [if_pos c40] at hf
                  refine lv_iconst (v := (0 : Int32)) hx hb dX7_put_41 (by decide) ?_
                  refine lv_istore (lv' := [(5, .int (0 : Int32)), (4, .ref (q 5)), (0, .ref (q 0)), (1, .int x1), (2, .int x2), (3, .int x3)]) hx hb dX7_put_42 hl (by decide) rfl (fun ls hl => ?_)
                  have lp62 : ∀ (sg : Bool) (v2 : Int32) (v3 : Int32), ∀ (k : Nat) (v5 : Int32) (sc : Nat → Int32) (ar : Nat → Nat → Int32) (H : Heap) (locs : List Loc) (ls : Array Slot) (o : (Nat → Int32) × (Nat → Nat → Int32)), lv_has ls 6 [(5, .int v5), (2, .int v2), (3, .int v3), (4, .ref (q 5))] → va_P D vwCl (wX q cA sc ar sg) H → va_D A (wX q cA sc ar sg) → va_S A s.heap H locs → fX7_put_L44_delta sg v2 v3 k v5 sc ar = some o → (∀ (H : Heap) (locs : List Loc) (ls : Array Slot), lv_has ls 6 [] → va_P D vwCl (wX q cA o.1 o.2 sg) H → va_D A (wX q cA o.1 o.2 sg) → va_S A s.heap H locs → W p l e (headSpec wsX7_put (rmD 2)).room s m ([.ref (q 0), .int x1, .int x2, .int x3] : List Value).toArray below meth cd H locs 0 0 (QI D below ([.ref (q 0), .int x1, .int x2, .int x3] : List Value).toArray s A R.1 (wX q cA R.2.1 R.2.2 sg)) (F0 m 62 ls [])) → W p l e (headSpec wsX7_put (rmD 2)).room s m ([.ref (q 0), .int x1, .int x2, .int x3] : List Value).toArray below meth cd H locs 0 0 (QI D below ([.ref (q 0), .int x1, .int x2, .int x3] : List Value).toArray s A R.1 (wX q cA R.2.1 R.2.2 sg)) (F0 m 44 ls []) := by
                    intro sg v2 v3
                    intro k
                    induction k with
                    | zero =>
                      intro v5 sc ar H locs ls o hl hP hD hS hf
                      exact absurd hf (by simp [fX7_put_L44_delta])
                    | succ k ih =>
                      intro v5 sc ar H locs ls o hl hP hD hS hf kont
                      rw [fX7_put_L44_delta] at hf
                      refine lv_iload hx hb dX7_put_44 (lv_at hl 0 rfl) ?_
                      refine lv_iload_n hx hb dX7_put_46 rfl (lv_at hl 2 rfl) ?_
                      refine lv_icmp_ge (tgt := 62) hx hb dX7_put_47 (by decide) (fun c41 => ?_) (fun c41 => ?_)
                      · rw [if_pos c41] at hf
                        obtain rfl := Option.some.inj hf
                        exact kont _ _ _ (lv_sub hl [] rfl) hP hD hS
                      · rw [if_neg c41] at hf
                        refine lv_aload hx hb dX7_put_50 (lv_at hl 3 rfl) ?_
                        refine lv_iload_n hx hb dX7_put_52 rfl (lv_at hl 1 rfl) ?_
                        obtain ⟨R42, hc43, hf⟩ := b_inv hf
                        have hk := kcut (wc := (wR (q 5) (q 6) (cA 2) 1000 (ar 2) (sc 2))) (wc' := (wR (q 5) (q 6) (cA 2) 1000 R42.1 R42.2)) (wf := (wX q cA (va_up sc 2 R42.2) (va_up ar 2 R42.1) sg)) hP hD hS hA [5, 6] rfl (by decide) rfl rfl
                        refine k_goV (va_runV (As := [.int v2]) (rest := []) ⟨hx, hb, hml, hown, hts⟩ (kX6_append l D (q 5) (q 6) (cA 2) 1000 (ar 2) (sc 2) v2 hc43 _) (cwV 1 hts gX7_put_X6_append rfl rfl rfl (by decide +kernel) ⟨Nat.le_of_ble_eq_true rfl, Nat.le_of_ble_eq_true rfl⟩) (k_preV (q0 := 0) (ci := 5) hk (hK.sub [2] rfl) NT_bl NT_u rfl rfl rfl) rfl rfl hl.1 rfl (lv_room (Nat.le_of_ble_eq_true rfl)) dX7_put_53 ⟨Nat.zero_le _, Nat.zero_le _⟩) hk hS (fun H locs hP hD hS => ?_)
                        refine lv_iinc (v := (v5 + (1 : Int32))) (lv' := [(5, .int (v5 + (1 : Int32))), (2, .int v2), (3, .int v3), (4, .ref (q 5))]) hx hb dX7_put_56 hl (k := 0) rfl rfl (by decide) rfl (fun ls hl => ?_)
                        refine lv_goto (tgt := 44) hx hb dX7_put_59 (by decide) ?_
                        exact ih (v5 + (1 : Int32)) (va_up sc 2 R42.2) (va_up ar 2 R42.1) _ _ _ o (lv_sub hl [0, 1, 2, 3] rfl) hP hD hS hf kont
                  obtain ⟨R44, hc45, hf⟩ := b_inv hf
                  refine lp62 sg x2 x3 FU (0 : Int32) sc ar _ _ _ R44 (lv_sub hl [0, 4, 5, 1] rfl) hP hD hS hc45 (fun H locs ls hl hP hD hS => ?_)
                  refine lv_iconst (v := (1 : Int32)) hx hb dX7_put_62 (by decide) ?_
                  obtain rfl := Option.some.inj hf
                  exact k_retZ hx hb hr hlocks hP hS rfl dX7_put_63
                · rw [if_neg c40] at hf
                  refine lv_iconst (v := (0 : Int32)) hx hb dX7_put_39 (by decide) ?_
                  obtain rfl := Option.some.inj hf
                  exact k_retZ hx hb hr hlocks hP hS rfl dX7_put_40
        · rw [if_neg c32] at hf
          by_cases c46 : R1 = some 3
          · rw [if_pos c46] at hf
            subst c46
            refine W.eq (g2 := F0 m 5 ls [.ref (q 7)]) rfl ?_
            refine lv_astore (lv' := [(4, .ref (q 7)), (0, .ref (q 0)), (1, .int x1), (2, .int x2), (3, .int x3)]) hx hb dX7_put_5 hl (by decide) rfl (fun ls hl => ?_)
            refine lv_aload hx hb dX7_put_7 (lv_at hl 0 rfl) ?_
            refine lv_ifnull hx hb dX7_put_9 ?_
            refine lv_iload_n hx hb dX7_put_12 rfl (lv_at hl 3 rfl) ?_
            obtain ⟨R47, hc48, hf⟩ := b_inv hf
            have hk := kcut (wc := ([] : va_W)) (wc' := ([] : va_W)) (wf := (wX q cA sc ar sg)) hP hD hS hA [] rfl (by decide) rfl rfl
            refine k_goI (va_runS (As := [.int x2]) (rest := []) ⟨hx, hb, hml, hown, hts⟩ (kX7_isByte l D x2 hc48 _) ⟨callB_of 1 hts ggX7_put_X7_isByte rfl rfl rfl (hts (.initialized RX7) (List.mem_of_getElem? (i := 4) rfl)) (hts (.methodLink RX7 60 yX7_isByte) (List.mem_of_getElem? (i := 14) rfl)) (by decide +kernel) ⟨Nat.le_of_ble_eq_true rfl, Nat.le_of_ble_eq_true rfl⟩, (hts (.static yX7_isByte) (List.mem_of_getElem? (i := 15) rfl))⟩ (k_preS hk (hK.sub [] rfl) NT_bl NT_u) rfl rfl hl.1 rfl (lv_room (Nat.le_of_ble_eq_true rfl)) dX7_put_13 ⟨Nat.zero_le _, Nat.zero_le _⟩) hk hS (fun H locs hP hD hS => ?_)
            refine lv_if_eq (tgt := 39) hx hb dX7_put_16 (by decide) (fun c49 => ?_) (fun c49 => ?_)
            · rw [if_pos c49] at hf
              refine lv_iconst (v := (0 : Int32)) hx hb dX7_put_39 (by decide) ?_
              obtain rfl := Option.some.inj hf
              exact k_retZ hx hb hr hlocks hP hS rfl dX7_put_40
            · rw [if_neg c49] at hf
              refine lv_iload_n hx hb dX7_put_19 rfl (lv_at hl 4 rfl) ?_
              refine lv_iconst (v := (1 : Int32)) hx hb dX7_put_20 (by decide) ?_
              refine lv_icmp_lt (tgt := 39) hx hb dX7_put_21 (by decide) (fun c50 => ?_) (fun c50 => ?_)
              · rw [if_pos c50] at hf
                refine lv_iconst (v := (0 : Int32)) hx hb dX7_put_39 (by decide) ?_
                obtain rfl := Option.some.inj hf
                exact k_retZ hx hb hr hlocks hP hS rfl dX7_put_40
              · rw [if_neg c50] at hf
                refine lv_iload_n hx hb dX7_put_24 rfl (lv_at hl 4 rfl) ?_
                refine lv_bipush (v := (16 : Int32)) hx hb dX7_put_25 (by decide) ?_
                refine lv_icmp_gt (tgt := 39) hx hb dX7_put_27 (by decide) (fun c51 => ?_) (fun c51 => ?_)
                · rw [if_pos c51] at hf
                  refine lv_iconst (v := (0 : Int32)) hx hb dX7_put_39 (by decide) ?_
                  obtain rfl := Option.some.inj hf
                  exact k_retZ hx hb hr hlocks hP hS rfl dX7_put_40
                · rw [if_neg c51] at hf
                  refine lv_iload_n hx hb dX7_put_30 rfl (lv_at hl 4 rfl) ?_
                  refine lv_aload hx hb dX7_put_31 (lv_at hl 0 rfl) ?_
                  obtain ⟨R52, hc53, hf⟩ := b_inv hf
                  have hk := kcut (wc := (wR (q 7) (q 8) (cA 3) 400 (ar 3) (sc 3))) (wc' := (wR (q 7) (q 8) (cA 3) 400 (ar 3) (sc 3))) (wf := (wX q cA sc ar sg)) hP hD hS hA [7, 8] rfl (by decide) rfl rfl
                  refine k_goI (va_runV (As := []) (rest := [.int x3]) ⟨hx, hb, hml, hown, hts⟩ (kX6_room l D (q 7) (q 8) (cA 3) 400 (ar 3) (sc 3) hc53 _) (cwV 0 hts gX7_put_X6_room rfl rfl rfl (by decide +kernel) ⟨Nat.le_of_ble_eq_true rfl, Nat.le_of_ble_eq_true rfl⟩) (k_preV (q0 := 0) (ci := 5) hk (hK.sub [3] rfl) NT_bl NT_u rfl rfl rfl) rfl rfl hl.1 rfl (lv_room (Nat.le_of_ble_eq_true rfl)) dX7_put_33 ⟨Nat.zero_le _, Nat.zero_le _⟩) hk hS (fun H locs hP hD hS => ?_)
                  refine lv_icmp_le (tgt := 41) hx hb dX7_put_36 (by decide) (fun c54 => ?_) (fun c54 => ?_)
                  · rw [if_pos c54] at hf
                    refine lv_iconst (v := (0 : Int32)) hx hb dX7_put_41 (by decide) ?_
                    refine lv_istore (lv' := [(5, .int (0 : Int32)), (4, .ref (q 7)), (0, .ref (q 0)), (1, .int x1), (2, .int x2), (3, .int x3)]) hx hb dX7_put_42 hl (by decide) rfl (fun ls hl => ?_)
                    have lp63 : ∀ (sg : Bool) (v2 : Int32) (v3 : Int32), ∀ (k : Nat) (v5 : Int32) (sc : Nat → Int32) (ar : Nat → Nat → Int32) (H : Heap) (locs : List Loc) (ls : Array Slot) (o : (Nat → Int32) × (Nat → Nat → Int32)), lv_has ls 6 [(5, .int v5), (2, .int v2), (3, .int v3), (4, .ref (q 7))] → va_P D vwCl (wX q cA sc ar sg) H → va_D A (wX q cA sc ar sg) → va_S A s.heap H locs → fX7_put_L44_output sg v2 v3 k v5 sc ar = some o → (∀ (H : Heap) (locs : List Loc) (ls : Array Slot), lv_has ls 6 [] → va_P D vwCl (wX q cA o.1 o.2 sg) H → va_D A (wX q cA o.1 o.2 sg) → va_S A s.heap H locs → W p l e (headSpec wsX7_put (rmD 2)).room s m ([.ref (q 0), .int x1, .int x2, .int x3] : List Value).toArray below meth cd H locs 0 0 (QI D below ([.ref (q 0), .int x1, .int x2, .int x3] : List Value).toArray s A R.1 (wX q cA R.2.1 R.2.2 sg)) (F0 m 62 ls [])) → W p l e (headSpec wsX7_put (rmD 2)).room s m ([.ref (q 0), .int x1, .int x2, .int x3] : List Value).toArray below meth cd H locs 0 0 (QI D below ([.ref (q 0), .int x1, .int x2, .int x3] : List Value).toArray s A R.1 (wX q cA R.2.1 R.2.2 sg)) (F0 m 44 ls []) := by
                      intro sg v2 v3
                      intro k
                      induction k with
                      | zero =>
                        intro v5 sc ar H locs ls o hl hP hD hS hf
                        exact absurd hf (by simp [fX7_put_L44_output])
                      | succ k ih =>
                        intro v5 sc ar H locs ls o hl hP hD hS hf kont
                        rw [fX7_put_L44_output] at hf
                        refine lv_iload hx hb dX7_put_44 (lv_at hl 0 rfl) ?_
                        refine lv_iload_n hx hb dX7_put_46 rfl (lv_at hl 2 rfl) ?_
                        refine lv_icmp_ge (tgt := 62) hx hb dX7_put_47 (by decide) (fun c55 => ?_) (fun c55 => ?_)
                        · rw [if_pos c55] at hf
                          obtain rfl := Option.some.inj hf
                          exact kont _ _ _ (lv_sub hl [] rfl) hP hD hS
                        · rw [if_neg c55] at hf
                          refine lv_aload hx hb dX7_put_50 (lv_at hl 3 rfl) ?_
                          refine lv_iload_n hx hb dX7_put_52 rfl (lv_at hl 1 rfl) ?_
                          obtain ⟨R56, hc57, hf⟩ := b_inv hf
                          have hk := kcut (wc := (wR (q 7) (q 8) (cA 3) 400 (ar 3) (sc 3))) (wc' := (wR (q 7) (q 8) (cA 3) 400 R56.1 R56.2)) (wf := (wX q cA (va_up sc 3 R56.2) (va_up ar 3 R56.1) sg)) hP hD hS hA [7, 8] rfl (by decide) rfl rfl
                          refine k_goV (va_runV (As := [.int v2]) (rest := []) ⟨hx, hb, hml, hown, hts⟩ (kX6_append l D (q 7) (q 8) (cA 3) 400 (ar 3) (sc 3) v2 hc57 _) (cwV 1 hts gX7_put_X6_append rfl rfl rfl (by decide +kernel) ⟨Nat.le_of_ble_eq_true rfl, Nat.le_of_ble_eq_true rfl⟩) (k_preV (q0 := 0) (ci := 5) hk (hK.sub [3] rfl) NT_bl NT_u rfl rfl rfl) rfl rfl hl.1 rfl (lv_room (Nat.le_of_ble_eq_true rfl)) dX7_put_53 ⟨Nat.zero_le _, Nat.zero_le _⟩) hk hS (fun H locs hP hD hS => ?_)
                          refine lv_iinc (v := (v5 + (1 : Int32))) (lv' := [(5, .int (v5 + (1 : Int32))), (2, .int v2), (3, .int v3), (4, .ref (q 7))]) hx hb dX7_put_56 hl (k := 0) rfl rfl (by decide) rfl (fun ls hl => ?_)
                          refine lv_goto (tgt := 44) hx hb dX7_put_59 (by decide) ?_
                          exact ih (v5 + (1 : Int32)) (va_up sc 3 R56.2) (va_up ar 3 R56.1) _ _ _ o (lv_sub hl [0, 1, 2, 3] rfl) hP hD hS hf kont
                    obtain ⟨R58, hc59, hf⟩ := b_inv hf
                    refine lp63 sg x2 x3 FU (0 : Int32) sc ar _ _ _ R58 (lv_sub hl [0, 4, 5, 1] rfl) hP hD hS hc59 (fun H locs ls hl hP hD hS => ?_)
                    refine lv_iconst (v := (1 : Int32)) hx hb dX7_put_62 (by decide) ?_
                    obtain rfl := Option.some.inj hf
                    exact k_retZ hx hb hr hlocks hP hS rfl dX7_put_63
                  · rw [if_neg c54] at hf
                    refine lv_iconst (v := (0 : Int32)) hx hb dX7_put_39 (by decide) ?_
                    obtain rfl := Option.some.inj hf
                    exact k_retZ hx hb hr hlocks hP hS rfl dX7_put_40
          · rw [if_neg c46] at hf
            exact absurd hf (by simp)

noncomputable def fX7_cut (sc : Nat → Int32) (ar : Nat → Nat → Int32) (sg : Bool) (x1 : Int32) (x2 : Int32) : Option (Int32 × (Nat → Int32)) :=
  (fX7_inputRow sc ar sg x1).bind fun R1 =>
  if R1 = none then
    some ((0 : Int32), sc)
  else
    if R1 = some 0 then
      if x2 < 0 then
        some ((0 : Int32), sc)
      else
        (fX6_count 48 (ar 0) (sc 0)).bind fun R6 =>
        if x2 ≤ R6 then
          (fX6_keep 48 (ar 0) (sc 0) x2).bind fun R9 =>
          some ((1 : Int32), (va_up sc 0 R9))
        else
          some ((0 : Int32), sc)
    else
      if R1 = some 1 then
        if x2 < 0 then
          some ((0 : Int32), sc)
        else
          (fX6_count 64 (ar 1) (sc 1)).bind fun R13 =>
          if x2 ≤ R13 then
            (fX6_keep 64 (ar 1) (sc 1) x2).bind fun R16 =>
            some ((1 : Int32), (va_up sc 1 R16))
          else
            some ((0 : Int32), sc)
      else
        if R1 = some 2 then
          if x2 < 0 then
            some ((0 : Int32), sc)
          else
            (fX6_count 1000 (ar 2) (sc 2)).bind fun R20 =>
            if x2 ≤ R20 then
              (fX6_keep 1000 (ar 2) (sc 2) x2).bind fun R23 =>
              some ((1 : Int32), (va_up sc 2 R23))
            else
              some ((0 : Int32), sc)
        else
          if R1 = some 3 then
            if x2 < 0 then
              some ((0 : Int32), sc)
            else
              (fX6_count 400 (ar 3) (sc 3)).bind fun R27 =>
              if x2 ≤ R27 then
                (fX6_keep 400 (ar 3) (sc 3) x2).bind fun R30 =>
                some ((1 : Int32), (va_up sc 3 R30))
              else
                some ((0 : Int32), sc)
          else
            none

set_option maxHeartbeats 4000000 in
set_option maxRecDepth 100000 in
theorem kX7_cut (l : Launch) (D : va_G) (q : Nat → Nat) (cA : Nat → ClassId) (sc : Nat → Int32) (ar : Nat → Nat → Int32) (sg : Bool) (x1 : Int32) (x2 : Int32) {R : Int32 × (Nat → Int32)} (hf : fX7_cut sc ar sg x1 x2 = some R) : MI l yX7_cut wsX7_cut (rmD 2) D ([.ref (q 0), .int x1, .int x2] : List Value) (wX q cA sc ar sg) (tX cA) NX R.1 (wX q cA R.2 ar sg) := by
  refine MI.mk (cc := cX7_cut) (maxL := 4) (ret := (some .boolean)) (by first | decide | decide +kernel) rfl (Nat.le_of_ble_eq_true rfl) ?_
  intro p e s m below meth cd A ls hE
  obtain ⟨hx, hb, hr, hml, hts, hown, hlocks, hP, hK, hD, hA, hN, hAe, hl⟩ := hE
  have hown : s.vm.findClass RX7 = some m.cls := hown
  have hS : va_S A s.heap s.heap [] := va_S.rf
  have hl : lv_has ls 4 [(0, .ref (q 0)), (1, .int x1), (2, .int x2)] := hl
  rw [fX7_cut] at hf
  refine lv_aload_n hx hb dX7_cut_0 rfl (lv_at hl 0 rfl) ?_
  refine lv_iload_n hx hb dX7_cut_1 rfl (lv_at hl 1 rfl) ?_
  obtain ⟨R1, hc2, hf⟩ := b_inv hf
  have hk := kall (wc' := (wX q cA sc ar sg)) hP hD hS hA rfl
  refine k_goR (va_runV (As := [.int x1]) (rest := []) ⟨hx, hb, hml, hown, hts⟩ (kX7_inputRow l D q cA sc ar sg x1 hc2 _) (cwV 1 hts gX7_cut_X7_inputRow rfl rfl rfl (by decide +kernel) ⟨Nat.le_of_ble_eq_true rfl, Nat.le_of_ble_eq_true rfl⟩) (k_preV (q0 := 0) (ci := 6) hk hK NX_bl (fun U _ hW => NX_w hW hN) rfl rfl rfl) rfl rfl hl.1 rfl (lv_room (Nat.le_of_ble_eq_true rfl)) dX7_cut_2 ⟨Nat.zero_le _, Nat.zero_le _⟩) hk hS (fun H locs hP hD hS => ?_)
  by_cases c3 : R1 = none
  · rw [if_pos c3] at hf
    subst c3
    refine W.eq (g2 := F0 m 5 ls [.null]) rfl ?_
    refine lv_astore_nN (lv' := [(3, .null), (0, .ref (q 0)), (1, .int x1), (2, .int x2)]) hx hb dX7_cut_5 rfl hl (by decide) rfl (fun ls hl => ?_)
    refine lv_aload_nN hx hb dX7_cut_6 rfl (lv_at hl 0 rfl) ?_
    refine lv_ifnullN (tgt := 22) hx hb dX7_cut_7 (by decide) ?_
    refine lv_iconst (v := (0 : Int32)) hx hb dX7_cut_22 (by decide) ?_
    obtain rfl := Option.some.inj hf
    exact k_retZ hx hb hr hlocks hP hS rfl dX7_cut_23
  · rw [if_neg c3] at hf
    by_cases c4 : R1 = some 0
    · rw [if_pos c4] at hf
      subst c4
      refine W.eq (g2 := F0 m 5 ls [.ref (q 1)]) rfl ?_
      refine lv_astore_n (lv' := [(3, .ref (q 1)), (0, .ref (q 0)), (1, .int x1), (2, .int x2)]) hx hb dX7_cut_5 rfl hl (by decide) rfl (fun ls hl => ?_)
      refine lv_aload_n hx hb dX7_cut_6 rfl (lv_at hl 0 rfl) ?_
      refine lv_ifnull hx hb dX7_cut_7 ?_
      refine lv_iload_n hx hb dX7_cut_10 rfl (lv_at hl 3 rfl) ?_
      refine lv_if_lt (tgt := 22) hx hb dX7_cut_11 (by decide) (fun c5 => ?_) (fun c5 => ?_)
      · rw [if_pos c5] at hf
        refine lv_iconst (v := (0 : Int32)) hx hb dX7_cut_22 (by decide) ?_
        obtain rfl := Option.some.inj hf
        exact k_retZ hx hb hr hlocks hP hS rfl dX7_cut_23
      · rw [if_neg c5] at hf
        refine lv_iload_n hx hb dX7_cut_14 rfl (lv_at hl 3 rfl) ?_
        refine lv_aload_n hx hb dX7_cut_15 rfl (lv_at hl 0 rfl) ?_
        obtain ⟨R6, hc7, hf⟩ := b_inv hf
        have hk := kcut (wc := (wR (q 1) (q 2) (cA 0) 48 (ar 0) (sc 0))) (wc' := (wR (q 1) (q 2) (cA 0) 48 (ar 0) (sc 0))) (wf := (wX q cA sc ar sg)) hP hD hS hA [1, 2] rfl (by decide) rfl rfl
        refine k_goI (va_runV (As := []) (rest := [.int x2]) ⟨hx, hb, hml, hown, hts⟩ (kX6_count l D (q 1) (q 2) (cA 0) 48 (ar 0) (sc 0) hc7 _) (cwV 0 hts gX7_cut_X6_count rfl rfl rfl (by decide +kernel) ⟨Nat.le_of_ble_eq_true rfl, Nat.le_of_ble_eq_true rfl⟩) (k_preV (q0 := 0) (ci := 5) hk (hK.sub [0] rfl) NT_bl NT_u rfl rfl rfl) rfl rfl hl.1 rfl (lv_room (Nat.le_of_ble_eq_true rfl)) dX7_cut_16 ⟨Nat.zero_le _, Nat.zero_le _⟩) hk hS (fun H locs hP hD hS => ?_)
        refine lv_icmp_le (tgt := 24) hx hb dX7_cut_19 (by decide) (fun c8 => ?_) (fun c8 => ?_)
        · rw [if_pos c8] at hf
          refine lv_aload_n hx hb dX7_cut_24 rfl (lv_at hl 0 rfl) ?_
          refine lv_iload_n hx hb dX7_cut_25 rfl (lv_at hl 3 rfl) ?_
          obtain ⟨R9, hc10, hf⟩ := b_inv hf
          have hk := kcut (wc := (wR (q 1) (q 2) (cA 0) 48 (ar 0) (sc 0))) (wc' := (wR (q 1) (q 2) (cA 0) 48 (ar 0) R9)) (wf := (wX q cA (va_up sc 0 R9) ar sg)) hP hD hS hA [1, 2] rfl (by decide) rfl rfl
          refine k_goV (va_runV (As := [.int x2]) (rest := []) ⟨hx, hb, hml, hown, hts⟩ (kX6_keep l D (q 1) (q 2) (cA 0) 48 (ar 0) (sc 0) x2 hc10 _) (cwV 1 hts gX7_cut_X6_keep rfl rfl rfl (by decide +kernel) ⟨Nat.le_of_ble_eq_true rfl, Nat.le_of_ble_eq_true rfl⟩) (k_preV (q0 := 0) (ci := 5) hk (hK.sub [0] rfl) NT_bl NT_u rfl rfl rfl) rfl rfl hl.1 rfl (lv_room (Nat.le_of_ble_eq_true rfl)) dX7_cut_26 ⟨Nat.zero_le _, Nat.zero_le _⟩) hk hS (fun H locs hP hD hS => ?_)
          refine lv_iconst (v := (1 : Int32)) hx hb dX7_cut_29 (by decide) ?_
          obtain rfl := Option.some.inj hf
          exact k_retZ hx hb hr hlocks hP hS rfl dX7_cut_30
        · rw [if_neg c8] at hf
          refine lv_iconst (v := (0 : Int32)) hx hb dX7_cut_22 (by decide) ?_
          obtain rfl := Option.some.inj hf
          exact k_retZ hx hb hr hlocks hP hS rfl dX7_cut_23
    · rw [if_neg c4] at hf
      by_cases c11 : R1 = some 1
      · rw [if_pos c11] at hf
        subst c11
        refine W.eq (g2 := F0 m 5 ls [.ref (q 3)]) rfl ?_
        refine lv_astore_n (lv' := [(3, .ref (q 3)), (0, .ref (q 0)), (1, .int x1), (2, .int x2)]) hx hb dX7_cut_5 rfl hl (by decide) rfl (fun ls hl => ?_)
        refine lv_aload_n hx hb dX7_cut_6 rfl (lv_at hl 0 rfl) ?_
        refine lv_ifnull hx hb dX7_cut_7 ?_
        refine lv_iload_n hx hb dX7_cut_10 rfl (lv_at hl 3 rfl) ?_
        refine lv_if_lt (tgt := 22) hx hb dX7_cut_11 (by decide) (fun c12 => ?_) (fun c12 => ?_)
        · rw [if_pos c12] at hf
          refine lv_iconst (v := (0 : Int32)) hx hb dX7_cut_22 (by decide) ?_
          obtain rfl := Option.some.inj hf
          exact k_retZ hx hb hr hlocks hP hS rfl dX7_cut_23
        · rw [if_neg c12] at hf
          refine lv_iload_n hx hb dX7_cut_14 rfl (lv_at hl 3 rfl) ?_
          refine lv_aload_n hx hb dX7_cut_15 rfl (lv_at hl 0 rfl) ?_
          obtain ⟨R13, hc14, hf⟩ := b_inv hf
          have hk := kcut (wc := (wR (q 3) (q 4) (cA 1) 64 (ar 1) (sc 1))) (wc' := (wR (q 3) (q 4) (cA 1) 64 (ar 1) (sc 1))) (wf := (wX q cA sc ar sg)) hP hD hS hA [3, 4] rfl (by decide) rfl rfl
          refine k_goI (va_runV (As := []) (rest := [.int x2]) ⟨hx, hb, hml, hown, hts⟩ (kX6_count l D (q 3) (q 4) (cA 1) 64 (ar 1) (sc 1) hc14 _) (cwV 0 hts gX7_cut_X6_count rfl rfl rfl (by decide +kernel) ⟨Nat.le_of_ble_eq_true rfl, Nat.le_of_ble_eq_true rfl⟩) (k_preV (q0 := 0) (ci := 5) hk (hK.sub [1] rfl) NT_bl NT_u rfl rfl rfl) rfl rfl hl.1 rfl (lv_room (Nat.le_of_ble_eq_true rfl)) dX7_cut_16 ⟨Nat.zero_le _, Nat.zero_le _⟩) hk hS (fun H locs hP hD hS => ?_)
          refine lv_icmp_le (tgt := 24) hx hb dX7_cut_19 (by decide) (fun c15 => ?_) (fun c15 => ?_)
          · rw [if_pos c15] at hf
            refine lv_aload_n hx hb dX7_cut_24 rfl (lv_at hl 0 rfl) ?_
            refine lv_iload_n hx hb dX7_cut_25 rfl (lv_at hl 3 rfl) ?_
            obtain ⟨R16, hc17, hf⟩ := b_inv hf
            have hk := kcut (wc := (wR (q 3) (q 4) (cA 1) 64 (ar 1) (sc 1))) (wc' := (wR (q 3) (q 4) (cA 1) 64 (ar 1) R16)) (wf := (wX q cA (va_up sc 1 R16) ar sg)) hP hD hS hA [3, 4] rfl (by decide) rfl rfl
            refine k_goV (va_runV (As := [.int x2]) (rest := []) ⟨hx, hb, hml, hown, hts⟩ (kX6_keep l D (q 3) (q 4) (cA 1) 64 (ar 1) (sc 1) x2 hc17 _) (cwV 1 hts gX7_cut_X6_keep rfl rfl rfl (by decide +kernel) ⟨Nat.le_of_ble_eq_true rfl, Nat.le_of_ble_eq_true rfl⟩) (k_preV (q0 := 0) (ci := 5) hk (hK.sub [1] rfl) NT_bl NT_u rfl rfl rfl) rfl rfl hl.1 rfl (lv_room (Nat.le_of_ble_eq_true rfl)) dX7_cut_26 ⟨Nat.zero_le _, Nat.zero_le _⟩) hk hS (fun H locs hP hD hS => ?_)
            refine lv_iconst (v := (1 : Int32)) hx hb dX7_cut_29 (by decide) ?_
            obtain rfl := Option.some.inj hf
            exact k_retZ hx hb hr hlocks hP hS rfl dX7_cut_30
          · rw [if_neg c15] at hf
            refine lv_iconst (v := (0 : Int32)) hx hb dX7_cut_22 (by decide) ?_
            obtain rfl := Option.some.inj hf
            exact k_retZ hx hb hr hlocks hP hS rfl dX7_cut_23
      · rw [if_neg c11] at hf
        by_cases c18 : R1 = some 2
        · rw [if_pos c18] at hf
          subst c18
          refine W.eq (g2 := F0 m 5 ls [.ref (q 5)]) rfl ?_
          refine lv_astore_n (lv' := [(3, .ref (q 5)), (0, .ref (q 0)), (1, .int x1), (2, .int x2)]) hx hb dX7_cut_5 rfl hl (by decide) rfl (fun ls hl => ?_)
          refine lv_aload_n hx hb dX7_cut_6 rfl (lv_at hl 0 rfl) ?_
          refine lv_ifnull hx hb dX7_cut_7 ?_
          refine lv_iload_n hx hb dX7_cut_10 rfl (lv_at hl 3 rfl) ?_
          refine lv_if_lt (tgt := 22) hx hb dX7_cut_11 (by decide) (fun c19 => ?_) (fun c19 => ?_)
          · rw [if_pos c19] at hf
            refine lv_iconst (v := (0 : Int32)) hx hb dX7_cut_22 (by decide) ?_
            obtain rfl := Option.some.inj hf
            exact k_retZ hx hb hr hlocks hP hS rfl dX7_cut_23
          · rw [if_neg c19] at hf
            refine lv_iload_n hx hb dX7_cut_14 rfl (lv_at hl 3 rfl) ?_
            refine lv_aload_n hx hb dX7_cut_15 rfl (lv_at hl 0 rfl) ?_
            obtain ⟨R20, hc21, hf⟩ := b_inv hf
            have hk := kcut (wc := (wR (q 5) (q 6) (cA 2) 1000 (ar 2) (sc 2))) (wc' := (wR (q 5) (q 6) (cA 2) 1000 (ar 2) (sc 2))) (wf := (wX q cA sc ar sg)) hP hD hS hA [5, 6] rfl (by decide) rfl rfl
            refine k_goI (va_runV (As := []) (rest := [.int x2]) ⟨hx, hb, hml, hown, hts⟩ (kX6_count l D (q 5) (q 6) (cA 2) 1000 (ar 2) (sc 2) hc21 _) (cwV 0 hts gX7_cut_X6_count rfl rfl rfl (by decide +kernel) ⟨Nat.le_of_ble_eq_true rfl, Nat.le_of_ble_eq_true rfl⟩) (k_preV (q0 := 0) (ci := 5) hk (hK.sub [2] rfl) NT_bl NT_u rfl rfl rfl) rfl rfl hl.1 rfl (lv_room (Nat.le_of_ble_eq_true rfl)) dX7_cut_16 ⟨Nat.zero_le _, Nat.zero_le _⟩) hk hS (fun H locs hP hD hS => ?_)
            refine lv_icmp_le (tgt := 24) hx hb dX7_cut_19 (by decide) (fun c22 => ?_) (fun c22 => ?_)
            · rw [if_pos c22] at hf
              refine lv_aload_n hx hb dX7_cut_24 rfl (lv_at hl 0 rfl) ?_
              refine lv_iload_n hx hb dX7_cut_25 rfl (lv_at hl 3 rfl) ?_
              obtain ⟨R23, hc24, hf⟩ := b_inv hf
              have hk := kcut (wc := (wR (q 5) (q 6) (cA 2) 1000 (ar 2) (sc 2))) (wc' := (wR (q 5) (q 6) (cA 2) 1000 (ar 2) R23)) (wf := (wX q cA (va_up sc 2 R23) ar sg)) hP hD hS hA [5, 6] rfl (by decide) rfl rfl
              refine k_goV (va_runV (As := [.int x2]) (rest := []) ⟨hx, hb, hml, hown, hts⟩ (kX6_keep l D (q 5) (q 6) (cA 2) 1000 (ar 2) (sc 2) x2 hc24 _) (cwV 1 hts gX7_cut_X6_keep rfl rfl rfl (by decide +kernel) ⟨Nat.le_of_ble_eq_true rfl, Nat.le_of_ble_eq_true rfl⟩) (k_preV (q0 := 0) (ci := 5) hk (hK.sub [2] rfl) NT_bl NT_u rfl rfl rfl) rfl rfl hl.1 rfl (lv_room (Nat.le_of_ble_eq_true rfl)) dX7_cut_26 ⟨Nat.zero_le _, Nat.zero_le _⟩) hk hS (fun H locs hP hD hS => ?_)
              refine lv_iconst (v := (1 : Int32)) hx hb dX7_cut_29 (by decide) ?_
              obtain rfl := Option.some.inj hf
              exact k_retZ hx hb hr hlocks hP hS rfl dX7_cut_30
            · rw [if_neg c22] at hf
              refine lv_iconst (v := (0 : Int32)) hx hb dX7_cut_22 (by decide) ?_
              obtain rfl := Option.some.inj hf
              exact k_retZ hx hb hr hlocks hP hS rfl dX7_cut_23
        · rw [if_neg c18] at hf
          by_cases c25 : R1 = some 3
          · rw [if_pos c25] at hf
            subst c25
            refine W.eq (g2 := F0 m 5 ls [.ref (q 7)]) rfl ?_
            refine lv_astore_n (lv' := [(3, .ref (q 7)), (0, .ref (q 0)), (1, .int x1), (2, .int x2)]) hx hb dX7_cut_5 rfl hl (by decide) rfl (fun ls hl => ?_)
            refine lv_aload_n hx hb dX7_cut_6 rfl (lv_at hl 0 rfl) ?_
            refine lv_ifnull hx hb dX7_cut_7 ?_
            refine lv_iload_n hx hb dX7_cut_10 rfl (lv_at hl 3 rfl) ?_
            refine lv_if_lt (tgt := 22) hx hb dX7_cut_11 (by decide) (fun c26 => ?_) (fun c26 => ?_)
            · rw [if_pos c26] at hf
              refine lv_iconst (v := (0 : Int32)) hx hb dX7_cut_22 (by decide) ?_
              obtain rfl := Option.some.inj hf
              exact k_retZ hx hb hr hlocks hP hS rfl dX7_cut_23
            · rw [if_neg c26] at hf
              refine lv_iload_n hx hb dX7_cut_14 rfl (lv_at hl 3 rfl) ?_
              refine lv_aload_n hx hb dX7_cut_15 rfl (lv_at hl 0 rfl) ?_
              obtain ⟨R27, hc28, hf⟩ := b_inv hf
              have hk := kcut (wc := (wR (q 7) (q 8) (cA 3) 400 (ar 3) (sc 3))) (wc' := (wR (q 7) (q 8) (cA 3) 400 (ar 3) (sc 3))) (wf := (wX q cA sc ar sg)) hP hD hS hA [7, 8] rfl (by decide) rfl rfl
              refine k_goI (va_runV (As := []) (rest := [.int x2]) ⟨hx, hb, hml, hown, hts⟩ (kX6_count l D (q 7) (q 8) (cA 3) 400 (ar 3) (sc 3) hc28 _) (cwV 0 hts gX7_cut_X6_count rfl rfl rfl (by decide +kernel) ⟨Nat.le_of_ble_eq_true rfl, Nat.le_of_ble_eq_true rfl⟩) (k_preV (q0 := 0) (ci := 5) hk (hK.sub [3] rfl) NT_bl NT_u rfl rfl rfl) rfl rfl hl.1 rfl (lv_room (Nat.le_of_ble_eq_true rfl)) dX7_cut_16 ⟨Nat.zero_le _, Nat.zero_le _⟩) hk hS (fun H locs hP hD hS => ?_)
              refine lv_icmp_le (tgt := 24) hx hb dX7_cut_19 (by decide) (fun c29 => ?_) (fun c29 => ?_)
              · rw [if_pos c29] at hf
                refine lv_aload_n hx hb dX7_cut_24 rfl (lv_at hl 0 rfl) ?_
                refine lv_iload_n hx hb dX7_cut_25 rfl (lv_at hl 3 rfl) ?_
                obtain ⟨R30, hc31, hf⟩ := b_inv hf
                have hk := kcut (wc := (wR (q 7) (q 8) (cA 3) 400 (ar 3) (sc 3))) (wc' := (wR (q 7) (q 8) (cA 3) 400 (ar 3) R30)) (wf := (wX q cA (va_up sc 3 R30) ar sg)) hP hD hS hA [7, 8] rfl (by decide) rfl rfl
                refine k_goV (va_runV (As := [.int x2]) (rest := []) ⟨hx, hb, hml, hown, hts⟩ (kX6_keep l D (q 7) (q 8) (cA 3) 400 (ar 3) (sc 3) x2 hc31 _) (cwV 1 hts gX7_cut_X6_keep rfl rfl rfl (by decide +kernel) ⟨Nat.le_of_ble_eq_true rfl, Nat.le_of_ble_eq_true rfl⟩) (k_preV (q0 := 0) (ci := 5) hk (hK.sub [3] rfl) NT_bl NT_u rfl rfl rfl) rfl rfl hl.1 rfl (lv_room (Nat.le_of_ble_eq_true rfl)) dX7_cut_26 ⟨Nat.zero_le _, Nat.zero_le _⟩) hk hS (fun H locs hP hD hS => ?_)
                refine lv_iconst (v := (1 : Int32)) hx hb dX7_cut_29 (by decide) ?_
                obtain rfl := Option.some.inj hf
                exact k_retZ hx hb hr hlocks hP hS rfl dX7_cut_30
              · rw [if_neg c29] at hf
                refine lv_iconst (v := (0 : Int32)) hx hb dX7_cut_22 (by decide) ?_
                obtain rfl := Option.some.inj hf
                exact k_retZ hx hb hr hlocks hP hS rfl dX7_cut_23
          · rw [if_neg c25] at hf
            exact absurd hf (by simp)

noncomputable def fX7_set (sc : Nat → Int32) (ar : Nat → Nat → Int32) (sg : Bool) (x1 : Int32) (x2 : Int32) (x3 : Int32) : Option (Int32 × (Nat → Nat → Int32)) :=
  (fX7_inputRow sc ar sg x1).bind fun R1 =>
  if R1 = none then
    some ((0 : Int32), ar)
  else
    if R1 = some 0 then
      if x2 < 0 then
        some ((0 : Int32), ar)
      else
        (fX6_count 48 (ar 0) (sc 0)).bind fun R6 =>
        if R6 ≤ x2 then
          some ((0 : Int32), ar)
        else
          (fX7_isByte x3).bind fun R9 =>
          if R9 = 0 then
            some ((0 : Int32), ar)
          else
            (fX6_replace 48 (ar 0) (sc 0) x2 x3).bind fun R12 =>
            some ((1 : Int32), (va_up ar 0 R12))
    else
      if R1 = some 1 then
        if x2 < 0 then
          some ((0 : Int32), ar)
        else
          (fX6_count 64 (ar 1) (sc 1)).bind fun R16 =>
          if R16 ≤ x2 then
            some ((0 : Int32), ar)
          else
            (fX7_isByte x3).bind fun R19 =>
            if R19 = 0 then
              some ((0 : Int32), ar)
            else
              (fX6_replace 64 (ar 1) (sc 1) x2 x3).bind fun R22 =>
              some ((1 : Int32), (va_up ar 1 R22))
      else
        if R1 = some 2 then
          if x2 < 0 then
            some ((0 : Int32), ar)
          else
            (fX6_count 1000 (ar 2) (sc 2)).bind fun R26 =>
            if R26 ≤ x2 then
              some ((0 : Int32), ar)
            else
              (fX7_isByte x3).bind fun R29 =>
              if R29 = 0 then
                some ((0 : Int32), ar)
              else
                (fX6_replace 1000 (ar 2) (sc 2) x2 x3).bind fun R32 =>
                some ((1 : Int32), (va_up ar 2 R32))
        else
          if R1 = some 3 then
            if x2 < 0 then
              some ((0 : Int32), ar)
            else
              (fX6_count 400 (ar 3) (sc 3)).bind fun R36 =>
              if R36 ≤ x2 then
                some ((0 : Int32), ar)
              else
                (fX7_isByte x3).bind fun R39 =>
                if R39 = 0 then
                  some ((0 : Int32), ar)
                else
                  (fX6_replace 400 (ar 3) (sc 3) x2 x3).bind fun R42 =>
                  some ((1 : Int32), (va_up ar 3 R42))
          else
            none

set_option maxHeartbeats 4000000 in
set_option maxRecDepth 100000 in
theorem kX7_set (l : Launch) (D : va_G) (q : Nat → Nat) (cA : Nat → ClassId) (sc : Nat → Int32) (ar : Nat → Nat → Int32) (sg : Bool) (x1 : Int32) (x2 : Int32) (x3 : Int32) {R : Int32 × (Nat → Nat → Int32)} (hf : fX7_set sc ar sg x1 x2 x3 = some R) : MI l yX7_set wsX7_set (rmD 2) D ([.ref (q 0), .int x1, .int x2, .int x3] : List Value) (wX q cA sc ar sg) (tX cA) NX R.1 (wX q cA sc R.2 sg) := by
  refine MI.mk (cc := cX7_set) (maxL := 5) (ret := (some .boolean)) (by first | decide | decide +kernel) rfl (Nat.le_of_ble_eq_true rfl) ?_
  intro p e s m below meth cd A ls hE
  obtain ⟨hx, hb, hr, hml, hts, hown, hlocks, hP, hK, hD, hA, hN, hAe, hl⟩ := hE
  have hown : s.vm.findClass RX7 = some m.cls := hown
  have hS : va_S A s.heap s.heap [] := va_S.rf
  have hl : lv_has ls 5 [(0, .ref (q 0)), (1, .int x1), (2, .int x2), (3, .int x3)] := hl
  rw [fX7_set] at hf
  refine lv_aload_n hx hb dX7_set_0 rfl (lv_at hl 0 rfl) ?_
  refine lv_iload_n hx hb dX7_set_1 rfl (lv_at hl 1 rfl) ?_
  obtain ⟨R1, hc2, hf⟩ := b_inv hf
  have hk := kall (wc' := (wX q cA sc ar sg)) hP hD hS hA rfl
  refine k_goR (va_runV (As := [.int x1]) (rest := []) ⟨hx, hb, hml, hown, hts⟩ (kX7_inputRow l D q cA sc ar sg x1 hc2 _) (cwV 1 hts gX7_set_X7_inputRow rfl rfl rfl (by decide +kernel) ⟨Nat.le_of_ble_eq_true rfl, Nat.le_of_ble_eq_true rfl⟩) (k_preV (q0 := 0) (ci := 6) hk hK NX_bl (fun U _ hW => NX_w hW hN) rfl rfl rfl) rfl rfl hl.1 rfl (lv_room (Nat.le_of_ble_eq_true rfl)) dX7_set_2 ⟨Nat.zero_le _, Nat.zero_le _⟩) hk hS (fun H locs hP hD hS => ?_)
  by_cases c3 : R1 = none
  · rw [if_pos c3] at hf
    subst c3
    refine W.eq (g2 := F0 m 5 ls [.null]) rfl ?_
    refine lv_astoreN (lv' := [(4, .null), (0, .ref (q 0)), (1, .int x1), (2, .int x2), (3, .int x3)]) hx hb dX7_set_5 hl (by decide) rfl (fun ls hl => ?_)
    refine lv_aloadN hx hb dX7_set_7 (lv_at hl 0 rfl) ?_
    refine lv_ifnullN (tgt := 32) hx hb dX7_set_9 (by decide) ?_
    refine lv_iconst (v := (0 : Int32)) hx hb dX7_set_32 (by decide) ?_
    obtain rfl := Option.some.inj hf
    exact k_retZ hx hb hr hlocks hP hS rfl dX7_set_33
  · rw [if_neg c3] at hf
    by_cases c4 : R1 = some 0
    · rw [if_pos c4] at hf
      subst c4
      refine W.eq (g2 := F0 m 5 ls [.ref (q 1)]) rfl ?_
      refine lv_astore (lv' := [(4, .ref (q 1)), (0, .ref (q 0)), (1, .int x1), (2, .int x2), (3, .int x3)]) hx hb dX7_set_5 hl (by decide) rfl (fun ls hl => ?_)
      refine lv_aload hx hb dX7_set_7 (lv_at hl 0 rfl) ?_
      refine lv_ifnull hx hb dX7_set_9 ?_
      refine lv_iload_n hx hb dX7_set_12 rfl (lv_at hl 3 rfl) ?_
      refine lv_if_lt (tgt := 32) hx hb dX7_set_13 (by decide) (fun c5 => ?_) (fun c5 => ?_)
      · rw [if_pos c5] at hf
        refine lv_iconst (v := (0 : Int32)) hx hb dX7_set_32 (by decide) ?_
        obtain rfl := Option.some.inj hf
        exact k_retZ hx hb hr hlocks hP hS rfl dX7_set_33
      · rw [if_neg c5] at hf
        refine lv_iload_n hx hb dX7_set_16 rfl (lv_at hl 3 rfl) ?_
        refine lv_aload hx hb dX7_set_17 (lv_at hl 0 rfl) ?_
        obtain ⟨R6, hc7, hf⟩ := b_inv hf
        have hk := kcut (wc := (wR (q 1) (q 2) (cA 0) 48 (ar 0) (sc 0))) (wc' := (wR (q 1) (q 2) (cA 0) 48 (ar 0) (sc 0))) (wf := (wX q cA sc ar sg)) hP hD hS hA [1, 2] rfl (by decide) rfl rfl
        refine k_goI (va_runV (As := []) (rest := [.int x2]) ⟨hx, hb, hml, hown, hts⟩ (kX6_count l D (q 1) (q 2) (cA 0) 48 (ar 0) (sc 0) hc7 _) (cwV 0 hts gX7_set_X6_count rfl rfl rfl (by decide +kernel) ⟨Nat.le_of_ble_eq_true rfl, Nat.le_of_ble_eq_true rfl⟩) (k_preV (q0 := 0) (ci := 5) hk (hK.sub [0] rfl) NT_bl NT_u rfl rfl rfl) rfl rfl hl.1 rfl (lv_room (Nat.le_of_ble_eq_true rfl)) dX7_set_19 ⟨Nat.zero_le _, Nat.zero_le _⟩) hk hS (fun H locs hP hD hS => ?_)
        refine lv_icmp_ge (tgt := 32) hx hb dX7_set_22 (by decide) (fun c8 => ?_) (fun c8 => ?_)
        · rw [if_pos c8] at hf
          refine lv_iconst (v := (0 : Int32)) hx hb dX7_set_32 (by decide) ?_
          obtain rfl := Option.some.inj hf
          exact k_retZ hx hb hr hlocks hP hS rfl dX7_set_33
        · rw [if_neg c8] at hf
          refine lv_iload_n hx hb dX7_set_25 rfl (lv_at hl 4 rfl) ?_
          obtain ⟨R9, hc10, hf⟩ := b_inv hf
          have hk := kcut (wc := ([] : va_W)) (wc' := ([] : va_W)) (wf := (wX q cA sc ar sg)) hP hD hS hA [] rfl (by decide) rfl rfl
          refine k_goI (va_runS (As := [.int x3]) (rest := []) ⟨hx, hb, hml, hown, hts⟩ (kX7_isByte l D x3 hc10 _) ⟨callB_of 1 hts ggX7_set_X7_isByte rfl rfl rfl (hts (.initialized RX7) (List.mem_of_getElem? (i := 4) rfl)) (hts (.methodLink RX7 60 yX7_isByte) (List.mem_of_getElem? (i := 20) rfl)) (by decide +kernel) ⟨Nat.le_of_ble_eq_true rfl, Nat.le_of_ble_eq_true rfl⟩, (hts (.static yX7_isByte) (List.mem_of_getElem? (i := 21) rfl))⟩ (k_preS hk (hK.sub [] rfl) NT_bl NT_u) rfl rfl hl.1 rfl (lv_room (Nat.le_of_ble_eq_true rfl)) dX7_set_26 ⟨Nat.zero_le _, Nat.zero_le _⟩) hk hS (fun H locs hP hD hS => ?_)
          refine lv_if_ne (tgt := 34) hx hb dX7_set_29 (by decide) (fun c11 => ?_) (fun c11 => ?_)
          · rw [if_neg c11] at hf
            refine lv_aload hx hb dX7_set_34 (lv_at hl 0 rfl) ?_
            refine lv_iload_n hx hb dX7_set_36 rfl (lv_at hl 3 rfl) ?_
            refine lv_iload_n hx hb dX7_set_37 rfl (lv_at hl 4 rfl) ?_
            obtain ⟨R12, hc13, hf⟩ := b_inv hf
            have hk := kcut (wc := (wR (q 1) (q 2) (cA 0) 48 (ar 0) (sc 0))) (wc' := (wR (q 1) (q 2) (cA 0) 48 R12 (sc 0))) (wf := (wX q cA sc (va_up ar 0 R12) sg)) hP hD hS hA [1, 2] rfl (by decide) rfl rfl
            refine k_goV (va_runV (As := [.int x2, .int x3]) (rest := []) ⟨hx, hb, hml, hown, hts⟩ (kX6_replace l D (q 1) (q 2) (cA 0) 48 (ar 0) (sc 0) x2 x3 hc13 _) (cwV 2 hts gX7_set_X6_replace rfl rfl rfl (by decide +kernel) ⟨Nat.le_of_ble_eq_true rfl, Nat.le_of_ble_eq_true rfl⟩) (k_preV (q0 := 0) (ci := 5) hk (hK.sub [0] rfl) NT_bl NT_u rfl rfl rfl) rfl rfl hl.1 rfl (lv_room (Nat.le_of_ble_eq_true rfl)) dX7_set_38 ⟨Nat.zero_le _, Nat.zero_le _⟩) hk hS (fun H locs hP hD hS => ?_)
            refine lv_iconst (v := (1 : Int32)) hx hb dX7_set_41 (by decide) ?_
            obtain rfl := Option.some.inj hf
            exact k_retZ hx hb hr hlocks hP hS rfl dX7_set_42
          · rw [if_pos c11] at hf
            refine lv_iconst (v := (0 : Int32)) hx hb dX7_set_32 (by decide) ?_
            obtain rfl := Option.some.inj hf
            exact k_retZ hx hb hr hlocks hP hS rfl dX7_set_33
    · rw [if_neg c4] at hf
      by_cases c14 : R1 = some 1
      · rw [if_pos c14] at hf
        subst c14
        refine W.eq (g2 := F0 m 5 ls [.ref (q 3)]) rfl ?_
        refine lv_astore (lv' := [(4, .ref (q 3)), (0, .ref (q 0)), (1, .int x1), (2, .int x2), (3, .int x3)]) hx hb dX7_set_5 hl (by decide) rfl (fun ls hl => ?_)
        refine lv_aload hx hb dX7_set_7 (lv_at hl 0 rfl) ?_
        refine lv_ifnull hx hb dX7_set_9 ?_
        refine lv_iload_n hx hb dX7_set_12 rfl (lv_at hl 3 rfl) ?_
        refine lv_if_lt (tgt := 32) hx hb dX7_set_13 (by decide) (fun c15 => ?_) (fun c15 => ?_)
        · rw [if_pos c15] at hf
          refine lv_iconst (v := (0 : Int32)) hx hb dX7_set_32 (by decide) ?_
          obtain rfl := Option.some.inj hf
          exact k_retZ hx hb hr hlocks hP hS rfl dX7_set_33
        · rw [if_neg c15] at hf
          refine lv_iload_n hx hb dX7_set_16 rfl (lv_at hl 3 rfl) ?_
          refine lv_aload hx hb dX7_set_17 (lv_at hl 0 rfl) ?_
          obtain ⟨R16, hc17, hf⟩ := b_inv hf
          have hk := kcut (wc := (wR (q 3) (q 4) (cA 1) 64 (ar 1) (sc 1))) (wc' := (wR (q 3) (q 4) (cA 1) 64 (ar 1) (sc 1))) (wf := (wX q cA sc ar sg)) hP hD hS hA [3, 4] rfl (by decide) rfl rfl
          refine k_goI (va_runV (As := []) (rest := [.int x2]) ⟨hx, hb, hml, hown, hts⟩ (kX6_count l D (q 3) (q 4) (cA 1) 64 (ar 1) (sc 1) hc17 _) (cwV 0 hts gX7_set_X6_count rfl rfl rfl (by decide +kernel) ⟨Nat.le_of_ble_eq_true rfl, Nat.le_of_ble_eq_true rfl⟩) (k_preV (q0 := 0) (ci := 5) hk (hK.sub [1] rfl) NT_bl NT_u rfl rfl rfl) rfl rfl hl.1 rfl (lv_room (Nat.le_of_ble_eq_true rfl)) dX7_set_19 ⟨Nat.zero_le _, Nat.zero_le _⟩) hk hS (fun H locs hP hD hS => ?_)
          refine lv_icmp_ge (tgt := 32) hx hb dX7_set_22 (by decide) (fun c18 => ?_) (fun c18 => ?_)
          · rw [if_pos c18] at hf
            refine lv_iconst (v := (0 : Int32)) hx hb dX7_set_32 (by decide) ?_
            obtain rfl := Option.some.inj hf
            exact k_retZ hx hb hr hlocks hP hS rfl dX7_set_33
          · rw [if_neg c18] at hf
            refine lv_iload_n hx hb dX7_set_25 rfl (lv_at hl 4 rfl) ?_
            obtain ⟨R19, hc20, hf⟩ := b_inv hf
            have hk := kcut (wc := ([] : va_W)) (wc' := ([] : va_W)) (wf := (wX q cA sc ar sg)) hP hD hS hA [] rfl (by decide) rfl rfl
            refine k_goI (va_runS (As := [.int x3]) (rest := []) ⟨hx, hb, hml, hown, hts⟩ (kX7_isByte l D x3 hc20 _) ⟨callB_of 1 hts ggX7_set_X7_isByte rfl rfl rfl (hts (.initialized RX7) (List.mem_of_getElem? (i := 4) rfl)) (hts (.methodLink RX7 60 yX7_isByte) (List.mem_of_getElem? (i := 20) rfl)) (by decide +kernel) ⟨Nat.le_of_ble_eq_true rfl, Nat.le_of_ble_eq_true rfl⟩, (hts (.static yX7_isByte) (List.mem_of_getElem? (i := 21) rfl))⟩ (k_preS hk (hK.sub [] rfl) NT_bl NT_u) rfl rfl hl.1 rfl (lv_room (Nat.le_of_ble_eq_true rfl)) dX7_set_26 ⟨Nat.zero_le _, Nat.zero_le _⟩) hk hS (fun H locs hP hD hS => ?_)
            refine lv_if_ne (tgt := 34) hx hb dX7_set_29 (by decide) (fun c21 => ?_) (fun c21 => ?_)
            · rw [if_neg c21] at hf
              refine lv_aload hx hb dX7_set_34 (lv_at hl 0 rfl) ?_
              refine lv_iload_n hx hb dX7_set_36 rfl (lv_at hl 3 rfl) ?_
              refine lv_iload_n hx hb dX7_set_37 rfl (lv_at hl 4 rfl) ?_
              obtain ⟨R22, hc23, hf⟩ := b_inv hf
              have hk := kcut (wc := (wR (q 3) (q 4) (cA 1) 64 (ar 1) (sc 1))) (wc' := (wR (q 3) (q 4) (cA 1) 64 R22 (sc 1))) (wf := (wX q cA sc (va_up ar 1 R22) sg)) hP hD hS hA [3, 4] rfl (by decide) rfl rfl
              refine k_goV (va_runV (As := [.int x2, .int x3]) (rest := []) ⟨hx, hb, hml, hown, hts⟩ (kX6_replace l D (q 3) (q 4) (cA 1) 64 (ar 1) (sc 1) x2 x3 hc23 _) (cwV 2 hts gX7_set_X6_replace rfl rfl rfl (by decide +kernel) ⟨Nat.le_of_ble_eq_true rfl, Nat.le_of_ble_eq_true rfl⟩) (k_preV (q0 := 0) (ci := 5) hk (hK.sub [1] rfl) NT_bl NT_u rfl rfl rfl) rfl rfl hl.1 rfl (lv_room (Nat.le_of_ble_eq_true rfl)) dX7_set_38 ⟨Nat.zero_le _, Nat.zero_le _⟩) hk hS (fun H locs hP hD hS => ?_)
              refine lv_iconst (v := (1 : Int32)) hx hb dX7_set_41 (by decide) ?_
              obtain rfl := Option.some.inj hf
              exact k_retZ hx hb hr hlocks hP hS rfl dX7_set_42
            · rw [if_pos c21] at hf
              refine lv_iconst (v := (0 : Int32)) hx hb dX7_set_32 (by decide) ?_
              obtain rfl := Option.some.inj hf
              exact k_retZ hx hb hr hlocks hP hS rfl dX7_set_33
      · rw [if_neg c14] at hf
        by_cases c24 : R1 = some 2
        · rw [if_pos c24] at hf
          subst c24
          refine W.eq (g2 := F0 m 5 ls [.ref (q 5)]) rfl ?_
          refine lv_astore (lv' := [(4, .ref (q 5)), (0, .ref (q 0)), (1, .int x1), (2, .int x2), (3, .int x3)]) hx hb dX7_set_5 hl (by decide) rfl (fun ls hl => ?_)
          refine lv_aload hx hb dX7_set_7 (lv_at hl 0 rfl) ?_
          refine lv_ifnull hx hb dX7_set_9 ?_
          refine lv_iload_n hx hb dX7_set_12 rfl (lv_at hl 3 rfl) ?_
          refine lv_if_lt (tgt := 32) hx hb dX7_set_13 (by decide) (fun c25 => ?_) (fun c25 => ?_)
          · rw [if_pos c25] at hf
            refine lv_iconst (v := (0 : Int32)) hx hb dX7_set_32 (by decide) ?_
            obtain rfl := Option.some.inj hf
            exact k_retZ hx hb hr hlocks hP hS rfl dX7_set_33
          · rw [if_neg c25] at hf
            refine lv_iload_n hx hb dX7_set_16 rfl (lv_at hl 3 rfl) ?_
            refine lv_aload hx hb dX7_set_17 (lv_at hl 0 rfl) ?_
            obtain ⟨R26, hc27, hf⟩ := b_inv hf
            have hk := kcut (wc := (wR (q 5) (q 6) (cA 2) 1000 (ar 2) (sc 2))) (wc' := (wR (q 5) (q 6) (cA 2) 1000 (ar 2) (sc 2))) (wf := (wX q cA sc ar sg)) hP hD hS hA [5, 6] rfl (by decide) rfl rfl
            refine k_goI (va_runV (As := []) (rest := [.int x2]) ⟨hx, hb, hml, hown, hts⟩ (kX6_count l D (q 5) (q 6) (cA 2) 1000 (ar 2) (sc 2) hc27 _) (cwV 0 hts gX7_set_X6_count rfl rfl rfl (by decide +kernel) ⟨Nat.le_of_ble_eq_true rfl, Nat.le_of_ble_eq_true rfl⟩) (k_preV (q0 := 0) (ci := 5) hk (hK.sub [2] rfl) NT_bl NT_u rfl rfl rfl) rfl rfl hl.1 rfl (lv_room (Nat.le_of_ble_eq_true rfl)) dX7_set_19 ⟨Nat.zero_le _, Nat.zero_le _⟩) hk hS (fun H locs hP hD hS => ?_)
            refine lv_icmp_ge (tgt := 32) hx hb dX7_set_22 (by decide) (fun c28 => ?_) (fun c28 => ?_)
            · rw [if_pos c28] at hf
              refine lv_iconst (v := (0 : Int32)) hx hb dX7_set_32 (by decide) ?_
              obtain rfl := Option.some.inj hf
              exact k_retZ hx hb hr hlocks hP hS rfl dX7_set_33
            · rw [if_neg c28] at hf
              refine lv_iload_n hx hb dX7_set_25 rfl (lv_at hl 4 rfl) ?_
              obtain ⟨R29, hc30, hf⟩ := b_inv hf
              have hk := kcut (wc := ([] : va_W)) (wc' := ([] : va_W)) (wf := (wX q cA sc ar sg)) hP hD hS hA [] rfl (by decide) rfl rfl
              refine k_goI (va_runS (As := [.int x3]) (rest := []) ⟨hx, hb, hml, hown, hts⟩ (kX7_isByte l D x3 hc30 _) ⟨callB_of 1 hts ggX7_set_X7_isByte rfl rfl rfl (hts (.initialized RX7) (List.mem_of_getElem? (i := 4) rfl)) (hts (.methodLink RX7 60 yX7_isByte) (List.mem_of_getElem? (i := 20) rfl)) (by decide +kernel) ⟨Nat.le_of_ble_eq_true rfl, Nat.le_of_ble_eq_true rfl⟩, (hts (.static yX7_isByte) (List.mem_of_getElem? (i := 21) rfl))⟩ (k_preS hk (hK.sub [] rfl) NT_bl NT_u) rfl rfl hl.1 rfl (lv_room (Nat.le_of_ble_eq_true rfl)) dX7_set_26 ⟨Nat.zero_le _, Nat.zero_le _⟩) hk hS (fun H locs hP hD hS => ?_)
              refine lv_if_ne (tgt := 34) hx hb dX7_set_29 (by decide) (fun c31 => ?_) (fun c31 => ?_)
              · rw [if_neg c31] at hf
                refine lv_aload hx hb dX7_set_34 (lv_at hl 0 rfl) ?_
                refine lv_iload_n hx hb dX7_set_36 rfl (lv_at hl 3 rfl) ?_
                refine lv_iload_n hx hb dX7_set_37 rfl (lv_at hl 4 rfl) ?_
                obtain ⟨R32, hc33, hf⟩ := b_inv hf
                have hk := kcut (wc := (wR (q 5) (q 6) (cA 2) 1000 (ar 2) (sc 2))) (wc' := (wR (q 5) (q 6) (cA 2) 1000 R32 (sc 2))) (wf := (wX q cA sc (va_up ar 2 R32) sg)) hP hD hS hA [5, 6] rfl (by decide) rfl rfl
                refine k_goV (va_runV (As := [.int x2, .int x3]) (rest := []) ⟨hx, hb, hml, hown, hts⟩ (kX6_replace l D (q 5) (q 6) (cA 2) 1000 (ar 2) (sc 2) x2 x3 hc33 _) (cwV 2 hts gX7_set_X6_replace rfl rfl rfl (by decide +kernel) ⟨Nat.le_of_ble_eq_true rfl, Nat.le_of_ble_eq_true rfl⟩) (k_preV (q0 := 0) (ci := 5) hk (hK.sub [2] rfl) NT_bl NT_u rfl rfl rfl) rfl rfl hl.1 rfl (lv_room (Nat.le_of_ble_eq_true rfl)) dX7_set_38 ⟨Nat.zero_le _, Nat.zero_le _⟩) hk hS (fun H locs hP hD hS => ?_)
                refine lv_iconst (v := (1 : Int32)) hx hb dX7_set_41 (by decide) ?_
                obtain rfl := Option.some.inj hf
                exact k_retZ hx hb hr hlocks hP hS rfl dX7_set_42
              · rw [if_pos c31] at hf
                refine lv_iconst (v := (0 : Int32)) hx hb dX7_set_32 (by decide) ?_
                obtain rfl := Option.some.inj hf
                exact k_retZ hx hb hr hlocks hP hS rfl dX7_set_33
        · rw [if_neg c24] at hf
          by_cases c34 : R1 = some 3
          · rw [if_pos c34] at hf
            subst c34
            refine W.eq (g2 := F0 m 5 ls [.ref (q 7)]) rfl ?_
            refine lv_astore (lv' := [(4, .ref (q 7)), (0, .ref (q 0)), (1, .int x1), (2, .int x2), (3, .int x3)]) hx hb dX7_set_5 hl (by decide) rfl (fun ls hl => ?_)
            refine lv_aload hx hb dX7_set_7 (lv_at hl 0 rfl) ?_
            refine lv_ifnull hx hb dX7_set_9 ?_
            refine lv_iload_n hx hb dX7_set_12 rfl (lv_at hl 3 rfl) ?_
            refine lv_if_lt (tgt := 32) hx hb dX7_set_13 (by decide) (fun c35 => ?_) (fun c35 => ?_)
            · rw [if_pos c35] at hf
              refine lv_iconst (v := (0 : Int32)) hx hb dX7_set_32 (by decide) ?_
              obtain rfl := Option.some.inj hf
              exact k_retZ hx hb hr hlocks hP hS rfl dX7_set_33
            · rw [if_neg c35] at hf
              refine lv_iload_n hx hb dX7_set_16 rfl (lv_at hl 3 rfl) ?_
              refine lv_aload hx hb dX7_set_17 (lv_at hl 0 rfl) ?_
              obtain ⟨R36, hc37, hf⟩ := b_inv hf
              have hk := kcut (wc := (wR (q 7) (q 8) (cA 3) 400 (ar 3) (sc 3))) (wc' := (wR (q 7) (q 8) (cA 3) 400 (ar 3) (sc 3))) (wf := (wX q cA sc ar sg)) hP hD hS hA [7, 8] rfl (by decide) rfl rfl
              refine k_goI (va_runV (As := []) (rest := [.int x2]) ⟨hx, hb, hml, hown, hts⟩ (kX6_count l D (q 7) (q 8) (cA 3) 400 (ar 3) (sc 3) hc37 _) (cwV 0 hts gX7_set_X6_count rfl rfl rfl (by decide +kernel) ⟨Nat.le_of_ble_eq_true rfl, Nat.le_of_ble_eq_true rfl⟩) (k_preV (q0 := 0) (ci := 5) hk (hK.sub [3] rfl) NT_bl NT_u rfl rfl rfl) rfl rfl hl.1 rfl (lv_room (Nat.le_of_ble_eq_true rfl)) dX7_set_19 ⟨Nat.zero_le _, Nat.zero_le _⟩) hk hS (fun H locs hP hD hS => ?_)
              refine lv_icmp_ge (tgt := 32) hx hb dX7_set_22 (by decide) (fun c38 => ?_) (fun c38 => ?_)
              · rw [if_pos c38] at hf
                refine lv_iconst (v := (0 : Int32)) hx hb dX7_set_32 (by decide) ?_
                obtain rfl := Option.some.inj hf
                exact k_retZ hx hb hr hlocks hP hS rfl dX7_set_33
              · rw [if_neg c38] at hf
                refine lv_iload_n hx hb dX7_set_25 rfl (lv_at hl 4 rfl) ?_
                obtain ⟨R39, hc40, hf⟩ := b_inv hf
                have hk := kcut (wc := ([] : va_W)) (wc' := ([] : va_W)) (wf := (wX q cA sc ar sg)) hP hD hS hA [] rfl (by decide) rfl rfl
                refine k_goI (va_runS (As := [.int x3]) (rest := []) ⟨hx, hb, hml, hown, hts⟩ (kX7_isByte l D x3 hc40 _) ⟨callB_of 1 hts ggX7_set_X7_isByte rfl rfl rfl (hts (.initialized RX7) (List.mem_of_getElem? (i := 4) rfl)) (hts (.methodLink RX7 60 yX7_isByte) (List.mem_of_getElem? (i := 20) rfl)) (by decide +kernel) ⟨Nat.le_of_ble_eq_true rfl, Nat.le_of_ble_eq_true rfl⟩, (hts (.static yX7_isByte) (List.mem_of_getElem? (i := 21) rfl))⟩ (k_preS hk (hK.sub [] rfl) NT_bl NT_u) rfl rfl hl.1 rfl (lv_room (Nat.le_of_ble_eq_true rfl)) dX7_set_26 ⟨Nat.zero_le _, Nat.zero_le _⟩) hk hS (fun H locs hP hD hS => ?_)
                refine lv_if_ne (tgt := 34) hx hb dX7_set_29 (by decide) (fun c41 => ?_) (fun c41 => ?_)
                · rw [if_neg c41] at hf
                  refine lv_aload hx hb dX7_set_34 (lv_at hl 0 rfl) ?_
                  refine lv_iload_n hx hb dX7_set_36 rfl (lv_at hl 3 rfl) ?_
                  refine lv_iload_n hx hb dX7_set_37 rfl (lv_at hl 4 rfl) ?_
                  obtain ⟨R42, hc43, hf⟩ := b_inv hf
                  have hk := kcut (wc := (wR (q 7) (q 8) (cA 3) 400 (ar 3) (sc 3))) (wc' := (wR (q 7) (q 8) (cA 3) 400 R42 (sc 3))) (wf := (wX q cA sc (va_up ar 3 R42) sg)) hP hD hS hA [7, 8] rfl (by decide) rfl rfl
                  refine k_goV (va_runV (As := [.int x2, .int x3]) (rest := []) ⟨hx, hb, hml, hown, hts⟩ (kX6_replace l D (q 7) (q 8) (cA 3) 400 (ar 3) (sc 3) x2 x3 hc43 _) (cwV 2 hts gX7_set_X6_replace rfl rfl rfl (by decide +kernel) ⟨Nat.le_of_ble_eq_true rfl, Nat.le_of_ble_eq_true rfl⟩) (k_preV (q0 := 0) (ci := 5) hk (hK.sub [3] rfl) NT_bl NT_u rfl rfl rfl) rfl rfl hl.1 rfl (lv_room (Nat.le_of_ble_eq_true rfl)) dX7_set_38 ⟨Nat.zero_le _, Nat.zero_le _⟩) hk hS (fun H locs hP hD hS => ?_)
                  refine lv_iconst (v := (1 : Int32)) hx hb dX7_set_41 (by decide) ?_
                  obtain rfl := Option.some.inj hf
                  exact k_retZ hx hb hr hlocks hP hS rfl dX7_set_42
                · rw [if_pos c41] at hf
                  refine lv_iconst (v := (0 : Int32)) hx hb dX7_set_32 (by decide) ?_
                  obtain rfl := Option.some.inj hf
                  exact k_retZ hx hb hr hlocks hP hS rfl dX7_set_33
          · rw [if_neg c34] at hf
            exact absurd hf (by simp)

noncomputable def fX7_length (sc : Nat → Int32) (ar : Nat → Nat → Int32) (sg : Bool) (x1 : Int32) : Option (Int32) :=
  (fX7_anyRow sc ar sg x1).bind fun R1 =>
  if R1 = none then
    some (-1 : Int32)
  else
    if R1 = some 0 then
      (fX6_count 48 (ar 0) (sc 0)).bind fun R5 =>
      some R5
    else
      if R1 = some 1 then
        (fX6_count 64 (ar 1) (sc 1)).bind fun R8 =>
        some R8
      else
        if R1 = some 2 then
          (fX6_count 1000 (ar 2) (sc 2)).bind fun R11 =>
          some R11
        else
          if R1 = some 3 then
            (fX6_count 400 (ar 3) (sc 3)).bind fun R14 =>
            some R14
          else
            none

set_option maxHeartbeats 4000000 in
set_option maxRecDepth 100000 in
theorem kX7_length (l : Launch) (D : va_G) (q : Nat → Nat) (cA : Nat → ClassId) (sc : Nat → Int32) (ar : Nat → Nat → Int32) (sg : Bool) (x1 : Int32) {R : Int32} (hf : fX7_length sc ar sg x1 = some R) : MI l yX7_length wsX7_length (rmD 1) D ([.ref (q 0), .int x1] : List Value) (wX q cA sc ar sg) (tX cA) NX R (wX q cA sc ar sg) := by
  refine MI.mk (cc := cX7_length) (maxL := 3) (ret := (some .int)) (by first | decide | decide +kernel) rfl (Nat.le_of_ble_eq_true rfl) ?_
  intro p e s m below meth cd A ls hE
  obtain ⟨hx, hb, hr, hml, hts, hown, hlocks, hP, hK, hD, hA, hN, hAe, hl⟩ := hE
  have hown : s.vm.findClass RX7 = some m.cls := hown
  have hS : va_S A s.heap s.heap [] := va_S.rf
  have hl : lv_has ls 3 [(0, .ref (q 0)), (1, .int x1)] := hl
  rw [fX7_length] at hf
  refine lv_aload_n hx hb dX7_length_0 rfl (lv_at hl 0 rfl) ?_
  refine lv_iload_n hx hb dX7_length_1 rfl (lv_at hl 1 rfl) ?_
  obtain ⟨R1, hc2, hf⟩ := b_inv hf
  have hk := kall (wc' := (wX q cA sc ar sg)) hP hD hS hA rfl
  refine k_goR (va_runV (As := [.int x1]) (rest := []) ⟨hx, hb, hml, hown, hts⟩ (kX7_anyRow l D q cA sc ar sg x1 hc2 _) (cwV 1 hts gX7_length_X7_anyRow rfl rfl rfl (by decide +kernel) ⟨Nat.le_of_ble_eq_true rfl, Nat.le_of_ble_eq_true rfl⟩) (k_preV (q0 := 0) (ci := 6) hk hK NX_bl (fun U _ hW => NX_w hW hN) rfl rfl rfl) rfl rfl hl.1 rfl (lv_room (Nat.le_of_ble_eq_true rfl)) dX7_length_2 ⟨Nat.zero_le _, Nat.zero_le _⟩) hk hS (fun H locs hP hD hS => ?_)
  by_cases c3 : R1 = none
  · rw [if_pos c3] at hf
    subst c3
    refine W.eq (g2 := F0 m 5 ls [.null]) rfl ?_
    refine lv_astore_nN (lv' := [(2, .null), (0, .ref (q 0)), (1, .int x1)]) hx hb dX7_length_5 rfl hl (by decide) rfl (fun ls hl => ?_)
    refine lv_aload_nN hx hb dX7_length_6 rfl (lv_at hl 0 rfl) ?_
    refine lv_ifnonnullN hx hb dX7_length_7 ?_
    refine lv_iconst (v := (-1 : Int32)) hx hb dX7_length_10 (by decide) ?_
    refine lv_goto (tgt := 18) hx hb dX7_length_11 (by decide) ?_
    obtain rfl := Option.some.inj hf
    exact k_retI hx hb hr hlocks hP hS dX7_length_18
  · rw [if_neg c3] at hf
    by_cases c4 : R1 = some 0
    · rw [if_pos c4] at hf
      subst c4
      refine W.eq (g2 := F0 m 5 ls [.ref (q 1)]) rfl ?_
      refine lv_astore_n (lv' := [(2, .ref (q 1)), (0, .ref (q 0)), (1, .int x1)]) hx hb dX7_length_5 rfl hl (by decide) rfl (fun ls hl => ?_)
      refine lv_aload_n hx hb dX7_length_6 rfl (lv_at hl 0 rfl) ?_
      refine lv_ifnonnull (tgt := 14) hx hb dX7_length_7 (by decide) ?_
      refine lv_aload_n hx hb dX7_length_14 rfl (lv_at hl 0 rfl) ?_
      obtain ⟨R5, hc6, hf⟩ := b_inv hf
      have hk := kcut (wc := (wR (q 1) (q 2) (cA 0) 48 (ar 0) (sc 0))) (wc' := (wR (q 1) (q 2) (cA 0) 48 (ar 0) (sc 0))) (wf := (wX q cA sc ar sg)) hP hD hS hA [1, 2] rfl (by decide) rfl rfl
      refine k_goI (va_runV (As := []) (rest := []) ⟨hx, hb, hml, hown, hts⟩ (kX6_count l D (q 1) (q 2) (cA 0) 48 (ar 0) (sc 0) hc6 _) (cwV 0 hts gX7_length_X6_count rfl rfl rfl (by decide +kernel) ⟨Nat.le_of_ble_eq_true rfl, Nat.le_of_ble_eq_true rfl⟩) (k_preV (q0 := 0) (ci := 5) hk (hK.sub [0] rfl) NT_bl NT_u rfl rfl rfl) rfl rfl hl.1 rfl (lv_room (Nat.le_of_ble_eq_true rfl)) dX7_length_15 ⟨Nat.zero_le _, Nat.zero_le _⟩) hk hS (fun H locs hP hD hS => ?_)
      obtain rfl := Option.some.inj hf
      exact k_retI hx hb hr hlocks hP hS dX7_length_18
    · rw [if_neg c4] at hf
      by_cases c7 : R1 = some 1
      · rw [if_pos c7] at hf
        subst c7
        refine W.eq (g2 := F0 m 5 ls [.ref (q 3)]) rfl ?_
        refine lv_astore_n (lv' := [(2, .ref (q 3)), (0, .ref (q 0)), (1, .int x1)]) hx hb dX7_length_5 rfl hl (by decide) rfl (fun ls hl => ?_)
        refine lv_aload_n hx hb dX7_length_6 rfl (lv_at hl 0 rfl) ?_
        refine lv_ifnonnull (tgt := 14) hx hb dX7_length_7 (by decide) ?_
        refine lv_aload_n hx hb dX7_length_14 rfl (lv_at hl 0 rfl) ?_
        obtain ⟨R8, hc9, hf⟩ := b_inv hf
        have hk := kcut (wc := (wR (q 3) (q 4) (cA 1) 64 (ar 1) (sc 1))) (wc' := (wR (q 3) (q 4) (cA 1) 64 (ar 1) (sc 1))) (wf := (wX q cA sc ar sg)) hP hD hS hA [3, 4] rfl (by decide) rfl rfl
        refine k_goI (va_runV (As := []) (rest := []) ⟨hx, hb, hml, hown, hts⟩ (kX6_count l D (q 3) (q 4) (cA 1) 64 (ar 1) (sc 1) hc9 _) (cwV 0 hts gX7_length_X6_count rfl rfl rfl (by decide +kernel) ⟨Nat.le_of_ble_eq_true rfl, Nat.le_of_ble_eq_true rfl⟩) (k_preV (q0 := 0) (ci := 5) hk (hK.sub [1] rfl) NT_bl NT_u rfl rfl rfl) rfl rfl hl.1 rfl (lv_room (Nat.le_of_ble_eq_true rfl)) dX7_length_15 ⟨Nat.zero_le _, Nat.zero_le _⟩) hk hS (fun H locs hP hD hS => ?_)
        obtain rfl := Option.some.inj hf
        exact k_retI hx hb hr hlocks hP hS dX7_length_18
      · rw [if_neg c7] at hf
        by_cases c10 : R1 = some 2
        · rw [if_pos c10] at hf
          subst c10
          refine W.eq (g2 := F0 m 5 ls [.ref (q 5)]) rfl ?_
          refine lv_astore_n (lv' := [(2, .ref (q 5)), (0, .ref (q 0)), (1, .int x1)]) hx hb dX7_length_5 rfl hl (by decide) rfl (fun ls hl => ?_)
          refine lv_aload_n hx hb dX7_length_6 rfl (lv_at hl 0 rfl) ?_
          refine lv_ifnonnull (tgt := 14) hx hb dX7_length_7 (by decide) ?_
          refine lv_aload_n hx hb dX7_length_14 rfl (lv_at hl 0 rfl) ?_
          obtain ⟨R11, hc12, hf⟩ := b_inv hf
          have hk := kcut (wc := (wR (q 5) (q 6) (cA 2) 1000 (ar 2) (sc 2))) (wc' := (wR (q 5) (q 6) (cA 2) 1000 (ar 2) (sc 2))) (wf := (wX q cA sc ar sg)) hP hD hS hA [5, 6] rfl (by decide) rfl rfl
          refine k_goI (va_runV (As := []) (rest := []) ⟨hx, hb, hml, hown, hts⟩ (kX6_count l D (q 5) (q 6) (cA 2) 1000 (ar 2) (sc 2) hc12 _) (cwV 0 hts gX7_length_X6_count rfl rfl rfl (by decide +kernel) ⟨Nat.le_of_ble_eq_true rfl, Nat.le_of_ble_eq_true rfl⟩) (k_preV (q0 := 0) (ci := 5) hk (hK.sub [2] rfl) NT_bl NT_u rfl rfl rfl) rfl rfl hl.1 rfl (lv_room (Nat.le_of_ble_eq_true rfl)) dX7_length_15 ⟨Nat.zero_le _, Nat.zero_le _⟩) hk hS (fun H locs hP hD hS => ?_)
          obtain rfl := Option.some.inj hf
          exact k_retI hx hb hr hlocks hP hS dX7_length_18
        · rw [if_neg c10] at hf
          by_cases c13 : R1 = some 3
          · rw [if_pos c13] at hf
            subst c13
            refine W.eq (g2 := F0 m 5 ls [.ref (q 7)]) rfl ?_
            refine lv_astore_n (lv' := [(2, .ref (q 7)), (0, .ref (q 0)), (1, .int x1)]) hx hb dX7_length_5 rfl hl (by decide) rfl (fun ls hl => ?_)
            refine lv_aload_n hx hb dX7_length_6 rfl (lv_at hl 0 rfl) ?_
            refine lv_ifnonnull (tgt := 14) hx hb dX7_length_7 (by decide) ?_
            refine lv_aload_n hx hb dX7_length_14 rfl (lv_at hl 0 rfl) ?_
            obtain ⟨R14, hc15, hf⟩ := b_inv hf
            have hk := kcut (wc := (wR (q 7) (q 8) (cA 3) 400 (ar 3) (sc 3))) (wc' := (wR (q 7) (q 8) (cA 3) 400 (ar 3) (sc 3))) (wf := (wX q cA sc ar sg)) hP hD hS hA [7, 8] rfl (by decide) rfl rfl
            refine k_goI (va_runV (As := []) (rest := []) ⟨hx, hb, hml, hown, hts⟩ (kX6_count l D (q 7) (q 8) (cA 3) 400 (ar 3) (sc 3) hc15 _) (cwV 0 hts gX7_length_X6_count rfl rfl rfl (by decide +kernel) ⟨Nat.le_of_ble_eq_true rfl, Nat.le_of_ble_eq_true rfl⟩) (k_preV (q0 := 0) (ci := 5) hk (hK.sub [3] rfl) NT_bl NT_u rfl rfl rfl) rfl rfl hl.1 rfl (lv_room (Nat.le_of_ble_eq_true rfl)) dX7_length_15 ⟨Nat.zero_le _, Nat.zero_le _⟩) hk hS (fun H locs hP hD hS => ?_)
            obtain rfl := Option.some.inj hf
            exact k_retI hx hb hr hlocks hP hS dX7_length_18
          · rw [if_neg c13] at hf
            exact absurd hf (by simp)

noncomputable def fX7_byteAt (sc : Nat → Int32) (ar : Nat → Nat → Int32) (sg : Bool) (x1 : Int32) (x2 : Int32) : Option (Int32) :=
  (fX7_anyRow sc ar sg x1).bind fun R1 =>
  if R1 = none then
    some (-1 : Int32)
  else
    if R1 = some 0 then
      if x2 < 0 then
        some (-1 : Int32)
      else
        (fX6_count 48 (ar 0) (sc 0)).bind fun R6 =>
        if x2 < R6 then
          (fX6_at 48 (ar 0) (sc 0) x2).bind fun R9 =>
          some R9
        else
          some (-1 : Int32)
    else
      if R1 = some 1 then
        if x2 < 0 then
          some (-1 : Int32)
        else
          (fX6_count 64 (ar 1) (sc 1)).bind fun R13 =>
          if x2 < R13 then
            (fX6_at 64 (ar 1) (sc 1) x2).bind fun R16 =>
            some R16
          else
            some (-1 : Int32)
      else
        if R1 = some 2 then
          if x2 < 0 then
            some (-1 : Int32)
          else
            (fX6_count 1000 (ar 2) (sc 2)).bind fun R20 =>
            if x2 < R20 then
              (fX6_at 1000 (ar 2) (sc 2) x2).bind fun R23 =>
              some R23
            else
              some (-1 : Int32)
        else
          if R1 = some 3 then
            if x2 < 0 then
              some (-1 : Int32)
            else
              (fX6_count 400 (ar 3) (sc 3)).bind fun R27 =>
              if x2 < R27 then
                (fX6_at 400 (ar 3) (sc 3) x2).bind fun R30 =>
                some R30
              else
                some (-1 : Int32)
          else
            none

set_option maxHeartbeats 4000000 in
set_option maxRecDepth 100000 in
theorem kX7_byteAt (l : Launch) (D : va_G) (q : Nat → Nat) (cA : Nat → ClassId) (sc : Nat → Int32) (ar : Nat → Nat → Int32) (sg : Bool) (x1 : Int32) (x2 : Int32) {R : Int32} (hf : fX7_byteAt sc ar sg x1 x2 = some R) : MI l yX7_byteAt wsX7_byteAt (rmD 1) D ([.ref (q 0), .int x1, .int x2] : List Value) (wX q cA sc ar sg) (tX cA) NX R (wX q cA sc ar sg) := by
  refine MI.mk (cc := cX7_byteAt) (maxL := 4) (ret := (some .int)) (by first | decide | decide +kernel) rfl (Nat.le_of_ble_eq_true rfl) ?_
  intro p e s m below meth cd A ls hE
  obtain ⟨hx, hb, hr, hml, hts, hown, hlocks, hP, hK, hD, hA, hN, hAe, hl⟩ := hE
  have hown : s.vm.findClass RX7 = some m.cls := hown
  have hS : va_S A s.heap s.heap [] := va_S.rf
  have hl : lv_has ls 4 [(0, .ref (q 0)), (1, .int x1), (2, .int x2)] := hl
  rw [fX7_byteAt] at hf
  refine lv_aload_n hx hb dX7_byteAt_0 rfl (lv_at hl 0 rfl) ?_
  refine lv_iload_n hx hb dX7_byteAt_1 rfl (lv_at hl 1 rfl) ?_
  obtain ⟨R1, hc2, hf⟩ := b_inv hf
  have hk := kall (wc' := (wX q cA sc ar sg)) hP hD hS hA rfl
  refine k_goR (va_runV (As := [.int x1]) (rest := []) ⟨hx, hb, hml, hown, hts⟩ (kX7_anyRow l D q cA sc ar sg x1 hc2 _) (cwV 1 hts gX7_byteAt_X7_anyRow rfl rfl rfl (by decide +kernel) ⟨Nat.le_of_ble_eq_true rfl, Nat.le_of_ble_eq_true rfl⟩) (k_preV (q0 := 0) (ci := 6) hk hK NX_bl (fun U _ hW => NX_w hW hN) rfl rfl rfl) rfl rfl hl.1 rfl (lv_room (Nat.le_of_ble_eq_true rfl)) dX7_byteAt_2 ⟨Nat.zero_le _, Nat.zero_le _⟩) hk hS (fun H locs hP hD hS => ?_)
  by_cases c3 : R1 = none
  · rw [if_pos c3] at hf
    subst c3
    refine W.eq (g2 := F0 m 5 ls [.null]) rfl ?_
    refine lv_astore_nN (lv' := [(3, .null), (0, .ref (q 0)), (1, .int x1), (2, .int x2)]) hx hb dX7_byteAt_5 rfl hl (by decide) rfl (fun ls hl => ?_)
    refine lv_aload_nN hx hb dX7_byteAt_6 rfl (lv_at hl 0 rfl) ?_
    refine lv_ifnullN (tgt := 22) hx hb dX7_byteAt_7 (by decide) ?_
    refine lv_iconst (v := (-1 : Int32)) hx hb dX7_byteAt_22 (by decide) ?_
    refine lv_goto (tgt := 31) hx hb dX7_byteAt_23 (by decide) ?_
    obtain rfl := Option.some.inj hf
    exact k_retI hx hb hr hlocks hP hS dX7_byteAt_31
  · rw [if_neg c3] at hf
    by_cases c4 : R1 = some 0
    · rw [if_pos c4] at hf
      subst c4
      refine W.eq (g2 := F0 m 5 ls [.ref (q 1)]) rfl ?_
      refine lv_astore_n (lv' := [(3, .ref (q 1)), (0, .ref (q 0)), (1, .int x1), (2, .int x2)]) hx hb dX7_byteAt_5 rfl hl (by decide) rfl (fun ls hl => ?_)
      refine lv_aload_n hx hb dX7_byteAt_6 rfl (lv_at hl 0 rfl) ?_
      refine lv_ifnull hx hb dX7_byteAt_7 ?_
      refine lv_iload_n hx hb dX7_byteAt_10 rfl (lv_at hl 3 rfl) ?_
      refine lv_if_lt (tgt := 22) hx hb dX7_byteAt_11 (by decide) (fun c5 => ?_) (fun c5 => ?_)
      · rw [if_pos c5] at hf
        refine lv_iconst (v := (-1 : Int32)) hx hb dX7_byteAt_22 (by decide) ?_
        refine lv_goto (tgt := 31) hx hb dX7_byteAt_23 (by decide) ?_
        obtain rfl := Option.some.inj hf
        exact k_retI hx hb hr hlocks hP hS dX7_byteAt_31
      · rw [if_neg c5] at hf
        refine lv_iload_n hx hb dX7_byteAt_14 rfl (lv_at hl 3 rfl) ?_
        refine lv_aload_n hx hb dX7_byteAt_15 rfl (lv_at hl 0 rfl) ?_
        obtain ⟨R6, hc7, hf⟩ := b_inv hf
        have hk := kcut (wc := (wR (q 1) (q 2) (cA 0) 48 (ar 0) (sc 0))) (wc' := (wR (q 1) (q 2) (cA 0) 48 (ar 0) (sc 0))) (wf := (wX q cA sc ar sg)) hP hD hS hA [1, 2] rfl (by decide) rfl rfl
        refine k_goI (va_runV (As := []) (rest := [.int x2]) ⟨hx, hb, hml, hown, hts⟩ (kX6_count l D (q 1) (q 2) (cA 0) 48 (ar 0) (sc 0) hc7 _) (cwV 0 hts gX7_byteAt_X6_count rfl rfl rfl (by decide +kernel) ⟨Nat.le_of_ble_eq_true rfl, Nat.le_of_ble_eq_true rfl⟩) (k_preV (q0 := 0) (ci := 5) hk (hK.sub [0] rfl) NT_bl NT_u rfl rfl rfl) rfl rfl hl.1 rfl (lv_room (Nat.le_of_ble_eq_true rfl)) dX7_byteAt_16 ⟨Nat.zero_le _, Nat.zero_le _⟩) hk hS (fun H locs hP hD hS => ?_)
        refine lv_icmp_lt (tgt := 26) hx hb dX7_byteAt_19 (by decide) (fun c8 => ?_) (fun c8 => ?_)
        · rw [if_pos c8] at hf
          refine lv_aload_n hx hb dX7_byteAt_26 rfl (lv_at hl 0 rfl) ?_
          refine lv_iload_n hx hb dX7_byteAt_27 rfl (lv_at hl 3 rfl) ?_
          obtain ⟨R9, hc10, hf⟩ := b_inv hf
          have hk := kcut (wc := (wR (q 1) (q 2) (cA 0) 48 (ar 0) (sc 0))) (wc' := (wR (q 1) (q 2) (cA 0) 48 (ar 0) (sc 0))) (wf := (wX q cA sc ar sg)) hP hD hS hA [1, 2] rfl (by decide) rfl rfl
          refine k_goI (va_runV (As := [.int x2]) (rest := []) ⟨hx, hb, hml, hown, hts⟩ (kX6_at l D (q 1) (q 2) (cA 0) 48 (ar 0) (sc 0) x2 hc10 _) (cwV 1 hts gX7_byteAt_X6_at rfl rfl rfl (by decide +kernel) ⟨Nat.le_of_ble_eq_true rfl, Nat.le_of_ble_eq_true rfl⟩) (k_preV (q0 := 0) (ci := 5) hk (hK.sub [0] rfl) NT_bl NT_u rfl rfl rfl) rfl rfl hl.1 rfl (lv_room (Nat.le_of_ble_eq_true rfl)) dX7_byteAt_28 ⟨Nat.zero_le _, Nat.zero_le _⟩) hk hS (fun H locs hP hD hS => ?_)
          obtain rfl := Option.some.inj hf
          exact k_retI hx hb hr hlocks hP hS dX7_byteAt_31
        · rw [if_neg c8] at hf
          refine lv_iconst (v := (-1 : Int32)) hx hb dX7_byteAt_22 (by decide) ?_
          refine lv_goto (tgt := 31) hx hb dX7_byteAt_23 (by decide) ?_
          obtain rfl := Option.some.inj hf
          exact k_retI hx hb hr hlocks hP hS dX7_byteAt_31
    · rw [if_neg c4] at hf
      by_cases c11 : R1 = some 1
      · rw [if_pos c11] at hf
        subst c11
        refine W.eq (g2 := F0 m 5 ls [.ref (q 3)]) rfl ?_
        refine lv_astore_n (lv' := [(3, .ref (q 3)), (0, .ref (q 0)), (1, .int x1), (2, .int x2)]) hx hb dX7_byteAt_5 rfl hl (by decide) rfl (fun ls hl => ?_)
        refine lv_aload_n hx hb dX7_byteAt_6 rfl (lv_at hl 0 rfl) ?_
        refine lv_ifnull hx hb dX7_byteAt_7 ?_
        refine lv_iload_n hx hb dX7_byteAt_10 rfl (lv_at hl 3 rfl) ?_
        refine lv_if_lt (tgt := 22) hx hb dX7_byteAt_11 (by decide) (fun c12 => ?_) (fun c12 => ?_)
        · rw [if_pos c12] at hf
          refine lv_iconst (v := (-1 : Int32)) hx hb dX7_byteAt_22 (by decide) ?_
          refine lv_goto (tgt := 31) hx hb dX7_byteAt_23 (by decide) ?_
          obtain rfl := Option.some.inj hf
          exact k_retI hx hb hr hlocks hP hS dX7_byteAt_31
        · rw [if_neg c12] at hf
          refine lv_iload_n hx hb dX7_byteAt_14 rfl (lv_at hl 3 rfl) ?_
          refine lv_aload_n hx hb dX7_byteAt_15 rfl (lv_at hl 0 rfl) ?_
          obtain ⟨R13, hc14, hf⟩ := b_inv hf
          have hk := kcut (wc := (wR (q 3) (q 4) (cA 1) 64 (ar 1) (sc 1))) (wc' := (wR (q 3) (q 4) (cA 1) 64 (ar 1) (sc 1))) (wf := (wX q cA sc ar sg)) hP hD hS hA [3, 4] rfl (by decide) rfl rfl
          refine k_goI (va_runV (As := []) (rest := [.int x2]) ⟨hx, hb, hml, hown, hts⟩ (kX6_count l D (q 3) (q 4) (cA 1) 64 (ar 1) (sc 1) hc14 _) (cwV 0 hts gX7_byteAt_X6_count rfl rfl rfl (by decide +kernel) ⟨Nat.le_of_ble_eq_true rfl, Nat.le_of_ble_eq_true rfl⟩) (k_preV (q0 := 0) (ci := 5) hk (hK.sub [1] rfl) NT_bl NT_u rfl rfl rfl) rfl rfl hl.1 rfl (lv_room (Nat.le_of_ble_eq_true rfl)) dX7_byteAt_16 ⟨Nat.zero_le _, Nat.zero_le _⟩) hk hS (fun H locs hP hD hS => ?_)
          refine lv_icmp_lt (tgt := 26) hx hb dX7_byteAt_19 (by decide) (fun c15 => ?_) (fun c15 => ?_)
          · rw [if_pos c15] at hf
            refine lv_aload_n hx hb dX7_byteAt_26 rfl (lv_at hl 0 rfl) ?_
            refine lv_iload_n hx hb dX7_byteAt_27 rfl (lv_at hl 3 rfl) ?_
            obtain ⟨R16, hc17, hf⟩ := b_inv hf
            have hk := kcut (wc := (wR (q 3) (q 4) (cA 1) 64 (ar 1) (sc 1))) (wc' := (wR (q 3) (q 4) (cA 1) 64 (ar 1) (sc 1))) (wf := (wX q cA sc ar sg)) hP hD hS hA [3, 4] rfl (by decide) rfl rfl
            refine k_goI (va_runV (As := [.int x2]) (rest := []) ⟨hx, hb, hml, hown, hts⟩ (kX6_at l D (q 3) (q 4) (cA 1) 64 (ar 1) (sc 1) x2 hc17 _) (cwV 1 hts gX7_byteAt_X6_at rfl rfl rfl (by decide +kernel) ⟨Nat.le_of_ble_eq_true rfl, Nat.le_of_ble_eq_true rfl⟩) (k_preV (q0 := 0) (ci := 5) hk (hK.sub [1] rfl) NT_bl NT_u rfl rfl rfl) rfl rfl hl.1 rfl (lv_room (Nat.le_of_ble_eq_true rfl)) dX7_byteAt_28 ⟨Nat.zero_le _, Nat.zero_le _⟩) hk hS (fun H locs hP hD hS => ?_)
            obtain rfl := Option.some.inj hf
            exact k_retI hx hb hr hlocks hP hS dX7_byteAt_31
          · rw [if_neg c15] at hf
            refine lv_iconst (v := (-1 : Int32)) hx hb dX7_byteAt_22 (by decide) ?_
            refine lv_goto (tgt := 31) hx hb dX7_byteAt_23 (by decide) ?_
            obtain rfl := Option.some.inj hf
            exact k_retI hx hb hr hlocks hP hS dX7_byteAt_31
      · rw [if_neg c11] at hf
        by_cases c18 : R1 = some 2
        · rw [if_pos c18] at hf
          subst c18
          refine W.eq (g2 := F0 m 5 ls [.ref (q 5)]) rfl ?_
          refine lv_astore_n (lv' := [(3, .ref (q 5)), (0, .ref (q 0)), (1, .int x1), (2, .int x2)]) hx hb dX7_byteAt_5 rfl hl (by decide) rfl (fun ls hl => ?_)
          refine lv_aload_n hx hb dX7_byteAt_6 rfl (lv_at hl 0 rfl) ?_
          refine lv_ifnull hx hb dX7_byteAt_7 ?_
          refine lv_iload_n hx hb dX7_byteAt_10 rfl (lv_at hl 3 rfl) ?_
          refine lv_if_lt (tgt := 22) hx hb dX7_byteAt_11 (by decide) (fun c19 => ?_) (fun c19 => ?_)
          · rw [if_pos c19] at hf
            refine lv_iconst (v := (-1 : Int32)) hx hb dX7_byteAt_22 (by decide) ?_
            refine lv_goto (tgt := 31) hx hb dX7_byteAt_23 (by decide) ?_
            obtain rfl := Option.some.inj hf
            exact k_retI hx hb hr hlocks hP hS dX7_byteAt_31
          · rw [if_neg c19] at hf
            refine lv_iload_n hx hb dX7_byteAt_14 rfl (lv_at hl 3 rfl) ?_
            refine lv_aload_n hx hb dX7_byteAt_15 rfl (lv_at hl 0 rfl) ?_
            obtain ⟨R20, hc21, hf⟩ := b_inv hf
            have hk := kcut (wc := (wR (q 5) (q 6) (cA 2) 1000 (ar 2) (sc 2))) (wc' := (wR (q 5) (q 6) (cA 2) 1000 (ar 2) (sc 2))) (wf := (wX q cA sc ar sg)) hP hD hS hA [5, 6] rfl (by decide) rfl rfl
            refine k_goI (va_runV (As := []) (rest := [.int x2]) ⟨hx, hb, hml, hown, hts⟩ (kX6_count l D (q 5) (q 6) (cA 2) 1000 (ar 2) (sc 2) hc21 _) (cwV 0 hts gX7_byteAt_X6_count rfl rfl rfl (by decide +kernel) ⟨Nat.le_of_ble_eq_true rfl, Nat.le_of_ble_eq_true rfl⟩) (k_preV (q0 := 0) (ci := 5) hk (hK.sub [2] rfl) NT_bl NT_u rfl rfl rfl) rfl rfl hl.1 rfl (lv_room (Nat.le_of_ble_eq_true rfl)) dX7_byteAt_16 ⟨Nat.zero_le _, Nat.zero_le _⟩) hk hS (fun H locs hP hD hS => ?_)
            refine lv_icmp_lt (tgt := 26) hx hb dX7_byteAt_19 (by decide) (fun c22 => ?_) (fun c22 => ?_)
            · rw [if_pos c22] at hf
              refine lv_aload_n hx hb dX7_byteAt_26 rfl (lv_at hl 0 rfl) ?_
              refine lv_iload_n hx hb dX7_byteAt_27 rfl (lv_at hl 3 rfl) ?_
              obtain ⟨R23, hc24, hf⟩ := b_inv hf
              have hk := kcut (wc := (wR (q 5) (q 6) (cA 2) 1000 (ar 2) (sc 2))) (wc' := (wR (q 5) (q 6) (cA 2) 1000 (ar 2) (sc 2))) (wf := (wX q cA sc ar sg)) hP hD hS hA [5, 6] rfl (by decide) rfl rfl
              refine k_goI (va_runV (As := [.int x2]) (rest := []) ⟨hx, hb, hml, hown, hts⟩ (kX6_at l D (q 5) (q 6) (cA 2) 1000 (ar 2) (sc 2) x2 hc24 _) (cwV 1 hts gX7_byteAt_X6_at rfl rfl rfl (by decide +kernel) ⟨Nat.le_of_ble_eq_true rfl, Nat.le_of_ble_eq_true rfl⟩) (k_preV (q0 := 0) (ci := 5) hk (hK.sub [2] rfl) NT_bl NT_u rfl rfl rfl) rfl rfl hl.1 rfl (lv_room (Nat.le_of_ble_eq_true rfl)) dX7_byteAt_28 ⟨Nat.zero_le _, Nat.zero_le _⟩) hk hS (fun H locs hP hD hS => ?_)
              obtain rfl := Option.some.inj hf
              exact k_retI hx hb hr hlocks hP hS dX7_byteAt_31
            · rw [if_neg c22] at hf
              refine lv_iconst (v := (-1 : Int32)) hx hb dX7_byteAt_22 (by decide) ?_
              refine lv_goto (tgt := 31) hx hb dX7_byteAt_23 (by decide) ?_
              obtain rfl := Option.some.inj hf
              exact k_retI hx hb hr hlocks hP hS dX7_byteAt_31
        · rw [if_neg c18] at hf
          by_cases c25 : R1 = some 3
          · rw [if_pos c25] at hf
            subst c25
            refine W.eq (g2 := F0 m 5 ls [.ref (q 7)]) rfl ?_
            refine lv_astore_n (lv' := [(3, .ref (q 7)), (0, .ref (q 0)), (1, .int x1), (2, .int x2)]) hx hb dX7_byteAt_5 rfl hl (by decide) rfl (fun ls hl => ?_)
            refine lv_aload_n hx hb dX7_byteAt_6 rfl (lv_at hl 0 rfl) ?_
            refine lv_ifnull hx hb dX7_byteAt_7 ?_
            refine lv_iload_n hx hb dX7_byteAt_10 rfl (lv_at hl 3 rfl) ?_
            refine lv_if_lt (tgt := 22) hx hb dX7_byteAt_11 (by decide) (fun c26 => ?_) (fun c26 => ?_)
            · rw [if_pos c26] at hf
              refine lv_iconst (v := (-1 : Int32)) hx hb dX7_byteAt_22 (by decide) ?_
              refine lv_goto (tgt := 31) hx hb dX7_byteAt_23 (by decide) ?_
              obtain rfl := Option.some.inj hf
              exact k_retI hx hb hr hlocks hP hS dX7_byteAt_31
            · rw [if_neg c26] at hf
              refine lv_iload_n hx hb dX7_byteAt_14 rfl (lv_at hl 3 rfl) ?_
              refine lv_aload_n hx hb dX7_byteAt_15 rfl (lv_at hl 0 rfl) ?_
              obtain ⟨R27, hc28, hf⟩ := b_inv hf
              have hk := kcut (wc := (wR (q 7) (q 8) (cA 3) 400 (ar 3) (sc 3))) (wc' := (wR (q 7) (q 8) (cA 3) 400 (ar 3) (sc 3))) (wf := (wX q cA sc ar sg)) hP hD hS hA [7, 8] rfl (by decide) rfl rfl
              refine k_goI (va_runV (As := []) (rest := [.int x2]) ⟨hx, hb, hml, hown, hts⟩ (kX6_count l D (q 7) (q 8) (cA 3) 400 (ar 3) (sc 3) hc28 _) (cwV 0 hts gX7_byteAt_X6_count rfl rfl rfl (by decide +kernel) ⟨Nat.le_of_ble_eq_true rfl, Nat.le_of_ble_eq_true rfl⟩) (k_preV (q0 := 0) (ci := 5) hk (hK.sub [3] rfl) NT_bl NT_u rfl rfl rfl) rfl rfl hl.1 rfl (lv_room (Nat.le_of_ble_eq_true rfl)) dX7_byteAt_16 ⟨Nat.zero_le _, Nat.zero_le _⟩) hk hS (fun H locs hP hD hS => ?_)
              refine lv_icmp_lt (tgt := 26) hx hb dX7_byteAt_19 (by decide) (fun c29 => ?_) (fun c29 => ?_)
              · rw [if_pos c29] at hf
                refine lv_aload_n hx hb dX7_byteAt_26 rfl (lv_at hl 0 rfl) ?_
                refine lv_iload_n hx hb dX7_byteAt_27 rfl (lv_at hl 3 rfl) ?_
                obtain ⟨R30, hc31, hf⟩ := b_inv hf
                have hk := kcut (wc := (wR (q 7) (q 8) (cA 3) 400 (ar 3) (sc 3))) (wc' := (wR (q 7) (q 8) (cA 3) 400 (ar 3) (sc 3))) (wf := (wX q cA sc ar sg)) hP hD hS hA [7, 8] rfl (by decide) rfl rfl
                refine k_goI (va_runV (As := [.int x2]) (rest := []) ⟨hx, hb, hml, hown, hts⟩ (kX6_at l D (q 7) (q 8) (cA 3) 400 (ar 3) (sc 3) x2 hc31 _) (cwV 1 hts gX7_byteAt_X6_at rfl rfl rfl (by decide +kernel) ⟨Nat.le_of_ble_eq_true rfl, Nat.le_of_ble_eq_true rfl⟩) (k_preV (q0 := 0) (ci := 5) hk (hK.sub [3] rfl) NT_bl NT_u rfl rfl rfl) rfl rfl hl.1 rfl (lv_room (Nat.le_of_ble_eq_true rfl)) dX7_byteAt_28 ⟨Nat.zero_le _, Nat.zero_le _⟩) hk hS (fun H locs hP hD hS => ?_)
                obtain rfl := Option.some.inj hf
                exact k_retI hx hb hr hlocks hP hS dX7_byteAt_31
              · rw [if_neg c29] at hf
                refine lv_iconst (v := (-1 : Int32)) hx hb dX7_byteAt_22 (by decide) ?_
                refine lv_goto (tgt := 31) hx hb dX7_byteAt_23 (by decide) ?_
                obtain rfl := Option.some.inj hf
                exact k_retI hx hb hr hlocks hP hS dX7_byteAt_31
          · rw [if_neg c25] at hf
            exact absurd hf (by simp)

noncomputable def fX7_code (sc : Nat → Int32) (ar : Nat → Nat → Int32) (sg : Bool) (x1 : Int32) (x2 : Int32) : Option (Int32) :=
  if x1 < 0 then
    some (-1 : Int32)
  else
    if (255 : Int32) < x1 then
      some (-1 : Int32)
    else
      if x2 < 0 then
        some (-1 : Int32)
      else
        if x2 ≤ (5 : Int32) then
          (fX1_partOf x1 x2).bind fun R5 =>
          some R5
        else
          some (-1 : Int32)

set_option maxHeartbeats 4000000 in
set_option maxRecDepth 100000 in
theorem kX7_code (l : Launch) (D : va_G) (q : Nat → Nat) (cA : Nat → ClassId) (sc : Nat → Int32) (ar : Nat → Nat → Int32) (sg : Bool) (x1 : Int32) (x2 : Int32) {R : Int32} (hf : fX7_code sc ar sg x1 x2 = some R) : MI l yX7_code wsX7_code (rmD 2) D ([.ref (q 0), .int x1, .int x2] : List Value) (wX q cA sc ar sg) (tX cA) NX R (wX q cA sc ar sg) := by
  refine MI.mk (cc := cX7_code) (maxL := 3) (ret := (some .int)) (by first | decide | decide +kernel) rfl (Nat.le_of_ble_eq_true rfl) ?_
  intro p e s m below meth cd A ls hE
  obtain ⟨hx, hb, hr, hml, hts, hown, hlocks, hP, hK, hD, hA, hN, hAe, hl⟩ := hE
  have hown : s.vm.findClass RX7 = some m.cls := hown
  have hS : va_S A s.heap s.heap [] := va_S.rf
  have hl : lv_has ls 3 [(0, .ref (q 0)), (1, .int x1), (2, .int x2)] := hl
  rw [fX7_code] at hf
  refine lv_iload_n hx hb dX7_code_0 rfl (lv_at hl 1 rfl) ?_
  refine lv_if_lt (tgt := 20) hx hb dX7_code_1 (by decide) (fun c1 => ?_) (fun c1 => ?_)
  · rw [if_pos c1] at hf
    refine lv_iconst (v := (-1 : Int32)) hx hb dX7_code_20 (by decide) ?_
    obtain rfl := Option.some.inj hf
    exact k_retI hx hb hr hlocks hP hS dX7_code_21
  · rw [if_neg c1] at hf
    refine lv_iload_n hx hb dX7_code_4 rfl (lv_at hl 1 rfl) ?_
    refine lv_sipush (v := (255 : Int32)) hx hb dX7_code_5 (by decide) ?_
    refine lv_icmp_gt (tgt := 20) hx hb dX7_code_8 (by decide) (fun c2 => ?_) (fun c2 => ?_)
    · rw [if_pos c2] at hf
      refine lv_iconst (v := (-1 : Int32)) hx hb dX7_code_20 (by decide) ?_
      obtain rfl := Option.some.inj hf
      exact k_retI hx hb hr hlocks hP hS dX7_code_21
    · rw [if_neg c2] at hf
      refine lv_iload_n hx hb dX7_code_11 rfl (lv_at hl 2 rfl) ?_
      refine lv_if_lt (tgt := 20) hx hb dX7_code_12 (by decide) (fun c3 => ?_) (fun c3 => ?_)
      · rw [if_pos c3] at hf
        refine lv_iconst (v := (-1 : Int32)) hx hb dX7_code_20 (by decide) ?_
        obtain rfl := Option.some.inj hf
        exact k_retI hx hb hr hlocks hP hS dX7_code_21
      · rw [if_neg c3] at hf
        refine lv_iload_n hx hb dX7_code_15 rfl (lv_at hl 2 rfl) ?_
        refine lv_iconst (v := (5 : Int32)) hx hb dX7_code_16 (by decide) ?_
        refine lv_icmp_le (tgt := 22) hx hb dX7_code_17 (by decide) (fun c4 => ?_) (fun c4 => ?_)
        · rw [if_pos c4] at hf
          refine lv_iload_n hx hb dX7_code_22 rfl (lv_at hl 1 rfl) ?_
          refine lv_iload_n hx hb dX7_code_23 rfl (lv_at hl 2 rfl) ?_
          obtain ⟨R5, hc6, hf⟩ := b_inv hf
          have hk := kcut (wc := ([] : va_W)) (wc' := ([] : va_W)) (wf := (wX q cA sc ar sg)) hP hD hS hA [] rfl (by decide) rfl rfl
          refine k_goI (va_runS (As := [.int x1, .int x2]) (rest := []) ⟨hx, hb, hml, hown, hts⟩ (kX1_partOf l D x1 x2 hc6 _) ⟨callB_of 2 hts ggX7_code_X1_partOf rfl rfl rfl (hts (.initialized RX1) (List.mem_of_getElem? (i := 3) rfl)) (hts (.methodLink RX7 110 yX1_partOf) (List.mem_of_getElem? (i := 1) rfl)) (by decide +kernel) ⟨Nat.le_of_ble_eq_true rfl, Nat.le_of_ble_eq_true rfl⟩, (hts (.static yX1_partOf) (List.mem_of_getElem? (i := 2) rfl))⟩ (k_preS hk (hK.sub [] rfl) NT_bl NT_u) rfl rfl hl.1 rfl (lv_room (Nat.le_of_ble_eq_true rfl)) dX7_code_24 ⟨Nat.zero_le _, Nat.zero_le _⟩) hk hS (fun H locs hP hD hS => ?_)
          obtain rfl := Option.some.inj hf
          exact k_retI hx hb hr hlocks hP hS dX7_code_27
        · rw [if_neg c4] at hf
          refine lv_iconst (v := (-1 : Int32)) hx hb dX7_code_20 (by decide) ?_
          obtain rfl := Option.some.inj hf
          exact k_retI hx hb hr hlocks hP hS dX7_code_21

noncomputable def fX7_cache (sc : Nat → Int32) (ar : Nat → Nat → Int32) (sg : Bool) (x1 : Int32) (x2 : Int32) : Option (Int32) :=
  if x1 < 0 then
    some (-1 : Int32)
  else
    if (1 : Int32) < x1 then
      some (-1 : Int32)
    else
      if x2 < 0 then
        some (-1 : Int32)
      else
        if x2 < (772 : Int32) then
          if x1 = 0 then
            if (4 : Int32) ≤ x2 then
              (fX0_same (ar 10) (ar 11) (sc 17) (x2 - (4 : Int32))).bind fun R12 =>
              some R12
            else
              (fX0_near (ar 10) (ar 11) (sc 17) x2).bind fun R14 =>
              some R14
          else
            if (4 : Int32) ≤ x2 then
              (fX0_same (ar 14) (ar 15) (sc 19) (x2 - (4 : Int32))).bind fun R7 =>
              some R7
            else
              (fX0_near (ar 14) (ar 15) (sc 19) x2).bind fun R9 =>
              some R9
        else
          some (-1 : Int32)

set_option maxHeartbeats 4000000 in
set_option maxRecDepth 100000 in
theorem kX7_cache (l : Launch) (D : va_G) (q : Nat → Nat) (cA : Nat → ClassId) (sc : Nat → Int32) (ar : Nat → Nat → Int32) (sg : Bool) (x1 : Int32) (x2 : Int32) {R : Int32} (hf : fX7_cache sc ar sg x1 x2 = some R) : MI l yX7_cache wsX7_cache (rmD 1) D ([.ref (q 0), .int x1, .int x2] : List Value) (wX q cA sc ar sg) (tX cA) NX R (wX q cA sc ar sg) := by
  refine MI.mk (cc := cX7_cache) (maxL := 4) (ret := (some .int)) (by first | decide | decide +kernel) rfl (Nat.le_of_ble_eq_true rfl) ?_
  intro p e s m below meth cd A ls hE
  obtain ⟨hx, hb, hr, hml, hts, hown, hlocks, hP, hK, hD, hA, hN, hAe, hl⟩ := hE
  have hown : s.vm.findClass RX7 = some m.cls := hown
  have hS : va_S A s.heap s.heap [] := va_S.rf
  have hl : lv_has ls 4 [(0, .ref (q 0)), (1, .int x1), (2, .int x2)] := hl
  rw [fX7_cache] at hf
  refine lv_iload_n hx hb dX7_cache_0 rfl (lv_at hl 1 rfl) ?_
  refine lv_if_lt (tgt := 20) hx hb dX7_cache_1 (by decide) (fun c1 => ?_) (fun c1 => ?_)
  · rw [if_pos c1] at hf
    refine lv_iconst (v := (-1 : Int32)) hx hb dX7_cache_20 (by decide) ?_
    obtain rfl := Option.some.inj hf
    exact k_retI hx hb hr hlocks hP hS dX7_cache_21
  · rw [if_neg c1] at hf
    refine lv_iload_n hx hb dX7_cache_4 rfl (lv_at hl 1 rfl) ?_
    refine lv_iconst (v := (1 : Int32)) hx hb dX7_cache_5 (by decide) ?_
    refine lv_icmp_gt (tgt := 20) hx hb dX7_cache_6 (by decide) (fun c2 => ?_) (fun c2 => ?_)
    · rw [if_pos c2] at hf
      refine lv_iconst (v := (-1 : Int32)) hx hb dX7_cache_20 (by decide) ?_
      obtain rfl := Option.some.inj hf
      exact k_retI hx hb hr hlocks hP hS dX7_cache_21
    · rw [if_neg c2] at hf
      refine lv_iload_n hx hb dX7_cache_9 rfl (lv_at hl 2 rfl) ?_
      refine lv_if_lt (tgt := 20) hx hb dX7_cache_10 (by decide) (fun c3 => ?_) (fun c3 => ?_)
      · rw [if_pos c3] at hf
        refine lv_iconst (v := (-1 : Int32)) hx hb dX7_cache_20 (by decide) ?_
        obtain rfl := Option.some.inj hf
        exact k_retI hx hb hr hlocks hP hS dX7_cache_21
      · rw [if_neg c3] at hf
        refine lv_iload_n hx hb dX7_cache_13 rfl (lv_at hl 2 rfl) ?_
        refine lv_sipush (v := (772 : Int32)) hx hb dX7_cache_14 (by decide) ?_
        refine lv_icmp_lt (tgt := 22) hx hb dX7_cache_17 (by decide) (fun c4 => ?_) (fun c4 => ?_)
        · rw [if_pos c4] at hf
          refine lv_iload_n hx hb dX7_cache_22 rfl (lv_at hl 1 rfl) ?_
          refine lv_if_ne (tgt := 36) hx hb dX7_cache_23 (by decide) (fun c5 => ?_) (fun c5 => ?_)
          · rw [if_neg c5] at hf
            refine lv_aload_n hx hb dX7_cache_36 rfl (lv_at hl 0 rfl) ?_
            refine va_get (D := D) (ci := 6) (v := .ref (q 29)) (C := RX7) (T := TX7) (N := 8) hx hb hts (fun w h => List.mem_cons_of_mem _ (List.mem_append_left _ (List.mem_append_left _ (List.mem_append_right _ h)))) hown hK hP 0 rfl rfl 6 (by decide) (hts (.fieldLink RX7 48 "DeltaWindows" "decoded" "LDeltaWindows$Caches;") (List.mem_of_getElem? (i := 2) rfl)) (fun _ h9 => h9) rfl dX7_cache_37 ?_
            refine lv_astore_n (lv' := [(3, .ref (q 29)), (0, .ref (q 0)), (1, .int x1), (2, .int x2)]) hx hb dX7_cache_40 rfl hl (by decide) rfl (fun ls hl => ?_)
            refine lv_iload_n hx hb dX7_cache_41 rfl (lv_at hl 3 rfl) ?_
            refine lv_iconst (v := (4 : Int32)) hx hb dX7_cache_42 (by decide) ?_
            refine lv_icmp_ge (tgt := 54) hx hb dX7_cache_43 (by decide) (fun c6 => ?_) (fun c6 => ?_)
            · rw [if_pos c6] at hf
              refine lv_aload_n hx hb dX7_cache_54 rfl (lv_at hl 0 rfl) ?_
              refine lv_iload_n hx hb dX7_cache_55 rfl (lv_at hl 3 rfl) ?_
              refine lv_iconst (v := (4 : Int32)) hx hb dX7_cache_56 (by decide) ?_
              refine lv_isub hx hb dX7_cache_57 ?_
              obtain ⟨R7, hc8, hf⟩ := b_inv hf
              have hk := kcut (wc := (wC (q 29) (q 30) (q 31) (cA 14) (cA 15) (ar 14) (ar 15) (sc 19))) (wc' := (wC (q 29) (q 30) (q 31) (cA 14) (cA 15) (ar 14) (ar 15) (sc 19))) (wf := (wX q cA sc ar sg)) hP hD hS hA [29, 30, 31] rfl (by decide) rfl rfl
              refine k_goI (va_runV (As := [.int (x2 - (4 : Int32))]) (rest := []) ⟨hx, hb, hml, hown, hts⟩ (kX0_same l D (q 29) (q 30) (q 31) (cA 14) (cA 15) (ar 14) (ar 15) (sc 19) (x2 - (4 : Int32)) hc8 _) (cwV 1 hts gX7_cache_X0_same rfl rfl rfl (by decide +kernel) ⟨Nat.le_of_ble_eq_true rfl, Nat.le_of_ble_eq_true rfl⟩) (k_preV (q0 := 0) (ci := 0) hk (hK.sub [14, 15] rfl) NT_bl NT_u rfl rfl rfl) rfl rfl hl.1 rfl (lv_room (Nat.le_of_ble_eq_true rfl)) dX7_cache_58 ⟨Nat.zero_le _, Nat.zero_le _⟩) hk hS (fun H locs hP hD hS => ?_)
              obtain rfl := Option.some.inj hf
              exact k_retI hx hb hr hlocks hP hS dX7_cache_61
            · rw [if_neg c6] at hf
              refine lv_aload_n hx hb dX7_cache_46 rfl (lv_at hl 0 rfl) ?_
              refine lv_iload_n hx hb dX7_cache_47 rfl (lv_at hl 3 rfl) ?_
              obtain ⟨R9, hc10, hf⟩ := b_inv hf
              have hk := kcut (wc := (wC (q 29) (q 30) (q 31) (cA 14) (cA 15) (ar 14) (ar 15) (sc 19))) (wc' := (wC (q 29) (q 30) (q 31) (cA 14) (cA 15) (ar 14) (ar 15) (sc 19))) (wf := (wX q cA sc ar sg)) hP hD hS hA [29, 30, 31] rfl (by decide) rfl rfl
              refine k_goI (va_runV (As := [.int x2]) (rest := []) ⟨hx, hb, hml, hown, hts⟩ (kX0_near l D (q 29) (q 30) (q 31) (cA 14) (cA 15) (ar 14) (ar 15) (sc 19) x2 hc10 _) (cwV 1 hts gX7_cache_X0_near rfl rfl rfl (by decide +kernel) ⟨Nat.le_of_ble_eq_true rfl, Nat.le_of_ble_eq_true rfl⟩) (k_preV (q0 := 0) (ci := 0) hk (hK.sub [14, 15] rfl) NT_bl NT_u rfl rfl rfl) rfl rfl hl.1 rfl (lv_room (Nat.le_of_ble_eq_true rfl)) dX7_cache_48 ⟨Nat.zero_le _, Nat.zero_le _⟩) hk hS (fun H locs hP hD hS => ?_)
              refine lv_goto (tgt := 61) hx hb dX7_cache_51 (by decide) ?_
              obtain rfl := Option.some.inj hf
              exact k_retI hx hb hr hlocks hP hS dX7_cache_61
          · rw [if_pos c5] at hf
            refine lv_aload_n hx hb dX7_cache_26 rfl (lv_at hl 0 rfl) ?_
            refine va_get (D := D) (ci := 6) (v := .ref (q 21)) (C := RX7) (T := TX7) (N := 8) hx hb hts (fun w h => List.mem_cons_of_mem _ (List.mem_append_left _ (List.mem_append_left _ (List.mem_append_right _ h)))) hown hK hP 0 rfl rfl 4 (by decide) (hts (.fieldLink RX7 32 "DeltaWindows" "encoder" "LDeltaWindows$Encoder;") (List.mem_of_getElem? (i := 1) rfl)) (fun _ h9 => h9) rfl dX7_cache_27 ?_
            refine va_getN (D := D) (ci := 2) (v := .ref (q 23)) (C := RX3) (T := TX3) (N := 12) hx hb hts (fun w h => List.mem_cons_of_mem _ (List.mem_append_left _ (List.mem_append_right _ h))) hown hK hP 21 rfl rfl 3 (by decide) (va_Nw.use rfl hN.2.1) (fun _ h9 => h9) rfl dX7_cache_30 ?_
            refine lv_goto (tgt := 40) hx hb dX7_cache_33 (by decide) ?_
            refine lv_astore_n (lv' := [(3, .ref (q 23)), (0, .ref (q 0)), (1, .int x1), (2, .int x2)]) hx hb dX7_cache_40 rfl hl (by decide) rfl (fun ls hl => ?_)
            refine lv_iload_n hx hb dX7_cache_41 rfl (lv_at hl 3 rfl) ?_
            refine lv_iconst (v := (4 : Int32)) hx hb dX7_cache_42 (by decide) ?_
            refine lv_icmp_ge (tgt := 54) hx hb dX7_cache_43 (by decide) (fun c11 => ?_) (fun c11 => ?_)
            · rw [if_pos c11] at hf
              refine lv_aload_n hx hb dX7_cache_54 rfl (lv_at hl 0 rfl) ?_
              refine lv_iload_n hx hb dX7_cache_55 rfl (lv_at hl 3 rfl) ?_
              refine lv_iconst (v := (4 : Int32)) hx hb dX7_cache_56 (by decide) ?_
              refine lv_isub hx hb dX7_cache_57 ?_
              obtain ⟨R12, hc13, hf⟩ := b_inv hf
              have hk := kcut (wc := (wC (q 23) (q 24) (q 25) (cA 10) (cA 11) (ar 10) (ar 11) (sc 17))) (wc' := (wC (q 23) (q 24) (q 25) (cA 10) (cA 11) (ar 10) (ar 11) (sc 17))) (wf := (wX q cA sc ar sg)) hP hD hS hA [23, 24, 25] rfl (by decide) rfl rfl
              refine k_goI (va_runV (As := [.int (x2 - (4 : Int32))]) (rest := []) ⟨hx, hb, hml, hown, hts⟩ (kX0_same l D (q 23) (q 24) (q 25) (cA 10) (cA 11) (ar 10) (ar 11) (sc 17) (x2 - (4 : Int32)) hc13 _) (cwV 1 hts gX7_cache_X0_same rfl rfl rfl (by decide +kernel) ⟨Nat.le_of_ble_eq_true rfl, Nat.le_of_ble_eq_true rfl⟩) (k_preV (q0 := 0) (ci := 0) hk (hK.sub [10, 11] rfl) NT_bl NT_u rfl rfl rfl) rfl rfl hl.1 rfl (lv_room (Nat.le_of_ble_eq_true rfl)) dX7_cache_58 ⟨Nat.zero_le _, Nat.zero_le _⟩) hk hS (fun H locs hP hD hS => ?_)
              obtain rfl := Option.some.inj hf
              exact k_retI hx hb hr hlocks hP hS dX7_cache_61
            · rw [if_neg c11] at hf
              refine lv_aload_n hx hb dX7_cache_46 rfl (lv_at hl 0 rfl) ?_
              refine lv_iload_n hx hb dX7_cache_47 rfl (lv_at hl 3 rfl) ?_
              obtain ⟨R14, hc15, hf⟩ := b_inv hf
              have hk := kcut (wc := (wC (q 23) (q 24) (q 25) (cA 10) (cA 11) (ar 10) (ar 11) (sc 17))) (wc' := (wC (q 23) (q 24) (q 25) (cA 10) (cA 11) (ar 10) (ar 11) (sc 17))) (wf := (wX q cA sc ar sg)) hP hD hS hA [23, 24, 25] rfl (by decide) rfl rfl
              refine k_goI (va_runV (As := [.int x2]) (rest := []) ⟨hx, hb, hml, hown, hts⟩ (kX0_near l D (q 23) (q 24) (q 25) (cA 10) (cA 11) (ar 10) (ar 11) (sc 17) x2 hc15 _) (cwV 1 hts gX7_cache_X0_near rfl rfl rfl (by decide +kernel) ⟨Nat.le_of_ble_eq_true rfl, Nat.le_of_ble_eq_true rfl⟩) (k_preV (q0 := 0) (ci := 0) hk (hK.sub [10, 11] rfl) NT_bl NT_u rfl rfl rfl) rfl rfl hl.1 rfl (lv_room (Nat.le_of_ble_eq_true rfl)) dX7_cache_48 ⟨Nat.zero_le _, Nat.zero_le _⟩) hk hS (fun H locs hP hD hS => ?_)
              refine lv_goto (tgt := 61) hx hb dX7_cache_51 (by decide) ?_
              obtain rfl := Option.some.inj hf
              exact k_retI hx hb hr hlocks hP hS dX7_cache_61
        · rw [if_neg c4] at hf
          refine lv_iconst (v := (-1 : Int32)) hx hb dX7_cache_20 (by decide) ?_
          obtain rfl := Option.some.inj hf
          exact k_retI hx hb hr hlocks hP hS dX7_cache_21

noncomputable def fX7_windows (sc : Nat → Int32) (ar : Nat → Nat → Int32) (sg : Bool) : Option (Int32) :=
  some (sc 29)

set_option maxHeartbeats 4000000 in
set_option maxRecDepth 100000 in
theorem kX7_windows (l : Launch) (D : va_G) (q : Nat → Nat) (cA : Nat → ClassId) (sc : Nat → Int32) (ar : Nat → Nat → Int32) (sg : Bool) {R : Int32} (hf : fX7_windows sc ar sg = some R) : MI l yX7_windows wsX7_windows (rmD 0) D ([.ref (q 0)] : List Value) (wX q cA sc ar sg) (tX cA) NX R (wX q cA sc ar sg) := by
  refine MI.mk (cc := cX7_windows) (maxL := 1) (ret := (some .int)) (by first | decide | decide +kernel) rfl (Nat.le_of_ble_eq_true rfl) ?_
  intro p e s m below meth cd A ls hE
  obtain ⟨hx, hb, hr, hml, hts, hown, hlocks, hP, hK, hD, hA, hN, hAe, hl⟩ := hE
  have hown : s.vm.findClass RX7 = some m.cls := hown
  have hS : va_S A s.heap s.heap [] := va_S.rf
  have hl : lv_has ls 1 [(0, .ref (q 0))] := hl
  rw [fX7_windows] at hf
  refine lv_aload_n hx hb dX7_windows_0 rfl (lv_at hl 0 rfl) ?_
  refine va_get (D := D) (ci := 6) (v := .int (sc 29)) (C := RX7) (T := TX7) (N := 8) hx hb hts (fun w h => List.mem_cons_of_mem _ (List.mem_append_right _ h)) hown hK hP 0 rfl rfl 7 (by decide) (hts (.fieldLink RX7 52 "DeltaWindows" "decodedWindows" "I") (List.mem_of_getElem? (i := 1) rfl)) (fun _ h9 => h9) rfl dX7_windows_1 ?_
  obtain rfl := Option.some.inj hf
  exact k_retI hx hb hr hlocks hP hS dX7_windows_4

noncomputable def fX7_agrees_L21 (sc : Nat → Int32) (ar : Nat → Nat → Int32) (sg : Bool) : Nat → (Int32) → Option ((Unit) ⊕ (Int32))
  | 0, _ => none
  | k + 1, v1 =>
    (fX6_count 64 (ar 1) (sc 1)).bind fun R6 =>
    if R6 ≤ v1 then
      some (Sum.inl ())
    else
      (fX6_at 400 (ar 3) (sc 3) v1).bind fun R9 =>
      (fX6_at 64 (ar 1) (sc 1) v1).bind fun R11 =>
      if R9 = R11 then
        fX7_agrees_L21 sc ar sg k (v1 + (1 : Int32))
      else
        some (Sum.inr (0 : Int32))

noncomputable def fX7_agrees (sc : Nat → Int32) (ar : Nat → Nat → Int32) (sg : Bool) : Option (Int32) :=
  (fX6_count 400 (ar 3) (sc 3)).bind fun R1 =>
  (fX6_count 64 (ar 1) (sc 1)).bind fun R3 =>
  if R1 = R3 then
    (fX7_agrees_L21 sc ar sg FU (0 : Int32)).bind fun R14o => Sum.elim (fun R14 =>
      some (1 : Int32)) (fun r => some r) R14o
  else
    some (0 : Int32)

set_option maxHeartbeats 4000000 in
set_option maxRecDepth 100000 in
theorem kX7_agrees (l : Launch) (D : va_G) (q : Nat → Nat) (cA : Nat → ClassId) (sc : Nat → Int32) (ar : Nat → Nat → Int32) (sg : Bool) {R : Int32} (hf : fX7_agrees sc ar sg = some R) : MI l yX7_agrees wsX7_agrees (rmD 1) D ([.ref (q 0)] : List Value) (wX q cA sc ar sg) (tX cA) NX R (wX q cA sc ar sg) := by
  refine MI.mk (cc := cX7_agrees) (maxL := 2) (ret := (some .boolean)) (by first | decide | decide +kernel) rfl (Nat.le_of_ble_eq_true rfl) ?_
  intro p e s m below meth cd A ls hE
  obtain ⟨hx, hb, hr, hml, hts, hown, hlocks, hP, hK, hD, hA, hN, hAe, hl⟩ := hE
  have hown : s.vm.findClass RX7 = some m.cls := hown
  have hS : va_S A s.heap s.heap [] := va_S.rf
  have hl : lv_has ls 2 [(0, .ref (q 0))] := hl
  rw [fX7_agrees] at hf
  refine lv_aload_n hx hb dX7_agrees_0 rfl (lv_at hl 0 rfl) ?_
  refine va_get (D := D) (ci := 6) (v := .ref (q 7)) (C := RX7) (T := TX7) (N := 8) hx hb hts (fun w h => List.mem_cons_of_mem _ (List.mem_append_left _ (List.mem_append_right _ h))) hown hK hP 0 rfl rfl 3 (by decide) (hts (.fieldLink RX7 24 "DeltaWindows" "output" "LDeltaWindows$Row;") (List.mem_of_getElem? (i := 1) rfl)) (fun _ h9 => h9) rfl dX7_agrees_1 ?_
  obtain ⟨R1, hc2, hf⟩ := b_inv hf
  have hk := kcut (wc := (wR (q 7) (q 8) (cA 3) 400 (ar 3) (sc 3))) (wc' := (wR (q 7) (q 8) (cA 3) 400 (ar 3) (sc 3))) (wf := (wX q cA sc ar sg)) hP hD hS hA [7, 8] rfl (by decide) rfl rfl
  refine k_goI (va_runV (As := []) (rest := []) ⟨hx, hb, hml, hown, hts⟩ (kX6_count l D (q 7) (q 8) (cA 3) 400 (ar 3) (sc 3) hc2 _) (cwV 0 hts gX7_agrees_X6_count rfl rfl rfl (by decide +kernel) ⟨Nat.le_of_ble_eq_true rfl, Nat.le_of_ble_eq_true rfl⟩) (k_preV (q0 := 0) (ci := 5) hk (hK.sub [3] rfl) NT_bl NT_u rfl rfl rfl) rfl rfl hl.1 rfl (lv_room (Nat.le_of_ble_eq_true rfl)) dX7_agrees_4 ⟨Nat.zero_le _, Nat.zero_le _⟩) hk hS (fun H locs hP hD hS => ?_)
  refine lv_aload_n hx hb dX7_agrees_7 rfl (lv_at hl 0 rfl) ?_
  refine va_get (D := D) (ci := 6) (v := .ref (q 3)) (C := RX7) (T := TX7) (N := 8) hx hb hts (fun w h => List.mem_cons_of_mem _ (List.mem_append_left _ (List.mem_append_right _ h))) hown hK hP 0 rfl rfl 1 (by decide) (hts (.fieldLink RX7 18 "DeltaWindows" "target" "LDeltaWindows$Row;") (List.mem_of_getElem? (i := 2) rfl)) (fun _ h9 => h9) rfl dX7_agrees_8 ?_
  obtain ⟨R3, hc4, hf⟩ := b_inv hf
  have hk := kcut (wc := (wR (q 3) (q 4) (cA 1) 64 (ar 1) (sc 1))) (wc' := (wR (q 3) (q 4) (cA 1) 64 (ar 1) (sc 1))) (wf := (wX q cA sc ar sg)) hP hD hS hA [3, 4] rfl (by decide) rfl rfl
  refine k_goI (va_runV (As := []) (rest := [.int R1]) ⟨hx, hb, hml, hown, hts⟩ (kX6_count l D (q 3) (q 4) (cA 1) 64 (ar 1) (sc 1) hc4 _) (cwV 0 hts gX7_agrees_X6_count rfl rfl rfl (by decide +kernel) ⟨Nat.le_of_ble_eq_true rfl, Nat.le_of_ble_eq_true rfl⟩) (k_preV (q0 := 0) (ci := 5) hk (hK.sub [1] rfl) NT_bl NT_u rfl rfl rfl) rfl rfl hl.1 rfl (lv_room (Nat.le_of_ble_eq_true rfl)) dX7_agrees_11 ⟨Nat.zero_le _, Nat.zero_le _⟩) hk hS (fun H locs hP hD hS => ?_)
  refine lv_icmp_eq (tgt := 19) hx hb dX7_agrees_14 (by decide) (fun c5 => ?_) (fun c5 => ?_)
  · rw [if_pos c5] at hf
    refine lv_iconst (v := (0 : Int32)) hx hb dX7_agrees_19 (by decide) ?_
    refine lv_istore_n (lv' := [(1, .int (0 : Int32)), (0, .ref (q 0))]) hx hb dX7_agrees_20 rfl hl (by decide) rfl (fun ls hl => ?_)
    have lp16 : ∀ (sc : Nat → Int32) (ar : Nat → Nat → Int32) (sg : Bool), ∀ (k : Nat) (v1 : Int32) (H : Heap) (locs : List Loc) (ls : Array Slot) (o : (Unit) ⊕ (Int32)), lv_has ls 2 [(1, .int v1), (0, .ref (q 0))] → va_P D vwCl (wX q cA sc ar sg) H → va_D A (wX q cA sc ar sg) → va_S A s.heap H locs → fX7_agrees_L21 sc ar sg k v1 = some o → (∀ o1 : Unit, o = Sum.inl o1 → (∀ (H : Heap) (locs : List Loc) (ls : Array Slot), lv_has ls 2 [] → va_P D vwCl (wX q cA sc ar sg) H → va_D A (wX q cA sc ar sg) → va_S A s.heap H locs → W p l e (headSpec wsX7_agrees (rmD 1)).room s m ([.ref (q 0)] : List Value).toArray below meth cd H locs 0 0 (QI D below ([.ref (q 0)] : List Value).toArray s A R (wX q cA sc ar sg)) (F0 m 59 ls []))) → (∀ r, o = Sum.inr r → some r = some R) → W p l e (headSpec wsX7_agrees (rmD 1)).room s m ([.ref (q 0)] : List Value).toArray below meth cd H locs 0 0 (QI D below ([.ref (q 0)] : List Value).toArray s A R (wX q cA sc ar sg)) (F0 m 21 ls []) := by
      intro sc ar sg
      intro k
      induction k with
      | zero =>
        intro v1 H locs ls o hl hP hD hS hf
        exact absurd hf (by simp [fX7_agrees_L21])
      | succ k ih =>
        intro v1 H locs ls o hl hP hD hS hf kont kr
        rw [fX7_agrees_L21] at hf
        refine lv_iload_n hx hb dX7_agrees_21 rfl (lv_at hl 0 rfl) ?_
        refine lv_aload_n hx hb dX7_agrees_22 rfl (lv_at hl 1 rfl) ?_
        refine va_get (D := D) (ci := 6) (v := .ref (q 3)) (C := RX7) (T := TX7) (N := 8) hx hb hts (fun w h => List.mem_cons_of_mem _ (List.mem_append_left _ (List.mem_append_right _ h))) hown hK hP 0 rfl rfl 1 (by decide) (hts (.fieldLink RX7 18 "DeltaWindows" "target" "LDeltaWindows$Row;") (List.mem_of_getElem? (i := 2) rfl)) (fun _ h9 => h9) rfl dX7_agrees_23 ?_
        obtain ⟨R6, hc7, hf⟩ := b_inv hf
        have hk := kcut (wc := (wR (q 3) (q 4) (cA 1) 64 (ar 1) (sc 1))) (wc' := (wR (q 3) (q 4) (cA 1) 64 (ar 1) (sc 1))) (wf := (wX q cA sc ar sg)) hP hD hS hA [3, 4] rfl (by decide) rfl rfl
        refine k_goI (va_runV (As := []) (rest := [.int v1]) ⟨hx, hb, hml, hown, hts⟩ (kX6_count l D (q 3) (q 4) (cA 1) 64 (ar 1) (sc 1) hc7 _) (cwV 0 hts gX7_agrees_X6_count rfl rfl rfl (by decide +kernel) ⟨Nat.le_of_ble_eq_true rfl, Nat.le_of_ble_eq_true rfl⟩) (k_preV (q0 := 0) (ci := 5) hk (hK.sub [1] rfl) NT_bl NT_u rfl rfl rfl) rfl rfl hl.1 rfl (lv_room (Nat.le_of_ble_eq_true rfl)) dX7_agrees_26 ⟨Nat.zero_le _, Nat.zero_le _⟩) hk hS (fun H locs hP hD hS => ?_)
        refine lv_icmp_ge (tgt := 59) hx hb dX7_agrees_29 (by decide) (fun c8 => ?_) (fun c8 => ?_)
        · rw [if_pos c8] at hf
          obtain rfl := Option.some.inj hf
          exact kont _ rfl _ _ _ (lv_sub hl [] rfl) hP hD hS
        · rw [if_neg c8] at hf
          refine lv_aload_n hx hb dX7_agrees_32 rfl (lv_at hl 1 rfl) ?_
          refine va_get (D := D) (ci := 6) (v := .ref (q 7)) (C := RX7) (T := TX7) (N := 8) hx hb hts (fun w h => List.mem_cons_of_mem _ (List.mem_append_left _ (List.mem_append_right _ h))) hown hK hP 0 rfl rfl 3 (by decide) (hts (.fieldLink RX7 24 "DeltaWindows" "output" "LDeltaWindows$Row;") (List.mem_of_getElem? (i := 1) rfl)) (fun _ h9 => h9) rfl dX7_agrees_33 ?_
          refine lv_iload_n hx hb dX7_agrees_36 rfl (lv_at hl 0 rfl) ?_
          obtain ⟨R9, hc10, hf⟩ := b_inv hf
          have hk := kcut (wc := (wR (q 7) (q 8) (cA 3) 400 (ar 3) (sc 3))) (wc' := (wR (q 7) (q 8) (cA 3) 400 (ar 3) (sc 3))) (wf := (wX q cA sc ar sg)) hP hD hS hA [7, 8] rfl (by decide) rfl rfl
          refine k_goI (va_runV (As := [.int v1]) (rest := []) ⟨hx, hb, hml, hown, hts⟩ (kX6_at l D (q 7) (q 8) (cA 3) 400 (ar 3) (sc 3) v1 hc10 _) (cwV 1 hts gX7_agrees_X6_at rfl rfl rfl (by decide +kernel) ⟨Nat.le_of_ble_eq_true rfl, Nat.le_of_ble_eq_true rfl⟩) (k_preV (q0 := 0) (ci := 5) hk (hK.sub [3] rfl) NT_bl NT_u rfl rfl rfl) rfl rfl hl.1 rfl (lv_room (Nat.le_of_ble_eq_true rfl)) dX7_agrees_37 ⟨Nat.zero_le _, Nat.zero_le _⟩) hk hS (fun H locs hP hD hS => ?_)
          refine lv_aload_n hx hb dX7_agrees_40 rfl (lv_at hl 1 rfl) ?_
          refine va_get (D := D) (ci := 6) (v := .ref (q 3)) (C := RX7) (T := TX7) (N := 8) hx hb hts (fun w h => List.mem_cons_of_mem _ (List.mem_append_left _ (List.mem_append_right _ h))) hown hK hP 0 rfl rfl 1 (by decide) (hts (.fieldLink RX7 18 "DeltaWindows" "target" "LDeltaWindows$Row;") (List.mem_of_getElem? (i := 2) rfl)) (fun _ h9 => h9) rfl dX7_agrees_41 ?_
          refine lv_iload_n hx hb dX7_agrees_44 rfl (lv_at hl 0 rfl) ?_
          obtain ⟨R11, hc12, hf⟩ := b_inv hf
          have hk := kcut (wc := (wR (q 3) (q 4) (cA 1) 64 (ar 1) (sc 1))) (wc' := (wR (q 3) (q 4) (cA 1) 64 (ar 1) (sc 1))) (wf := (wX q cA sc ar sg)) hP hD hS hA [3, 4] rfl (by decide) rfl rfl
          refine k_goI (va_runV (As := [.int v1]) (rest := [.int R9]) ⟨hx, hb, hml, hown, hts⟩ (kX6_at l D (q 3) (q 4) (cA 1) 64 (ar 1) (sc 1) v1 hc12 _) (cwV 1 hts gX7_agrees_X6_at rfl rfl rfl (by decide +kernel) ⟨Nat.le_of_ble_eq_true rfl, Nat.le_of_ble_eq_true rfl⟩) (k_preV (q0 := 0) (ci := 5) hk (hK.sub [1] rfl) NT_bl NT_u rfl rfl rfl) rfl rfl hl.1 rfl (lv_room (Nat.le_of_ble_eq_true rfl)) dX7_agrees_45 ⟨Nat.zero_le _, Nat.zero_le _⟩) hk hS (fun H locs hP hD hS => ?_)
          refine lv_icmp_eq (tgt := 53) hx hb dX7_agrees_48 (by decide) (fun c13 => ?_) (fun c13 => ?_)
          · rw [if_pos c13] at hf
            refine lv_iinc (v := (v1 + (1 : Int32))) (lv' := [(1, .int (v1 + (1 : Int32))), (0, .ref (q 0))]) hx hb dX7_agrees_53 hl (k := 0) rfl rfl (by decide) rfl (fun ls hl => ?_)
            refine lv_goto (tgt := 21) hx hb dX7_agrees_56 (by decide) ?_
            exact ih (v1 + (1 : Int32)) _ _ _ o (lv_sub hl [0, 1] rfl) hP hD hS hf kont kr
          · rw [if_neg c13] at hf
            refine lv_iconst (v := (0 : Int32)) hx hb dX7_agrees_51 (by decide) ?_
            obtain rfl := Option.some.inj hf
            have hf9 := kr _ rfl
            obtain rfl := Option.some.inj hf9
            exact k_retZ hx hb hr hlocks hP hS rfl dX7_agrees_52
    obtain ⟨R14o, hc15, hf⟩ := b_inv hf
    refine lp16 sc ar sg FU (0 : Int32) _ _ _ R14o (lv_sub hl [0, 1] rfl) hP hD hS hc15 (fun R14 ho H locs ls hl hP hD hS => ?_) (fun r ho => ?_)
    · subst ho
      simp only [Sum.elim_inl] at hf
      refine lv_iconst (v := (1 : Int32)) hx hb dX7_agrees_59 (by decide) ?_
      obtain rfl := Option.some.inj hf
      exact k_retZ hx hb hr hlocks hP hS rfl dX7_agrees_60
    · subst ho
      simpa only [Sum.elim_inr] using hf
  · rw [if_neg c5] at hf
    refine lv_iconst (v := (0 : Int32)) hx hb dX7_agrees_17 (by decide) ?_
    obtain rfl := Option.some.inj hf
    exact k_retZ hx hb hr hlocks hP hS rfl dX7_agrees_18

noncomputable def fX7_encode (sc : Nat → Int32) (ar : Nat → Nat → Int32) (sg : Bool) (x1 : Int32) : Option (Int32 × (Nat → Int32) × (Nat → Nat → Int32)) :=
  if x1 < (1 : Int32) then
    some ((-1 : Int32), sc, ar)
  else
    if x1 ≤ (64 : Int32) then
      (fX3_writeDelta sc ar sg x1).bind fun R3 =>
      (fX6_count 1000 (R3.2 2) (R3.1 2)).bind fun R5 =>
      some (R5, R3.1, R3.2)
    else
      some ((-1 : Int32), sc, ar)

set_option maxHeartbeats 4000000 in
set_option maxRecDepth 100000 in
theorem kX7_encode (l : Launch) (D : va_G) (hd : Nat) (q : Nat → Nat) (cA : Nat → ClassId) (sc : Nat → Int32) (ar : Nat → Nat → Int32) (sg : Bool) (x1 : Int32) {R : Int32 × (Nat → Int32) × (Nat → Nat → Int32)} (hf : fX7_encode sc ar sg x1 = some R) : MI l yX7_encode wsX7_encode (rmD 6) D ([.ref (q 0), .int x1] : List Value) (wX q cA sc ar sg) (tX cA) (NXH hd q) R.1 (wX q cA R.2.1 R.2.2 sg) := by
  refine MI.mk (cc := cX7_encode) (maxL := 2) (ret := (some .int)) (by first | decide | decide +kernel) rfl (Nat.le_of_ble_eq_true rfl) ?_
  intro p e s m below meth cd A ls hE
  obtain ⟨hx, hb, hr, hml, hts, hown, hlocks, hP, hK, hD, hA, hN, hAe, hl⟩ := hE
  have hown : s.vm.findClass RX7 = some m.cls := hown
  have hS : va_S A s.heap s.heap [] := va_S.rf
  have hl : lv_has ls 2 [(0, .ref (q 0)), (1, .int x1)] := hl
  obtain ⟨hNx, hZ0, hXh, hdl, hdq⟩ := id hN
  have hZ : va_Z RX7 "HEAD" "[I" (.ref hd) A s s.heap := hZ0.narrow (fun a h => by rw [hAe] at h; exact wX_A h)
  have hdA : ¬ A hd := fun h => hdq (by rw [hAe] at h; exact wX_A h)
  rw [fX7_encode] at hf
  refine lv_iload_n hx hb dX7_encode_0 rfl (lv_at hl 1 rfl) ?_
  refine lv_iconst (v := (1 : Int32)) hx hb dX7_encode_1 (by decide) ?_
  refine lv_icmp_lt (tgt := 11) hx hb dX7_encode_2 (by decide) (fun c1 => ?_) (fun c1 => ?_)
  · rw [if_pos c1] at hf
    refine lv_iconst (v := (-1 : Int32)) hx hb dX7_encode_11 (by decide) ?_
    obtain rfl := Option.some.inj hf
    exact k_retI hx hb hr hlocks hP hS dX7_encode_12
  · rw [if_neg c1] at hf
    refine lv_iload_n hx hb dX7_encode_5 rfl (lv_at hl 1 rfl) ?_
    refine lv_bipush (v := (64 : Int32)) hx hb dX7_encode_6 (by decide) ?_
    refine lv_icmp_le (tgt := 13) hx hb dX7_encode_8 (by decide) (fun c2 => ?_) (fun c2 => ?_)
    · rw [if_pos c2] at hf
      refine lv_aload_n hx hb dX7_encode_13 rfl (lv_at hl 0 rfl) ?_
      refine va_get (D := D) (ci := 6) (v := .ref (q 21)) (C := RX7) (T := TX7) (N := 8) hx hb hts (fun w h => List.mem_cons_of_mem _ (List.mem_append_left _ (List.mem_append_left _ (List.mem_append_left _ (List.mem_append_left _ (List.mem_append_right _ h)))))) hown hK hP 0 rfl rfl 4 (by decide) (hts (.fieldLink RX7 32 "DeltaWindows" "encoder" "LDeltaWindows$Encoder;") (List.mem_of_getElem? (i := 1) rfl)) (fun _ h9 => h9) rfl dX7_encode_14 ?_
      refine lv_iload_n hx hb dX7_encode_17 rfl (lv_at hl 1 rfl) ?_
      obtain ⟨R3, hc4, hf⟩ := b_inv hf
      have hk := kall (wc' := (wX q cA R3.1 R3.2 sg)) hP hD hS hA rfl
      refine k_goV (va_runV (As := [.int x1]) (rest := []) ⟨hx, hb, hml, hown, hts⟩ (kX3_writeDelta l D hd q cA sc ar sg x1 hc4 _) (cwV 1 hts gX7_encode_X3_writeDelta rfl rfl rfl (by decide +kernel) ⟨Nat.le_of_ble_eq_true rfl, Nat.le_of_ble_eq_true rfl⟩) (k_preV (q0 := 21) (ci := 2) hk hK NXH_bl (fun U hU hW => NXH_w hAe hS hU hW hN) rfl rfl rfl) rfl rfl hl.1 rfl (lv_room (Nat.le_of_ble_eq_true rfl)) dX7_encode_18 ⟨Nat.zero_le _, Nat.zero_le _⟩) hk hS (fun H locs hP hD hS => ?_)
      refine lv_aload_n hx hb dX7_encode_21 rfl (lv_at hl 0 rfl) ?_
      refine va_get (D := D) (ci := 6) (v := .ref (q 5)) (C := RX7) (T := TX7) (N := 8) hx hb hts (fun w h => List.mem_cons_of_mem _ (List.mem_append_left _ (List.mem_append_left _ (List.mem_append_left _ (List.mem_append_left _ (List.mem_append_right _ h)))))) hown hK hP 0 rfl rfl 2 (by decide) (hts (.fieldLink RX7 21 "DeltaWindows" "delta" "LDeltaWindows$Row;") (List.mem_of_getElem? (i := 2) rfl)) (fun _ h9 => h9) rfl dX7_encode_22 ?_
      obtain ⟨R5, hc6, hf⟩ := b_inv hf
      have hk := kcut (wc := (wR (q 5) (q 6) (cA 2) 1000 (R3.2 2) (R3.1 2))) (wc' := (wR (q 5) (q 6) (cA 2) 1000 (R3.2 2) (R3.1 2))) (wf := (wX q cA R3.1 R3.2 sg)) hP hD hS hA [5, 6] rfl (by decide) rfl rfl
      refine k_goI (va_runV (As := []) (rest := []) ⟨hx, hb, hml, hown, hts⟩ (kX6_count l D (q 5) (q 6) (cA 2) 1000 (R3.2 2) (R3.1 2) hc6 _) (cwV 0 hts gX7_encode_X6_count rfl rfl rfl (by decide +kernel) ⟨Nat.le_of_ble_eq_true rfl, Nat.le_of_ble_eq_true rfl⟩) (k_preV (q0 := 0) (ci := 5) hk (hK.sub [2] rfl) NT_bl NT_u rfl rfl rfl) rfl rfl hl.1 rfl (lv_room (Nat.le_of_ble_eq_true rfl)) dX7_encode_25 ⟨Nat.zero_le _, Nat.zero_le _⟩) hk hS (fun H locs hP hD hS => ?_)
      obtain rfl := Option.some.inj hf
      exact k_retI hx hb hr hlocks hP hS dX7_encode_28
    · rw [if_neg c2] at hf
      refine lv_iconst (v := (-1 : Int32)) hx hb dX7_encode_11 (by decide) ?_
      obtain rfl := Option.some.inj hf
      exact k_retI hx hb hr hlocks hP hS dX7_encode_12

noncomputable def fX7_decode (sc : Nat → Int32) (ar : Nat → Nat → Int32) (sg : Bool) (x1 : Int32) : Option (Int32 × (Nat → Int32) × (Nat → Nat → Int32) × Bool) :=
  if x1 < 0 then
    some ((-1 : Int32), sc, ar, sg)
  else
    if x1 ≤ (400 : Int32) then
      (fX2_readDelta sc ar sg x1).bind fun R3 =>
      if R3.1 < 0 then
        some (R3.1, R3.2.1, R3.2.2.1, R3.2.2.2)
      else
        (fX6_become 400 400 (R3.2.2.1 3) (R3.2.1 3) (R3.2.2.1 9) (R3.2.1 9)).bind fun R6 =>
        (fX0_become (R3.2.2.1 14) (R3.2.2.1 15) (R3.2.1 19) (R3.2.2.1 12) (R3.2.2.1 13) (R3.2.1 18)).bind fun R8 =>
        some (R3.1, (va_up (va_up (va_up (va_up (va_up R3.2.1 3 R6.2.1) 9 R6.2.2) 19 R8.2.2.1) 18 R8.2.2.2) 29 (R3.2.1 12)), (va_up (va_up (va_up R3.2.2.1 3 R6.1) 14 R8.1) 15 R8.2.1), R3.2.2.2)
    else
      some ((-1 : Int32), sc, ar, sg)

set_option maxHeartbeats 4000000 in
set_option maxRecDepth 100000 in
theorem kX7_decode (l : Launch) (D : va_G) (hd : Nat) (q : Nat → Nat) (cA : Nat → ClassId) (sc : Nat → Int32) (ar : Nat → Nat → Int32) (sg : Bool) (x1 : Int32) {R : Int32 × (Nat → Int32) × (Nat → Nat → Int32) × Bool} (hf : fX7_decode sc ar sg x1 = some R) : MI l yX7_decode wsX7_decode (rmD 6) D ([.ref (q 0), .int x1] : List Value) (wX q cA sc ar sg) (tX cA) (NXH hd q) R.1 (wX q cA R.2.1 R.2.2.1 R.2.2.2) := by
  refine MI.mk (cc := cX7_decode) (maxL := 3) (ret := (some .int)) (by first | decide | decide +kernel) rfl (Nat.le_of_ble_eq_true rfl) ?_
  intro p e s m below meth cd A ls hE
  obtain ⟨hx, hb, hr, hml, hts, hown, hlocks, hP, hK, hD, hA, hN, hAe, hl⟩ := hE
  have hown : s.vm.findClass RX7 = some m.cls := hown
  have hS : va_S A s.heap s.heap [] := va_S.rf
  have hl : lv_has ls 3 [(0, .ref (q 0)), (1, .int x1)] := hl
  obtain ⟨hNx, hZ0, hXh, hdl, hdq⟩ := id hN
  have hZ : va_Z RX7 "HEAD" "[I" (.ref hd) A s s.heap := hZ0.narrow (fun a h => by rw [hAe] at h; exact wX_A h)
  have hdA : ¬ A hd := fun h => hdq (by rw [hAe] at h; exact wX_A h)
  rw [fX7_decode] at hf
  refine lv_iload_n hx hb dX7_decode_0 rfl (lv_at hl 1 rfl) ?_
  refine lv_if_lt (tgt := 11) hx hb dX7_decode_1 (by decide) (fun c1 => ?_) (fun c1 => ?_)
  · rw [if_pos c1] at hf
    refine lv_iconst (v := (-1 : Int32)) hx hb dX7_decode_11 (by decide) ?_
    obtain rfl := Option.some.inj hf
    exact k_retI hx hb hr hlocks hP hS dX7_decode_12
  · rw [if_neg c1] at hf
    refine lv_iload_n hx hb dX7_decode_4 rfl (lv_at hl 1 rfl) ?_
    refine lv_sipush (v := (400 : Int32)) hx hb dX7_decode_5 (by decide) ?_
    refine lv_icmp_le (tgt := 13) hx hb dX7_decode_8 (by decide) (fun c2 => ?_) (fun c2 => ?_)
    · rw [if_pos c2] at hf
      refine lv_aload_n hx hb dX7_decode_13 rfl (lv_at hl 0 rfl) ?_
      refine va_get (D := D) (ci := 6) (v := .ref (q 22)) (C := RX7) (T := TX7) (N := 8) hx hb hts (fun w h => List.mem_cons_of_mem _ (List.mem_append_left _ (List.mem_append_left _ (List.mem_append_left _ (List.mem_append_left _ (List.mem_append_right _ h)))))) hown hK hP 0 rfl rfl 5 (by decide) (hts (.fieldLink RX7 41 "DeltaWindows" "decoder" "LDeltaWindows$Decoder;") (List.mem_of_getElem? (i := 1) rfl)) (fun _ h9 => h9) rfl dX7_decode_14 ?_
      refine lv_iload_n hx hb dX7_decode_17 rfl (lv_at hl 1 rfl) ?_
      obtain ⟨R3, hc4, hf⟩ := b_inv hf
      have hk := kall (wc' := (wX q cA R3.2.1 R3.2.2.1 R3.2.2.2)) hP hD hS hA rfl
      refine k_goI (va_runV (As := [.int x1]) (rest := []) ⟨hx, hb, hml, hown, hts⟩ (kX2_readDelta l D hd q cA sc ar sg x1 hc4 _) (cwV 1 hts gX7_decode_X2_readDelta rfl rfl rfl (by decide +kernel) ⟨Nat.le_of_ble_eq_true rfl, Nat.le_of_ble_eq_true rfl⟩) (k_preV (q0 := 22) (ci := 1) hk hK NXH_bl (fun U hU hW => NXH_w hAe hS hU hW hN) rfl rfl rfl) rfl rfl hl.1 rfl (lv_room (Nat.le_of_ble_eq_true rfl)) dX7_decode_18 ⟨Nat.zero_le _, Nat.zero_le _⟩) hk hS (fun H locs hP hD hS => ?_)
      refine lv_istore_n (lv' := [(2, .int R3.1), (0, .ref (q 0)), (1, .int x1)]) hx hb dX7_decode_21 rfl hl (by decide) rfl (fun ls hl => ?_)
      refine lv_iload_n hx hb dX7_decode_22 rfl (lv_at hl 0 rfl) ?_
      refine lv_if_lt (tgt := 65) hx hb dX7_decode_23 (by decide) (fun c5 => ?_) (fun c5 => ?_)
      · rw [if_pos c5] at hf
        refine lv_iload_n hx hb dX7_decode_65 rfl (lv_at hl 0 rfl) ?_
        obtain rfl := Option.some.inj hf
        exact k_retI hx hb hr hlocks hP hS dX7_decode_66
      · rw [if_neg c5] at hf
        refine lv_aload_n hx hb dX7_decode_26 rfl (lv_at hl 1 rfl) ?_
        refine va_get (D := D) (ci := 6) (v := .ref (q 7)) (C := RX7) (T := TX7) (N := 8) hx hb hts (fun w h => List.mem_cons_of_mem _ (List.mem_append_left _ (List.mem_append_left _ (List.mem_append_left _ (List.mem_append_left _ (List.mem_append_right _ h)))))) hown hK hP 0 rfl rfl 3 (by decide) (hts (.fieldLink RX7 24 "DeltaWindows" "output" "LDeltaWindows$Row;") (List.mem_of_getElem? (i := 2) rfl)) (fun _ h9 => h9) rfl dX7_decode_27 ?_
        refine lv_aload_n hx hb dX7_decode_30 rfl (lv_at hl 1 rfl) ?_
        refine va_get (D := D) (ci := 6) (v := .ref (q 22)) (C := RX7) (T := TX7) (N := 8) hx hb hts (fun w h => List.mem_cons_of_mem _ (List.mem_append_left _ (List.mem_append_left _ (List.mem_append_left _ (List.mem_append_left _ (List.mem_append_right _ h)))))) hown hK hP 0 rfl rfl 5 (by decide) (hts (.fieldLink RX7 41 "DeltaWindows" "decoder" "LDeltaWindows$Decoder;") (List.mem_of_getElem? (i := 1) rfl)) (fun _ h9 => h9) rfl dX7_decode_31 ?_
        refine va_getN (D := D) (ci := 1) (v := .ref (q 19)) (C := RX2) (T := TX2) (N := 13) hx hb hts (fun w h => List.mem_cons_of_mem _ (List.mem_append_left _ (List.mem_append_left _ (List.mem_append_left _ (List.mem_append_right _ h))))) hown hK hP 22 rfl rfl 1 (by decide) (va_Nw.use rfl hNx.2.2.1) (fun _ h9 => h9) rfl dX7_decode_34 ?_
        obtain ⟨R6, hc7, hf⟩ := b_inv hf
        have hk := kcut (wc := (wRR (q 7) (q 8) (cA 3) 400 (q 19) (q 20) (cA 9) 400 (R3.2.2.1 3) (R3.2.1 3) (R3.2.2.1 9) (R3.2.1 9))) (wc' := (wRR (q 7) (q 8) (cA 3) 400 (q 19) (q 20) (cA 9) 400 R6.1 R6.2.1 (R3.2.2.1 9) R6.2.2)) (wf := (wX q cA (va_up (va_up R3.2.1 3 R6.2.1) 9 R6.2.2) (va_up R3.2.2.1 3 R6.1) R3.2.2.2)) hP hD hS hA [7, 8, 19, 20] rfl (by decide) rfl rfl
        refine k_goV (va_runV (As := [.ref (q 19)]) (rest := []) ⟨hx, hb, hml, hown, hts⟩ (kX6_become l D (q 7) (q 8) (cA 3) (q 19) (q 20) (cA 9) 400 400 (R3.2.2.1 3) (R3.2.1 3) (R3.2.2.1 9) (R3.2.1 9) hc7 _) (cwV 1 hts gX7_decode_X6_become rfl rfl rfl (by decide +kernel) ⟨Nat.le_of_ble_eq_true rfl, Nat.le_of_ble_eq_true rfl⟩) (k_preV (q0 := 0) (ci := 5) hk (hK.sub [3, 9] rfl) NT_bl NT_u rfl rfl rfl) rfl rfl hl.1 rfl (lv_room (Nat.le_of_ble_eq_true rfl)) dX7_decode_37 ⟨Nat.zero_le _, Nat.zero_le _⟩) hk hS (fun H locs hP hD hS => ?_)
        refine lv_aload_n hx hb dX7_decode_40 rfl (lv_at hl 1 rfl) ?_
        refine va_get (D := D) (ci := 6) (v := .ref (q 29)) (C := RX7) (T := TX7) (N := 8) hx hb hts (fun w h => List.mem_cons_of_mem _ (List.mem_append_left _ (List.mem_append_left _ (List.mem_append_left _ (List.mem_append_left _ (List.mem_append_right _ h)))))) hown hK hP 0 rfl rfl 6 (by decide) (hts (.fieldLink RX7 48 "DeltaWindows" "decoded" "LDeltaWindows$Caches;") (List.mem_of_getElem? (i := 3) rfl)) (fun _ h9 => h9) rfl dX7_decode_41 ?_
        refine lv_aload_n hx hb dX7_decode_44 rfl (lv_at hl 1 rfl) ?_
        refine va_get (D := D) (ci := 6) (v := .ref (q 22)) (C := RX7) (T := TX7) (N := 8) hx hb hts (fun w h => List.mem_cons_of_mem _ (List.mem_append_left _ (List.mem_append_left _ (List.mem_append_left _ (List.mem_append_left _ (List.mem_append_right _ h)))))) hown hK hP 0 rfl rfl 5 (by decide) (hts (.fieldLink RX7 41 "DeltaWindows" "decoder" "LDeltaWindows$Decoder;") (List.mem_of_getElem? (i := 1) rfl)) (fun _ h9 => h9) rfl dX7_decode_45 ?_
        refine va_getN (D := D) (ci := 1) (v := .ref (q 26)) (C := RX2) (T := TX2) (N := 13) hx hb hts (fun w h => List.mem_cons_of_mem _ (List.mem_append_left _ (List.mem_append_left _ (List.mem_append_left _ (List.mem_append_right _ h))))) hown hK hP 22 rfl rfl 2 (by decide) (va_Nw.use rfl hNx.2.2.2.1) (fun _ h9 => h9) rfl dX7_decode_48 ?_
        obtain ⟨R8, hc9, hf⟩ := b_inv hf
        have hk := kcut (wc := (wCC (q 29) (q 30) (q 31) (cA 14) (cA 15) (q 26) (q 27) (q 28) (cA 12) (cA 13) (R3.2.2.1 14) (R3.2.2.1 15) (R3.2.1 19) (R3.2.2.1 12) (R3.2.2.1 13) (R3.2.1 18))) (wc' := (wCC (q 29) (q 30) (q 31) (cA 14) (cA 15) (q 26) (q 27) (q 28) (cA 12) (cA 13) R8.1 R8.2.1 R8.2.2.1 (R3.2.2.1 12) (R3.2.2.1 13) R8.2.2.2)) (wf := (wX q cA (va_up (va_up (va_up (va_up R3.2.1 3 R6.2.1) 9 R6.2.2) 19 R8.2.2.1) 18 R8.2.2.2) (va_up (va_up (va_up R3.2.2.1 3 R6.1) 14 R8.1) 15 R8.2.1) R3.2.2.2)) hP hD hS hA [29, 30, 31, 26, 27, 28] rfl (by decide) rfl rfl
        refine k_goV (va_runV (As := [.ref (q 26)]) (rest := []) ⟨hx, hb, hml, hown, hts⟩ (kX0_become l D (q 29) (q 30) (q 31) (cA 14) (cA 15) (q 26) (q 27) (q 28) (cA 12) (cA 13) (R3.2.2.1 14) (R3.2.2.1 15) (R3.2.1 19) (R3.2.2.1 12) (R3.2.2.1 13) (R3.2.1 18) hc9 _) (cwV 1 hts gX7_decode_X0_become rfl rfl rfl (by decide +kernel) ⟨Nat.le_of_ble_eq_true rfl, Nat.le_of_ble_eq_true rfl⟩) (k_preV (q0 := 0) (ci := 0) hk (hK.sub [14, 15, 12, 13] rfl) NT_bl NT_u rfl rfl rfl) rfl rfl hl.1 rfl (lv_room (Nat.le_of_ble_eq_true rfl)) dX7_decode_51 ⟨Nat.zero_le _, Nat.zero_le _⟩) hk hS (fun H locs hP hD hS => ?_)
        refine lv_aload_n hx hb dX7_decode_54 rfl (lv_at hl 1 rfl) ?_
        refine lv_aload_n hx hb dX7_decode_55 rfl (lv_at hl 1 rfl) ?_
        refine va_get (D := D) (ci := 6) (v := .ref (q 22)) (C := RX7) (T := TX7) (N := 8) hx hb hts (fun w h => List.mem_cons_of_mem _ (List.mem_append_left _ (List.mem_append_left _ (List.mem_append_left _ (List.mem_append_left _ (List.mem_append_right _ h)))))) hown hK hP 0 rfl rfl 5 (by decide) (hts (.fieldLink RX7 41 "DeltaWindows" "decoder" "LDeltaWindows$Decoder;") (List.mem_of_getElem? (i := 1) rfl)) (fun _ h9 => h9) rfl dX7_decode_56 ?_
        refine va_getN (D := D) (ci := 1) (v := .int (R3.2.1 12)) (C := RX2) (T := TX2) (N := 13) hx hb hts (fun w h => List.mem_cons_of_mem _ (List.mem_append_left _ (List.mem_append_left _ (List.mem_append_left _ (List.mem_append_right _ h))))) hown hK hP 22 rfl rfl 7 (by decide) (va_Nw.use rfl hNx.2.2.2.2.1) (fun _ h9 => h9) rfl dX7_decode_59 ?_
        refine va_put (D := D) (ci := 6) (v := .int (R3.2.1 12)) (ty := .int) (C := RX7) (T := TX7) (N := 8) hx hb hts (fun w h => List.mem_cons_of_mem _ (List.mem_append_left _ (List.mem_append_left _ (List.mem_append_left _ (List.mem_append_left _ (List.mem_append_right _ h)))))) tyX7 tyX7_ok nmX7 hown hK hP hD hS 0 rfl rfl 7 (by decide) (hts (.fieldLink RX7 52 "DeltaWindows" "decodedWindows" "I") (List.mem_of_getElem? (i := 4) rfl)) (fun _ h9 => h9) rfl (by decide +kernel) rfl rfl (Nat.le_of_ble_eq_true rfl) dX7_decode_62 (fun H locs hP hD hS => ?_)
        have hP : va_P D vwCl (wX q cA (va_up (va_up (va_up (va_up (va_up R3.2.1 3 R6.2.1) 9 R6.2.2) 19 R8.2.2.1) 18 R8.2.2.2) 29 (R3.2.1 12)) (va_up (va_up (va_up R3.2.2.1 3 R6.1) 14 R8.1) 15 R8.2.1) R3.2.2.2) H := hP
        have hD : va_D A (wX q cA (va_up (va_up (va_up (va_up (va_up R3.2.1 3 R6.2.1) 9 R6.2.2) 19 R8.2.2.1) 18 R8.2.2.2) 29 (R3.2.1 12)) (va_up (va_up (va_up R3.2.2.1 3 R6.1) 14 R8.1) 15 R8.2.1) R3.2.2.2) := hD
        refine lv_iload_n hx hb dX7_decode_65 rfl (lv_at hl 0 rfl) ?_
        obtain rfl := Option.some.inj hf
        exact k_retI hx hb hr hlocks hP hS dX7_decode_66
    · rw [if_neg c2] at hf
      refine lv_iconst (v := (-1 : Int32)) hx hb dX7_decode_11 (by decide) ?_
      obtain rfl := Option.some.inj hf
      exact k_retI hx hb hr hlocks hP hS dX7_decode_12
