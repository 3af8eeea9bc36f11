noncomputable def fX5_open (n : Nat) (pl : Int32) (en : Int32) (f : Nat → Int32) (ct : Int32) (x1 : Int32) (x2 : Int32) : Option (Int32 × Int32) :=
  some ((if (0 : Int32) < (if ct < x1 then ct else x1) then (if ct < x1 then ct else x1) else (0 : Int32)), ((if (0 : Int32) < (if ct < x1 then ct else x1) then (if ct < x1 then ct else x1) else (0 : Int32)) + (if (0 : Int32) < (if (ct - (if (0 : Int32) < (if ct < x1 then ct else x1) then (if ct < x1 then ct else x1) else (0 : Int32))) < x2 then (ct - (if (0 : Int32) < (if ct < x1 then ct else x1) then (if ct < x1 then ct else x1) else (0 : Int32))) else x2) then (if (ct - (if (0 : Int32) < (if ct < x1 then ct else x1) then (if ct < x1 then ct else x1) else (0 : Int32))) < x2 then (ct - (if (0 : Int32) < (if ct < x1 then ct else x1) then (if ct < x1 then ct else x1) else (0 : Int32))) else x2) else (0 : Int32))))

set_option maxHeartbeats 4000000 in
set_option maxRecDepth 100000 in
theorem kX5_open (l : Launch) (D : va_G) (h : Nat) (r : Nat) (a : Nat) (cA : ClassId) (n : Nat) (pl : Int32) (en : Int32) (f : Nat → Int32) (ct : Int32) (x1 : Int32) (x2 : Int32) {R : Int32 × Int32} (hf : fX5_open n pl en f ct x1 x2 = some R) : MV l yX5_open wsX5_open (rmD 1) D ([.ref h, .int x1, .int x2] : List Value) (wD h r a cA n pl en f ct) [(cA, .int)] NR (wD h r a cA n R.1 R.2 f ct) := by
  refine MV.mk (cc := cX5_open) (maxL := 3) (ret := none) (by first | decide | decide +kernel) rfl (Nat.le_of_ble_eq_true rfl) ?_
  intro p e s m below meth cd A ls hE
  obtain ⟨hx, hb, hr, hml, hts, hown, hlocks, hP, hK, hD, hA, hN, hAe, hl⟩ := hE
  have hown : s.vm.findClass RX5 = some m.cls := hown
  have hS : va_S A s.heap s.heap [] := va_S.rf
  have hl : lv_has ls 3 [(0, .ref h), (1, .int x1), (2, .int x2)] := hl
  rw [fX5_open] at hf
  refine lv_aload_n hx hb dX5_open_0 rfl (lv_at hl 0 rfl) ?_
  refine lv_iconst (v := (0 : Int32)) hx hb dX5_open_1 (by decide) ?_
  refine lv_iload_n hx hb dX5_open_2 rfl (lv_at hl 1 rfl) ?_
  refine lv_aload_n hx hb dX5_open_3 rfl (lv_at hl 0 rfl) ?_
  refine va_get (D := D) (ci := 4) (v := .ref r) (C := RX5) (T := TX5) (N := 3) hx hb hts (fun w h => List.mem_cons_of_mem _ (List.mem_append_left _ (List.mem_append_right _ h))) hown hK hP 0 rfl rfl 0 (by decide) (hts (.fieldLink RX5 9 "DeltaWindows$Reader" "row" "LDeltaWindows$Row;") (List.mem_of_getElem? (i := 1) rfl)) (fun _ h9 => h9) rfl dX5_open_4 ?_
  refine va_getN (D := D) (ci := 5) (v := .int ct) (C := RX6) (T := TX6) (N := 2) hx hb hts (fun w h => List.mem_cons_of_mem _ (List.mem_append_right _ h)) hown hK hP 1 rfl rfl 1 (by decide) (va_Nw.use rfl hN.2) (fun _ h9 => h9) rfl dX5_open_7 ?_
  refine va_mmin hx hb (by rw [hml]; exact hl.1.symm) hown (hts (.methodLink RX5 27 Lib.Math.min.name) (List.mem_of_getElem? (i := 2) rfl)) (hts (.static Lib.Math.min.name) (List.mem_of_getElem? (i := 3) rfl)) (hts (.initialized "java/lang/Math") (List.mem_of_getElem? (i := 4) rfl)) (hts (.code Lib.Math.min.name Lib.Math.min.code 2 (some .int)) (List.mem_of_getElem? (i := 5) rfl)) (Nat.le_of_ble_eq_true rfl) (Nat.le_of_ble_eq_true rfl) (Nat.zero_le _) (Nat.zero_le _) dX5_open_10 ?_
  refine va_mmax hx hb (by rw [hml]; exact hl.1.symm) hown (hts (.methodLink RX5 33 Lib.Math.max.name) (List.mem_of_getElem? (i := 6) rfl)) (hts (.static Lib.Math.max.name) (List.mem_of_getElem? (i := 7) rfl)) (hts (.initialized "java/lang/Math") (List.mem_of_getElem? (i := 4) rfl)) (hts (.code Lib.Math.max.name Lib.Math.max.code 2 (some .int)) (List.mem_of_getElem? (i := 8) rfl)) (Nat.le_of_ble_eq_true rfl) (Nat.le_of_ble_eq_true rfl) (Nat.zero_le _) (Nat.zero_le _) dX5_open_13 ?_
  refine va_put (D := D) (ci := 4) (v := .int (if (0 : Int32) < (if ct < x1 then ct else x1) then (if ct < x1 then ct else x1) else (0 : Int32))) (ty := .int) (C := RX5) (T := TX5) (N := 3) hx hb hts (fun w h => List.mem_cons_of_mem _ (List.mem_append_left _ (List.mem_append_right _ h))) tyX5 tyX5_ok nmX5 hown hK hP hD hS 0 rfl rfl 1 (by decide) (hts (.fieldLink RX5 15 "DeltaWindows$Reader" "place" "I") (List.mem_of_getElem? (i := 9) rfl)) (fun _ h9 => h9) rfl (by decide +kernel) rfl rfl (Nat.le_of_ble_eq_true rfl) dX5_open_16 (fun H locs hP hD hS => ?_)
  have hP : va_P D vwCl (wD h r a cA n (if (0 : Int32) < (if ct < x1 then ct else x1) then (if ct < x1 then ct else x1) else (0 : Int32)) en f ct) H := hP
  have hD : va_D A (wD h r a cA n (if (0 : Int32) < (if ct < x1 then ct else x1) then (if ct < x1 then ct else x1) else (0 : Int32)) en f ct) := hD
  refine lv_aload_n hx hb dX5_open_19 rfl (lv_at hl 0 rfl) ?_
  refine lv_aload_n hx hb dX5_open_20 rfl (lv_at hl 0 rfl) ?_
  refine va_get (D := D) (ci := 4) (v := .int (if (0 : Int32) < (if ct < x1 then ct else x1) then (if ct < x1 then ct else x1) else (0 : Int32))) (C := RX5) (T := TX5) (N := 3) hx hb hts (fun w h => List.mem_cons_of_mem _ (List.mem_append_left _ (List.mem_append_right _ h))) hown hK hP 0 rfl rfl 1 (by decide) (hts (.fieldLink RX5 15 "DeltaWindows$Reader" "place" "I") (List.mem_of_getElem? (i := 9) rfl)) (fun _ h9 => h9) rfl dX5_open_21 ?_
  refine lv_iconst (v := (0 : Int32)) hx hb dX5_open_24 (by decide) ?_
  refine lv_iload_n hx hb dX5_open_25 rfl (lv_at hl 2 rfl) ?_
  refine lv_aload_n hx hb dX5_open_26 rfl (lv_at hl 0 rfl) ?_
  refine va_get (D := D) (ci := 4) (v := .ref r) (C := RX5) (T := TX5) (N := 3) hx hb hts (fun w h => List.mem_cons_of_mem _ (List.mem_append_left _ (List.mem_append_right _ h))) hown hK hP 0 rfl rfl 0 (by decide) (hts (.fieldLink RX5 9 "DeltaWindows$Reader" "row" "LDeltaWindows$Row;") (List.mem_of_getElem? (i := 1) rfl)) (fun _ h9 => h9) rfl dX5_open_27 ?_
  refine va_getN (D := D) (ci := 5) (v := .int ct) (C := RX6) (T := TX6) (N := 2) hx hb hts (fun w h => List.mem_cons_of_mem _ (List.mem_append_right _ h)) hown hK hP 1 rfl rfl 1 (by decide) (va_Nw.use rfl hN.2) (fun _ h9 => h9) rfl dX5_open_30 ?_
  refine lv_aload_n hx hb dX5_open_33 rfl (lv_at hl 0 rfl) ?_
  refine va_get (D := D) (ci := 4) (v := .int (if (0 : Int32) < (if ct < x1 then ct else x1) then (if ct < x1 then ct else x1) else (0 : Int32))) (C := RX5) (T := TX5) (N := 3) hx hb hts (fun w h => List.mem_cons_of_mem _ (List.mem_append_left _ (List.mem_append_right _ h))) hown hK hP 0 rfl rfl 1 (by decide) (hts (.fieldLink RX5 15 "DeltaWindows$Reader" "place" "I") (List.mem_of_getElem? (i := 9) rfl)) (fun _ h9 => h9) rfl dX5_open_34 ?_
  refine lv_isub hx hb dX5_open_37 ?_
  refine va_mmin hx hb (by rw [hml]; exact hl.1.symm) hown (hts (.methodLink RX5 27 Lib.Math.min.name) (List.mem_of_getElem? (i := 2) rfl)) (hts (.static Lib.Math.min.name) (List.mem_of_getElem? (i := 3) rfl)) (hts (.initialized "java/lang/Math") (List.mem_of_getElem? (i := 4) rfl)) (hts (.code Lib.Math.min.name Lib.Math.min.code 2 (some .int)) (List.mem_of_getElem? (i := 5) rfl)) (Nat.le_of_ble_eq_true rfl) (Nat.le_of_ble_eq_true rfl) (Nat.zero_le _) (Nat.zero_le _) dX5_open_38 ?_
  refine va_mmax hx hb (by rw [hml]; exact hl.1.symm) hown (hts (.methodLink RX5 33 Lib.Math.max.name) (List.mem_of_getElem? (i := 6) rfl)) (hts (.static Lib.Math.max.name) (List.mem_of_getElem? (i := 7) rfl)) (hts (.initialized "java/lang/Math") (List.mem_of_getElem? (i := 4) rfl)) (hts (.code Lib.Math.max.name Lib.Math.max.code 2 (some .int)) (List.mem_of_getElem? (i := 8) rfl)) (Nat.le_of_ble_eq_true rfl) (Nat.le_of_ble_eq_true rfl) (Nat.zero_le _) (Nat.zero_le _) dX5_open_41 ?_
  refine lv_iadd hx hb dX5_open_44 ?_
  refine va_put (D := D) (ci := 4) (v := .int ((if (0 : Int32) < (if ct < x1 then ct else x1) then (if ct < x1 then ct else x1) else (0 : Int32)) + (if (0 : Int32) < (if (ct - (if (0 : Int32) < (if ct < x1 then ct else x1) then (if ct < x1 then ct else x1) else (0 : Int32))) < x2 then (ct - (if (0 : Int32) < (if ct < x1 then ct else x1) then (if ct < x1 then ct else x1) else (0 : Int32))) else x2) then (if (ct - (if (0 : Int32) < (if ct < x1 then ct else x1) then (if ct < x1 then ct else x1) else (0 : Int32))) < x2 then (ct - (if (0 : Int32) < (if ct < x1 then ct else x1) then (if ct < x1 then ct else x1) else (0 : Int32))) else x2) else (0 : Int32)))) (ty := .int) (C := RX5) (T := TX5) (N := 3) hx hb hts (fun w h => List.mem_cons_of_mem _ (List.mem_append_left _ (List.mem_append_right _ h))) tyX5 tyX5_ok nmX5 hown hK hP hD hS 0 rfl rfl 2 (by decide) (hts (.fieldLink RX5 19 "DeltaWindows$Reader" "end" "I") (List.mem_of_getElem? (i := 10) rfl)) (fun _ h9 => h9) rfl (by decide +kernel) rfl rfl (Nat.le_of_ble_eq_true rfl) dX5_open_45 (fun H locs hP hD hS => ?_)
  have hP : va_P D vwCl (wD h r a cA n (if (0 : Int32) < (if ct < x1 then ct else x1) then (if ct < x1 then ct else x1) else (0 : Int32)) ((if (0 : Int32) < (if ct < x1 then ct else x1) then (if ct < x1 then ct else x1) else (0 : Int32)) + (if (0 : Int32) < (if (ct - (if (0 : Int32) < (if ct < x1 then ct else x1) then (if ct < x1 then ct else x1) else (0 : Int32))) < x2 then (ct - (if (0 : Int32) < (if ct < x1 then ct else x1) then (if ct < x1 then ct else x1) else (0 : Int32))) else x2) then (if (ct - (if (0 : Int32) < (if ct < x1 then ct else x1) then (if ct < x1 then ct else x1) else (0 : Int32))) < x2 then (ct - (if (0 : Int32) < (if ct < x1 then ct else x1) then (if ct < x1 then ct else x1) else (0 : Int32))) else x2) else (0 : Int32))) f ct) H := hP
  have hD : va_D A (wD h r a cA n (if (0 : Int32) < (if ct < x1 then ct else x1) then (if ct < x1 then ct else x1) else (0 : Int32)) ((if (0 : Int32) < (if ct < x1 then ct else x1) then (if ct < x1 then ct else x1) else (0 : Int32)) + (if (0 : Int32) < (if (ct - (if (0 : Int32) < (if ct < x1 then ct else x1) then (if ct < x1 then ct else x1) else (0 : Int32))) < x2 then (ct - (if (0 : Int32) < (if ct < x1 then ct else x1) then (if ct < x1 then ct else x1) else (0 : Int32))) else x2) then (if (ct - (if (0 : Int32) < (if ct < x1 then ct else x1) then (if ct < x1 then ct else x1) else (0 : Int32))) < x2 then (ct - (if (0 : Int32) < (if ct < x1 then ct else x1) then (if ct < x1 then ct else x1) else (0 : Int32))) else x2) else (0 : Int32))) f ct) := hD
  obtain rfl := Option.some.inj hf
  exact k_retV hx hb hr hlocks hP hS dX5_open_48

noncomputable def fX5_place (n : Nat) (pl : Int32) (en : Int32) (f : Nat → Int32) (ct : Int32) : Option (Int32) :=
  some pl

set_option maxHeartbeats 4000000 in
set_option maxRecDepth 100000 in
theorem kX5_place (l : Launch) (D : va_G) (h : Nat) (r : Nat) (a : Nat) (cA : ClassId) (n : Nat) (pl : Int32) (en : Int32) (f : Nat → Int32) (ct : Int32) {R : Int32} (hf : fX5_place n pl en f ct = some R) : MI l yX5_place wsX5_place (rmD 0) D ([.ref h] : List Value) (wD h r a cA n pl en f ct) [(cA, .int)] NR R (wD h r a cA n pl en f ct) := by
  refine MI.mk (cc := cX5_place) (maxL := 1) (ret := (some .int)) (by first | decide | decide +kernel) rfl (Nat.le_of_ble_eq_true rfl) ?_
  intro p e s m below meth cd A ls hE
  obtain ⟨hx, hb, hr, hml, hts, hown, hlocks, hP, hK, hD, hA, hN, hAe, hl⟩ := hE
  have hown : s.vm.findClass RX5 = some m.cls := hown
  have hS : va_S A s.heap s.heap [] := va_S.rf
  have hl : lv_has ls 1 [(0, .ref h)] := hl
  rw [fX5_place] at hf
  refine lv_aload_n hx hb dX5_place_0 rfl (lv_at hl 0 rfl) ?_
  refine va_get (D := D) (ci := 4) (v := .int pl) (C := RX5) (T := TX5) (N := 3) hx hb hts (fun w h => List.mem_cons_of_mem _ (List.mem_append_right _ h)) hown hK hP 0 rfl rfl 1 (by decide) (hts (.fieldLink RX5 15 "DeltaWindows$Reader" "place" "I") (List.mem_of_getElem? (i := 1) rfl)) (fun _ h9 => h9) rfl dX5_place_1 ?_
  obtain rfl := Option.some.inj hf
  exact k_retI hx hb hr hlocks hP hS dX5_place_4

noncomputable def fX5_left (n : Nat) (pl : Int32) (en : Int32) (f : Nat → Int32) (ct : Int32) : Option (Int32) :=
  some (en - pl)

set_option maxHeartbeats 4000000 in
set_option maxRecDepth 100000 in
theorem kX5_left (l : Launch) (D : va_G) (h : Nat) (r : Nat) (a : Nat) (cA : ClassId) (n : Nat) (pl : Int32) (en : Int32) (f : Nat → Int32) (ct : Int32) {R : Int32} (hf : fX5_left n pl en f ct = some R) : MI l yX5_left wsX5_left (rmD 0) D ([.ref h] : List Value) (wD h r a cA n pl en f ct) [(cA, .int)] NR R (wD h r a cA n pl en f ct) := by
  refine MI.mk (cc := cX5_left) (maxL := 1) (ret := (some .int)) (by first | decide | decide +kernel) rfl (Nat.le_of_ble_eq_true rfl) ?_
  intro p e s m below meth cd A ls hE
  obtain ⟨hx, hb, hr, hml, hts, hown, hlocks, hP, hK, hD, hA, hN, hAe, hl⟩ := hE
  have hown : s.vm.findClass RX5 = some m.cls := hown
  have hS : va_S A s.heap s.heap [] := va_S.rf
  have hl : lv_has ls 1 [(0, .ref h)] := hl
  rw [fX5_left] at hf
  refine lv_aload_n hx hb dX5_left_0 rfl (lv_at hl 0 rfl) ?_
  refine va_get (D := D) (ci := 4) (v := .int en) (C := RX5) (T := TX5) (N := 3) hx hb hts (fun w h => List.mem_cons_of_mem _ (List.mem_append_right _ h)) hown hK hP 0 rfl rfl 2 (by decide) (hts (.fieldLink RX5 19 "DeltaWindows$Reader" "end" "I") (List.mem_of_getElem? (i := 1) rfl)) (fun _ h9 => h9) rfl dX5_left_1 ?_
  refine lv_aload_n hx hb dX5_left_4 rfl (lv_at hl 0 rfl) ?_
  refine va_get (D := D) (ci := 4) (v := .int pl) (C := RX5) (T := TX5) (N := 3) hx hb hts (fun w h => List.mem_cons_of_mem _ (List.mem_append_right _ h)) hown hK hP 0 rfl rfl 1 (by decide) (hts (.fieldLink RX5 15 "DeltaWindows$Reader" "place" "I") (List.mem_of_getElem? (i := 2) rfl)) (fun _ h9 => h9) rfl dX5_left_5 ?_
  refine lv_isub hx hb dX5_left_8 ?_
  obtain rfl := Option.some.inj hf
  exact k_retI hx hb hr hlocks hP hS dX5_left_9

noncomputable def fX5_nextByte (n : Nat) (pl : Int32) (en : Int32) (f : Nat → Int32) (ct : Int32) : Option (Int32 × Int32) :=
  if pl < 0 then
    some ((-1 : Int32), pl)
  else
    if en ≤ pl then
      some ((-1 : Int32), pl)
    else
      if pl < (nI n) then
        if inb pl n = true then
        some ((f pl.toNatClampNeg), (pl + (1 : Int32)))
        else none
      else
        some ((-1 : Int32), pl)

set_option maxHeartbeats 4000000 in
set_option maxRecDepth 100000 in
theorem kX5_nextByte (l : Launch) (D : va_G) (h : Nat) (r : Nat) (a : Nat) (cA : ClassId) (n : Nat) (pl : Int32) (en : Int32) (f : Nat → Int32) (ct : Int32) {R : Int32 × Int32} (hf : fX5_nextByte n pl en f ct = some R) : MI l yX5_nextByte wsX5_nextByte (rmD 0) D ([.ref h] : List Value) (wD h r a cA n pl en f ct) [(cA, .int)] NR R.1 (wD h r a cA n R.2 en f ct) := by
  refine MI.mk (cc := cX5_nextByte) (maxL := 2) (ret := (some .int)) (by first | decide | decide +kernel) rfl (Nat.le_of_ble_eq_true rfl) ?_
  intro p e s m below meth cd A ls hE
  obtain ⟨hx, hb, hr, hml, hts, hown, hlocks, hP, hK, hD, hA, hN, hAe, hl⟩ := hE
  have hown : s.vm.findClass RX5 = some m.cls := hown
  have hS : va_S A s.heap s.heap [] := va_S.rf
  have hl : lv_has ls 2 [(0, .ref h)] := hl
  rw [fX5_nextByte] at hf
  refine lv_aload_n hx hb dX5_nextByte_0 rfl (lv_at hl 0 rfl) ?_
  refine va_get (D := D) (ci := 4) (v := .int pl) (C := RX5) (T := TX5) (N := 3) hx hb hts (fun w h => List.mem_cons_of_mem _ (List.mem_append_left _ (List.mem_append_right _ h))) hown hK hP 0 rfl rfl 1 (by decide) (hts (.fieldLink RX5 15 "DeltaWindows$Reader" "place" "I") (List.mem_of_getElem? (i := 1) rfl)) (fun _ h9 => h9) rfl dX5_nextByte_1 ?_
  refine lv_if_lt (tgt := 33) hx hb dX5_nextByte_4 (by decide) (fun c1 => ?_) (fun c1 => ?_)
  · rw [if_pos c1] at hf
    refine lv_iconst (v := (-1 : Int32)) hx hb dX5_nextByte_33 (by decide) ?_
    obtain rfl := Option.some.inj hf
    exact k_retI hx hb hr hlocks hP hS dX5_nextByte_34
  · rw [if_neg c1] at hf
    refine lv_aload_n hx hb dX5_nextByte_7 rfl (lv_at hl 0 rfl) ?_
    refine va_get (D := D) (ci := 4) (v := .int pl) (C := RX5) (T := TX5) (N := 3) hx hb hts (fun w h => List.mem_cons_of_mem _ (List.mem_append_left _ (List.mem_append_right _ h))) hown hK hP 0 rfl rfl 1 (by decide) (hts (.fieldLink RX5 15 "DeltaWindows$Reader" "place" "I") (List.mem_of_getElem? (i := 1) rfl)) (fun _ h9 => h9) rfl dX5_nextByte_8 ?_
    refine lv_aload_n hx hb dX5_nextByte_11 rfl (lv_at hl 0 rfl) ?_
    refine va_get (D := D) (ci := 4) (v := .int en) (C := RX5) (T := TX5) (N := 3) hx hb hts (fun w h => List.mem_cons_of_mem _ (List.mem_append_left _ (List.mem_append_right _ h))) hown hK hP 0 rfl rfl 2 (by decide) (hts (.fieldLink RX5 19 "DeltaWindows$Reader" "end" "I") (List.mem_of_getElem? (i := 2) rfl)) (fun _ h9 => h9) rfl dX5_nextByte_12 ?_
    refine lv_icmp_ge (tgt := 33) hx hb dX5_nextByte_15 (by decide) (fun c2 => ?_) (fun c2 => ?_)
    · rw [if_pos c2] at hf
      refine lv_iconst (v := (-1 : Int32)) hx hb dX5_nextByte_33 (by decide) ?_
      obtain rfl := Option.some.inj hf
      exact k_retI hx hb hr hlocks hP hS dX5_nextByte_34
    · rw [if_neg c2] at hf
      refine lv_aload_n hx hb dX5_nextByte_18 rfl (lv_at hl 0 rfl) ?_
      refine va_get (D := D) (ci := 4) (v := .int pl) (C := RX5) (T := TX5) (N := 3) hx hb hts (fun w h => List.mem_cons_of_mem _ (List.mem_append_left _ (List.mem_append_right _ h))) hown hK hP 0 rfl rfl 1 (by decide) (hts (.fieldLink RX5 15 "DeltaWindows$Reader" "place" "I") (List.mem_of_getElem? (i := 1) rfl)) (fun _ h9 => h9) rfl dX5_nextByte_19 ?_
      refine lv_aload_n hx hb dX5_nextByte_22 rfl (lv_at hl 0 rfl) ?_
      refine va_get (D := D) (ci := 4) (v := .ref r) (C := RX5) (T := TX5) (N := 3) hx hb hts (fun w h => List.mem_cons_of_mem _ (List.mem_append_left _ (List.mem_append_right _ h))) hown hK hP 0 rfl rfl 0 (by decide) (hts (.fieldLink RX5 9 "DeltaWindows$Reader" "row" "LDeltaWindows$Row;") (List.mem_of_getElem? (i := 3) rfl)) (fun _ h9 => h9) rfl dX5_nextByte_23 ?_
      refine va_getN (D := D) (ci := 5) (v := .ref a) (C := RX6) (T := TX6) (N := 2) hx hb hts (fun w h => List.mem_cons_of_mem _ (List.mem_append_right _ h)) hown hK hP 1 rfl rfl 0 (by decide) (va_Nw.use rfl hN.1) (fun _ h9 => h9) rfl dX5_nextByte_26 ?_
      refine va_alen (v := (nI n)) hx hb hK hP 2 0 rfl rfl rfl dX5_nextByte_29 ?_
      refine lv_icmp_lt (tgt := 35) hx hb dX5_nextByte_30 (by decide) (fun c3 => ?_) (fun c3 => ?_)
      · rw [if_pos c3] at hf
        refine lv_aload_n hx hb dX5_nextByte_35 rfl (lv_at hl 0 rfl) ?_
        refine va_get (D := D) (ci := 4) (v := .ref r) (C := RX5) (T := TX5) (N := 3) hx hb hts (fun w h => List.mem_cons_of_mem _ (List.mem_append_left _ (List.mem_append_right _ h))) hown hK hP 0 rfl rfl 0 (by decide) (hts (.fieldLink RX5 9 "DeltaWindows$Reader" "row" "LDeltaWindows$Row;") (List.mem_of_getElem? (i := 3) rfl)) (fun _ h9 => h9) rfl dX5_nextByte_36 ?_
        refine va_getN (D := D) (ci := 5) (v := .ref a) (C := RX6) (T := TX6) (N := 2) hx hb hts (fun w h => List.mem_cons_of_mem _ (List.mem_append_right _ h)) hown hK hP 1 rfl rfl 0 (by decide) (va_Nw.use rfl hN.1) (fun _ h9 => h9) rfl dX5_nextByte_39 ?_
        refine lv_aload_n hx hb dX5_nextByte_42 rfl (lv_at hl 0 rfl) ?_
        refine va_get (D := D) (ci := 4) (v := .int pl) (C := RX5) (T := TX5) (N := 3) hx hb hts (fun w h => List.mem_cons_of_mem _ (List.mem_append_left _ (List.mem_append_right _ h))) hown hK hP 0 rfl rfl 1 (by decide) (hts (.fieldLink RX5 15 "DeltaWindows$Reader" "place" "I") (List.mem_of_getElem? (i := 1) rfl)) (fun _ h9 => h9) rfl dX5_nextByte_43 ?_
        obtain ⟨g4, hf⟩ := g_inv hf
        refine va_iald (f := f) hx hb hK hP 2 0 rfl rfl (inb_vp g4) dX5_nextByte_46 ?_
        refine lv_istore_n (lv' := [(1, .int (f pl.toNatClampNeg)), (0, .ref h)]) hx hb dX5_nextByte_47 rfl hl (by decide) rfl (fun ls hl => ?_)
        refine lv_aload_n hx hb dX5_nextByte_48 rfl (lv_at hl 1 rfl) ?_
        refine lv_dup hx hb dX5_nextByte_49 rfl ?_
        refine va_get (D := D) (ci := 4) (v := .int pl) (C := RX5) (T := TX5) (N := 3) hx hb hts (fun w h => List.mem_cons_of_mem _ (List.mem_append_left _ (List.mem_append_right _ h))) hown hK hP 0 rfl rfl 1 (by decide) (hts (.fieldLink RX5 15 "DeltaWindows$Reader" "place" "I") (List.mem_of_getElem? (i := 1) rfl)) (fun _ h9 => h9) rfl dX5_nextByte_50 ?_
        refine lv_iconst (v := (1 : Int32)) hx hb dX5_nextByte_53 (by decide) ?_
        refine lv_iadd hx hb dX5_nextByte_54 ?_
        refine va_put (D := D) (ci := 4) (v := .int (pl + (1 : Int32))) (ty := .int) (C := RX5) (T := TX5) (N := 3) hx hb hts (fun w h => List.mem_cons_of_mem _ (List.mem_append_left _ (List.mem_append_right _ h))) tyX5 tyX5_ok nmX5 hown hK hP hD hS 0 rfl rfl 1 (by decide) (hts (.fieldLink RX5 15 "DeltaWindows$Reader" "place" "I") (List.mem_of_getElem? (i := 1) rfl)) (fun _ h9 => h9) rfl (by decide +kernel) rfl rfl (Nat.le_of_ble_eq_true rfl) dX5_nextByte_55 (fun H locs hP hD hS => ?_)
        have hP : va_P D vwCl (wD h r a cA n (pl + (1 : Int32)) en f ct) H := hP
        have hD : va_D A (wD h r a cA n (pl + (1 : Int32)) en f ct) := hD
        refine lv_iload_n hx hb dX5_nextByte_58 rfl (lv_at hl 0 rfl) ?_
        obtain rfl := Option.some.inj hf
        exact k_retI hx hb hr hlocks hP hS dX5_nextByte_59
      · rw [if_neg c3] at hf
        refine lv_iconst (v := (-1 : Int32)) hx hb dX5_nextByte_33 (by decide) ?_
        obtain rfl := Option.some.inj hf
        exact k_retI hx hb hr hlocks hP hS dX5_nextByte_34

noncomputable def fX5_nextInteger_L4 (n : Nat) (en : Int32) (f : Nat → Int32) (ct : Int32) : Nat → (Int64) → (Int32) → (Int32) → Option ((Int32) ⊕ (Int32 × Int32))
  | 0, _, _, _ => none
  | k + 1, v1, v3, pl =>
    if (5 : Int32) ≤ v3 then
      some (Sum.inl pl)
    else
      (fX5_nextByte n pl en f ct).bind fun R2 =>
      if R2.1 = (-1 : Int32) then
        some (Sum.inr ((-1 : Int32), R2.2))
      else
        if (128 : Int32) ≤ R2.1 then
          fX5_nextInteger_L4 n en f ct k ((v1 * (128 : Int64)) + (R2.1 &&& (127 : Int32)).toInt64) (v3 + (1 : Int32)) R2.2
        else
          if (lg_cmp ((v1 * (128 : Int64)) + (R2.1 &&& (127 : Int32)).toInt64) (2147483647 : Int64)) ≤ 0 then
            some (Sum.inr (((v1 * (128 : Int64)) + (R2.1 &&& (127 : Int32)).toInt64).toInt32, R2.2))
          else
            some (Sum.inr ((-1 : Int32), R2.2))

noncomputable def fX5_nextInteger (n : Nat) (pl : Int32) (en : Int32) (f : Nat → Int32) (ct : Int32) : Option (Int32 × Int32) :=
  (fX5_nextInteger_L4 n en f ct FU (0 : Int64) (0 : Int32) pl).bind fun R7o => Sum.elim (fun R7 =>
    some ((-1 : Int32), R7)) (fun r => some r) R7o

set_option maxHeartbeats 4000000 in
set_option maxRecDepth 100000 in
theorem kX5_nextInteger (l : Launch) (D : va_G) (h : Nat) (r : Nat) (a : Nat) (cA : ClassId) (n : Nat) (pl : Int32) (en : Int32) (f : Nat → Int32) (ct : Int32) {R : Int32 × Int32} (hf : fX5_nextInteger n pl en f ct = some R) : MI l yX5_nextInteger wsX5_nextInteger (rmD 1) D ([.ref h] : List Value) (wD h r a cA n pl en f ct) [(cA, .int)] NR R.1 (wD h r a cA n R.2 en f ct) := by
  refine MI.mk (cc := cX5_nextInteger) (maxL := 5) (ret := (some .int)) (by first | decide | decide +kernel) rfl (Nat.le_of_ble_eq_true rfl) ?_
  intro p e s m below meth cd A ls hE
  obtain ⟨hx, hb, hr, hml, hts, hown, hlocks, hP, hK, hD, hA, hN, hAe, hl⟩ := hE
  have hown : s.vm.findClass RX5 = some m.cls := hown
  have hS : va_S A s.heap s.heap [] := va_S.rf
  have hl : lv_has ls 5 [(0, .ref h)] := hl
  rw [fX5_nextInteger] at hf
  refine lv_lconst (v := (0 : Int64)) hx hb dX5_nextInteger_0 (by decide) ?_
  refine lv_lstore_n (lv' := [(1, .long (0 : Int64)), (0, .ref h)]) hx hb dX5_nextInteger_1 rfl hl (by decide) rfl (fun ls hl => ?_)
  refine lv_iconst (v := (0 : Int32)) hx hb dX5_nextInteger_2 (by decide) ?_
  refine lv_istore_n (lv' := [(3, .int (0 : Int32)), (1, .long (0 : Int64)), (0, .ref h)]) hx hb dX5_nextInteger_3 rfl hl (by decide) rfl (fun ls hl => ?_)
  have lp9 : ∀ (en : Int32) (f : Nat → Int32) (ct : Int32), ∀ (k : Nat) (v1 : Int64) (v3 : Int32) (pl : Int32) (H : Heap) (locs : List Loc) (ls : Array Slot) (o : (Int32) ⊕ (Int32 × Int32)), lv_has ls 5 [(1, .long v1), (3, .int v3), (0, .ref h)] → va_P D vwCl (wD h r a cA n pl en f ct) H → va_D A (wD h r a cA n pl en f ct) → va_S A s.heap H locs → fX5_nextInteger_L4 n en f ct k v1 v3 pl = some o → (∀ o1 : Int32, o = Sum.inl o1 → (∀ (H : Heap) (locs : List Loc) (ls : Array Slot), lv_has ls 5 [] → va_P D vwCl (wD h r a cA n o1 en f ct) H → va_D A (wD h r a cA n o1 en f ct) → va_S A s.heap H locs → W p l e (headSpec wsX5_nextInteger (rmD 1)).room s m ([.ref h] : List Value).toArray below meth cd H locs 0 0 (QI D below ([.ref h] : List Value).toArray s A R.1 (wD h r a cA n R.2 en f ct)) (F0 m 65 ls []))) → (∀ r, o = Sum.inr r → some r = some R) → W p l e (headSpec wsX5_nextInteger (rmD 1)).room s m ([.ref h] : List Value).toArray below meth cd H locs 0 0 (QI D below ([.ref h] : List Value).toArray s A R.1 (wD h r a cA n R.2 en f ct)) (F0 m 4 ls []) := by
    intro en f ct
    intro k
    induction k with
    | zero =>
      intro v1 v3 pl H locs ls o hl hP hD hS hf
      exact absurd hf (by simp [fX5_nextInteger_L4])
    | succ k ih =>
      intro v1 v3 pl H locs ls o hl hP hD hS hf kont kr
      rw [fX5_nextInteger_L4] at hf
      refine lv_iload_n hx hb dX5_nextInteger_4 rfl (lv_at hl 1 rfl) ?_
      refine lv_iconst (v := (5 : Int32)) hx hb dX5_nextInteger_5 (by decide) ?_
      refine lv_icmp_ge (tgt := 65) hx hb dX5_nextInteger_6 (by decide) (fun c1 => ?_) (fun c1 => ?_)
      · rw [if_pos c1] at hf
        obtain rfl := Option.some.inj hf
        exact kont _ rfl _ _ _ (lv_sub hl [] rfl) hP hD hS
      · rw [if_neg c1] at hf
        refine lv_aload_n hx hb dX5_nextInteger_9 rfl (lv_at hl 2 rfl) ?_
        obtain ⟨R2, hc3, hf⟩ := b_inv hf
        have hk := kall (wc' := (wD h r a cA n R2.2 en f ct)) hP hD hS hA rfl
        refine k_goI (va_runV (As := []) (rest := []) ⟨hx, hb, hml, hown, hts⟩ (kX5_nextByte l D h r a cA n pl en f ct hc3 _) (cwV 0 hts gX5_nextInteger_X5_nextByte rfl rfl rfl (by decide +kernel) ⟨Nat.le_of_ble_eq_true rfl, Nat.le_of_ble_eq_true rfl⟩) (k_preV (q0 := 0) (ci := 4) hk hK NR_bl (fun U _ hW => NR_w hW hN) rfl rfl rfl) rfl rfl hl.1 rfl (lv_room (Nat.le_of_ble_eq_true rfl)) dX5_nextInteger_10 ⟨Nat.zero_le _, Nat.zero_le _⟩) hk hS (fun H locs hP hD hS => ?_)
        refine lv_istore (lv' := [(4, .int R2.1), (1, .long v1), (3, .int v3), (0, .ref h)]) hx hb dX5_nextInteger_13 hl (by decide) rfl (fun ls hl => ?_)
        refine lv_iload hx hb dX5_nextInteger_15 (lv_at hl 0 rfl) ?_
        refine lv_iconst (v := (-1 : Int32)) hx hb dX5_nextInteger_17 (by decide) ?_
        refine lv_icmp_ne (tgt := 23) hx hb dX5_nextInteger_18 (by decide) (fun c4 => ?_) (fun c4 => ?_)
        · rw [if_neg c4] at hf
          refine lv_lload_n hx hb dX5_nextInteger_23 rfl (lv_at hl 1 rfl) ?_
          refine lv_ldc2 (v := (128 : Int64)) hx hb hown (hts (.constantLong RX5 44 (128)) (List.mem_of_getElem? (i := 1) rfl)) dX5_nextInteger_24 ?_
          refine lv_lmul hx hb dX5_nextInteger_27 ?_
          refine lv_iload hx hb dX5_nextInteger_28 (lv_at hl 0 rfl) ?_
          refine lv_bipush (v := (127 : Int32)) hx hb dX5_nextInteger_30 (by decide) ?_
          refine lv_iand hx hb dX5_nextInteger_32 ?_
          refine lv_i2l (v := (R2.1 &&& (127 : Int32)).toInt64) hx hb dX5_nextInteger_33 rfl ?_
          refine lv_ladd hx hb dX5_nextInteger_34 ?_
          refine lv_lstore_n (lv' := [(1, .long ((v1 * (128 : Int64)) + (R2.1 &&& (127 : Int32)).toInt64)), (4, .int R2.1), (3, .int v3), (0, .ref h)]) hx hb dX5_nextInteger_35 rfl hl (by decide) rfl (fun ls hl => ?_)
          refine lv_iload hx hb dX5_nextInteger_36 (lv_at hl 1 rfl) ?_
          refine lv_sipush (v := (128 : Int32)) hx hb dX5_nextInteger_38 (by decide) ?_
          refine lv_icmp_ge (tgt := 59) hx hb dX5_nextInteger_41 (by decide) (fun c5 => ?_) (fun c5 => ?_)
          · rw [if_pos c5] at hf
            refine lv_iinc (v := (v3 + (1 : Int32))) (lv' := [(3, .int (v3 + (1 : Int32))), (1, .long ((v1 * (128 : Int64)) + (R2.1 &&& (127 : Int32)).toInt64)), (4, .int R2.1), (0, .ref h)]) hx hb dX5_nextInteger_59 hl (k := 2) rfl rfl (by decide) rfl (fun ls hl => ?_)
            refine lv_goto (tgt := 4) hx hb dX5_nextInteger_62 (by decide) ?_
            exact ih ((v1 * (128 : Int64)) + (R2.1 &&& (127 : Int32)).toInt64) (v3 + (1 : Int32)) R2.2 _ _ _ o (lv_sub hl [1, 0, 3] rfl) hP hD hS hf kont kr
          · rw [if_neg c5] at hf
            refine lv_lload_n hx hb dX5_nextInteger_44 rfl (lv_at hl 0 rfl) ?_
            refine lv_ldc2 (v := (2147483647 : Int64)) hx hb hown (hts (.constantLong RX5 46 (2147483647)) (List.mem_of_getElem? (i := 2) rfl)) dX5_nextInteger_45 ?_
            refine W.lcmp hx hb dX5_nextInteger_48 ?_
            refine lv_if_le (tgt := 56) hx hb dX5_nextInteger_49 (by decide) (fun c6 => ?_) (fun c6 => ?_)
            · rw [if_pos c6] at hf
              refine lv_lload_n hx hb dX5_nextInteger_56 rfl (lv_at hl 0 rfl) ?_
              refine lv_l2i (v := ((v1 * (128 : Int64)) + (R2.1 &&& (127 : Int32)).toInt64).toInt32) hx hb dX5_nextInteger_57 rfl ?_
              obtain rfl := Option.some.inj hf
              have hf9 := kr _ rfl
              obtain rfl := Option.some.inj hf9
              exact k_retI hx hb hr hlocks hP hS dX5_nextInteger_58
            · rw [if_neg c6] at hf
              refine lv_iconst (v := (-1 : Int32)) hx hb dX5_nextInteger_52 (by decide) ?_
              refine lv_goto (tgt := 58) hx hb dX5_nextInteger_53 (by decide) ?_
              obtain rfl := Option.some.inj hf
              have hf9 := kr _ rfl
              obtain rfl := Option.some.inj hf9
              exact k_retI hx hb hr hlocks hP hS dX5_nextInteger_58
        · rw [if_pos c4] at hf
          refine lv_iconst (v := (-1 : Int32)) hx hb dX5_nextInteger_21 (by decide) ?_
          obtain rfl := Option.some.inj hf
          have hf9 := kr _ rfl
          obtain rfl := Option.some.inj hf9
          exact k_retI hx hb hr hlocks hP hS dX5_nextInteger_22
  obtain ⟨R7o, hc8, hf⟩ := b_inv hf
  refine lp9 en f ct FU (0 : Int64) (0 : Int32) pl _ _ _ R7o (lv_sub hl [1, 0, 2] rfl) hP hD hS hc8 (fun R7 ho H locs ls hl hP hD hS => ?_) (fun r ho => ?_)
  · subst ho
    simp only [Sum.elim_inl] at hf
    refine lv_iconst (v := (-1 : Int32)) hx hb dX5_nextInteger_65 (by decide) ?_
    obtain rfl := Option.some.inj hf
    exact k_retI hx hb hr hlocks hP hS dX5_nextInteger_66
  · subst ho
    simpa only [Sum.elim_inr] using hf
