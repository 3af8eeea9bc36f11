noncomputable def fX4_count (fk : Nat → Int32) (fz : Nat → Int32) (fm : Nat → Int32) (ct : Int32) : Option (Int32) :=
  some ct

set_option maxHeartbeats 4000000 in
set_option maxRecDepth 100000 in
theorem kX4_count (l : Launch) (D : va_G) (h : Nat) (ak : Nat) (az : Nat) (am : Nat) (cK : ClassId) (cZ : ClassId) (cM : ClassId) (fk : Nat → Int32) (fz : Nat → Int32) (fm : Nat → Int32) (ct : Int32) {R : Int32} (hf : fX4_count fk fz fm ct = some R) : MI l yX4_count wsX4_count (rmD 0) D ([.ref h] : List Value) (wI h ak az am cK cZ cM fk fz fm ct) [(cK, .int), (cZ, .int), (cM, .int)] NT R (wI h ak az am cK cZ cM fk fz fm ct) := by
  refine MI.mk (cc := cX4_count) (maxL := 1) (ret := (some .int)) (by first | decide | decide +kernel) rfl (Nat.le_of_ble_eq_true rfl) ?_
  intro p e s m below meth cd A ls hE
  obtain ⟨hx, hb, hr, hml, hts, hown, hlocks, hP, hK, hD, hA, hN, hAe, hl⟩ := hE
  have hown : s.vm.findClass RX4 = some m.cls := hown
  have hS : va_S A s.heap s.heap [] := va_S.rf
  have hl : lv_has ls 1 [(0, .ref h)] := hl
  rw [fX4_count] at hf
  refine lv_aload_n hx hb dX4_count_0 rfl (lv_at hl 0 rfl) ?_
  refine va_get (D := D) (ci := 3) (v := .int ct) (C := RX4) (T := TX4) (N := 4) hx hb hts (fun w h => List.mem_cons_of_mem _ (List.mem_append_right _ h)) hown hK hP 0 rfl rfl 3 (by decide) (hts (.fieldLink RX4 21 "DeltaWindows$Instructions" "count" "I") (List.mem_of_getElem? (i := 1) rfl)) (fun _ h9 => h9) rfl dX4_count_1 ?_
  obtain rfl := Option.some.inj hf
  exact k_retI hx hb hr hlocks hP hS dX4_count_4

noncomputable def fX4_clear (fk : Nat → Int32) (fz : Nat → Int32) (fm : Nat → Int32) (ct : Int32) : Option (Int32) :=
  some (0 : Int32)

set_option maxHeartbeats 4000000 in
set_option maxRecDepth 100000 in
theorem kX4_clear (l : Launch) (D : va_G) (h : Nat) (ak : Nat) (az : Nat) (am : Nat) (cK : ClassId) (cZ : ClassId) (cM : ClassId) (fk : Nat → Int32) (fz : Nat → Int32) (fm : Nat → Int32) (ct : Int32) {R : Int32} (hf : fX4_clear fk fz fm ct = some R) : MV l yX4_clear wsX4_clear (rmD 0) D ([.ref h] : List Value) (wI h ak az am cK cZ cM fk fz fm ct) [(cK, .int), (cZ, .int), (cM, .int)] NT (wI h ak az am cK cZ cM fk fz fm R) := by
  refine MV.mk (cc := cX4_clear) (maxL := 1) (ret := none) (by first | decide | decide +kernel) rfl (Nat.le_of_ble_eq_true rfl) ?_
  intro p e s m below meth cd A ls hE
  obtain ⟨hx, hb, hr, hml, hts, hown, hlocks, hP, hK, hD, hA, hN, hAe, hl⟩ := hE
  have hown : s.vm.findClass RX4 = some m.cls := hown
  have hS : va_S A s.heap s.heap [] := va_S.rf
  have hl : lv_has ls 1 [(0, .ref h)] := hl
  rw [fX4_clear] at hf
  refine lv_aload_n hx hb dX4_clear_0 rfl (lv_at hl 0 rfl) ?_
  refine lv_iconst (v := (0 : Int32)) hx hb dX4_clear_1 (by decide) ?_
  refine va_put (D := D) (ci := 3) (v := .int (0 : Int32)) (ty := .int) (C := RX4) (T := TX4) (N := 4) hx hb hts (fun w h => List.mem_cons_of_mem _ (List.mem_append_right _ h)) tyX4 tyX4_ok nmX4 hown hK hP hD hS 0 rfl rfl 3 (by decide) (hts (.fieldLink RX4 21 "DeltaWindows$Instructions" "count" "I") (List.mem_of_getElem? (i := 1) rfl)) (fun _ h9 => h9) rfl (by decide +kernel) rfl rfl (Nat.le_of_ble_eq_true rfl) dX4_clear_2 (fun H locs hP hD hS => ?_)
  have hP : va_P D vwCl (wI h ak az am cK cZ cM fk fz fm (0 : Int32)) H := hP
  have hD : va_D A (wI h ak az am cK cZ cM fk fz fm (0 : Int32)) := hD
  obtain rfl := Option.some.inj hf
  exact k_retV hx hb hr hlocks hP hS dX4_clear_5

noncomputable def fX4_append (fk : Nat → Int32) (fz : Nat → Int32) (fm : Nat → Int32) (ct : Int32) (x1 : Int32) (x2 : Int32) (x3 : Int32) : Option ((Nat → Int32) × (Nat → Int32) × (Nat → Int32) × Int32) :=
  if (64 : Int32) ≤ ct then
    some (fk, fz, fm, ct)
  else
    if inb ct 64 = true then
    if inb ct 64 = true then
    if inb ct 64 = true then
    some ((upd fk ct.toNatClampNeg x1), (upd fz ct.toNatClampNeg x2), (upd fm ct.toNatClampNeg x3), (ct + (1 : Int32)))
    else none
    else none
    else none

set_option maxHeartbeats 4000000 in
set_option maxRecDepth 100000 in
theorem kX4_append (l : Launch) (D : va_G) (h : Nat) (ak : Nat) (az : Nat) (am : Nat) (cK : ClassId) (cZ : ClassId) (cM : ClassId) (fk : Nat → Int32) (fz : Nat → Int32) (fm : Nat → Int32) (ct : Int32) (x1 : Int32) (x2 : Int32) (x3 : Int32) {R : (Nat → Int32) × (Nat → Int32) × (Nat → Int32) × Int32} (hf : fX4_append fk fz fm ct x1 x2 x3 = some R) : MV l yX4_append wsX4_append (rmD 0) D ([.ref h, .int x1, .int x2, .int x3] : List Value) (wI h ak az am cK cZ cM fk fz fm ct) [(cK, .int), (cZ, .int), (cM, .int)] NT (wI h ak az am cK cZ cM R.1 R.2.1 R.2.2.1 R.2.2.2) := by
  refine MV.mk (cc := cX4_append) (maxL := 4) (ret := none) (by first | decide | decide +kernel) rfl (Nat.le_of_ble_eq_true rfl) ?_
  intro p e s m below meth cd A ls hE
  obtain ⟨hx, hb, hr, hml, hts, hown, hlocks, hP, hK, hD, hA, hN, hAe, hl⟩ := hE
  have hown : s.vm.findClass RX4 = some m.cls := hown
  have hS : va_S A s.heap s.heap [] := va_S.rf
  have hl : lv_has ls 4 [(0, .ref h), (1, .int x1), (2, .int x2), (3, .int x3)] := hl
  rw [fX4_append] at hf
  refine lv_aload_n hx hb dX4_append_0 rfl (lv_at hl 0 rfl) ?_
  refine va_get (D := D) (ci := 3) (v := .int ct) (C := RX4) (T := TX4) (N := 4) hx hb hts (fun w h => List.mem_cons_of_mem _ (List.mem_append_right _ h)) hown hK hP 0 rfl rfl 3 (by decide) (hts (.fieldLink RX4 21 "DeltaWindows$Instructions" "count" "I") (List.mem_of_getElem? (i := 1) rfl)) (fun _ h9 => h9) rfl dX4_append_1 ?_
  refine lv_bipush (v := (64 : Int32)) hx hb dX4_append_4 (by decide) ?_
  refine lv_icmp_ge (tgt := 49) hx hb dX4_append_6 (by decide) (fun c1 => ?_) (fun c1 => ?_)
  · rw [if_pos c1] at hf
    obtain rfl := Option.some.inj hf
    exact k_retV hx hb hr hlocks hP hS dX4_append_49
  · rw [if_neg c1] at hf
    refine lv_aload_n hx hb dX4_append_9 rfl (lv_at hl 0 rfl) ?_
    refine va_get (D := D) (ci := 3) (v := .ref ak) (C := RX4) (T := TX4) (N := 4) hx hb hts (fun w h => List.mem_cons_of_mem _ (List.mem_append_right _ h)) hown hK hP 0 rfl rfl 0 (by decide) (hts (.fieldLink RX4 9 "DeltaWindows$Instructions" "kinds" "[I") (List.mem_of_getElem? (i := 2) rfl)) (fun _ h9 => h9) rfl dX4_append_10 ?_
    refine lv_aload_n hx hb dX4_append_13 rfl (lv_at hl 0 rfl) ?_
    refine va_get (D := D) (ci := 3) (v := .int ct) (C := RX4) (T := TX4) (N := 4) hx hb hts (fun w h => List.mem_cons_of_mem _ (List.mem_append_right _ h)) hown hK hP 0 rfl rfl 3 (by decide) (hts (.fieldLink RX4 21 "DeltaWindows$Instructions" "count" "I") (List.mem_of_getElem? (i := 1) rfl)) (fun _ h9 => h9) rfl dX4_append_14 ?_
    refine lv_iload_n hx hb dX4_append_17 rfl (lv_at hl 1 rfl) ?_
    obtain ⟨g2, hf⟩ := g_inv hf
    refine va_iast (f := fk) hx hb hK hP hD hS 1 0 rfl rfl (inb_vp g2) dX4_append_18 (fun H locs hP hD hS => ?_)
    have hP : va_P D vwCl (wI h ak az am cK cZ cM (upd fk ct.toNatClampNeg x1) fz fm ct) H := hP
    have hD : va_D A (wI h ak az am cK cZ cM (upd fk ct.toNatClampNeg x1) fz fm ct) := hD
    refine lv_aload_n hx hb dX4_append_19 rfl (lv_at hl 0 rfl) ?_
    refine va_get (D := D) (ci := 3) (v := .ref az) (C := RX4) (T := TX4) (N := 4) hx hb hts (fun w h => List.mem_cons_of_mem _ (List.mem_append_right _ h)) hown hK hP 0 rfl rfl 1 (by decide) (hts (.fieldLink RX4 15 "DeltaWindows$Instructions" "sizes" "[I") (List.mem_of_getElem? (i := 3) rfl)) (fun _ h9 => h9) rfl dX4_append_20 ?_
    refine lv_aload_n hx hb dX4_append_23 rfl (lv_at hl 0 rfl) ?_
    refine va_get (D := D) (ci := 3) (v := .int ct) (C := RX4) (T := TX4) (N := 4) hx hb hts (fun w h => List.mem_cons_of_mem _ (List.mem_append_right _ h)) hown hK hP 0 rfl rfl 3 (by decide) (hts (.fieldLink RX4 21 "DeltaWindows$Instructions" "count" "I") (List.mem_of_getElem? (i := 1) rfl)) (fun _ h9 => h9) rfl dX4_append_24 ?_
    refine lv_iload_n hx hb dX4_append_27 rfl (lv_at hl 2 rfl) ?_
    obtain ⟨g3, hf⟩ := g_inv hf
    refine va_iast (f := fz) hx hb hK hP hD hS 2 1 rfl rfl (inb_vp g3) dX4_append_28 (fun H locs hP hD hS => ?_)
    have hP : va_P D vwCl (wI h ak az am cK cZ cM (upd fk ct.toNatClampNeg x1) (upd fz ct.toNatClampNeg x2) fm ct) H := hP
    have hD : va_D A (wI h ak az am cK cZ cM (upd fk ct.toNatClampNeg x1) (upd fz ct.toNatClampNeg x2) fm ct) := hD
    refine lv_aload_n hx hb dX4_append_29 rfl (lv_at hl 0 rfl) ?_
    refine va_get (D := D) (ci := 3) (v := .ref am) (C := RX4) (T := TX4) (N := 4) hx hb hts (fun w h => List.mem_cons_of_mem _ (List.mem_append_right _ h)) hown hK hP 0 rfl rfl 2 (by decide) (hts (.fieldLink RX4 18 "DeltaWindows$Instructions" "modes" "[I") (List.mem_of_getElem? (i := 4) rfl)) (fun _ h9 => h9) rfl dX4_append_30 ?_
    refine lv_aload_n hx hb dX4_append_33 rfl (lv_at hl 0 rfl) ?_
    refine va_get (D := D) (ci := 3) (v := .int ct) (C := RX4) (T := TX4) (N := 4) hx hb hts (fun w h => List.mem_cons_of_mem _ (List.mem_append_right _ h)) hown hK hP 0 rfl rfl 3 (by decide) (hts (.fieldLink RX4 21 "DeltaWindows$Instructions" "count" "I") (List.mem_of_getElem? (i := 1) rfl)) (fun _ h9 => h9) rfl dX4_append_34 ?_
    refine lv_iload_n hx hb dX4_append_37 rfl (lv_at hl 3 rfl) ?_
    obtain ⟨g4, hf⟩ := g_inv hf
    refine va_iast (f := fm) hx hb hK hP hD hS 3 2 rfl rfl (inb_vp g4) dX4_append_38 (fun H locs hP hD hS => ?_)
    have hP : va_P D vwCl (wI h ak az am cK cZ cM (upd fk ct.toNatClampNeg x1) (upd fz ct.toNatClampNeg x2) (upd fm ct.toNatClampNeg x3) ct) H := hP
    have hD : va_D A (wI h ak az am cK cZ cM (upd fk ct.toNatClampNeg x1) (upd fz ct.toNatClampNeg x2) (upd fm ct.toNatClampNeg x3) ct) := hD
    refine lv_aload_n hx hb dX4_append_39 rfl (lv_at hl 0 rfl) ?_
    refine lv_dup hx hb dX4_append_40 rfl ?_
    refine va_get (D := D) (ci := 3) (v := .int ct) (C := RX4) (T := TX4) (N := 4) hx hb hts (fun w h => List.mem_cons_of_mem _ (List.mem_append_right _ h)) hown hK hP 0 rfl rfl 3 (by decide) (hts (.fieldLink RX4 21 "DeltaWindows$Instructions" "count" "I") (List.mem_of_getElem? (i := 1) rfl)) (fun _ h9 => h9) rfl dX4_append_41 ?_
    refine lv_iconst (v := (1 : Int32)) hx hb dX4_append_44 (by decide) ?_
    refine lv_iadd hx hb dX4_append_45 ?_
    refine va_put (D := D) (ci := 3) (v := .int (ct + (1 : Int32))) (ty := .int) (C := RX4) (T := TX4) (N := 4) hx hb hts (fun w h => List.mem_cons_of_mem _ (List.mem_append_right _ h)) tyX4 tyX4_ok nmX4 hown hK hP hD hS 0 rfl rfl 3 (by decide) (hts (.fieldLink RX4 21 "DeltaWindows$Instructions" "count" "I") (List.mem_of_getElem? (i := 1) rfl)) (fun _ h9 => h9) rfl (by decide +kernel) rfl rfl (Nat.le_of_ble_eq_true rfl) dX4_append_46 (fun H locs hP hD hS => ?_)
    have hP : va_P D vwCl (wI h ak az am cK cZ cM (upd fk ct.toNatClampNeg x1) (upd fz ct.toNatClampNeg x2) (upd fm ct.toNatClampNeg x3) (ct + (1 : Int32))) H := hP
    have hD : va_D A (wI h ak az am cK cZ cM (upd fk ct.toNatClampNeg x1) (upd fz ct.toNatClampNeg x2) (upd fm ct.toNatClampNeg x3) (ct + (1 : Int32))) := hD
    obtain rfl := Option.some.inj hf
    exact k_retV hx hb hr hlocks hP hS dX4_append_49

noncomputable def fX4_appendAddedByte (fk : Nat → Int32) (fz : Nat → Int32) (fm : Nat → Int32) (ct : Int32) : Option ((Nat → Int32) × (Nat → Int32) × (Nat → Int32) × Int32) :=
  if (ct - (1 : Int32)) < 0 then
    (fX4_append fk fz fm ct (1 : Int32) (1 : Int32) (0 : Int32)).bind fun R2 =>
    some (R2.1, R2.2.1, R2.2.2.1, R2.2.2.2)
  else
    if inb (ct - (1 : Int32)) 64 = true then
    if (fk (ct - (1 : Int32)).toNatClampNeg) = (1 : Int32) then
      if inb (ct - (1 : Int32)) 64 = true then
      if inb (ct - (1 : Int32)) 64 = true then
      some (fk, (upd fz (ct - (1 : Int32)).toNatClampNeg ((fz (ct - (1 : Int32)).toNatClampNeg) + (1 : Int32))), fm, ct)
      else none
      else none
    else
      (fX4_append fk fz fm ct (1 : Int32) (1 : Int32) (0 : Int32)).bind fun R6 =>
      some (R6.1, R6.2.1, R6.2.2.1, R6.2.2.2)
    else none

set_option maxHeartbeats 4000000 in
set_option maxRecDepth 100000 in
theorem kX4_appendAddedByte (l : Launch) (D : va_G) (h : Nat) (ak : Nat) (az : Nat) (am : Nat) (cK : ClassId) (cZ : ClassId) (cM : ClassId) (fk : Nat → Int32) (fz : Nat → Int32) (fm : Nat → Int32) (ct : Int32) {R : (Nat → Int32) × (Nat → Int32) × (Nat → Int32) × Int32} (hf : fX4_appendAddedByte fk fz fm ct = some R) : MV l yX4_appendAddedByte wsX4_appendAddedByte (rmD 1) D ([.ref h] : List Value) (wI h ak az am cK cZ cM fk fz fm ct) [(cK, .int), (cZ, .int), (cM, .int)] NT (wI h ak az am cK cZ cM R.1 R.2.1 R.2.2.1 R.2.2.2) := by
  refine MV.mk (cc := cX4_appendAddedByte) (maxL := 2) (ret := none) (by first | decide | decide +kernel) rfl (Nat.le_of_ble_eq_true rfl) ?_
  intro p e s m below meth cd A ls hE
  obtain ⟨hx, hb, hr, hml, hts, hown, hlocks, hP, hK, hD, hA, hN, hAe, hl⟩ := hE
  have hown : s.vm.findClass RX4 = some m.cls := hown
  have hS : va_S A s.heap s.heap [] := va_S.rf
  have hl : lv_has ls 2 [(0, .ref h)] := hl
  rw [fX4_appendAddedByte] at hf
  refine lv_aload_n hx hb dX4_appendAddedByte_0 rfl (lv_at hl 0 rfl) ?_
  refine va_get (D := D) (ci := 3) (v := .int ct) (C := RX4) (T := TX4) (N := 4) hx hb hts (fun w h => List.mem_cons_of_mem _ (List.mem_append_right _ h)) hown hK hP 0 rfl rfl 3 (by decide) (hts (.fieldLink RX4 21 "DeltaWindows$Instructions" "count" "I") (List.mem_of_getElem? (i := 1) rfl)) (fun _ h9 => h9) rfl dX4_appendAddedByte_1 ?_
  refine lv_iconst (v := (1 : Int32)) hx hb dX4_appendAddedByte_4 (by decide) ?_
  refine lv_isub hx hb dX4_appendAddedByte_5 ?_
  refine lv_istore_n (lv' := [(1, .int (ct - (1 : Int32))), (0, .ref h)]) hx hb dX4_appendAddedByte_6 rfl hl (by decide) rfl (fun ls hl => ?_)
  refine lv_iload_n hx hb dX4_appendAddedByte_7 rfl (lv_at hl 0 rfl) ?_
  refine lv_if_lt (tgt := 34) hx hb dX4_appendAddedByte_8 (by decide) (fun c1 => ?_) (fun c1 => ?_)
  · rw [if_pos c1] at hf
    refine lv_aload_n hx hb dX4_appendAddedByte_34 rfl (lv_at hl 1 rfl) ?_
    refine lv_iconst (v := (1 : Int32)) hx hb dX4_appendAddedByte_35 (by decide) ?_
    refine lv_iconst (v := (1 : Int32)) hx hb dX4_appendAddedByte_36 (by decide) ?_
    refine lv_iconst (v := (0 : Int32)) hx hb dX4_appendAddedByte_37 (by decide) ?_
    obtain ⟨R2, hc3, hf⟩ := b_inv hf
    have hk := kall (wc' := (wI h ak az am cK cZ cM R2.1 R2.2.1 R2.2.2.1 R2.2.2.2)) hP hD hS hA rfl
    refine k_goV (va_runV (As := [.int (1 : Int32), .int (1 : Int32), .int (0 : Int32)]) (rest := []) ⟨hx, hb, hml, hown, hts⟩ (kX4_append l D h ak az am cK cZ cM fk fz fm ct (1 : Int32) (1 : Int32) (0 : Int32) hc3 _) (cwV 3 hts gX4_appendAddedByte_X4_append rfl rfl rfl (by decide +kernel) ⟨Nat.le_of_ble_eq_true rfl, Nat.le_of_ble_eq_true rfl⟩) (k_preV (q0 := 0) (ci := 3) hk hK NT_bl NT_u rfl rfl rfl) rfl rfl hl.1 rfl (lv_room (Nat.le_of_ble_eq_true rfl)) dX4_appendAddedByte_38 ⟨Nat.zero_le _, Nat.zero_le _⟩) hk hS (fun H locs hP hD hS => ?_)
    obtain rfl := Option.some.inj hf
    exact k_retV hx hb hr hlocks hP hS dX4_appendAddedByte_41
  · rw [if_neg c1] at hf
    refine lv_aload_n hx hb dX4_appendAddedByte_11 rfl (lv_at hl 1 rfl) ?_
    refine va_get (D := D) (ci := 3) (v := .ref ak) (C := RX4) (T := TX4) (N := 4) hx hb hts (fun w h => List.mem_cons_of_mem _ (List.mem_append_right _ h)) hown hK hP 0 rfl rfl 0 (by decide) (hts (.fieldLink RX4 9 "DeltaWindows$Instructions" "kinds" "[I") (List.mem_of_getElem? (i := 2) rfl)) (fun _ h9 => h9) rfl dX4_appendAddedByte_12 ?_
    refine lv_iload_n hx hb dX4_appendAddedByte_15 rfl (lv_at hl 0 rfl) ?_
    obtain ⟨g4, hf⟩ := g_inv hf
    refine va_iald (f := fk) hx hb hK hP 1 0 rfl rfl (inb_vp g4) dX4_appendAddedByte_16 ?_
    refine lv_iconst (v := (1 : Int32)) hx hb dX4_appendAddedByte_17 (by decide) ?_
    refine lv_icmp_ne (tgt := 34) hx hb dX4_appendAddedByte_18 (by decide) (fun c5 => ?_) (fun c5 => ?_)
    · rw [if_neg c5] at hf
      refine lv_aload_n hx hb dX4_appendAddedByte_34 rfl (lv_at hl 1 rfl) ?_
      refine lv_iconst (v := (1 : Int32)) hx hb dX4_appendAddedByte_35 (by decide) ?_
      refine lv_iconst (v := (1 : Int32)) hx hb dX4_appendAddedByte_36 (by decide) ?_
      refine lv_iconst (v := (0 : Int32)) hx hb dX4_appendAddedByte_37 (by decide) ?_
      obtain ⟨R6, hc7, hf⟩ := b_inv hf
      have hk := kall (wc' := (wI h ak az am cK cZ cM R6.1 R6.2.1 R6.2.2.1 R6.2.2.2)) hP hD hS hA rfl
      refine k_goV (va_runV (As := [.int (1 : Int32), .int (1 : Int32), .int (0 : Int32)]) (rest := []) ⟨hx, hb, hml, hown, hts⟩ (kX4_append l D h ak az am cK cZ cM fk fz fm ct (1 : Int32) (1 : Int32) (0 : Int32) hc7 _) (cwV 3 hts gX4_appendAddedByte_X4_append rfl rfl rfl (by decide +kernel) ⟨Nat.le_of_ble_eq_true rfl, Nat.le_of_ble_eq_true rfl⟩) (k_preV (q0 := 0) (ci := 3) hk hK NT_bl NT_u rfl rfl rfl) rfl rfl hl.1 rfl (lv_room (Nat.le_of_ble_eq_true rfl)) dX4_appendAddedByte_38 ⟨Nat.zero_le _, Nat.zero_le _⟩) hk hS (fun H locs hP hD hS => ?_)
      obtain rfl := Option.some.inj hf
      exact k_retV hx hb hr hlocks hP hS dX4_appendAddedByte_41
    · rw [if_pos c5] at hf
      refine lv_aload_n hx hb dX4_appendAddedByte_21 rfl (lv_at hl 1 rfl) ?_
      refine va_get (D := D) (ci := 3) (v := .ref az) (C := RX4) (T := TX4) (N := 4) hx hb hts (fun w h => List.mem_cons_of_mem _ (List.mem_append_right _ h)) hown hK hP 0 rfl rfl 1 (by decide) (hts (.fieldLink RX4 15 "DeltaWindows$Instructions" "sizes" "[I") (List.mem_of_getElem? (i := 3) rfl)) (fun _ h9 => h9) rfl dX4_appendAddedByte_22 ?_
      refine lv_iload_n hx hb dX4_appendAddedByte_25 rfl (lv_at hl 0 rfl) ?_
      refine lv_dup2_11 hx hb dX4_appendAddedByte_26 rfl rfl ?_
      obtain ⟨g8, hf⟩ := g_inv hf
      refine va_iald (f := fz) hx hb hK hP 2 1 rfl rfl (inb_vp g8) dX4_appendAddedByte_27 ?_
      refine lv_iconst (v := (1 : Int32)) hx hb dX4_appendAddedByte_28 (by decide) ?_
      refine lv_iadd hx hb dX4_appendAddedByte_29 ?_
      obtain ⟨g9, hf⟩ := g_inv hf
      refine va_iast (f := fz) hx hb hK hP hD hS 2 1 rfl rfl (inb_vp g9) dX4_appendAddedByte_30 (fun H locs hP hD hS => ?_)
      have hP : va_P D vwCl (wI h ak az am cK cZ cM fk (upd fz (ct - (1 : Int32)).toNatClampNeg ((fz (ct - (1 : Int32)).toNatClampNeg) + (1 : Int32))) fm ct) H := hP
      have hD : va_D A (wI h ak az am cK cZ cM fk (upd fz (ct - (1 : Int32)).toNatClampNeg ((fz (ct - (1 : Int32)).toNatClampNeg) + (1 : Int32))) fm ct) := hD
      refine lv_goto (tgt := 41) hx hb dX4_appendAddedByte_31 (by decide) ?_
      obtain rfl := Option.some.inj hf
      exact k_retV hx hb hr hlocks hP hS dX4_appendAddedByte_41

noncomputable def fX4_sizeOf (fk : Nat → Int32) (fz : Nat → Int32) (fm : Nat → Int32) (ct : Int32) (x1 : Int32) : Option (Int32) :=
  if x1 < 0 then
    some (0 : Int32)
  else
    if ct ≤ x1 then
      some (0 : Int32)
    else
      if inb x1 64 = true then
      some (fz x1.toNatClampNeg)
      else none

set_option maxHeartbeats 4000000 in
set_option maxRecDepth 100000 in
theorem kX4_sizeOf (l : Launch) (D : va_G) (h : Nat) (ak : Nat) (az : Nat) (am : Nat) (cK : ClassId) (cZ : ClassId) (cM : ClassId) (fk : Nat → Int32) (fz : Nat → Int32) (fm : Nat → Int32) (ct : Int32) (x1 : Int32) {R : Int32} (hf : fX4_sizeOf fk fz fm ct x1 = some R) : MI l yX4_sizeOf wsX4_sizeOf (rmD 0) D ([.ref h, .int x1] : List Value) (wI h ak az am cK cZ cM fk fz fm ct) [(cK, .int), (cZ, .int), (cM, .int)] NT R (wI h ak az am cK cZ cM fk fz fm ct) := by
  refine MI.mk (cc := cX4_sizeOf) (maxL := 2) (ret := (some .int)) (by first | decide | decide +kernel) rfl (Nat.le_of_ble_eq_true rfl) ?_
  intro p e s m below meth cd A ls hE
  obtain ⟨hx, hb, hr, hml, hts, hown, hlocks, hP, hK, hD, hA, hN, hAe, hl⟩ := hE
  have hown : s.vm.findClass RX4 = some m.cls := hown
  have hS : va_S A s.heap s.heap [] := va_S.rf
  have hl : lv_has ls 2 [(0, .ref h), (1, .int x1)] := hl
  rw [fX4_sizeOf] at hf
  refine lv_iload_n hx hb dX4_sizeOf_0 rfl (lv_at hl 1 rfl) ?_
  refine lv_if_lt (tgt := 21) hx hb dX4_sizeOf_1 (by decide) (fun c1 => ?_) (fun c1 => ?_)
  · rw [if_pos c1] at hf
    refine lv_iconst (v := (0 : Int32)) hx hb dX4_sizeOf_21 (by decide) ?_
    obtain rfl := Option.some.inj hf
    exact k_retI hx hb hr hlocks hP hS dX4_sizeOf_22
  · rw [if_neg c1] at hf
    refine lv_iload_n hx hb dX4_sizeOf_4 rfl (lv_at hl 1 rfl) ?_
    refine lv_aload_n hx hb dX4_sizeOf_5 rfl (lv_at hl 0 rfl) ?_
    refine va_get (D := D) (ci := 3) (v := .int ct) (C := RX4) (T := TX4) (N := 4) hx hb hts (fun w h => List.mem_cons_of_mem _ (List.mem_append_right _ h)) hown hK hP 0 rfl rfl 3 (by decide) (hts (.fieldLink RX4 21 "DeltaWindows$Instructions" "count" "I") (List.mem_of_getElem? (i := 1) rfl)) (fun _ h9 => h9) rfl dX4_sizeOf_6 ?_
    refine lv_icmp_ge (tgt := 21) hx hb dX4_sizeOf_9 (by decide) (fun c2 => ?_) (fun c2 => ?_)
    · rw [if_pos c2] at hf
      refine lv_iconst (v := (0 : Int32)) hx hb dX4_sizeOf_21 (by decide) ?_
      obtain rfl := Option.some.inj hf
      exact k_retI hx hb hr hlocks hP hS dX4_sizeOf_22
    · rw [if_neg c2] at hf
      refine lv_aload_n hx hb dX4_sizeOf_12 rfl (lv_at hl 0 rfl) ?_
      refine va_get (D := D) (ci := 3) (v := .ref az) (C := RX4) (T := TX4) (N := 4) hx hb hts (fun w h => List.mem_cons_of_mem _ (List.mem_append_right _ h)) hown hK hP 0 rfl rfl 1 (by decide) (hts (.fieldLink RX4 15 "DeltaWindows$Instructions" "sizes" "[I") (List.mem_of_getElem? (i := 2) rfl)) (fun _ h9 => h9) rfl dX4_sizeOf_13 ?_
      refine lv_iload_n hx hb dX4_sizeOf_16 rfl (lv_at hl 1 rfl) ?_
      obtain ⟨g3, hf⟩ := g_inv hf
      refine va_iald (f := fz) hx hb hK hP 2 1 rfl rfl (inb_vp g3) dX4_sizeOf_17 ?_
      refine lv_goto (tgt := 22) hx hb dX4_sizeOf_18 (by decide) ?_
      obtain rfl := Option.some.inj hf
      exact k_retI hx hb hr hlocks hP hS dX4_sizeOf_22

noncomputable def fX4_singleCode (fk : Nat → Int32) (fz : Nat → Int32) (fm : Nat → Int32) (ct : Int32) (x1 : Int32) : Option (Int32) :=
  if x1 < 0 then
    some (-1 : Int32)
  else
    if ct ≤ x1 then
      some (-1 : Int32)
    else
      if inb x1 64 = true then
      if inb x1 64 = true then
      if inb x1 64 = true then
      (fX1_single (fk x1.toNatClampNeg) (fz x1.toNatClampNeg) (fm x1.toNatClampNeg)).bind fun R6 =>
      some R6
      else none
      else none
      else none

set_option maxHeartbeats 4000000 in
set_option maxRecDepth 100000 in
theorem kX4_singleCode (l : Launch) (D : va_G) (h : Nat) (ak : Nat) (az : Nat) (am : Nat) (cK : ClassId) (cZ : ClassId) (cM : ClassId) (fk : Nat → Int32) (fz : Nat → Int32) (fm : Nat → Int32) (ct : Int32) (x1 : Int32) {R : Int32} (hf : fX4_singleCode fk fz fm ct x1 = some R) : MI l yX4_singleCode wsX4_singleCode (rmD 1) D ([.ref h, .int x1] : List Value) (wI h ak az am cK cZ cM fk fz fm ct) [(cK, .int), (cZ, .int), (cM, .int)] NT R (wI h ak az am cK cZ cM fk fz fm ct) := by
  refine MI.mk (cc := cX4_singleCode) (maxL := 2) (ret := (some .int)) (by first | decide | decide +kernel) rfl (Nat.le_of_ble_eq_true rfl) ?_
  intro p e s m below meth cd A ls hE
  obtain ⟨hx, hb, hr, hml, hts, hown, hlocks, hP, hK, hD, hA, hN, hAe, hl⟩ := hE
  have hown : s.vm.findClass RX4 = some m.cls := hown
  have hS : va_S A s.heap s.heap [] := va_S.rf
  have hl : lv_has ls 2 [(0, .ref h), (1, .int x1)] := hl
  rw [fX4_singleCode] at hf
  refine lv_iload_n hx hb dX4_singleCode_0 rfl (lv_at hl 1 rfl) ?_
  refine lv_if_lt (tgt := 36) hx hb dX4_singleCode_1 (by decide) (fun c1 => ?_) (fun c1 => ?_)
  · rw [if_pos c1] at hf
    refine lv_iconst (v := (-1 : Int32)) hx hb dX4_singleCode_36 (by decide) ?_
    obtain rfl := Option.some.inj hf
    exact k_retI hx hb hr hlocks hP hS dX4_singleCode_37
  · rw [if_neg c1] at hf
    refine lv_iload_n hx hb dX4_singleCode_4 rfl (lv_at hl 1 rfl) ?_
    refine lv_aload_n hx hb dX4_singleCode_5 rfl (lv_at hl 0 rfl) ?_
    refine va_get (D := D) (ci := 3) (v := .int ct) (C := RX4) (T := TX4) (N := 4) hx hb hts (fun w h => List.mem_cons_of_mem _ (List.mem_append_right _ h)) hown hK hP 0 rfl rfl 3 (by decide) (hts (.fieldLink RX4 21 "DeltaWindows$Instructions" "count" "I") (List.mem_of_getElem? (i := 1) rfl)) (fun _ h9 => h9) rfl dX4_singleCode_6 ?_
    refine lv_icmp_ge (tgt := 36) hx hb dX4_singleCode_9 (by decide) (fun c2 => ?_) (fun c2 => ?_)
    · rw [if_pos c2] at hf
      refine lv_iconst (v := (-1 : Int32)) hx hb dX4_singleCode_36 (by decide) ?_
      obtain rfl := Option.some.inj hf
      exact k_retI hx hb hr hlocks hP hS dX4_singleCode_37
    · rw [if_neg c2] at hf
      refine lv_aload_n hx hb dX4_singleCode_12 rfl (lv_at hl 0 rfl) ?_
      refine va_get (D := D) (ci := 3) (v := .ref ak) (C := RX4) (T := TX4) (N := 4) hx hb hts (fun w h => List.mem_cons_of_mem _ (List.mem_append_right _ h)) hown hK hP 0 rfl rfl 0 (by decide) (hts (.fieldLink RX4 9 "DeltaWindows$Instructions" "kinds" "[I") (List.mem_of_getElem? (i := 2) rfl)) (fun _ h9 => h9) rfl dX4_singleCode_13 ?_
      refine lv_iload_n hx hb dX4_singleCode_16 rfl (lv_at hl 1 rfl) ?_
      obtain ⟨g3, hf⟩ := g_inv hf
      refine va_iald (f := fk) hx hb hK hP 1 0 rfl rfl (inb_vp g3) dX4_singleCode_17 ?_
      refine lv_aload_n hx hb dX4_singleCode_18 rfl (lv_at hl 0 rfl) ?_
      refine va_get (D := D) (ci := 3) (v := .ref az) (C := RX4) (T := TX4) (N := 4) hx hb hts (fun w h => List.mem_cons_of_mem _ (List.mem_append_right _ h)) hown hK hP 0 rfl rfl 1 (by decide) (hts (.fieldLink RX4 15 "DeltaWindows$Instructions" "sizes" "[I") (List.mem_of_getElem? (i := 3) rfl)) (fun _ h9 => h9) rfl dX4_singleCode_19 ?_
      refine lv_iload_n hx hb dX4_singleCode_22 rfl (lv_at hl 1 rfl) ?_
      obtain ⟨g4, hf⟩ := g_inv hf
      refine va_iald (f := fz) hx hb hK hP 2 1 rfl rfl (inb_vp g4) dX4_singleCode_23 ?_
      refine lv_aload_n hx hb dX4_singleCode_24 rfl (lv_at hl 0 rfl) ?_
      refine va_get (D := D) (ci := 3) (v := .ref am) (C := RX4) (T := TX4) (N := 4) hx hb hts (fun w h => List.mem_cons_of_mem _ (List.mem_append_right _ h)) hown hK hP 0 rfl rfl 2 (by decide) (hts (.fieldLink RX4 18 "DeltaWindows$Instructions" "modes" "[I") (List.mem_of_getElem? (i := 4) rfl)) (fun _ h9 => h9) rfl dX4_singleCode_25 ?_
      refine lv_iload_n hx hb dX4_singleCode_28 rfl (lv_at hl 1 rfl) ?_
      obtain ⟨g5, hf⟩ := g_inv hf
      refine va_iald (f := fm) hx hb hK hP 3 2 rfl rfl (inb_vp g5) dX4_singleCode_29 ?_
      obtain ⟨R6, hc7, hf⟩ := b_inv hf
      have hk := kcut (wc := ([] : va_W)) (wc' := ([] : va_W)) (wf := (wI h ak az am cK cZ cM fk fz fm ct)) hP hD hS hA [] rfl (by decide) rfl rfl
      refine k_goI (va_runS (As := [.int (fk x1.toNatClampNeg), .int (fz x1.toNatClampNeg), .int (fm x1.toNatClampNeg)]) (rest := []) ⟨hx, hb, hml, hown, hts⟩ (kX1_single l D (fk x1.toNatClampNeg) (fz x1.toNatClampNeg) (fm x1.toNatClampNeg) hc7 _) ⟨callB_of 3 hts ggX4_singleCode_X1_single rfl rfl rfl (hts (.initialized RX1) (List.mem_of_getElem? (i := 7) rfl)) (hts (.methodLink RX4 29 yX1_single) (List.mem_of_getElem? (i := 5) rfl)) (by decide +kernel) ⟨Nat.le_of_ble_eq_true rfl, Nat.le_of_ble_eq_true rfl⟩, (hts (.static yX1_single) (List.mem_of_getElem? (i := 6) rfl))⟩ (k_preS hk (hK.sub [] rfl) NT_bl NT_u) rfl rfl hl.1 rfl (lv_room (Nat.le_of_ble_eq_true rfl)) dX4_singleCode_30 ⟨Nat.zero_le _, Nat.zero_le _⟩) hk hS (fun H locs hP hD hS => ?_)
      refine lv_goto (tgt := 37) hx hb dX4_singleCode_33 (by decide) ?_
      obtain rfl := Option.some.inj hf
      exact k_retI hx hb hr hlocks hP hS dX4_singleCode_37

noncomputable def fX4_pairCode (fk : Nat → Int32) (fz : Nat → Int32) (fm : Nat → Int32) (ct : Int32) (x1 : Int32) : Option (Int32) :=
  if x1 < 0 then
    some (-1 : Int32)
  else
    if (x1 + (1 : Int32)) < ct then
      if inb x1 64 = true then
      if (fk x1.toNatClampNeg) = (1 : Int32) then
        if inb (x1 + (1 : Int32)) 64 = true then
        if (fk (x1 + (1 : Int32)).toNatClampNeg) = (3 : Int32) then
          if inb x1 64 = true then
          if inb (x1 + (1 : Int32)) 64 = true then
          if inb (x1 + (1 : Int32)) 64 = true then
          (fX1_addThenCopy (fz x1.toNatClampNeg) (fz (x1 + (1 : Int32)).toNatClampNeg) (fm (x1 + (1 : Int32)).toNatClampNeg)).bind fun R28 =>
          some R28
          else none
          else none
          else none
        else
          if inb x1 64 = true then
          if (fk x1.toNatClampNeg) = (3 : Int32) then
            if inb (x1 + (1 : Int32)) 64 = true then
            if (fk (x1 + (1 : Int32)).toNatClampNeg) = (1 : Int32) then
              if inb x1 64 = true then
              if inb x1 64 = true then
              if inb (x1 + (1 : Int32)) 64 = true then
              (fX1_copyThenAdd (fz x1.toNatClampNeg) (fm x1.toNatClampNeg) (fz (x1 + (1 : Int32)).toNatClampNeg)).bind fun R23 =>
              some R23
              else none
              else none
              else none
            else
              some (-1 : Int32)
            else none
          else
            some (-1 : Int32)
          else none
        else none
      else
        if inb x1 64 = true then
        if (fk x1.toNatClampNeg) = (3 : Int32) then
          if inb (x1 + (1 : Int32)) 64 = true then
          if (fk (x1 + (1 : Int32)).toNatClampNeg) = (1 : Int32) then
            if inb x1 64 = true then
            if inb x1 64 = true then
            if inb (x1 + (1 : Int32)) 64 = true then
            (fX1_copyThenAdd (fz x1.toNatClampNeg) (fm x1.toNatClampNeg) (fz (x1 + (1 : Int32)).toNatClampNeg)).bind fun R12 =>
            some R12
            else none
            else none
            else none
          else
            some (-1 : Int32)
          else none
        else
          some (-1 : Int32)
        else none
      else none
    else
      some (-1 : Int32)

set_option maxHeartbeats 4000000 in
set_option maxRecDepth 100000 in
theorem kX4_pairCode (l : Launch) (D : va_G) (h : Nat) (ak : Nat) (az : Nat) (am : Nat) (cK : ClassId) (cZ : ClassId) (cM : ClassId) (fk : Nat → Int32) (fz : Nat → Int32) (fm : Nat → Int32) (ct : Int32) (x1 : Int32) {R : Int32} (hf : fX4_pairCode fk fz fm ct x1 = some R) : MI l yX4_pairCode wsX4_pairCode (rmD 1) D ([.ref h, .int x1] : List Value) (wI h ak az am cK cZ cM fk fz fm ct) [(cK, .int), (cZ, .int), (cM, .int)] NT R (wI h ak az am cK cZ cM fk fz fm ct) := by
  refine MI.mk (cc := cX4_pairCode) (maxL := 3) (ret := (some .int)) (by first | decide | decide +kernel) rfl (Nat.le_of_ble_eq_true rfl) ?_
  intro p e s m below meth cd A ls hE
  obtain ⟨hx, hb, hr, hml, hts, hown, hlocks, hP, hK, hD, hA, hN, hAe, hl⟩ := hE
  have hown : s.vm.findClass RX4 = some m.cls := hown
  have hS : va_S A s.heap s.heap [] := va_S.rf
  have hl : lv_has ls 3 [(0, .ref h), (1, .int x1)] := hl
  rw [fX4_pairCode] at hf
  refine lv_iload_n hx hb dX4_pairCode_0 rfl (lv_at hl 1 rfl) ?_
  refine lv_iconst (v := (1 : Int32)) hx hb dX4_pairCode_1 (by decide) ?_
  refine lv_iadd hx hb dX4_pairCode_2 ?_
  refine lv_istore_n (lv' := [(2, .int (x1 + (1 : Int32))), (0, .ref h), (1, .int x1)]) hx hb dX4_pairCode_3 rfl hl (by decide) rfl (fun ls hl => ?_)
  refine lv_iload_n hx hb dX4_pairCode_4 rfl (lv_at hl 2 rfl) ?_
  refine lv_if_lt (tgt := 16) hx hb dX4_pairCode_5 (by decide) (fun c1 => ?_) (fun c1 => ?_)
  · rw [if_pos c1] at hf
    refine lv_iconst (v := (-1 : Int32)) hx hb dX4_pairCode_16 (by decide) ?_
    obtain rfl := Option.some.inj hf
    exact k_retI hx hb hr hlocks hP hS dX4_pairCode_17
  · rw [if_neg c1] at hf
    refine lv_iload_n hx hb dX4_pairCode_8 rfl (lv_at hl 0 rfl) ?_
    refine lv_aload_n hx hb dX4_pairCode_9 rfl (lv_at hl 1 rfl) ?_
    refine va_get (D := D) (ci := 3) (v := .int ct) (C := RX4) (T := TX4) (N := 4) hx hb hts (fun w h => List.mem_cons_of_mem _ (List.mem_append_right _ h)) hown hK hP 0 rfl rfl 3 (by decide) (hts (.fieldLink RX4 21 "DeltaWindows$Instructions" "count" "I") (List.mem_of_getElem? (i := 1) rfl)) (fun _ h9 => h9) rfl dX4_pairCode_10 ?_
    refine lv_icmp_lt (tgt := 18) hx hb dX4_pairCode_13 (by decide) (fun c2 => ?_) (fun c2 => ?_)
    · rw [if_pos c2] at hf
      refine lv_aload_n hx hb dX4_pairCode_18 rfl (lv_at hl 1 rfl) ?_
      refine va_get (D := D) (ci := 3) (v := .ref ak) (C := RX4) (T := TX4) (N := 4) hx hb hts (fun w h => List.mem_cons_of_mem _ (List.mem_append_right _ h)) hown hK hP 0 rfl rfl 0 (by decide) (hts (.fieldLink RX4 9 "DeltaWindows$Instructions" "kinds" "[I") (List.mem_of_getElem? (i := 2) rfl)) (fun _ h9 => h9) rfl dX4_pairCode_19 ?_
      refine lv_iload_n hx hb dX4_pairCode_22 rfl (lv_at hl 2 rfl) ?_
      obtain ⟨g3, hf⟩ := g_inv hf
      refine va_iald (f := fk) hx hb hK hP 1 0 rfl rfl (inb_vp g3) dX4_pairCode_23 ?_
      refine lv_iconst (v := (1 : Int32)) hx hb dX4_pairCode_24 (by decide) ?_
      refine lv_icmp_ne (tgt := 60) hx hb dX4_pairCode_25 (by decide) (fun c4 => ?_) (fun c4 => ?_)
      · rw [if_neg c4] at hf
        refine lv_aload_n hx hb dX4_pairCode_60 rfl (lv_at hl 1 rfl) ?_
        refine va_get (D := D) (ci := 3) (v := .ref ak) (C := RX4) (T := TX4) (N := 4) hx hb hts (fun w h => List.mem_cons_of_mem _ (List.mem_append_right _ h)) hown hK hP 0 rfl rfl 0 (by decide) (hts (.fieldLink RX4 9 "DeltaWindows$Instructions" "kinds" "[I") (List.mem_of_getElem? (i := 2) rfl)) (fun _ h9 => h9) rfl dX4_pairCode_61 ?_
        refine lv_iload_n hx hb dX4_pairCode_64 rfl (lv_at hl 2 rfl) ?_
        obtain ⟨g5, hf⟩ := g_inv hf
        refine va_iald (f := fk) hx hb hK hP 1 0 rfl rfl (inb_vp g5) dX4_pairCode_65 ?_
        refine lv_iconst (v := (3 : Int32)) hx hb dX4_pairCode_66 (by decide) ?_
        refine lv_icmp_ne (tgt := 102) hx hb dX4_pairCode_67 (by decide) (fun c6 => ?_) (fun c6 => ?_)
        · rw [if_neg c6] at hf
          refine lv_iconst (v := (-1 : Int32)) hx hb dX4_pairCode_102 (by decide) ?_
          obtain rfl := Option.some.inj hf
          exact k_retI hx hb hr hlocks hP hS dX4_pairCode_103
        · rw [if_pos c6] at hf
          refine lv_aload_n hx hb dX4_pairCode_70 rfl (lv_at hl 1 rfl) ?_
          refine va_get (D := D) (ci := 3) (v := .ref ak) (C := RX4) (T := TX4) (N := 4) hx hb hts (fun w h => List.mem_cons_of_mem _ (List.mem_append_right _ h)) hown hK hP 0 rfl rfl 0 (by decide) (hts (.fieldLink RX4 9 "DeltaWindows$Instructions" "kinds" "[I") (List.mem_of_getElem? (i := 2) rfl)) (fun _ h9 => h9) rfl dX4_pairCode_71 ?_
          refine lv_iload_n hx hb dX4_pairCode_74 rfl (lv_at hl 0 rfl) ?_
          obtain ⟨g7, hf⟩ := g_inv hf
          refine va_iald (f := fk) hx hb hK hP 1 0 rfl rfl (inb_vp g7) dX4_pairCode_75 ?_
          refine lv_iconst (v := (1 : Int32)) hx hb dX4_pairCode_76 (by decide) ?_
          refine lv_icmp_ne (tgt := 102) hx hb dX4_pairCode_77 (by decide) (fun c8 => ?_) (fun c8 => ?_)
          · rw [if_neg c8] at hf
            refine lv_iconst (v := (-1 : Int32)) hx hb dX4_pairCode_102 (by decide) ?_
            obtain rfl := Option.some.inj hf
            exact k_retI hx hb hr hlocks hP hS dX4_pairCode_103
          · rw [if_pos c8] at hf
            refine lv_aload_n hx hb dX4_pairCode_80 rfl (lv_at hl 1 rfl) ?_
            refine va_get (D := D) (ci := 3) (v := .ref az) (C := RX4) (T := TX4) (N := 4) hx hb hts (fun w h => List.mem_cons_of_mem _ (List.mem_append_right _ h)) hown hK hP 0 rfl rfl 1 (by decide) (hts (.fieldLink RX4 15 "DeltaWindows$Instructions" "sizes" "[I") (List.mem_of_getElem? (i := 3) rfl)) (fun _ h9 => h9) rfl dX4_pairCode_81 ?_
            refine lv_iload_n hx hb dX4_pairCode_84 rfl (lv_at hl 2 rfl) ?_
            obtain ⟨g9, hf⟩ := g_inv hf
            refine va_iald (f := fz) hx hb hK hP 2 1 rfl rfl (inb_vp g9) dX4_pairCode_85 ?_
            refine lv_aload_n hx hb dX4_pairCode_86 rfl (lv_at hl 1 rfl) ?_
            refine va_get (D := D) (ci := 3) (v := .ref am) (C := RX4) (T := TX4) (N := 4) hx hb hts (fun w h => List.mem_cons_of_mem _ (List.mem_append_right _ h)) hown hK hP 0 rfl rfl 2 (by decide) (hts (.fieldLink RX4 18 "DeltaWindows$Instructions" "modes" "[I") (List.mem_of_getElem? (i := 4) rfl)) (fun _ h9 => h9) rfl dX4_pairCode_87 ?_
            refine lv_iload_n hx hb dX4_pairCode_90 rfl (lv_at hl 2 rfl) ?_
            obtain ⟨g10, hf⟩ := g_inv hf
            refine va_iald (f := fm) hx hb hK hP 3 2 rfl rfl (inb_vp g10) dX4_pairCode_91 ?_
            refine lv_aload_n hx hb dX4_pairCode_92 rfl (lv_at hl 1 rfl) ?_
            refine va_get (D := D) (ci := 3) (v := .ref az) (C := RX4) (T := TX4) (N := 4) hx hb hts (fun w h => List.mem_cons_of_mem _ (List.mem_append_right _ h)) hown hK hP 0 rfl rfl 1 (by decide) (hts (.fieldLink RX4 15 "DeltaWindows$Instructions" "sizes" "[I") (List.mem_of_getElem? (i := 3) rfl)) (fun _ h9 => h9) rfl dX4_pairCode_93 ?_
            refine lv_iload_n hx hb dX4_pairCode_96 rfl (lv_at hl 0 rfl) ?_
            obtain ⟨g11, hf⟩ := g_inv hf
            refine va_iald (f := fz) hx hb hK hP 2 1 rfl rfl (inb_vp g11) dX4_pairCode_97 ?_
            obtain ⟨R12, hc13, hf⟩ := b_inv hf
            have hk := kcut (wc := ([] : va_W)) (wc' := ([] : va_W)) (wf := (wI h ak az am cK cZ cM fk fz fm ct)) hP hD hS hA [] rfl (by decide) rfl rfl
            refine k_goI (va_runS (As := [.int (fz x1.toNatClampNeg), .int (fm x1.toNatClampNeg), .int (fz (x1 + (1 : Int32)).toNatClampNeg)]) (rest := []) ⟨hx, hb, hml, hown, hts⟩ (kX1_copyThenAdd l D (fz x1.toNatClampNeg) (fm x1.toNatClampNeg) (fz (x1 + (1 : Int32)).toNatClampNeg) hc13 _) ⟨callB_of 3 hts ggX4_pairCode_X1_copyThenAdd rfl rfl rfl (hts (.initialized RX1) (List.mem_of_getElem? (i := 7) rfl)) (hts (.methodLink RX4 38 yX1_copyThenAdd) (List.mem_of_getElem? (i := 9) rfl)) (by decide +kernel) ⟨Nat.le_of_ble_eq_true rfl, Nat.le_of_ble_eq_true rfl⟩, (hts (.static yX1_copyThenAdd) (List.mem_of_getElem? (i := 10) rfl))⟩ (k_preS hk (hK.sub [] rfl) NT_bl NT_u) rfl rfl hl.1 rfl (lv_room (Nat.le_of_ble_eq_true rfl)) dX4_pairCode_98 ⟨Nat.zero_le _, Nat.zero_le _⟩) hk hS (fun H locs hP hD hS => ?_)
            obtain rfl := Option.some.inj hf
            exact k_retI hx hb hr hlocks hP hS dX4_pairCode_101
      · rw [if_pos c4] at hf
        refine lv_aload_n hx hb dX4_pairCode_28 rfl (lv_at hl 1 rfl) ?_
        refine va_get (D := D) (ci := 3) (v := .ref ak) (C := RX4) (T := TX4) (N := 4) hx hb hts (fun w h => List.mem_cons_of_mem _ (List.mem_append_right _ h)) hown hK hP 0 rfl rfl 0 (by decide) (hts (.fieldLink RX4 9 "DeltaWindows$Instructions" "kinds" "[I") (List.mem_of_getElem? (i := 2) rfl)) (fun _ h9 => h9) rfl dX4_pairCode_29 ?_
        refine lv_iload_n hx hb dX4_pairCode_32 rfl (lv_at hl 0 rfl) ?_
        obtain ⟨g14, hf⟩ := g_inv hf
        refine va_iald (f := fk) hx hb hK hP 1 0 rfl rfl (inb_vp g14) dX4_pairCode_33 ?_
        refine lv_iconst (v := (3 : Int32)) hx hb dX4_pairCode_34 (by decide) ?_
        refine lv_icmp_ne (tgt := 60) hx hb dX4_pairCode_35 (by decide) (fun c15 => ?_) (fun c15 => ?_)
        · rw [if_neg c15] at hf
          refine lv_aload_n hx hb dX4_pairCode_60 rfl (lv_at hl 1 rfl) ?_
          refine va_get (D := D) (ci := 3) (v := .ref ak) (C := RX4) (T := TX4) (N := 4) hx hb hts (fun w h => List.mem_cons_of_mem _ (List.mem_append_right _ h)) hown hK hP 0 rfl rfl 0 (by decide) (hts (.fieldLink RX4 9 "DeltaWindows$Instructions" "kinds" "[I") (List.mem_of_getElem? (i := 2) rfl)) (fun _ h9 => h9) rfl dX4_pairCode_61 ?_
          refine lv_iload_n hx hb dX4_pairCode_64 rfl (lv_at hl 2 rfl) ?_
          obtain ⟨g16, hf⟩ := g_inv hf
          refine va_iald (f := fk) hx hb hK hP 1 0 rfl rfl (inb_vp g16) dX4_pairCode_65 ?_
          refine lv_iconst (v := (3 : Int32)) hx hb dX4_pairCode_66 (by decide) ?_
          refine lv_icmp_ne (tgt := 102) hx hb dX4_pairCode_67 (by decide) (fun c17 => ?_) (fun c17 => ?_)
          · rw [if_neg c17] at hf
            refine lv_iconst (v := (-1 : Int32)) hx hb dX4_pairCode_102 (by decide) ?_
            obtain rfl := Option.some.inj hf
            exact k_retI hx hb hr hlocks hP hS dX4_pairCode_103
          · rw [if_pos c17] at hf
            refine lv_aload_n hx hb dX4_pairCode_70 rfl (lv_at hl 1 rfl) ?_
            refine va_get (D := D) (ci := 3) (v := .ref ak) (C := RX4) (T := TX4) (N := 4) hx hb hts (fun w h => List.mem_cons_of_mem _ (List.mem_append_right _ h)) hown hK hP 0 rfl rfl 0 (by decide) (hts (.fieldLink RX4 9 "DeltaWindows$Instructions" "kinds" "[I") (List.mem_of_getElem? (i := 2) rfl)) (fun _ h9 => h9) rfl dX4_pairCode_71 ?_
            refine lv_iload_n hx hb dX4_pairCode_74 rfl (lv_at hl 0 rfl) ?_
            obtain ⟨g18, hf⟩ := g_inv hf
            refine va_iald (f := fk) hx hb hK hP 1 0 rfl rfl (inb_vp g18) dX4_pairCode_75 ?_
            refine lv_iconst (v := (1 : Int32)) hx hb dX4_pairCode_76 (by decide) ?_
            refine lv_icmp_ne (tgt := 102) hx hb dX4_pairCode_77 (by decide) (fun c19 => ?_) (fun c19 => ?_)
            · rw [if_neg c19] at hf
              refine lv_iconst (v := (-1 : Int32)) hx hb dX4_pairCode_102 (by decide) ?_
              obtain rfl := Option.some.inj hf
              exact k_retI hx hb hr hlocks hP hS dX4_pairCode_103
            · rw [if_pos c19] at hf
              refine lv_aload_n hx hb dX4_pairCode_80 rfl (lv_at hl 1 rfl) ?_
              refine va_get (D := D) (ci := 3) (v := .ref az) (C := RX4) (T := TX4) (N := 4) hx hb hts (fun w h => List.mem_cons_of_mem _ (List.mem_append_right _ h)) hown hK hP 0 rfl rfl 1 (by decide) (hts (.fieldLink RX4 15 "DeltaWindows$Instructions" "sizes" "[I") (List.mem_of_getElem? (i := 3) rfl)) (fun _ h9 => h9) rfl dX4_pairCode_81 ?_
              refine lv_iload_n hx hb dX4_pairCode_84 rfl (lv_at hl 2 rfl) ?_
              obtain ⟨g20, hf⟩ := g_inv hf
              refine va_iald (f := fz) hx hb hK hP 2 1 rfl rfl (inb_vp g20) dX4_pairCode_85 ?_
              refine lv_aload_n hx hb dX4_pairCode_86 rfl (lv_at hl 1 rfl) ?_
              refine va_get (D := D) (ci := 3) (v := .ref am) (C := RX4) (T := TX4) (N := 4) hx hb hts (fun w h => List.mem_cons_of_mem _ (List.mem_append_right _ h)) hown hK hP 0 rfl rfl 2 (by decide) (hts (.fieldLink RX4 18 "DeltaWindows$Instructions" "modes" "[I") (List.mem_of_getElem? (i := 4) rfl)) (fun _ h9 => h9) rfl dX4_pairCode_87 ?_
              refine lv_iload_n hx hb dX4_pairCode_90 rfl (lv_at hl 2 rfl) ?_
              obtain ⟨g21, hf⟩ := g_inv hf
              refine va_iald (f := fm) hx hb hK hP 3 2 rfl rfl (inb_vp g21) dX4_pairCode_91 ?_
              refine lv_aload_n hx hb dX4_pairCode_92 rfl (lv_at hl 1 rfl) ?_
              refine va_get (D := D) (ci := 3) (v := .ref az) (C := RX4) (T := TX4) (N := 4) hx hb hts (fun w h => List.mem_cons_of_mem _ (List.mem_append_right _ h)) hown hK hP 0 rfl rfl 1 (by decide) (hts (.fieldLink RX4 15 "DeltaWindows$Instructions" "sizes" "[I") (List.mem_of_getElem? (i := 3) rfl)) (fun _ h9 => h9) rfl dX4_pairCode_93 ?_
              refine lv_iload_n hx hb dX4_pairCode_96 rfl (lv_at hl 0 rfl) ?_
              obtain ⟨g22, hf⟩ := g_inv hf
              refine va_iald (f := fz) hx hb hK hP 2 1 rfl rfl (inb_vp g22) dX4_pairCode_97 ?_
              obtain ⟨R23, hc24, hf⟩ := b_inv hf
              have hk := kcut (wc := ([] : va_W)) (wc' := ([] : va_W)) (wf := (wI h ak az am cK cZ cM fk fz fm ct)) hP hD hS hA [] rfl (by decide) rfl rfl
              refine k_goI (va_runS (As := [.int (fz x1.toNatClampNeg), .int (fm x1.toNatClampNeg), .int (fz (x1 + (1 : Int32)).toNatClampNeg)]) (rest := []) ⟨hx, hb, hml, hown, hts⟩ (kX1_copyThenAdd l D (fz x1.toNatClampNeg) (fm x1.toNatClampNeg) (fz (x1 + (1 : Int32)).toNatClampNeg) hc24 _) ⟨callB_of 3 hts ggX4_pairCode_X1_copyThenAdd rfl rfl rfl (hts (.initialized RX1) (List.mem_of_getElem? (i := 7) rfl)) (hts (.methodLink RX4 38 yX1_copyThenAdd) (List.mem_of_getElem? (i := 9) rfl)) (by decide +kernel) ⟨Nat.le_of_ble_eq_true rfl, Nat.le_of_ble_eq_true rfl⟩, (hts (.static yX1_copyThenAdd) (List.mem_of_getElem? (i := 10) rfl))⟩ (k_preS hk (hK.sub [] rfl) NT_bl NT_u) rfl rfl hl.1 rfl (lv_room (Nat.le_of_ble_eq_true rfl)) dX4_pairCode_98 ⟨Nat.zero_le _, Nat.zero_le _⟩) hk hS (fun H locs hP hD hS => ?_)
              obtain rfl := Option.some.inj hf
              exact k_retI hx hb hr hlocks hP hS dX4_pairCode_101
        · rw [if_pos c15] at hf
          refine lv_aload_n hx hb dX4_pairCode_38 rfl (lv_at hl 1 rfl) ?_
          refine va_get (D := D) (ci := 3) (v := .ref az) (C := RX4) (T := TX4) (N := 4) hx hb hts (fun w h => List.mem_cons_of_mem _ (List.mem_append_right _ h)) hown hK hP 0 rfl rfl 1 (by decide) (hts (.fieldLink RX4 15 "DeltaWindows$Instructions" "sizes" "[I") (List.mem_of_getElem? (i := 3) rfl)) (fun _ h9 => h9) rfl dX4_pairCode_39 ?_
          refine lv_iload_n hx hb dX4_pairCode_42 rfl (lv_at hl 2 rfl) ?_
          obtain ⟨g25, hf⟩ := g_inv hf
          refine va_iald (f := fz) hx hb hK hP 2 1 rfl rfl (inb_vp g25) dX4_pairCode_43 ?_
          refine lv_aload_n hx hb dX4_pairCode_44 rfl (lv_at hl 1 rfl) ?_
          refine va_get (D := D) (ci := 3) (v := .ref az) (C := RX4) (T := TX4) (N := 4) hx hb hts (fun w h => List.mem_cons_of_mem _ (List.mem_append_right _ h)) hown hK hP 0 rfl rfl 1 (by decide) (hts (.fieldLink RX4 15 "DeltaWindows$Instructions" "sizes" "[I") (List.mem_of_getElem? (i := 3) rfl)) (fun _ h9 => h9) rfl dX4_pairCode_45 ?_
          refine lv_iload_n hx hb dX4_pairCode_48 rfl (lv_at hl 0 rfl) ?_
          obtain ⟨g26, hf⟩ := g_inv hf
          refine va_iald (f := fz) hx hb hK hP 2 1 rfl rfl (inb_vp g26) dX4_pairCode_49 ?_
          refine lv_aload_n hx hb dX4_pairCode_50 rfl (lv_at hl 1 rfl) ?_
          refine va_get (D := D) (ci := 3) (v := .ref am) (C := RX4) (T := TX4) (N := 4) hx hb hts (fun w h => List.mem_cons_of_mem _ (List.mem_append_right _ h)) hown hK hP 0 rfl rfl 2 (by decide) (hts (.fieldLink RX4 18 "DeltaWindows$Instructions" "modes" "[I") (List.mem_of_getElem? (i := 4) rfl)) (fun _ h9 => h9) rfl dX4_pairCode_51 ?_
          refine lv_iload_n hx hb dX4_pairCode_54 rfl (lv_at hl 0 rfl) ?_
          obtain ⟨g27, hf⟩ := g_inv hf
          refine va_iald (f := fm) hx hb hK hP 3 2 rfl rfl (inb_vp g27) dX4_pairCode_55 ?_
          obtain ⟨R28, hc29, hf⟩ := b_inv hf
          have hk := kcut (wc := ([] : va_W)) (wc' := ([] : va_W)) (wf := (wI h ak az am cK cZ cM fk fz fm ct)) hP hD hS hA [] rfl (by decide) rfl rfl
          refine k_goI (va_runS (As := [.int (fz x1.toNatClampNeg), .int (fz (x1 + (1 : Int32)).toNatClampNeg), .int (fm (x1 + (1 : Int32)).toNatClampNeg)]) (rest := []) ⟨hx, hb, hml, hown, hts⟩ (kX1_addThenCopy l D (fz x1.toNatClampNeg) (fz (x1 + (1 : Int32)).toNatClampNeg) (fm (x1 + (1 : Int32)).toNatClampNeg) hc29 _) ⟨callB_of 3 hts ggX4_pairCode_X1_addThenCopy rfl rfl rfl (hts (.initialized RX1) (List.mem_of_getElem? (i := 7) rfl)) (hts (.methodLink RX4 35 yX1_addThenCopy) (List.mem_of_getElem? (i := 5) rfl)) (by decide +kernel) ⟨Nat.le_of_ble_eq_true rfl, Nat.le_of_ble_eq_true rfl⟩, (hts (.static yX1_addThenCopy) (List.mem_of_getElem? (i := 6) rfl))⟩ (k_preS hk (hK.sub [] rfl) NT_bl NT_u) rfl rfl hl.1 rfl (lv_room (Nat.le_of_ble_eq_true rfl)) dX4_pairCode_56 ⟨Nat.zero_le _, Nat.zero_le _⟩) hk hS (fun H locs hP hD hS => ?_)
          obtain rfl := Option.some.inj hf
          exact k_retI hx hb hr hlocks hP hS dX4_pairCode_59
    · rw [if_neg c2] at hf
      refine lv_iconst (v := (-1 : Int32)) hx hb dX4_pairCode_16 (by decide) ?_
      obtain rfl := Option.some.inj hf
      exact k_retI hx hb hr hlocks hP hS dX4_pairCode_17
