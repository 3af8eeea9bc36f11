noncomputable def fX0_near (fn : Nat → Int32) (fs : Nat → Int32) (cp : Int32) (x1 : Int32) : Option (Int32) :=
  if x1 < 0 then
    some (0 : Int32)
  else
    if (4 : Int32) ≤ x1 then
      some (0 : Int32)
    else
      if inb x1 4 = true then
      some (fn x1.toNatClampNeg)
      else none

set_option maxHeartbeats 4000000 in
set_option maxRecDepth 100000 in
theorem kX0_near (l : Launch) (D : va_G) (h : Nat) (an : Nat) (az : Nat) (cN : ClassId) (cS : ClassId) (fn : Nat → Int32) (fs : Nat → Int32) (cp : Int32) (x1 : Int32) {R : Int32} (hf : fX0_near fn fs cp x1 = some R) : MI l yX0_near wsX0_near (rmD 0) D ([.ref h, .int x1] : List Value) (wC h an az cN cS fn fs cp) [(cN, .int), (cS, .int)] NT R (wC h an az cN cS fn fs cp) := by
  refine MI.mk (cc := cX0_near) (maxL := 2) (ret := (some .int)) (by first | decide | decide +kernel) rfl (Nat.le_of_ble_eq_true rfl) ?_
  intro p e s m below meth cd A ls hE
  obtain ⟨hx, hb, hr, hml, hts, hown, hlocks, hP, hK, hD, hA, hN, hAe, hl⟩ := hE
  have hown : s.vm.findClass RX0 = some m.cls := hown
  have hS : va_S A s.heap s.heap [] := va_S.rf
  have hl : lv_has ls 2 [(0, .ref h), (1, .int x1)] := hl
  rw [fX0_near] at hf
  refine lv_iload_n hx hb dX0_near_0 rfl (lv_at hl 1 rfl) ?_
  refine lv_if_lt (tgt := 18) hx hb dX0_near_1 (by decide) (fun c1 => ?_) (fun c1 => ?_)
  · rw [if_pos c1] at hf
    refine lv_iconst (v := (0 : Int32)) hx hb dX0_near_18 (by decide) ?_
    obtain rfl := Option.some.inj hf
    exact k_retI hx hb hr hlocks hP hS dX0_near_19
  · rw [if_neg c1] at hf
    refine lv_iload_n hx hb dX0_near_4 rfl (lv_at hl 1 rfl) ?_
    refine lv_iconst (v := (4 : Int32)) hx hb dX0_near_5 (by decide) ?_
    refine lv_icmp_ge (tgt := 18) hx hb dX0_near_6 (by decide) (fun c2 => ?_) (fun c2 => ?_)
    · rw [if_pos c2] at hf
      refine lv_iconst (v := (0 : Int32)) hx hb dX0_near_18 (by decide) ?_
      obtain rfl := Option.some.inj hf
      exact k_retI hx hb hr hlocks hP hS dX0_near_19
    · rw [if_neg c2] at hf
      refine lv_aload_n hx hb dX0_near_9 rfl (lv_at hl 0 rfl) ?_
      refine va_get (D := D) (ci := 0) (v := .ref an) (C := RX0) (T := TX0) (N := 3) hx hb hts (fun w h => List.mem_cons_of_mem _ (List.mem_append_right _ h)) hown hK hP 0 rfl rfl 0 (by decide) (hts (.fieldLink RX0 9 "DeltaWindows$Caches" "near" "[I") (List.mem_of_getElem? (i := 1) rfl)) (fun _ h9 => h9) rfl dX0_near_10 ?_
      refine lv_iload_n hx hb dX0_near_13 rfl (lv_at hl 1 rfl) ?_
      obtain ⟨g3, hf⟩ := g_inv hf
      refine va_iald (f := fn) hx hb hK hP 1 0 rfl rfl (inb_vp g3) dX0_near_14 ?_
      refine lv_goto (tgt := 19) hx hb dX0_near_15 (by decide) ?_
      obtain rfl := Option.some.inj hf
      exact k_retI hx hb hr hlocks hP hS dX0_near_19

noncomputable def fX0_same (fn : Nat → Int32) (fs : Nat → Int32) (cp : Int32) (x1 : Int32) : Option (Int32) :=
  if x1 < 0 then
    some (0 : Int32)
  else
    if (768 : Int32) ≤ x1 then
      some (0 : Int32)
    else
      if inb x1 768 = true then
      some (fs x1.toNatClampNeg)
      else none

set_option maxHeartbeats 4000000 in
set_option maxRecDepth 100000 in
theorem kX0_same (l : Launch) (D : va_G) (h : Nat) (an : Nat) (az : Nat) (cN : ClassId) (cS : ClassId) (fn : Nat → Int32) (fs : Nat → Int32) (cp : Int32) (x1 : Int32) {R : Int32} (hf : fX0_same fn fs cp x1 = some R) : MI l yX0_same wsX0_same (rmD 0) D ([.ref h, .int x1] : List Value) (wC h an az cN cS fn fs cp) [(cN, .int), (cS, .int)] NT R (wC h an az cN cS fn fs cp) := by
  refine MI.mk (cc := cX0_same) (maxL := 2) (ret := (some .int)) (by first | decide | decide +kernel) rfl (Nat.le_of_ble_eq_true rfl) ?_
  intro p e s m below meth cd A ls hE
  obtain ⟨hx, hb, hr, hml, hts, hown, hlocks, hP, hK, hD, hA, hN, hAe, hl⟩ := hE
  have hown : s.vm.findClass RX0 = some m.cls := hown
  have hS : va_S A s.heap s.heap [] := va_S.rf
  have hl : lv_has ls 2 [(0, .ref h), (1, .int x1)] := hl
  rw [fX0_same] at hf
  refine lv_iload_n hx hb dX0_same_0 rfl (lv_at hl 1 rfl) ?_
  refine lv_if_lt (tgt := 20) hx hb dX0_same_1 (by decide) (fun c1 => ?_) (fun c1 => ?_)
  · rw [if_pos c1] at hf
    refine lv_iconst (v := (0 : Int32)) hx hb dX0_same_20 (by decide) ?_
    obtain rfl := Option.some.inj hf
    exact k_retI hx hb hr hlocks hP hS dX0_same_21
  · rw [if_neg c1] at hf
    refine lv_iload_n hx hb dX0_same_4 rfl (lv_at hl 1 rfl) ?_
    refine lv_sipush (v := (768 : Int32)) hx hb dX0_same_5 (by decide) ?_
    refine lv_icmp_ge (tgt := 20) hx hb dX0_same_8 (by decide) (fun c2 => ?_) (fun c2 => ?_)
    · rw [if_pos c2] at hf
      refine lv_iconst (v := (0 : Int32)) hx hb dX0_same_20 (by decide) ?_
      obtain rfl := Option.some.inj hf
      exact k_retI hx hb hr hlocks hP hS dX0_same_21
    · rw [if_neg c2] at hf
      refine lv_aload_n hx hb dX0_same_11 rfl (lv_at hl 0 rfl) ?_
      refine va_get (D := D) (ci := 0) (v := .ref az) (C := RX0) (T := TX0) (N := 3) hx hb hts (fun w h => List.mem_cons_of_mem _ (List.mem_append_right _ h)) hown hK hP 0 rfl rfl 1 (by decide) (hts (.fieldLink RX0 15 "DeltaWindows$Caches" "same" "[I") (List.mem_of_getElem? (i := 1) rfl)) (fun _ h9 => h9) rfl dX0_same_12 ?_
      refine lv_iload_n hx hb dX0_same_15 rfl (lv_at hl 1 rfl) ?_
      obtain ⟨g3, hf⟩ := g_inv hf
      refine va_iald (f := fs) hx hb hK hP 2 1 rfl rfl (inb_vp g3) dX0_same_16 ?_
      refine lv_goto (tgt := 21) hx hb dX0_same_17 (by decide) ?_
      obtain rfl := Option.some.inj hf
      exact k_retI hx hb hr hlocks hP hS dX0_same_21

noncomputable def fX0_clear (fn : Nat → Int32) (fs : Nat → Int32) (cp : Int32) : Option ((Nat → Int32) × (Nat → Int32) × Int32) :=
  (fJ7_fill_53178 4 fn (0 : Int32)).bind fun R1 =>
  (fJ7_fill_53178 768 fs (0 : Int32)).bind fun R3 =>
  some (R1, R3, (0 : Int32))

set_option maxHeartbeats 4000000 in
set_option maxRecDepth 100000 in
theorem kX0_clear (l : Launch) (D : va_G) (h : Nat) (an : Nat) (az : Nat) (cN : ClassId) (cS : ClassId) (fn : Nat → Int32) (fs : Nat → Int32) (cp : Int32) {R : (Nat → Int32) × (Nat → Int32) × Int32} (hf : fX0_clear fn fs cp = some R) : MV l yX0_clear wsX0_clear (rmD 1) D ([.ref h] : List Value) (wC h an az cN cS fn fs cp) [(cN, .int), (cS, .int)] NT (wC h an az cN cS R.1 R.2.1 R.2.2) := by
  refine MV.mk (cc := cX0_clear) (maxL := 1) (ret := none) (by first | decide | decide +kernel) rfl (Nat.le_of_ble_eq_true rfl) ?_
  intro p e s m below meth cd A ls hE
  obtain ⟨hx, hb, hr, hml, hts, hown, hlocks, hP, hK, hD, hA, hN, hAe, hl⟩ := hE
  have hown : s.vm.findClass RX0 = some m.cls := hown
  have hS : va_S A s.heap s.heap [] := va_S.rf
  have hl : lv_has ls 1 [(0, .ref h)] := hl
  rw [fX0_clear] at hf
  refine lv_aload_n hx hb dX0_clear_0 rfl (lv_at hl 0 rfl) ?_
  refine va_get (D := D) (ci := 0) (v := .ref an) (C := RX0) (T := TX0) (N := 3) hx hb hts (fun w h => List.mem_cons_of_mem _ (List.mem_append_right _ h)) hown hK hP 0 rfl rfl 0 (by decide) (hts (.fieldLink RX0 9 "DeltaWindows$Caches" "near" "[I") (List.mem_of_getElem? (i := 1) rfl)) (fun _ h9 => h9) rfl dX0_clear_1 ?_
  refine lv_iconst (v := (0 : Int32)) hx hb dX0_clear_4 (by decide) ?_
  obtain ⟨R1, hc2, hf⟩ := b_inv hf
  have hk := kcut (wc := (wF an cN 4 fn)) (wc' := (wF an cN 4 R1)) (wf := (wC h an az cN cS R1 fs cp)) hP hD hS hA [1] rfl (by decide) rfl rfl
  refine k_goV (va_runS (As := [.ref an, .int (0 : Int32)]) (rest := []) ⟨hx, hb, hml, hown, hts⟩ (kJ7_fill_53178 l D an cN 4 fn (0 : Int32) hc2 _) ⟨callB_of 2 hts ggX0_clear_J7_fill_53178 rfl rfl rfl (hts (.initialized RJ7) (List.mem_of_getElem? (i := 6) rfl)) (hts (.methodLink RX0 22 yJ7_fill_53178) (List.mem_of_getElem? (i := 4) rfl)) (by decide +kernel) ⟨Nat.le_of_ble_eq_true rfl, Nat.le_of_ble_eq_true rfl⟩, (hts (.static yJ7_fill_53178) (List.mem_of_getElem? (i := 5) rfl))⟩ (k_preS hk (hK.sub [0] rfl) NT_bl NT_u) rfl rfl hl.1 rfl (lv_room (Nat.le_of_ble_eq_true rfl)) dX0_clear_5 ⟨Nat.zero_le _, Nat.zero_le _⟩) hk hS (fun H locs hP hD hS => ?_)
  refine lv_aload_n hx hb dX0_clear_8 rfl (lv_at hl 0 rfl) ?_
  refine va_get (D := D) (ci := 0) (v := .ref az) (C := RX0) (T := TX0) (N := 3) hx hb hts (fun w h => List.mem_cons_of_mem _ (List.mem_append_right _ h)) hown hK hP 0 rfl rfl 1 (by decide) (hts (.fieldLink RX0 15 "DeltaWindows$Caches" "same" "[I") (List.mem_of_getElem? (i := 2) rfl)) (fun _ h9 => h9) rfl dX0_clear_9 ?_
  refine lv_iconst (v := (0 : Int32)) hx hb dX0_clear_12 (by decide) ?_
  obtain ⟨R3, hc4, hf⟩ := b_inv hf
  have hk := kcut (wc := (wF az cS 768 fs)) (wc' := (wF az cS 768 R3)) (wf := (wC h an az cN cS R1 R3 cp)) hP hD hS hA [2] rfl (by decide) rfl rfl
  refine k_goV (va_runS (As := [.ref az, .int (0 : Int32)]) (rest := []) ⟨hx, hb, hml, hown, hts⟩ (kJ7_fill_53178 l D az cS 768 fs (0 : Int32) hc4 _) ⟨callB_of 2 hts ggX0_clear_J7_fill_53178 rfl rfl rfl (hts (.initialized RJ7) (List.mem_of_getElem? (i := 6) rfl)) (hts (.methodLink RX0 22 yJ7_fill_53178) (List.mem_of_getElem? (i := 4) rfl)) (by decide +kernel) ⟨Nat.le_of_ble_eq_true rfl, Nat.le_of_ble_eq_true rfl⟩, (hts (.static yJ7_fill_53178) (List.mem_of_getElem? (i := 5) rfl))⟩ (k_preS hk (hK.sub [1] rfl) NT_bl NT_u) rfl rfl hl.1 rfl (lv_room (Nat.le_of_ble_eq_true rfl)) dX0_clear_13 ⟨Nat.zero_le _, Nat.zero_le _⟩) hk hS (fun H locs hP hD hS => ?_)
  refine lv_aload_n hx hb dX0_clear_16 rfl (lv_at hl 0 rfl) ?_
  refine lv_iconst (v := (0 : Int32)) hx hb dX0_clear_17 (by decide) ?_
  refine va_put (D := D) (ci := 0) (v := .int (0 : Int32)) (ty := .int) (C := RX0) (T := TX0) (N := 3) hx hb hts (fun w h => List.mem_cons_of_mem _ (List.mem_append_right _ h)) tyX0 tyX0_ok nmX0 hown hK hP hD hS 0 rfl rfl 2 (by decide) (hts (.fieldLink RX0 18 "DeltaWindows$Caches" "copies" "I") (List.mem_of_getElem? (i := 3) rfl)) (fun _ h9 => h9) rfl (by decide +kernel) rfl rfl (Nat.le_of_ble_eq_true rfl) dX0_clear_18 (fun H locs hP hD hS => ?_)
  have hP : va_P D vwCl (wC h an az cN cS R1 R3 (0 : Int32)) H := hP
  have hD : va_D A (wC h an az cN cS R1 R3 (0 : Int32)) := hD
  obtain rfl := Option.some.inj hf
  exact k_retV hx hb hr hlocks hP hS dX0_clear_21

noncomputable def fX0_learn (fn : Nat → Int32) (fs : Nat → Int32) (cp : Int32) (x1 : Int32) : Option ((Nat → Int32) × (Nat → Int32) × Int32) :=
  (fJ9_floorMod_7cf53 cp (4 : Int32)).bind fun R1 =>
  if inb R1 4 = true then
  (fJ9_floorMod_7cf53 x1 (768 : Int32)).bind fun R4 =>
  if inb R4 768 = true then
  some ((upd fn R1.toNatClampNeg x1), (upd fs R4.toNatClampNeg x1), (cp + (1 : Int32)))
  else none
  else none

set_option maxHeartbeats 4000000 in
set_option maxRecDepth 100000 in
theorem kX0_learn (l : Launch) (D : va_G) (h : Nat) (an : Nat) (az : Nat) (cN : ClassId) (cS : ClassId) (fn : Nat → Int32) (fs : Nat → Int32) (cp : Int32) (x1 : Int32) {R : (Nat → Int32) × (Nat → Int32) × Int32} (hf : fX0_learn fn fs cp x1 = some R) : MV l yX0_learn wsX0_learn (rmD 1) D ([.ref h, .int x1] : List Value) (wC h an az cN cS fn fs cp) [(cN, .int), (cS, .int)] NT (wC h an az cN cS R.1 R.2.1 R.2.2) := by
  refine MV.mk (cc := cX0_learn) (maxL := 2) (ret := none) (by first | decide | decide +kernel) rfl (Nat.le_of_ble_eq_true rfl) ?_
  intro p e s m below meth cd A ls hE
  obtain ⟨hx, hb, hr, hml, hts, hown, hlocks, hP, hK, hD, hA, hN, hAe, hl⟩ := hE
  have hown : s.vm.findClass RX0 = some m.cls := hown
  have hS : va_S A s.heap s.heap [] := va_S.rf
  have hl : lv_has ls 2 [(0, .ref h), (1, .int x1)] := hl
  rw [fX0_learn] at hf
  refine lv_aload_n hx hb dX0_learn_0 rfl (lv_at hl 0 rfl) ?_
  refine va_get (D := D) (ci := 0) (v := .ref an) (C := RX0) (T := TX0) (N := 3) hx hb hts (fun w h => List.mem_cons_of_mem _ (List.mem_append_right _ h)) hown hK hP 0 rfl rfl 0 (by decide) (hts (.fieldLink RX0 9 "DeltaWindows$Caches" "near" "[I") (List.mem_of_getElem? (i := 1) rfl)) (fun _ h9 => h9) rfl dX0_learn_1 ?_
  refine lv_aload_n hx hb dX0_learn_4 rfl (lv_at hl 0 rfl) ?_
  refine va_get (D := D) (ci := 0) (v := .int cp) (C := RX0) (T := TX0) (N := 3) hx hb hts (fun w h => List.mem_cons_of_mem _ (List.mem_append_right _ h)) hown hK hP 0 rfl rfl 2 (by decide) (hts (.fieldLink RX0 18 "DeltaWindows$Caches" "copies" "I") (List.mem_of_getElem? (i := 2) rfl)) (fun _ h9 => h9) rfl dX0_learn_5 ?_
  refine lv_iconst (v := (4 : Int32)) hx hb dX0_learn_8 (by decide) ?_
  obtain ⟨R1, hc2, hf⟩ := b_inv hf
  have hk := kcut (wc := ([] : va_W)) (wc' := ([] : va_W)) (wf := (wC h an az cN cS fn fs cp)) hP hD hS hA [] rfl (by decide) rfl rfl
  refine k_goI (va_runS (As := [.int cp, .int (4 : Int32)]) (rest := [.ref an]) ⟨hx, hb, hml, hown, hts⟩ (kJ9_floorMod_7cf53 l D cp (4 : Int32) hc2 _) ⟨callB_of 2 hts ggX0_learn_J9_floorMod_7cf53 rfl rfl rfl (hts (.initialized RJ9) (List.mem_of_getElem? (i := 6) rfl)) (hts (.methodLink RX0 28 yJ9_floorMod_7cf53) (List.mem_of_getElem? (i := 4) rfl)) (by decide +kernel) ⟨Nat.le_of_ble_eq_true rfl, Nat.le_of_ble_eq_true rfl⟩, (hts (.static yJ9_floorMod_7cf53) (List.mem_of_getElem? (i := 5) rfl))⟩ (k_preS hk (hK.sub [] rfl) NT_bl NT_u) rfl rfl hl.1 rfl (lv_room (Nat.le_of_ble_eq_true rfl)) dX0_learn_9 ⟨Nat.zero_le _, Nat.zero_le _⟩) hk hS (fun H locs hP hD hS => ?_)
  refine lv_iload_n hx hb dX0_learn_12 rfl (lv_at hl 1 rfl) ?_
  obtain ⟨g3, hf⟩ := g_inv hf
  refine va_iast (f := fn) hx hb hK hP hD hS 1 0 rfl rfl (inb_vp g3) dX0_learn_13 (fun H locs hP hD hS => ?_)
  have hP : va_P D vwCl (wC h an az cN cS (upd fn R1.toNatClampNeg x1) fs cp) H := hP
  have hD : va_D A (wC h an az cN cS (upd fn R1.toNatClampNeg x1) fs cp) := hD
  refine lv_aload_n hx hb dX0_learn_14 rfl (lv_at hl 0 rfl) ?_
  refine va_get (D := D) (ci := 0) (v := .ref az) (C := RX0) (T := TX0) (N := 3) hx hb hts (fun w h => List.mem_cons_of_mem _ (List.mem_append_right _ h)) hown hK hP 0 rfl rfl 1 (by decide) (hts (.fieldLink RX0 15 "DeltaWindows$Caches" "same" "[I") (List.mem_of_getElem? (i := 3) rfl)) (fun _ h9 => h9) rfl dX0_learn_15 ?_
  refine lv_iload_n hx hb dX0_learn_18 rfl (lv_at hl 1 rfl) ?_
  refine lv_sipush (v := (768 : Int32)) hx hb dX0_learn_19 (by decide) ?_
  obtain ⟨R4, hc5, hf⟩ := b_inv hf
  have hk := kcut (wc := ([] : va_W)) (wc' := ([] : va_W)) (wf := (wC h an az cN cS (upd fn R1.toNatClampNeg x1) fs cp)) hP hD hS hA [] rfl (by decide) rfl rfl
  refine k_goI (va_runS (As := [.int x1, .int (768 : Int32)]) (rest := [.ref az]) ⟨hx, hb, hml, hown, hts⟩ (kJ9_floorMod_7cf53 l D x1 (768 : Int32) hc5 _) ⟨callB_of 2 hts ggX0_learn_J9_floorMod_7cf53 rfl rfl rfl (hts (.initialized RJ9) (List.mem_of_getElem? (i := 6) rfl)) (hts (.methodLink RX0 28 yJ9_floorMod_7cf53) (List.mem_of_getElem? (i := 4) rfl)) (by decide +kernel) ⟨Nat.le_of_ble_eq_true rfl, Nat.le_of_ble_eq_true rfl⟩, (hts (.static yJ9_floorMod_7cf53) (List.mem_of_getElem? (i := 5) rfl))⟩ (k_preS hk (hK.sub [] rfl) NT_bl NT_u) rfl rfl hl.1 rfl (lv_room (Nat.le_of_ble_eq_true rfl)) dX0_learn_22 ⟨Nat.zero_le _, Nat.zero_le _⟩) hk hS (fun H locs hP hD hS => ?_)
  refine lv_iload_n hx hb dX0_learn_25 rfl (lv_at hl 1 rfl) ?_
  obtain ⟨g6, hf⟩ := g_inv hf
  refine va_iast (f := fs) hx hb hK hP hD hS 2 1 rfl rfl (inb_vp g6) dX0_learn_26 (fun H locs hP hD hS => ?_)
  have hP : va_P D vwCl (wC h an az cN cS (upd fn R1.toNatClampNeg x1) (upd fs R4.toNatClampNeg x1) cp) H := hP
  have hD : va_D A (wC h an az cN cS (upd fn R1.toNatClampNeg x1) (upd fs R4.toNatClampNeg x1) cp) := hD
  refine lv_aload_n hx hb dX0_learn_27 rfl (lv_at hl 0 rfl) ?_
  refine lv_dup hx hb dX0_learn_28 rfl ?_
  refine va_get (D := D) (ci := 0) (v := .int cp) (C := RX0) (T := TX0) (N := 3) hx hb hts (fun w h => List.mem_cons_of_mem _ (List.mem_append_right _ h)) hown hK hP 0 rfl rfl 2 (by decide) (hts (.fieldLink RX0 18 "DeltaWindows$Caches" "copies" "I") (List.mem_of_getElem? (i := 2) rfl)) (fun _ h9 => h9) rfl dX0_learn_29 ?_
  refine lv_iconst (v := (1 : Int32)) hx hb dX0_learn_32 (by decide) ?_
  refine lv_iadd hx hb dX0_learn_33 ?_
  refine va_put (D := D) (ci := 0) (v := .int (cp + (1 : Int32))) (ty := .int) (C := RX0) (T := TX0) (N := 3) hx hb hts (fun w h => List.mem_cons_of_mem _ (List.mem_append_right _ h)) tyX0 tyX0_ok nmX0 hown hK hP hD hS 0 rfl rfl 2 (by decide) (hts (.fieldLink RX0 18 "DeltaWindows$Caches" "copies" "I") (List.mem_of_getElem? (i := 2) rfl)) (fun _ h9 => h9) rfl (by decide +kernel) rfl rfl (Nat.le_of_ble_eq_true rfl) dX0_learn_34 (fun H locs hP hD hS => ?_)
  have hP : va_P D vwCl (wC h an az cN cS (upd fn R1.toNatClampNeg x1) (upd fs R4.toNatClampNeg x1) (cp + (1 : Int32))) H := hP
  have hD : va_D A (wC h an az cN cS (upd fn R1.toNatClampNeg x1) (upd fs R4.toNatClampNeg x1) (cp + (1 : Int32))) := hD
  obtain rfl := Option.some.inj hf
  exact k_retV hx hb hr hlocks hP hS dX0_learn_37

noncomputable def fX0_integerFor (fn : Nat → Int32) (fs : Nat → Int32) (cp : Int32) (x1 : Int32) (x2 : Int32) (x3 : Int32) : Option (Int32) :=
  if x1 < (2 : Int32) then
    if x1 = (1 : Int32) then
      some (x3 - x2)
    else
      some x2
  else
    if (6 : Int32) ≤ x1 then
      if x1 = (1 : Int32) then
        some (x3 - x2)
      else
        some x2
    else
      if inb (x1 - (2 : Int32)) 4 = true then
      some (x2 - (fn (x1 - (2 : Int32)).toNatClampNeg))
      else none

set_option maxHeartbeats 4000000 in
set_option maxRecDepth 100000 in
theorem kX0_integerFor (l : Launch) (D : va_G) (h : Nat) (an : Nat) (az : Nat) (cN : ClassId) (cS : ClassId) (fn : Nat → Int32) (fs : Nat → Int32) (cp : Int32) (x1 : Int32) (x2 : Int32) (x3 : Int32) {R : Int32} (hf : fX0_integerFor fn fs cp x1 x2 x3 = some R) : MI l yX0_integerFor wsX0_integerFor (rmD 0) D ([.ref h, .int x1, .int x2, .int x3] : List Value) (wC h an az cN cS fn fs cp) [(cN, .int), (cS, .int)] NT R (wC h an az cN cS fn fs cp) := by
  refine MI.mk (cc := cX0_integerFor) (maxL := 4) (ret := (some .int)) (by first | decide | decide +kernel) rfl (Nat.le_of_ble_eq_true rfl) ?_
  intro p e s m below meth cd A ls hE
  obtain ⟨hx, hb, hr, hml, hts, hown, hlocks, hP, hK, hD, hA, hN, hAe, hl⟩ := hE
  have hown : s.vm.findClass RX0 = some m.cls := hown
  have hS : va_S A s.heap s.heap [] := va_S.rf
  have hl : lv_has ls 4 [(0, .ref h), (1, .int x1), (2, .int x2), (3, .int x3)] := hl
  rw [fX0_integerFor] at hf
  refine lv_iload_n hx hb dX0_integerFor_0 rfl (lv_at hl 1 rfl) ?_
  refine lv_iconst (v := (2 : Int32)) hx hb dX0_integerFor_1 (by decide) ?_
  refine lv_icmp_lt (tgt := 22) hx hb dX0_integerFor_2 (by decide) (fun c1 => ?_) (fun c1 => ?_)
  · rw [if_pos c1] at hf
    refine lv_iload_n hx hb dX0_integerFor_22 rfl (lv_at hl 1 rfl) ?_
    refine lv_iconst (v := (1 : Int32)) hx hb dX0_integerFor_23 (by decide) ?_
    refine lv_icmp_ne (tgt := 33) hx hb dX0_integerFor_24 (by decide) (fun c2 => ?_) (fun c2 => ?_)
    · rw [if_neg c2] at hf
      refine lv_iload_n hx hb dX0_integerFor_33 rfl (lv_at hl 2 rfl) ?_
      obtain rfl := Option.some.inj hf
      exact k_retI hx hb hr hlocks hP hS dX0_integerFor_34
    · rw [if_pos c2] at hf
      refine lv_iload_n hx hb dX0_integerFor_27 rfl (lv_at hl 3 rfl) ?_
      refine lv_iload_n hx hb dX0_integerFor_28 rfl (lv_at hl 2 rfl) ?_
      refine lv_isub hx hb dX0_integerFor_29 ?_
      refine lv_goto (tgt := 34) hx hb dX0_integerFor_30 (by decide) ?_
      obtain rfl := Option.some.inj hf
      exact k_retI hx hb hr hlocks hP hS dX0_integerFor_34
  · rw [if_neg c1] at hf
    refine lv_iload_n hx hb dX0_integerFor_5 rfl (lv_at hl 1 rfl) ?_
    refine lv_bipush (v := (6 : Int32)) hx hb dX0_integerFor_6 (by decide) ?_
    refine lv_icmp_ge (tgt := 22) hx hb dX0_integerFor_8 (by decide) (fun c3 => ?_) (fun c3 => ?_)
    · rw [if_pos c3] at hf
      refine lv_iload_n hx hb dX0_integerFor_22 rfl (lv_at hl 1 rfl) ?_
      refine lv_iconst (v := (1 : Int32)) hx hb dX0_integerFor_23 (by decide) ?_
      refine lv_icmp_ne (tgt := 33) hx hb dX0_integerFor_24 (by decide) (fun c4 => ?_) (fun c4 => ?_)
      · rw [if_neg c4] at hf
        refine lv_iload_n hx hb dX0_integerFor_33 rfl (lv_at hl 2 rfl) ?_
        obtain rfl := Option.some.inj hf
        exact k_retI hx hb hr hlocks hP hS dX0_integerFor_34
      · rw [if_pos c4] at hf
        refine lv_iload_n hx hb dX0_integerFor_27 rfl (lv_at hl 3 rfl) ?_
        refine lv_iload_n hx hb dX0_integerFor_28 rfl (lv_at hl 2 rfl) ?_
        refine lv_isub hx hb dX0_integerFor_29 ?_
        refine lv_goto (tgt := 34) hx hb dX0_integerFor_30 (by decide) ?_
        obtain rfl := Option.some.inj hf
        exact k_retI hx hb hr hlocks hP hS dX0_integerFor_34
    · rw [if_neg c3] at hf
      refine lv_iload_n hx hb dX0_integerFor_11 rfl (lv_at hl 2 rfl) ?_
      refine lv_aload_n hx hb dX0_integerFor_12 rfl (lv_at hl 0 rfl) ?_
      refine va_get (D := D) (ci := 0) (v := .ref an) (C := RX0) (T := TX0) (N := 3) hx hb hts (fun w h => List.mem_cons_of_mem _ (List.mem_append_right _ h)) hown hK hP 0 rfl rfl 0 (by decide) (hts (.fieldLink RX0 9 "DeltaWindows$Caches" "near" "[I") (List.mem_of_getElem? (i := 1) rfl)) (fun _ h9 => h9) rfl dX0_integerFor_13 ?_
      refine lv_iload_n hx hb dX0_integerFor_16 rfl (lv_at hl 1 rfl) ?_
      refine lv_iconst (v := (2 : Int32)) hx hb dX0_integerFor_17 (by decide) ?_
      refine lv_isub hx hb dX0_integerFor_18 ?_
      obtain ⟨g5, hf⟩ := g_inv hf
      refine va_iald (f := fn) hx hb hK hP 1 0 rfl rfl (inb_vp g5) dX0_integerFor_19 ?_
      refine lv_isub hx hb dX0_integerFor_20 ?_
      obtain rfl := Option.some.inj hf
      exact k_retI hx hb hr hlocks hP hS dX0_integerFor_21

noncomputable def fX0_leastMode_L5 (fn : Nat → Int32) (fs : Nat → Int32) (cp : Int32) (v1 : Int32) (v2 : Int32) : Nat → (Int32) → (Int32) → Option (Int32)
  | 0, _, _ => none
  | k + 1, v3, v4 =>
    if (6 : Int32) ≤ v4 then
      some v3
    else
      (fX0_integerFor fn fs cp v4 v1 v2).bind fun R2 =>
      if R2 < 0 then
        fX0_leastMode_L5 fn fs cp v1 v2 k v3 (v4 + (1 : Int32))
      else
        (fX0_integerFor fn fs cp v3 v1 v2).bind fun R5 =>
        if R5 ≤ R2 then
          fX0_leastMode_L5 fn fs cp v1 v2 k v3 (v4 + (1 : Int32))
        else
          fX0_leastMode_L5 fn fs cp v1 v2 k v4 (v4 + (1 : Int32))

noncomputable def fX0_leastMode (fn : Nat → Int32) (fs : Nat → Int32) (cp : Int32) (x1 : Int32) (x2 : Int32) : Option (Int32) :=
  (fX0_leastMode_L5 fn fs cp x1 x2 FU (0 : Int32) (1 : Int32)).bind fun R8 =>
  some R8

set_option maxHeartbeats 4000000 in
set_option maxRecDepth 100000 in
theorem kX0_leastMode (l : Launch) (D : va_G) (h : Nat) (an : Nat) (az : Nat) (cN : ClassId) (cS : ClassId) (fn : Nat → Int32) (fs : Nat → Int32) (cp : Int32) (x1 : Int32) (x2 : Int32) {R : Int32} (hf : fX0_leastMode fn fs cp x1 x2 = some R) : MI l yX0_leastMode wsX0_leastMode (rmD 1) D ([.ref h, .int x1, .int x2] : List Value) (wC h an az cN cS fn fs cp) [(cN, .int), (cS, .int)] NT R (wC h an az cN cS fn fs cp) := by
  refine MI.mk (cc := cX0_leastMode) (maxL := 6) (ret := (some .int)) (by first | decide | decide +kernel) rfl (Nat.le_of_ble_eq_true rfl) ?_
  intro p e s m below meth cd A ls hE
  obtain ⟨hx, hb, hr, hml, hts, hown, hlocks, hP, hK, hD, hA, hN, hAe, hl⟩ := hE
  have hown : s.vm.findClass RX0 = some m.cls := hown
  have hS : va_S A s.heap s.heap [] := va_S.rf
  have hl : lv_has ls 6 [(0, .ref h), (1, .int x1), (2, .int x2)] := hl
  rw [fX0_leastMode] at hf
  refine lv_iconst (v := (0 : Int32)) hx hb dX0_leastMode_0 (by decide) ?_
  refine lv_istore_n (lv' := [(3, .int (0 : Int32)), (0, .ref h), (1, .int x1), (2, .int x2)]) hx hb dX0_leastMode_1 rfl hl (by decide) rfl (fun ls hl => ?_)
  refine lv_iconst (v := (1 : Int32)) hx hb dX0_leastMode_2 (by decide) ?_
  refine lv_istore (lv' := [(4, .int (1 : Int32)), (3, .int (0 : Int32)), (0, .ref h), (1, .int x1), (2, .int x2)]) hx hb dX0_leastMode_3 hl (by decide) rfl (fun ls hl => ?_)
  have lp10 : ∀ (fn : Nat → Int32) (fs : Nat → Int32) (cp : Int32) (v1 : Int32) (v2 : Int32), ∀ (k : Nat) (v3 : Int32) (v4 : Int32) (H : Heap) (locs : List Loc) (ls : Array Slot) (o : Int32), lv_has ls 6 [(3, .int v3), (4, .int v4), (1, .int v1), (2, .int v2), (0, .ref h)] → va_P D vwCl (wC h an az cN cS fn fs cp) H → va_D A (wC h an az cN cS fn fs cp) → va_S A s.heap H locs → fX0_leastMode_L5 fn fs cp v1 v2 k v3 v4 = some o → (∀ (H : Heap) (locs : List Loc) (ls : Array Slot), lv_has ls 6 [(3, .int o)] → va_P D vwCl (wC h an az cN cS fn fs cp) H → va_D A (wC h an az cN cS fn fs cp) → va_S A s.heap H locs → W p l e (headSpec wsX0_leastMode (rmD 1)).room s m ([.ref h, .int x1, .int x2] : List Value).toArray below meth cd H locs 0 0 (QI D below ([.ref h, .int x1, .int x2] : List Value).toArray s A R (wC h an az cN cS fn fs cp)) (F0 m 48 ls [])) → W p l e (headSpec wsX0_leastMode (rmD 1)).room s m ([.ref h, .int x1, .int x2] : List Value).toArray below meth cd H locs 0 0 (QI D below ([.ref h, .int x1, .int x2] : List Value).toArray s A R (wC h an az cN cS fn fs cp)) (F0 m 5 ls []) := by
    intro fn fs cp v1 v2
    intro k
    induction k with
    | zero =>
      intro v3 v4 H locs ls o hl hP hD hS hf
      exact absurd hf (by simp [fX0_leastMode_L5])
    | succ k ih =>
      intro v3 v4 H locs ls o hl hP hD hS hf kont
      rw [fX0_leastMode_L5] at hf
      refine lv_iload hx hb dX0_leastMode_5 (lv_at hl 1 rfl) ?_
      refine lv_bipush (v := (6 : Int32)) hx hb dX0_leastMode_7 (by decide) ?_
      refine lv_icmp_ge (tgt := 48) hx hb dX0_leastMode_9 (by decide) (fun c1 => ?_) (fun c1 => ?_)
      · rw [if_pos c1] at hf
        obtain rfl := Option.some.inj hf
        exact kont _ _ _ (lv_sub hl [0] rfl) hP hD hS
      · rw [if_neg c1] at hf
        refine lv_aload_n hx hb dX0_leastMode_12 rfl (lv_at hl 4 rfl) ?_
        refine lv_iload hx hb dX0_leastMode_13 (lv_at hl 1 rfl) ?_
        refine lv_iload_n hx hb dX0_leastMode_15 rfl (lv_at hl 2 rfl) ?_
        refine lv_iload_n hx hb dX0_leastMode_16 rfl (lv_at hl 3 rfl) ?_
        obtain ⟨R2, hc3, hf⟩ := b_inv hf
        have hk := kall (wc' := (wC h an az cN cS fn fs cp)) hP hD hS hA rfl
        refine k_goI (va_runV (As := [.int v4, .int v1, .int v2]) (rest := []) ⟨hx, hb, hml, hown, hts⟩ (kX0_integerFor l D h an az cN cS fn fs cp v4 v1 v2 hc3 _) (cwV 3 hts gX0_leastMode_X0_integerFor rfl rfl rfl (by decide +kernel) ⟨Nat.le_of_ble_eq_true rfl, Nat.le_of_ble_eq_true rfl⟩) (k_preV (q0 := 0) (ci := 0) hk hK NT_bl NT_u rfl rfl rfl) rfl rfl hl.1 rfl (lv_room (Nat.le_of_ble_eq_true rfl)) dX0_leastMode_17 ⟨Nat.zero_le _, Nat.zero_le _⟩) hk hS (fun H locs hP hD hS => ?_)
        refine lv_istore (lv' := [(5, .int R2), (3, .int v3), (4, .int v4), (1, .int v1), (2, .int v2), (0, .ref h)]) hx hb dX0_leastMode_20 hl (by decide) rfl (fun ls hl => ?_)
        refine lv_iload hx hb dX0_leastMode_22 (lv_at hl 0 rfl) ?_
        refine lv_if_lt (tgt := 42) hx hb dX0_leastMode_24 (by decide) (fun c4 => ?_) (fun c4 => ?_)
        · rw [if_pos c4] at hf
          refine lv_iinc (v := (v4 + (1 : Int32))) (lv' := [(4, .int (v4 + (1 : Int32))), (5, .int R2), (3, .int v3), (1, .int v1), (2, .int v2), (0, .ref h)]) hx hb dX0_leastMode_42 hl (k := 2) rfl rfl (by decide) rfl (fun ls hl => ?_)
          refine lv_goto (tgt := 5) hx hb dX0_leastMode_45 (by decide) ?_
          exact ih v3 (v4 + (1 : Int32)) _ _ _ o (lv_sub hl [2, 0, 3, 4, 5] rfl) hP hD hS hf kont
        · rw [if_neg c4] at hf
          refine lv_iload hx hb dX0_leastMode_27 (lv_at hl 0 rfl) ?_
          refine lv_aload_n hx hb dX0_leastMode_29 rfl (lv_at hl 5 rfl) ?_
          refine lv_iload_n hx hb dX0_leastMode_30 rfl (lv_at hl 1 rfl) ?_
          refine lv_iload_n hx hb dX0_leastMode_31 rfl (lv_at hl 3 rfl) ?_
          refine lv_iload_n hx hb dX0_leastMode_32 rfl (lv_at hl 4 rfl) ?_
          obtain ⟨R5, hc6, hf⟩ := b_inv hf
          have hk := kall (wc' := (wC h an az cN cS fn fs cp)) hP hD hS hA rfl
          refine k_goI (va_runV (As := [.int v3, .int v1, .int v2]) (rest := [.int R2]) ⟨hx, hb, hml, hown, hts⟩ (kX0_integerFor l D h an az cN cS fn fs cp v3 v1 v2 hc6 _) (cwV 3 hts gX0_leastMode_X0_integerFor rfl rfl rfl (by decide +kernel) ⟨Nat.le_of_ble_eq_true rfl, Nat.le_of_ble_eq_true rfl⟩) (k_preV (q0 := 0) (ci := 0) hk hK NT_bl NT_u rfl rfl rfl) rfl rfl hl.1 rfl (lv_room (Nat.le_of_ble_eq_true rfl)) dX0_leastMode_33 ⟨Nat.zero_le _, Nat.zero_le _⟩) hk hS (fun H locs hP hD hS => ?_)
          refine lv_icmp_ge (tgt := 42) hx hb dX0_leastMode_36 (by decide) (fun c7 => ?_) (fun c7 => ?_)
          · rw [if_pos c7] at hf
            refine lv_iinc (v := (v4 + (1 : Int32))) (lv' := [(4, .int (v4 + (1 : Int32))), (5, .int R2), (3, .int v3), (1, .int v1), (2, .int v2), (0, .ref h)]) hx hb dX0_leastMode_42 hl (k := 2) rfl rfl (by decide) rfl (fun ls hl => ?_)
            refine lv_goto (tgt := 5) hx hb dX0_leastMode_45 (by decide) ?_
            exact ih v3 (v4 + (1 : Int32)) _ _ _ o (lv_sub hl [2, 0, 3, 4, 5] rfl) hP hD hS hf kont
          · rw [if_neg c7] at hf
            refine lv_iload hx hb dX0_leastMode_39 (lv_at hl 2 rfl) ?_
            refine lv_istore_n (lv' := [(3, .int v4), (5, .int R2), (4, .int v4), (1, .int v1), (2, .int v2), (0, .ref h)]) hx hb dX0_leastMode_41 rfl hl (by decide) rfl (fun ls hl => ?_)
            refine lv_iinc (v := (v4 + (1 : Int32))) (lv' := [(4, .int (v4 + (1 : Int32))), (3, .int v4), (5, .int R2), (1, .int v1), (2, .int v2), (0, .ref h)]) hx hb dX0_leastMode_42 hl (k := 2) rfl rfl (by decide) rfl (fun ls hl => ?_)
            refine lv_goto (tgt := 5) hx hb dX0_leastMode_45 (by decide) ?_
            exact ih v4 (v4 + (1 : Int32)) _ _ _ o (lv_sub hl [1, 0, 3, 4, 5] rfl) hP hD hS hf kont
  obtain ⟨R8, hc9, hf⟩ := b_inv hf
  refine lp10 fn fs cp x1 x2 FU (0 : Int32) (1 : Int32) _ _ _ R8 (lv_sub hl [1, 0, 3, 4, 2] rfl) hP hD hS hc9 (fun H locs ls hl hP hD hS => ?_)
  refine lv_iload_n hx hb dX0_leastMode_48 rfl (lv_at hl 0 rfl) ?_
  obtain rfl := Option.some.inj hf
  exact k_retI hx hb hr hlocks hP hS dX0_leastMode_49

noncomputable def fX0_addressFor (fn : Nat → Int32) (fs : Nat → Int32) (cp : Int32) (x1 : Int32) (x2 : Int32) (x3 : Int32) : Option (Int64) :=
  if x1 < (2 : Int32) then
    if x1 = (1 : Int32) then
      some ((x3 - x2).toInt64)
    else
      some x2.toInt64
  else
    if (6 : Int32) ≤ x1 then
      if x1 = (1 : Int32) then
        some ((x3 - x2).toInt64)
      else
        some x2.toInt64
    else
      if inb (x1 - (2 : Int32)) 4 = true then
      some ((fn (x1 - (2 : Int32)).toNatClampNeg).toInt64 + x2.toInt64)
      else none

set_option maxHeartbeats 4000000 in
set_option maxRecDepth 100000 in
theorem kX0_addressFor (l : Launch) (D : va_G) (h : Nat) (an : Nat) (az : Nat) (cN : ClassId) (cS : ClassId) (fn : Nat → Int32) (fs : Nat → Int32) (cp : Int32) (x1 : Int32) (x2 : Int32) (x3 : Int32) {R : Int64} (hf : fX0_addressFor fn fs cp x1 x2 x3 = some R) : ML l yX0_addressFor wsX0_addressFor (rmD 0) D ([.ref h, .int x1, .int x2, .int x3] : List Value) (wC h an az cN cS fn fs cp) [(cN, .int), (cS, .int)] NT R (wC h an az cN cS fn fs cp) := by
  refine ML.mk (cc := cX0_addressFor) (maxL := 4) (ret := (some .long)) (by first | decide | decide +kernel) rfl (Nat.le_of_ble_eq_true rfl) ?_
  intro p e s m below meth cd A ls hE
  obtain ⟨hx, hb, hr, hml, hts, hown, hlocks, hP, hK, hD, hA, hN, hAe, hl⟩ := hE
  have hown : s.vm.findClass RX0 = some m.cls := hown
  have hS : va_S A s.heap s.heap [] := va_S.rf
  have hl : lv_has ls 4 [(0, .ref h), (1, .int x1), (2, .int x2), (3, .int x3)] := hl
  rw [fX0_addressFor] at hf
  refine lv_iload_n hx hb dX0_addressFor_0 rfl (lv_at hl 1 rfl) ?_
  refine lv_iconst (v := (2 : Int32)) hx hb dX0_addressFor_1 (by decide) ?_
  refine lv_icmp_lt (tgt := 24) hx hb dX0_addressFor_2 (by decide) (fun c1 => ?_) (fun c1 => ?_)
  · rw [if_pos c1] at hf
    refine lv_iload_n hx hb dX0_addressFor_24 rfl (lv_at hl 1 rfl) ?_
    refine lv_iconst (v := (1 : Int32)) hx hb dX0_addressFor_25 (by decide) ?_
    refine lv_icmp_ne (tgt := 36) hx hb dX0_addressFor_26 (by decide) (fun c2 => ?_) (fun c2 => ?_)
    · rw [if_neg c2] at hf
      refine lv_iload_n hx hb dX0_addressFor_36 rfl (lv_at hl 2 rfl) ?_
      refine lv_i2l (v := x2.toInt64) hx hb dX0_addressFor_37 rfl ?_
      obtain rfl := Option.some.inj hf
      exact k_retL hx hb hr hlocks hP hS dX0_addressFor_38
    · rw [if_pos c2] at hf
      refine lv_iload_n hx hb dX0_addressFor_29 rfl (lv_at hl 3 rfl) ?_
      refine lv_iload_n hx hb dX0_addressFor_30 rfl (lv_at hl 2 rfl) ?_
      refine lv_isub hx hb dX0_addressFor_31 ?_
      refine lv_i2l (v := (x3 - x2).toInt64) hx hb dX0_addressFor_32 rfl ?_
      refine lv_goto (tgt := 38) hx hb dX0_addressFor_33 (by decide) ?_
      obtain rfl := Option.some.inj hf
      exact k_retL hx hb hr hlocks hP hS dX0_addressFor_38
  · rw [if_neg c1] at hf
    refine lv_iload_n hx hb dX0_addressFor_5 rfl (lv_at hl 1 rfl) ?_
    refine lv_bipush (v := (6 : Int32)) hx hb dX0_addressFor_6 (by decide) ?_
    refine lv_icmp_ge (tgt := 24) hx hb dX0_addressFor_8 (by decide) (fun c3 => ?_) (fun c3 => ?_)
    · rw [if_pos c3] at hf
      refine lv_iload_n hx hb dX0_addressFor_24 rfl (lv_at hl 1 rfl) ?_
      refine lv_iconst (v := (1 : Int32)) hx hb dX0_addressFor_25 (by decide) ?_
      refine lv_icmp_ne (tgt := 36) hx hb dX0_addressFor_26 (by decide) (fun c4 => ?_) (fun c4 => ?_)
      · rw [if_neg c4] at hf
        refine lv_iload_n hx hb dX0_addressFor_36 rfl (lv_at hl 2 rfl) ?_
        refine lv_i2l (v := x2.toInt64) hx hb dX0_addressFor_37 rfl ?_
        obtain rfl := Option.some.inj hf
        exact k_retL hx hb hr hlocks hP hS dX0_addressFor_38
      · rw [if_pos c4] at hf
        refine lv_iload_n hx hb dX0_addressFor_29 rfl (lv_at hl 3 rfl) ?_
        refine lv_iload_n hx hb dX0_addressFor_30 rfl (lv_at hl 2 rfl) ?_
        refine lv_isub hx hb dX0_addressFor_31 ?_
        refine lv_i2l (v := (x3 - x2).toInt64) hx hb dX0_addressFor_32 rfl ?_
        refine lv_goto (tgt := 38) hx hb dX0_addressFor_33 (by decide) ?_
        obtain rfl := Option.some.inj hf
        exact k_retL hx hb hr hlocks hP hS dX0_addressFor_38
    · rw [if_neg c3] at hf
      refine lv_aload_n hx hb dX0_addressFor_11 rfl (lv_at hl 0 rfl) ?_
      refine va_get (D := D) (ci := 0) (v := .ref an) (C := RX0) (T := TX0) (N := 3) hx hb hts (fun w h => List.mem_cons_of_mem _ (List.mem_append_right _ h)) hown hK hP 0 rfl rfl 0 (by decide) (hts (.fieldLink RX0 9 "DeltaWindows$Caches" "near" "[I") (List.mem_of_getElem? (i := 1) rfl)) (fun _ h9 => h9) rfl dX0_addressFor_12 ?_
      refine lv_iload_n hx hb dX0_addressFor_15 rfl (lv_at hl 1 rfl) ?_
      refine lv_iconst (v := (2 : Int32)) hx hb dX0_addressFor_16 (by decide) ?_
      refine lv_isub hx hb dX0_addressFor_17 ?_
      obtain ⟨g5, hf⟩ := g_inv hf
      refine va_iald (f := fn) hx hb hK hP 1 0 rfl rfl (inb_vp g5) dX0_addressFor_18 ?_
      refine lv_i2l (v := (fn (x1 - (2 : Int32)).toNatClampNeg).toInt64) hx hb dX0_addressFor_19 rfl ?_
      refine lv_iload_n hx hb dX0_addressFor_20 rfl (lv_at hl 2 rfl) ?_
      refine lv_i2l (v := x2.toInt64) hx hb dX0_addressFor_21 rfl ?_
      refine lv_ladd hx hb dX0_addressFor_22 ?_
      obtain rfl := Option.some.inj hf
      exact k_retL hx hb hr hlocks hP hS dX0_addressFor_23

noncomputable def fX0_become (fn : Nat → Int32) (fs : Nat → Int32) (cp : Int32) (fn2 : Nat → Int32) (fs2 : Nat → Int32) (cp2 : Int32) : Option ((Nat → Int32) × (Nat → Int32) × Int32 × Int32) :=
  some ((va_cpy fn2 fn (0 : Int32).toNatClampNeg (0 : Int32).toNatClampNeg (4 : Int32).toNatClampNeg), (va_cpy fs2 fs (0 : Int32).toNatClampNeg (0 : Int32).toNatClampNeg (768 : Int32).toNatClampNeg), cp2, cp2)

set_option maxHeartbeats 4000000 in
set_option maxRecDepth 100000 in
theorem kX0_become (l : Launch) (D : va_G) (h : Nat) (an : Nat) (az : Nat) (cN : ClassId) (cS : ClassId) (h2 : Nat) (an2 : Nat) (az2 : Nat) (cN2 : ClassId) (cS2 : ClassId) (fn : Nat → Int32) (fs : Nat → Int32) (cp : Int32) (fn2 : Nat → Int32) (fs2 : Nat → Int32) (cp2 : Int32) {R : (Nat → Int32) × (Nat → Int32) × Int32 × Int32} (hf : fX0_become fn fs cp fn2 fs2 cp2 = some R) : MV l yX0_become wsX0_become (rmD 1) D ([.ref h, .ref h2] : List Value) (wCC h an az cN cS h2 an2 az2 cN2 cS2 fn fs cp fn2 fs2 cp2) [(cN, .int), (cS, .int), (cN2, .int), (cS2, .int)] NT (wCC h an az cN cS h2 an2 az2 cN2 cS2 R.1 R.2.1 R.2.2.1 fn2 fs2 R.2.2.2) := by
  refine MV.mk (cc := cX0_become) (maxL := 2) (ret := none) (by first | decide | decide +kernel) rfl (Nat.le_of_ble_eq_true rfl) ?_
  intro p e s m below meth cd A ls hE
  obtain ⟨hx, hb, hr, hml, hts, hown, hlocks, hP, hK, hD, hA, hN, hAe, hl⟩ := hE
  have hown : s.vm.findClass RX0 = some m.cls := hown
  have hS : va_S A s.heap s.heap [] := va_S.rf
  have hl : lv_has ls 2 [(0, .ref h), (1, .ref h2)] := hl
  rw [fX0_become] at hf
  refine lv_aload_n hx hb dX0_become_0 rfl (lv_at hl 1 rfl) ?_
  refine va_get (D := D) (ci := 0) (v := .ref an2) (C := RX0) (T := TX0) (N := 3) hx hb hts (fun w h => List.mem_cons_of_mem _ (List.mem_append_right _ h)) hown hK hP 3 rfl rfl 0 (by decide) (hts (.fieldLink RX0 9 "DeltaWindows$Caches" "near" "[I") (List.mem_of_getElem? (i := 1) rfl)) (fun _ h9 => h9) rfl dX0_become_1 ?_
  refine lv_iconst (v := (0 : Int32)) hx hb dX0_become_4 (by decide) ?_
  refine lv_aload_n hx hb dX0_become_5 rfl (lv_at hl 0 rfl) ?_
  refine va_get (D := D) (ci := 0) (v := .ref an) (C := RX0) (T := TX0) (N := 3) hx hb hts (fun w h => List.mem_cons_of_mem _ (List.mem_append_right _ h)) hown hK hP 0 rfl rfl 0 (by decide) (hts (.fieldLink RX0 9 "DeltaWindows$Caches" "near" "[I") (List.mem_of_getElem? (i := 1) rfl)) (fun _ h9 => h9) rfl dX0_become_6 ?_
  refine lv_iconst (v := (0 : Int32)) hx hb dX0_become_9 (by decide) ?_
  refine lv_iconst (v := (4 : Int32)) hx hb dX0_become_10 (by decide) ?_
  refine va_copyi (ty := .int) (f := fn2) (g := fn) hx hb (by rw [hml]; exact hl.1.symm) hown (hts (.methodLink RX0 38 arraycopyName) (List.mem_of_getElem? (i := 2) rfl)) (hts (.native arraycopyName) (List.mem_of_getElem? (i := 3) rfl)) (hts (.static arraycopyName) (List.mem_of_getElem? (i := 4) rfl)) (hts (.initialized "java/lang/System") (List.mem_of_getElem? (i := 5) rfl)) hK hP hD hS 4 1 2 0 rfl rfl rfl rfl rfl (by decide) (by decide) (by decide) (by decide) (by decide) (fun i _ => rfl) (Nat.le_of_ble_eq_true rfl) (Nat.le_of_ble_eq_true rfl) dX0_become_11 (fun H locs hP hD hS => ?_)
  have hP : va_P D vwCl (wCC h an az cN cS h2 an2 az2 cN2 cS2 (va_cpy fn2 fn (0 : Int32).toNatClampNeg (0 : Int32).toNatClampNeg (4 : Int32).toNatClampNeg) fs cp fn2 fs2 cp2) H := hP
  have hD : va_D A (wCC h an az cN cS h2 an2 az2 cN2 cS2 (va_cpy fn2 fn (0 : Int32).toNatClampNeg (0 : Int32).toNatClampNeg (4 : Int32).toNatClampNeg) fs cp fn2 fs2 cp2) := hD
  refine lv_aload_n hx hb dX0_become_14 rfl (lv_at hl 1 rfl) ?_
  refine va_get (D := D) (ci := 0) (v := .ref az2) (C := RX0) (T := TX0) (N := 3) hx hb hts (fun w h => List.mem_cons_of_mem _ (List.mem_append_right _ h)) hown hK hP 3 rfl rfl 1 (by decide) (hts (.fieldLink RX0 15 "DeltaWindows$Caches" "same" "[I") (List.mem_of_getElem? (i := 6) rfl)) (fun _ h9 => h9) rfl dX0_become_15 ?_
  refine lv_iconst (v := (0 : Int32)) hx hb dX0_become_18 (by decide) ?_
  refine lv_aload_n hx hb dX0_become_19 rfl (lv_at hl 0 rfl) ?_
  refine va_get (D := D) (ci := 0) (v := .ref az) (C := RX0) (T := TX0) (N := 3) hx hb hts (fun w h => List.mem_cons_of_mem _ (List.mem_append_right _ h)) hown hK hP 0 rfl rfl 1 (by decide) (hts (.fieldLink RX0 15 "DeltaWindows$Caches" "same" "[I") (List.mem_of_getElem? (i := 6) rfl)) (fun _ h9 => h9) rfl dX0_become_20 ?_
  refine lv_iconst (v := (0 : Int32)) hx hb dX0_become_23 (by decide) ?_
  refine lv_sipush (v := (768 : Int32)) hx hb dX0_become_24 (by decide) ?_
  refine va_copyi (ty := .int) (f := fs2) (g := fs) hx hb (by rw [hml]; exact hl.1.symm) hown (hts (.methodLink RX0 38 arraycopyName) (List.mem_of_getElem? (i := 2) rfl)) (hts (.native arraycopyName) (List.mem_of_getElem? (i := 3) rfl)) (hts (.static arraycopyName) (List.mem_of_getElem? (i := 4) rfl)) (hts (.initialized "java/lang/System") (List.mem_of_getElem? (i := 5) rfl)) hK hP hD hS 5 2 3 1 rfl rfl rfl rfl rfl (by decide) (by decide) (by decide) (by decide) (by decide) (fun i _ => rfl) (Nat.le_of_ble_eq_true rfl) (Nat.le_of_ble_eq_true rfl) dX0_become_27 (fun H locs hP hD hS => ?_)
  have hP : va_P D vwCl (wCC h an az cN cS h2 an2 az2 cN2 cS2 (va_cpy fn2 fn (0 : Int32).toNatClampNeg (0 : Int32).toNatClampNeg (4 : Int32).toNatClampNeg) (va_cpy fs2 fs (0 : Int32).toNatClampNeg (0 : Int32).toNatClampNeg (768 : Int32).toNatClampNeg) cp fn2 fs2 cp2) H := hP
  have hD : va_D A (wCC h an az cN cS h2 an2 az2 cN2 cS2 (va_cpy fn2 fn (0 : Int32).toNatClampNeg (0 : Int32).toNatClampNeg (4 : Int32).toNatClampNeg) (va_cpy fs2 fs (0 : Int32).toNatClampNeg (0 : Int32).toNatClampNeg (768 : Int32).toNatClampNeg) cp fn2 fs2 cp2) := hD
  refine lv_aload_n hx hb dX0_become_30 rfl (lv_at hl 0 rfl) ?_
  refine lv_aload_n hx hb dX0_become_31 rfl (lv_at hl 1 rfl) ?_
  refine va_get (D := D) (ci := 0) (v := .int cp2) (C := RX0) (T := TX0) (N := 3) hx hb hts (fun w h => List.mem_cons_of_mem _ (List.mem_append_right _ h)) hown hK hP 3 rfl rfl 2 (by decide) (hts (.fieldLink RX0 18 "DeltaWindows$Caches" "copies" "I") (List.mem_of_getElem? (i := 7) rfl)) (fun _ h9 => h9) rfl dX0_become_32 ?_
  refine va_put (D := D) (ci := 0) (v := .int cp2) (ty := .int) (C := RX0) (T := TX0) (N := 3) hx hb hts (fun w h => List.mem_cons_of_mem _ (List.mem_append_right _ h)) tyX0 tyX0_ok nmX0 hown hK hP hD hS 0 rfl rfl 2 (by decide) (hts (.fieldLink RX0 18 "DeltaWindows$Caches" "copies" "I") (List.mem_of_getElem? (i := 7) rfl)) (fun _ h9 => h9) rfl (by decide +kernel) rfl rfl (Nat.le_of_ble_eq_true rfl) dX0_become_35 (fun H locs hP hD hS => ?_)
  have hP : va_P D vwCl (wCC h an az cN cS h2 an2 az2 cN2 cS2 (va_cpy fn2 fn (0 : Int32).toNatClampNeg (0 : Int32).toNatClampNeg (4 : Int32).toNatClampNeg) (va_cpy fs2 fs (0 : Int32).toNatClampNeg (0 : Int32).toNatClampNeg (768 : Int32).toNatClampNeg) cp2 fn2 fs2 cp2) H := hP
  have hD : va_D A (wCC h an az cN cS h2 an2 az2 cN2 cS2 (va_cpy fn2 fn (0 : Int32).toNatClampNeg (0 : Int32).toNatClampNeg (4 : Int32).toNatClampNeg) (va_cpy fs2 fs (0 : Int32).toNatClampNeg (0 : Int32).toNatClampNeg (768 : Int32).toNatClampNeg) cp2 fn2 fs2 cp2) := hD
  obtain rfl := Option.some.inj hf
  exact k_retV hx hb hr hlocks hP hS dX0_become_38
