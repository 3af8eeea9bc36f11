noncomputable def fX1_partOfSingle (x0 : Int32) (x1 : Int32) : Option (Int32) :=
  if x0 = 0 then
    if x1 = 0 then
      some (2 : Int32)
    else
      some (0 : Int32)
  else
    if (19 : Int32) ≤ x0 then
      (if ((x0 - (19 : Int32)) - (x0 - (19 : Int32)) / (16 : Int32) * (16 : Int32)) = 0 then
          some (0 : Int32)
        else
          some ((((x0 - (19 : Int32)) - (x0 - (19 : Int32)) / (16 : Int32) * (16 : Int32)) + (4 : Int32)) - (1 : Int32)) : Option (Int32)).bind fun R5 =>
      if x1 = 0 then
        some (3 : Int32)
      else
        if x1 = (1 : Int32) then
          some R5
        else
          some ((x0 - (19 : Int32)) / (16 : Int32))
    else
      if x1 = 0 then
        some (1 : Int32)
      else
        if x1 = (1 : Int32) then
          some (x0 - (1 : Int32))
        else
          some (0 : Int32)

set_option maxHeartbeats 4000000 in
set_option maxRecDepth 100000 in
theorem kX1_partOfSingle (l : Launch) (D : va_G) (x0 : Int32) (x1 : Int32) {R : Int32} (hf : fX1_partOfSingle x0 x1 = some R) : MI l yX1_partOfSingle wsX1_partOfSingle (rmD 0) D ([.int x0, .int x1] : List Value) ([] : va_W) [] NT R ([] : va_W) := by
  refine MI.mk (cc := cX1_partOfSingle) (maxL := 5) (ret := (some .int)) (by first | decide | decide +kernel) rfl (Nat.le_of_ble_eq_true rfl) ?_
  intro p e s m below meth cd A ls hE
  obtain ⟨hx, hb, hr, hml, hts, hown, hlocks, hP, hK, hD, hA, hN, hAe, hl⟩ := hE
  have hown : s.vm.findClass RX1 = some m.cls := hown
  have hS : va_S A s.heap s.heap [] := va_S.rf
  have hl : lv_has ls 5 [(0, .int x0), (1, .int x1)] := hl
  rw [fX1_partOfSingle] at hf
  refine lv_iload_n hx hb dX1_partOfSingle_0 rfl (lv_at hl 0 rfl) ?_
  refine lv_if_ne (tgt := 14) hx hb dX1_partOfSingle_1 (by decide) (fun c1 => ?_) (fun c1 => ?_)
  · rw [if_neg c1] at hf
    refine lv_iload_n hx hb dX1_partOfSingle_14 rfl (lv_at hl 0 rfl) ?_
    refine lv_bipush (v := (19 : Int32)) hx hb dX1_partOfSingle_15 (by decide) ?_
    refine lv_icmp_ge (tgt := 43) hx hb dX1_partOfSingle_17 (by decide) (fun c2 => ?_) (fun c2 => ?_)
    · rw [if_pos c2] at hf
      refine lv_iload_n hx hb dX1_partOfSingle_43 rfl (lv_at hl 0 rfl) ?_
      refine lv_bipush (v := (19 : Int32)) hx hb dX1_partOfSingle_44 (by decide) ?_
      refine lv_isub hx hb dX1_partOfSingle_46 ?_
      refine lv_bipush (v := (16 : Int32)) hx hb dX1_partOfSingle_47 (by decide) ?_
      refine lv_irem hx hb dX1_partOfSingle_49 (by decide) ?_
      refine lv_istore_n (lv' := [(2, .int ((x0 - (19 : Int32)) - (x0 - (19 : Int32)) / (16 : Int32) * (16 : Int32))), (0, .int x0), (1, .int x1)]) hx hb dX1_partOfSingle_50 rfl hl (by decide) rfl (fun ls hl => ?_)
      refine lv_iload_n hx hb dX1_partOfSingle_51 rfl (lv_at hl 0 rfl) ?_
      obtain ⟨R5, hj11, hf⟩ := b_inv hf
      have kont : ∀ (H : Heap) (locs : List Loc) (ls : Array Slot), lv_has ls 5 [(0, .int x0), (1, .int x1)] → va_P D vwCl ([] : va_W) H → va_D A ([] : va_W) → va_S A s.heap H locs → W p l e (headSpec wsX1_partOfSingle (rmD 0)).room s m ([.int x0, .int x1] : List Value).toArray below meth cd H locs 0 0 (QI D below ([.int x0, .int x1] : List Value).toArray s A R ([] : va_W)) (F0 m 64 ls [.int R5]) := by
        intro H locs ls hl hP hD hS
        refine lv_istore_n (lv' := [(3, .int R5), (0, .int x0), (1, .int x1)]) hx hb dX1_partOfSingle_64 rfl hl (by decide) rfl (fun ls hl => ?_)
        refine lv_iload_n hx hb dX1_partOfSingle_65 rfl (lv_at hl 1 rfl) ?_
        refine lv_bipush (v := (19 : Int32)) hx hb dX1_partOfSingle_66 (by decide) ?_
        refine lv_isub hx hb dX1_partOfSingle_68 ?_
        refine lv_bipush (v := (16 : Int32)) hx hb dX1_partOfSingle_69 (by decide) ?_
        refine lv_idiv hx hb dX1_partOfSingle_71 (by decide) ?_
        refine lv_istore (lv' := [(4, .int ((x0 - (19 : Int32)) / (16 : Int32))), (3, .int R5), (0, .int x0), (1, .int x1)]) hx hb dX1_partOfSingle_72 hl (by decide) rfl (fun ls hl => ?_)
        refine lv_iload_n hx hb dX1_partOfSingle_74 rfl (lv_at hl 3 rfl) ?_
        refine lv_if_ne (tgt := 82) hx hb dX1_partOfSingle_75 (by decide) (fun c6 => ?_) (fun c6 => ?_)
        · rw [if_neg c6] at hf
          refine lv_iload_n hx hb dX1_partOfSingle_82 rfl (lv_at hl 3 rfl) ?_
          refine lv_iconst (v := (1 : Int32)) hx hb dX1_partOfSingle_83 (by decide) ?_
          refine lv_icmp_ne (tgt := 91) hx hb dX1_partOfSingle_84 (by decide) (fun c7 => ?_) (fun c7 => ?_)
          · rw [if_neg c7] at hf
            refine lv_iload hx hb dX1_partOfSingle_91 (lv_at hl 0 rfl) ?_
            obtain rfl := Option.some.inj hf
            exact k_retI hx hb hr hlocks hP hS dX1_partOfSingle_93
          · rw [if_pos c7] at hf
            refine lv_iload_n hx hb dX1_partOfSingle_87 rfl (lv_at hl 1 rfl) ?_
            refine lv_goto (tgt := 93) hx hb dX1_partOfSingle_88 (by decide) ?_
            obtain rfl := Option.some.inj hf
            exact k_retI hx hb hr hlocks hP hS dX1_partOfSingle_93
        · rw [if_pos c6] at hf
          refine lv_iconst (v := (3 : Int32)) hx hb dX1_partOfSingle_78 (by decide) ?_
          refine lv_goto (tgt := 93) hx hb dX1_partOfSingle_79 (by decide) ?_
          obtain rfl := Option.some.inj hf
          exact k_retI hx hb hr hlocks hP hS dX1_partOfSingle_93
      refine lv_if_ne (tgt := 59) hx hb dX1_partOfSingle_52 (by decide) (fun c4 => ?_) (fun c4 => ?_)
      · rw [if_neg c4] at hj11
        refine lv_iload_n hx hb dX1_partOfSingle_59 rfl (lv_at hl 0 rfl) ?_
        refine lv_iconst (v := (4 : Int32)) hx hb dX1_partOfSingle_60 (by decide) ?_
        refine lv_iadd hx hb dX1_partOfSingle_61 ?_
        refine lv_iconst (v := (1 : Int32)) hx hb dX1_partOfSingle_62 (by decide) ?_
        refine lv_isub hx hb dX1_partOfSingle_63 ?_
        obtain rfl := Option.some.inj hj11
        exact kont _ _ _ (lv_sub hl [1, 2] rfl) hP hD hS
      · rw [if_pos c4] at hj11
        refine lv_iconst (v := (0 : Int32)) hx hb dX1_partOfSingle_55 (by decide) ?_
        refine lv_goto (tgt := 64) hx hb dX1_partOfSingle_56 (by decide) ?_
        obtain rfl := Option.some.inj hj11
        exact kont _ _ _ (lv_sub hl [1, 2] rfl) hP hD hS
    · rw [if_neg c2] at hf
      refine lv_iload_n hx hb dX1_partOfSingle_20 rfl (lv_at hl 0 rfl) ?_
      refine lv_iconst (v := (1 : Int32)) hx hb dX1_partOfSingle_21 (by decide) ?_
      refine lv_isub hx hb dX1_partOfSingle_22 ?_
      refine lv_istore_n (lv' := [(2, .int (x0 - (1 : Int32))), (0, .int x0), (1, .int x1)]) hx hb dX1_partOfSingle_23 rfl hl (by decide) rfl (fun ls hl => ?_)
      refine lv_iload_n hx hb dX1_partOfSingle_24 rfl (lv_at hl 2 rfl) ?_
      refine lv_if_ne (tgt := 32) hx hb dX1_partOfSingle_25 (by decide) (fun c8 => ?_) (fun c8 => ?_)
      · rw [if_neg c8] at hf
        refine lv_iload_n hx hb dX1_partOfSingle_32 rfl (lv_at hl 2 rfl) ?_
        refine lv_iconst (v := (1 : Int32)) hx hb dX1_partOfSingle_33 (by decide) ?_
        refine lv_icmp_ne (tgt := 41) hx hb dX1_partOfSingle_34 (by decide) (fun c9 => ?_) (fun c9 => ?_)
        · rw [if_neg c9] at hf
          refine lv_iconst (v := (0 : Int32)) hx hb dX1_partOfSingle_41 (by decide) ?_
          obtain rfl := Option.some.inj hf
          exact k_retI hx hb hr hlocks hP hS dX1_partOfSingle_42
        · rw [if_pos c9] at hf
          refine lv_iload_n hx hb dX1_partOfSingle_37 rfl (lv_at hl 0 rfl) ?_
          refine lv_goto (tgt := 42) hx hb dX1_partOfSingle_38 (by decide) ?_
          obtain rfl := Option.some.inj hf
          exact k_retI hx hb hr hlocks hP hS dX1_partOfSingle_42
      · rw [if_pos c8] at hf
        refine lv_iconst (v := (1 : Int32)) hx hb dX1_partOfSingle_28 (by decide) ?_
        refine lv_goto (tgt := 42) hx hb dX1_partOfSingle_29 (by decide) ?_
        obtain rfl := Option.some.inj hf
        exact k_retI hx hb hr hlocks hP hS dX1_partOfSingle_42
  · rw [if_pos c1] at hf
    refine lv_iload_n hx hb dX1_partOfSingle_4 rfl (lv_at hl 1 rfl) ?_
    refine lv_if_ne (tgt := 12) hx hb dX1_partOfSingle_5 (by decide) (fun c10 => ?_) (fun c10 => ?_)
    · rw [if_neg c10] at hf
      refine lv_iconst (v := (0 : Int32)) hx hb dX1_partOfSingle_12 (by decide) ?_
      obtain rfl := Option.some.inj hf
      exact k_retI hx hb hr hlocks hP hS dX1_partOfSingle_13
    · rw [if_pos c10] at hf
      refine lv_iconst (v := (2 : Int32)) hx hb dX1_partOfSingle_8 (by decide) ?_
      refine lv_goto (tgt := 13) hx hb dX1_partOfSingle_9 (by decide) ?_
      obtain rfl := Option.some.inj hf
      exact k_retI hx hb hr hlocks hP hS dX1_partOfSingle_13

noncomputable def fX1_partOfAddCopy (x0 : Int32) (x1 : Int32) (x2 : Int32) (x3 : Int32) : Option (Int32) :=
  if x0 = (0 : Int32) then
    some (1 : Int32)
  else
    if x0 = (1 : Int32) then
      some x1
    else
      if x0 = (2 : Int32) then
        some (0 : Int32)
      else
        if x0 = (3 : Int32) then
          some (3 : Int32)
        else
          if x0 = (4 : Int32) then
            some x2
          else
            if x0 = (5 : Int32) then
              some x3
            else
              some (0 : Int32)

set_option maxHeartbeats 4000000 in
set_option maxRecDepth 100000 in
theorem kX1_partOfAddCopy (l : Launch) (D : va_G) (x0 : Int32) (x1 : Int32) (x2 : Int32) (x3 : Int32) {R : Int32} (hf : fX1_partOfAddCopy x0 x1 x2 x3 = some R) : MI l yX1_partOfAddCopy wsX1_partOfAddCopy (rmD 0) D ([.int x0, .int x1, .int x2, .int x3] : List Value) ([] : va_W) [] NT R ([] : va_W) := by
  refine MI.mk (cc := cX1_partOfAddCopy) (maxL := 4) (ret := (some .int)) (by first | decide | decide +kernel) rfl (Nat.le_of_ble_eq_true rfl) ?_
  intro p e s m below meth cd A ls hE
  obtain ⟨hx, hb, hr, hml, hts, hown, hlocks, hP, hK, hD, hA, hN, hAe, hl⟩ := hE
  have hown : s.vm.findClass RX1 = some m.cls := hown
  have hS : va_S A s.heap s.heap [] := va_S.rf
  have hl : lv_has ls 4 [(0, .int x0), (1, .int x1), (2, .int x2), (3, .int x3)] := hl
  rw [fX1_partOfAddCopy] at hf
  refine lv_iload_n hx hb dX1_partOfAddCopy_0 rfl (lv_at hl 0 rfl) ?_
  by_cases c1 : x0 = (0 : Int32)
  · rw [if_pos c1] at hf
    refine lv_tableIn (tgt := 40) hx hb dX1_partOfAddCopy_1 (by rw [c1]; decide) (by rw [c1]; decide) (by rw [c1]; rfl) (by decide) ?_
    refine lv_iconst (v := (1 : Int32)) hx hb dX1_partOfAddCopy_40 (by decide) ?_
    obtain rfl := Option.some.inj hf
    exact k_retI hx hb hr hlocks hP hS dX1_partOfAddCopy_41
  · rw [if_neg c1] at hf
    by_cases c2 : x0 = (1 : Int32)
    · rw [if_pos c2] at hf
      refine lv_tableIn (tgt := 42) hx hb dX1_partOfAddCopy_1 (by rw [c2]; decide) (by rw [c2]; decide) (by rw [c2]; rfl) (by decide) ?_
      refine lv_iload_n hx hb dX1_partOfAddCopy_42 rfl (lv_at hl 1 rfl) ?_
      obtain rfl := Option.some.inj hf
      exact k_retI hx hb hr hlocks hP hS dX1_partOfAddCopy_43
    · rw [if_neg c2] at hf
      by_cases c3 : x0 = (2 : Int32)
      · rw [if_pos c3] at hf
        refine lv_tableIn (tgt := 50) hx hb dX1_partOfAddCopy_1 (by rw [c3]; decide) (by rw [c3]; decide) (by rw [c3]; rfl) (by decide) ?_
        refine lv_iconst (v := (0 : Int32)) hx hb dX1_partOfAddCopy_50 (by decide) ?_
        obtain rfl := Option.some.inj hf
        exact k_retI hx hb hr hlocks hP hS dX1_partOfAddCopy_51
      · rw [if_neg c3] at hf
        by_cases c4 : x0 = (3 : Int32)
        · rw [if_pos c4] at hf
          refine lv_tableIn (tgt := 44) hx hb dX1_partOfAddCopy_1 (by rw [c4]; decide) (by rw [c4]; decide) (by rw [c4]; rfl) (by decide) ?_
          refine lv_iconst (v := (3 : Int32)) hx hb dX1_partOfAddCopy_44 (by decide) ?_
          obtain rfl := Option.some.inj hf
          exact k_retI hx hb hr hlocks hP hS dX1_partOfAddCopy_45
        · rw [if_neg c4] at hf
          by_cases c5 : x0 = (4 : Int32)
          · rw [if_pos c5] at hf
            refine lv_tableIn (tgt := 46) hx hb dX1_partOfAddCopy_1 (by rw [c5]; decide) (by rw [c5]; decide) (by rw [c5]; rfl) (by decide) ?_
            refine lv_iload_n hx hb dX1_partOfAddCopy_46 rfl (lv_at hl 2 rfl) ?_
            obtain rfl := Option.some.inj hf
            exact k_retI hx hb hr hlocks hP hS dX1_partOfAddCopy_47
          · rw [if_neg c5] at hf
            by_cases c6 : x0 = (5 : Int32)
            · rw [if_pos c6] at hf
              refine lv_tableIn (tgt := 48) hx hb dX1_partOfAddCopy_1 (by rw [c6]; decide) (by rw [c6]; decide) (by rw [c6]; rfl) (by decide) ?_
              refine lv_iload_n hx hb dX1_partOfAddCopy_48 rfl (lv_at hl 3 rfl) ?_
              obtain rfl := Option.some.inj hf
              exact k_retI hx hb hr hlocks hP hS dX1_partOfAddCopy_49
            · rw [if_neg c6] at hf
              refine lv_tableOut (tgt := 50) hx hb dX1_partOfAddCopy_1 (by have := lv_neT (a := 0) c1 (by decide); have := lv_neT (a := 1) c2 (by decide); have := lv_neT (a := 2) c3 (by decide); have := lv_neT (a := 3) c4 (by decide); have := lv_neT (a := 4) c5 (by decide); have := lv_neT (a := 5) c6 (by decide); omega) (by decide) ?_
              refine lv_iconst (v := (0 : Int32)) hx hb dX1_partOfAddCopy_50 (by decide) ?_
              obtain rfl := Option.some.inj hf
              exact k_retI hx hb hr hlocks hP hS dX1_partOfAddCopy_51

noncomputable def fX1_partOfCopyAdd (x0 : Int32) (x1 : Int32) : Option (Int32) :=
  if x0 = (0 : Int32) then
    some (3 : Int32)
  else
    if x0 = (1 : Int32) then
      some (4 : Int32)
    else
      if x0 = (2 : Int32) then
        some x1
      else
        if x0 = (3 : Int32) then
          some (1 : Int32)
        else
          if x0 = (4 : Int32) then
            some (1 : Int32)
          else
            some (0 : Int32)

set_option maxHeartbeats 4000000 in
set_option maxRecDepth 100000 in
theorem kX1_partOfCopyAdd (l : Launch) (D : va_G) (x0 : Int32) (x1 : Int32) {R : Int32} (hf : fX1_partOfCopyAdd x0 x1 = some R) : MI l yX1_partOfCopyAdd wsX1_partOfCopyAdd (rmD 0) D ([.int x0, .int x1] : List Value) ([] : va_W) [] NT R ([] : va_W) := by
  refine MI.mk (cc := cX1_partOfCopyAdd) (maxL := 2) (ret := (some .int)) (by first | decide | decide +kernel) rfl (Nat.le_of_ble_eq_true rfl) ?_
  intro p e s m below meth cd A ls hE
  obtain ⟨hx, hb, hr, hml, hts, hown, hlocks, hP, hK, hD, hA, hN, hAe, hl⟩ := hE
  have hown : s.vm.findClass RX1 = some m.cls := hown
  have hS : va_S A s.heap s.heap [] := va_S.rf
  have hl : lv_has ls 2 [(0, .int x0), (1, .int x1)] := hl
  rw [fX1_partOfCopyAdd] at hf
  refine lv_iload_n hx hb dX1_partOfCopyAdd_0 rfl (lv_at hl 0 rfl) ?_
  by_cases c1 : x0 = (0 : Int32)
  · rw [if_pos c1] at hf
    refine lv_tableIn (tgt := 36) hx hb dX1_partOfCopyAdd_1 (by rw [c1]; decide) (by rw [c1]; decide) (by rw [c1]; rfl) (by decide) ?_
    refine lv_iconst (v := (3 : Int32)) hx hb dX1_partOfCopyAdd_36 (by decide) ?_
    obtain rfl := Option.some.inj hf
    exact k_retI hx hb hr hlocks hP hS dX1_partOfCopyAdd_37
  · rw [if_neg c1] at hf
    by_cases c2 : x0 = (1 : Int32)
    · rw [if_pos c2] at hf
      refine lv_tableIn (tgt := 38) hx hb dX1_partOfCopyAdd_1 (by rw [c2]; decide) (by rw [c2]; decide) (by rw [c2]; rfl) (by decide) ?_
      refine lv_iconst (v := (4 : Int32)) hx hb dX1_partOfCopyAdd_38 (by decide) ?_
      obtain rfl := Option.some.inj hf
      exact k_retI hx hb hr hlocks hP hS dX1_partOfCopyAdd_39
    · rw [if_neg c2] at hf
      by_cases c3 : x0 = (2 : Int32)
      · rw [if_pos c3] at hf
        refine lv_tableIn (tgt := 40) hx hb dX1_partOfCopyAdd_1 (by rw [c3]; decide) (by rw [c3]; decide) (by rw [c3]; rfl) (by decide) ?_
        refine lv_iload_n hx hb dX1_partOfCopyAdd_40 rfl (lv_at hl 1 rfl) ?_
        obtain rfl := Option.some.inj hf
        exact k_retI hx hb hr hlocks hP hS dX1_partOfCopyAdd_41
      · rw [if_neg c3] at hf
        by_cases c4 : x0 = (3 : Int32)
        · rw [if_pos c4] at hf
          refine lv_tableIn (tgt := 42) hx hb dX1_partOfCopyAdd_1 (by rw [c4]; decide) (by rw [c4]; decide) (by rw [c4]; rfl) (by decide) ?_
          refine lv_iconst (v := (1 : Int32)) hx hb dX1_partOfCopyAdd_42 (by decide) ?_
          obtain rfl := Option.some.inj hf
          exact k_retI hx hb hr hlocks hP hS dX1_partOfCopyAdd_43
        · rw [if_neg c4] at hf
          by_cases c5 : x0 = (4 : Int32)
          · rw [if_pos c5] at hf
            refine lv_tableIn (tgt := 44) hx hb dX1_partOfCopyAdd_1 (by rw [c5]; decide) (by rw [c5]; decide) (by rw [c5]; rfl) (by decide) ?_
            refine lv_iconst (v := (1 : Int32)) hx hb dX1_partOfCopyAdd_44 (by decide) ?_
            obtain rfl := Option.some.inj hf
            exact k_retI hx hb hr hlocks hP hS dX1_partOfCopyAdd_45
          · rw [if_neg c5] at hf
            refine lv_tableOut (tgt := 46) hx hb dX1_partOfCopyAdd_1 (by have := lv_neT (a := 0) c1 (by decide); have := lv_neT (a := 1) c2 (by decide); have := lv_neT (a := 2) c3 (by decide); have := lv_neT (a := 3) c4 (by decide); have := lv_neT (a := 4) c5 (by decide); omega) (by decide) ?_
            refine lv_iconst (v := (0 : Int32)) hx hb dX1_partOfCopyAdd_46 (by decide) ?_
            obtain rfl := Option.some.inj hf
            exact k_retI hx hb hr hlocks hP hS dX1_partOfCopyAdd_47

noncomputable def fX1_partOf (x0 : Int32) (x1 : Int32) : Option (Int32) :=
  if (163 : Int32) ≤ x0 then
    if (235 : Int32) ≤ x0 then
      if (247 : Int32) ≤ x0 then
        (fX1_partOfCopyAdd x1 (x0 - (247 : Int32))).bind fun R4 =>
        some R4
      else
        (fX1_partOfAddCopy x1 (((x0 - (235 : Int32)) - (x0 - (235 : Int32)) / (4 : Int32) * (4 : Int32)) + (1 : Int32)) (4 : Int32) (((x0 - (235 : Int32)) / (4 : Int32)) + (6 : Int32))).bind fun R6 =>
        some R6
    else
      (fX1_partOfAddCopy x1 ((((x0 - (163 : Int32)) - (x0 - (163 : Int32)) / (12 : Int32) * (12 : Int32)) / (3 : Int32)) + (1 : Int32)) (((x0 - (163 : Int32)) - (x0 - (163 : Int32)) / (3 : Int32) * (3 : Int32)) + (4 : Int32)) ((x0 - (163 : Int32)) / (12 : Int32))).bind fun R8 =>
      some R8
  else
    if (3 : Int32) ≤ x1 then
      some (0 : Int32)
    else
      (fX1_partOfSingle x0 x1).bind fun R11 =>
      some R11

set_option maxHeartbeats 4000000 in
set_option maxRecDepth 100000 in
theorem kX1_partOf (l : Launch) (D : va_G) (x0 : Int32) (x1 : Int32) {R : Int32} (hf : fX1_partOf x0 x1 = some R) : MI l yX1_partOf wsX1_partOf (rmD 1) D ([.int x0, .int x1] : List Value) ([] : va_W) [] NT R ([] : va_W) := by
  refine MI.mk (cc := cX1_partOf) (maxL := 5) (ret := (some .int)) (by first | decide | decide +kernel) rfl (Nat.le_of_ble_eq_true rfl) ?_
  intro p e s m below meth cd A ls hE
  obtain ⟨hx, hb, hr, hml, hts, hown, hlocks, hP, hK, hD, hA, hN, hAe, hl⟩ := hE
  have hown : s.vm.findClass RX1 = some m.cls := hown
  have hS : va_S A s.heap s.heap [] := va_S.rf
  have hl : lv_has ls 5 [(0, .int x0), (1, .int x1)] := hl
  rw [fX1_partOf] at hf
  refine lv_iload_n hx hb dX1_partOf_0 rfl (lv_at hl 0 rfl) ?_
  refine lv_sipush (v := (163 : Int32)) hx hb dX1_partOf_1 (by decide) ?_
  refine lv_icmp_ge (tgt := 22) hx hb dX1_partOf_4 (by decide) (fun c1 => ?_) (fun c1 => ?_)
  · rw [if_pos c1] at hf
    refine lv_iload_n hx hb dX1_partOf_22 rfl (lv_at hl 0 rfl) ?_
    refine lv_sipush (v := (235 : Int32)) hx hb dX1_partOf_23 (by decide) ?_
    refine lv_icmp_ge (tgt := 63) hx hb dX1_partOf_26 (by decide) (fun c2 => ?_) (fun c2 => ?_)
    · rw [if_pos c2] at hf
      refine lv_iload_n hx hb dX1_partOf_63 rfl (lv_at hl 0 rfl) ?_
      refine lv_sipush (v := (247 : Int32)) hx hb dX1_partOf_64 (by decide) ?_
      refine lv_icmp_ge (tgt := 95) hx hb dX1_partOf_67 (by decide) (fun c3 => ?_) (fun c3 => ?_)
      · rw [if_pos c3] at hf
        refine lv_iload_n hx hb dX1_partOf_95 rfl (lv_at hl 1 rfl) ?_
        refine lv_iload_n hx hb dX1_partOf_96 rfl (lv_at hl 0 rfl) ?_
        refine lv_sipush (v := (247 : Int32)) hx hb dX1_partOf_97 (by decide) ?_
        refine lv_isub hx hb dX1_partOf_100 ?_
        obtain ⟨R4, hc5, hf⟩ := b_inv hf
        have hk := kcut (wc := ([] : va_W)) (wc' := ([] : va_W)) (wf := ([] : va_W)) hP hD hS hA [] rfl (by decide) rfl rfl
        refine k_goI (va_runS (As := [.int x1, .int (x0 - (247 : Int32))]) (rest := []) ⟨hx, hb, hml, hown, hts⟩ (kX1_partOfCopyAdd l D x1 (x0 - (247 : Int32)) hc5 _) ⟨callB_of 2 hts ggX1_partOf_X1_partOfCopyAdd rfl rfl rfl (hts (.initialized RX1) (List.mem_of_getElem? (i := 3) rfl)) (hts (.methodLink RX1 19 yX1_partOfCopyAdd) (List.mem_of_getElem? (i := 8) rfl)) (by decide +kernel) ⟨Nat.le_of_ble_eq_true rfl, Nat.le_of_ble_eq_true rfl⟩, (hts (.static yX1_partOfCopyAdd) (List.mem_of_getElem? (i := 9) rfl))⟩ (k_preS hk (hK.sub [] rfl) NT_bl NT_u) rfl rfl hl.1 rfl (lv_room (Nat.le_of_ble_eq_true rfl)) dX1_partOf_101 ⟨Nat.zero_le _, Nat.zero_le _⟩) hk hS (fun H locs hP hD hS => ?_)
        obtain rfl := Option.some.inj hf
        exact k_retI hx hb hr hlocks hP hS dX1_partOf_104
      · rw [if_neg c3] at hf
        refine lv_iload_n hx hb dX1_partOf_70 rfl (lv_at hl 0 rfl) ?_
        refine lv_sipush (v := (235 : Int32)) hx hb dX1_partOf_71 (by decide) ?_
        refine lv_isub hx hb dX1_partOf_74 ?_
        refine lv_istore_n (lv' := [(2, .int (x0 - (235 : Int32))), (0, .int x0), (1, .int x1)]) hx hb dX1_partOf_75 rfl hl (by decide) rfl (fun ls hl => ?_)
        refine lv_iload_n hx hb dX1_partOf_76 rfl (lv_at hl 0 rfl) ?_
        refine lv_iconst (v := (4 : Int32)) hx hb dX1_partOf_77 (by decide) ?_
        refine lv_idiv hx hb dX1_partOf_78 (by decide) ?_
        refine lv_bipush (v := (6 : Int32)) hx hb dX1_partOf_79 (by decide) ?_
        refine lv_iadd hx hb dX1_partOf_81 ?_
        refine lv_istore_n (lv' := [(3, .int (((x0 - (235 : Int32)) / (4 : Int32)) + (6 : Int32))), (2, .int (x0 - (235 : Int32))), (0, .int x0), (1, .int x1)]) hx hb dX1_partOf_82 rfl hl (by decide) rfl (fun ls hl => ?_)
        refine lv_iload_n hx hb dX1_partOf_83 rfl (lv_at hl 3 rfl) ?_
        refine lv_iload_n hx hb dX1_partOf_84 rfl (lv_at hl 1 rfl) ?_
        refine lv_iconst (v := (4 : Int32)) hx hb dX1_partOf_85 (by decide) ?_
        refine lv_irem hx hb dX1_partOf_86 (by decide) ?_
        refine lv_iconst (v := (1 : Int32)) hx hb dX1_partOf_87 (by decide) ?_
        refine lv_iadd hx hb dX1_partOf_88 ?_
        refine lv_iconst (v := (4 : Int32)) hx hb dX1_partOf_89 (by decide) ?_
        refine lv_iload_n hx hb dX1_partOf_90 rfl (lv_at hl 0 rfl) ?_
        obtain ⟨R6, hc7, hf⟩ := b_inv hf
        have hk := kcut (wc := ([] : va_W)) (wc' := ([] : va_W)) (wf := ([] : va_W)) hP hD hS hA [] rfl (by decide) rfl rfl
        refine k_goI (va_runS (As := [.int x1, .int (((x0 - (235 : Int32)) - (x0 - (235 : Int32)) / (4 : Int32) * (4 : Int32)) + (1 : Int32)), .int (4 : Int32), .int (((x0 - (235 : Int32)) / (4 : Int32)) + (6 : Int32))]) (rest := []) ⟨hx, hb, hml, hown, hts⟩ (kX1_partOfAddCopy l D x1 (((x0 - (235 : Int32)) - (x0 - (235 : Int32)) / (4 : Int32) * (4 : Int32)) + (1 : Int32)) (4 : Int32) (((x0 - (235 : Int32)) / (4 : Int32)) + (6 : Int32)) hc7 _) ⟨callB_of 4 hts ggX1_partOf_X1_partOfAddCopy rfl rfl rfl (hts (.initialized RX1) (List.mem_of_getElem? (i := 3) rfl)) (hts (.methodLink RX1 15 yX1_partOfAddCopy) (List.mem_of_getElem? (i := 5) rfl)) (by decide +kernel) ⟨Nat.le_of_ble_eq_true rfl, Nat.le_of_ble_eq_true rfl⟩, (hts (.static yX1_partOfAddCopy) (List.mem_of_getElem? (i := 6) rfl))⟩ (k_preS hk (hK.sub [] rfl) NT_bl NT_u) rfl rfl hl.1 rfl (lv_room (Nat.le_of_ble_eq_true rfl)) dX1_partOf_91 ⟨Nat.zero_le _, Nat.zero_le _⟩) hk hS (fun H locs hP hD hS => ?_)
        obtain rfl := Option.some.inj hf
        exact k_retI hx hb hr hlocks hP hS dX1_partOf_94
    · rw [if_neg c2] at hf
      refine lv_iload_n hx hb dX1_partOf_29 rfl (lv_at hl 0 rfl) ?_
      refine lv_sipush (v := (163 : Int32)) hx hb dX1_partOf_30 (by decide) ?_
      refine lv_isub hx hb dX1_partOf_33 ?_
      refine lv_istore_n (lv' := [(2, .int (x0 - (163 : Int32))), (0, .int x0), (1, .int x1)]) hx hb dX1_partOf_34 rfl hl (by decide) rfl (fun ls hl => ?_)
      refine lv_iload_n hx hb dX1_partOf_35 rfl (lv_at hl 0 rfl) ?_
      refine lv_bipush (v := (12 : Int32)) hx hb dX1_partOf_36 (by decide) ?_
      refine lv_idiv hx hb dX1_partOf_38 (by decide) ?_
      refine lv_istore_n (lv' := [(3, .int ((x0 - (163 : Int32)) / (12 : Int32))), (2, .int (x0 - (163 : Int32))), (0, .int x0), (1, .int x1)]) hx hb dX1_partOf_39 rfl hl (by decide) rfl (fun ls hl => ?_)
      refine lv_iload_n hx hb dX1_partOf_40 rfl (lv_at hl 1 rfl) ?_
      refine lv_bipush (v := (12 : Int32)) hx hb dX1_partOf_41 (by decide) ?_
      refine lv_irem hx hb dX1_partOf_43 (by decide) ?_
      refine lv_iconst (v := (3 : Int32)) hx hb dX1_partOf_44 (by decide) ?_
      refine lv_idiv hx hb dX1_partOf_45 (by decide) ?_
      refine lv_iconst (v := (1 : Int32)) hx hb dX1_partOf_46 (by decide) ?_
      refine lv_iadd hx hb dX1_partOf_47 ?_
      refine lv_istore (lv' := [(4, .int ((((x0 - (163 : Int32)) - (x0 - (163 : Int32)) / (12 : Int32) * (12 : Int32)) / (3 : Int32)) + (1 : Int32))), (3, .int ((x0 - (163 : Int32)) / (12 : Int32))), (2, .int (x0 - (163 : Int32))), (0, .int x0), (1, .int x1)]) hx hb dX1_partOf_48 hl (by decide) rfl (fun ls hl => ?_)
      refine lv_iload_n hx hb dX1_partOf_50 rfl (lv_at hl 4 rfl) ?_
      refine lv_iload hx hb dX1_partOf_51 (lv_at hl 0 rfl) ?_
      refine lv_iload_n hx hb dX1_partOf_53 rfl (lv_at hl 2 rfl) ?_
      refine lv_iconst (v := (3 : Int32)) hx hb dX1_partOf_54 (by decide) ?_
      refine lv_irem hx hb dX1_partOf_55 (by decide) ?_
      refine lv_iconst (v := (4 : Int32)) hx hb dX1_partOf_56 (by decide) ?_
      refine lv_iadd hx hb dX1_partOf_57 ?_
      refine lv_iload_n hx hb dX1_partOf_58 rfl (lv_at hl 1 rfl) ?_
      obtain ⟨R8, hc9, hf⟩ := b_inv hf
      have hk := kcut (wc := ([] : va_W)) (wc' := ([] : va_W)) (wf := ([] : va_W)) hP hD hS hA [] rfl (by decide) rfl rfl
      refine k_goI (va_runS (As := [.int x1, .int ((((x0 - (163 : Int32)) - (x0 - (163 : Int32)) / (12 : Int32) * (12 : Int32)) / (3 : Int32)) + (1 : Int32)), .int (((x0 - (163 : Int32)) - (x0 - (163 : Int32)) / (3 : Int32) * (3 : Int32)) + (4 : Int32)), .int ((x0 - (163 : Int32)) / (12 : Int32))]) (rest := []) ⟨hx, hb, hml, hown, hts⟩ (kX1_partOfAddCopy l D x1 ((((x0 - (163 : Int32)) - (x0 - (163 : Int32)) / (12 : Int32) * (12 : Int32)) / (3 : Int32)) + (1 : Int32)) (((x0 - (163 : Int32)) - (x0 - (163 : Int32)) / (3 : Int32) * (3 : Int32)) + (4 : Int32)) ((x0 - (163 : Int32)) / (12 : Int32)) hc9 _) ⟨callB_of 4 hts ggX1_partOf_X1_partOfAddCopy rfl rfl rfl (hts (.initialized RX1) (List.mem_of_getElem? (i := 3) rfl)) (hts (.methodLink RX1 15 yX1_partOfAddCopy) (List.mem_of_getElem? (i := 5) rfl)) (by decide +kernel) ⟨Nat.le_of_ble_eq_true rfl, Nat.le_of_ble_eq_true rfl⟩, (hts (.static yX1_partOfAddCopy) (List.mem_of_getElem? (i := 6) rfl))⟩ (k_preS hk (hK.sub [] rfl) NT_bl NT_u) rfl rfl hl.1 rfl (lv_room (Nat.le_of_ble_eq_true rfl)) dX1_partOf_59 ⟨Nat.zero_le _, Nat.zero_le _⟩) hk hS (fun H locs hP hD hS => ?_)
      obtain rfl := Option.some.inj hf
      exact k_retI hx hb hr hlocks hP hS dX1_partOf_62
  · rw [if_neg c1] at hf
    refine lv_iload_n hx hb dX1_partOf_7 rfl (lv_at hl 1 rfl) ?_
    refine lv_iconst (v := (3 : Int32)) hx hb dX1_partOf_8 (by decide) ?_
    refine lv_icmp_ge (tgt := 20) hx hb dX1_partOf_9 (by decide) (fun c10 => ?_) (fun c10 => ?_)
    · rw [if_pos c10] at hf
      refine lv_iconst (v := (0 : Int32)) hx hb dX1_partOf_20 (by decide) ?_
      obtain rfl := Option.some.inj hf
      exact k_retI hx hb hr hlocks hP hS dX1_partOf_21
    · rw [if_neg c10] at hf
      refine lv_iload_n hx hb dX1_partOf_12 rfl (lv_at hl 0 rfl) ?_
      refine lv_iload_n hx hb dX1_partOf_13 rfl (lv_at hl 1 rfl) ?_
      obtain ⟨R11, hc12, hf⟩ := b_inv hf
      have hk := kcut (wc := ([] : va_W)) (wc' := ([] : va_W)) (wf := ([] : va_W)) hP hD hS hA [] rfl (by decide) rfl rfl
      refine k_goI (va_runS (As := [.int x0, .int x1]) (rest := []) ⟨hx, hb, hml, hown, hts⟩ (kX1_partOfSingle l D x0 x1 hc12 _) ⟨callB_of 2 hts ggX1_partOf_X1_partOfSingle rfl rfl rfl (hts (.initialized RX1) (List.mem_of_getElem? (i := 3) rfl)) (hts (.methodLink RX1 11 yX1_partOfSingle) (List.mem_of_getElem? (i := 1) rfl)) (by decide +kernel) ⟨Nat.le_of_ble_eq_true rfl, Nat.le_of_ble_eq_true rfl⟩, (hts (.static yX1_partOfSingle) (List.mem_of_getElem? (i := 2) rfl))⟩ (k_preS hk (hK.sub [] rfl) NT_bl NT_u) rfl rfl hl.1 rfl (lv_room (Nat.le_of_ble_eq_true rfl)) dX1_partOf_14 ⟨Nat.zero_le _, Nat.zero_le _⟩) hk hS (fun H locs hP hD hS => ?_)
      refine lv_goto (tgt := 21) hx hb dX1_partOf_17 (by decide) ?_
      obtain rfl := Option.some.inj hf
      exact k_retI hx hb hr hlocks hP hS dX1_partOf_21

noncomputable def fX1_single (x0 : Int32) (x1 : Int32) (x2 : Int32) : Option (Int32) :=
  if x0 = (2 : Int32) then
    some (0 : Int32)
  else
    if x0 = (1 : Int32) then
      if (17 : Int32) < x1 then
        some (1 : Int32)
      else
        some ((1 : Int32) + x1)
    else
      if x1 < (4 : Int32) then
        some ((19 : Int32) + ((16 : Int32) * x2))
      else
        if (18 : Int32) < x1 then
          some ((19 : Int32) + ((16 : Int32) * x2))
        else
          some (((((19 : Int32) + ((16 : Int32) * x2)) + x1) - (4 : Int32)) + (1 : Int32))

set_option maxHeartbeats 4000000 in
set_option maxRecDepth 100000 in
theorem kX1_single (l : Launch) (D : va_G) (x0 : Int32) (x1 : Int32) (x2 : Int32) {R : Int32} (hf : fX1_single x0 x1 x2 = some R) : MI l yX1_single wsX1_single (rmD 0) D ([.int x0, .int x1, .int x2] : List Value) ([] : va_W) [] NT R ([] : va_W) := by
  refine MI.mk (cc := cX1_single) (maxL := 5) (ret := (some .int)) (by first | decide | decide +kernel) rfl (Nat.le_of_ble_eq_true rfl) ?_
  intro p e s m below meth cd A ls hE
  obtain ⟨hx, hb, hr, hml, hts, hown, hlocks, hP, hK, hD, hA, hN, hAe, hl⟩ := hE
  have hown : s.vm.findClass RX1 = some m.cls := hown
  have hS : va_S A s.heap s.heap [] := va_S.rf
  have hl : lv_has ls 5 [(0, .int x0), (1, .int x1), (2, .int x2)] := hl
  rw [fX1_single] at hf
  refine lv_iload_n hx hb dX1_single_0 rfl (lv_at hl 0 rfl) ?_
  refine lv_iconst (v := (2 : Int32)) hx hb dX1_single_1 (by decide) ?_
  refine lv_icmp_ne (tgt := 7) hx hb dX1_single_2 (by decide) (fun c1 => ?_) (fun c1 => ?_)
  · rw [if_neg c1] at hf
    refine lv_iload_n hx hb dX1_single_7 rfl (lv_at hl 0 rfl) ?_
    refine lv_iconst (v := (1 : Int32)) hx hb dX1_single_8 (by decide) ?_
    refine lv_icmp_ne (tgt := 26) hx hb dX1_single_9 (by decide) (fun c2 => ?_) (fun c2 => ?_)
    · rw [if_neg c2] at hf
      refine lv_bipush (v := (19 : Int32)) hx hb dX1_single_26 (by decide) ?_
      refine lv_bipush (v := (16 : Int32)) hx hb dX1_single_28 (by decide) ?_
      refine lv_iload_n hx hb dX1_single_30 rfl (lv_at hl 2 rfl) ?_
      refine lv_imul hx hb dX1_single_31 ?_
      refine lv_iadd hx hb dX1_single_32 ?_
      refine lv_istore_n (lv' := [(3, .int ((19 : Int32) + ((16 : Int32) * x2))), (0, .int x0), (1, .int x1), (2, .int x2)]) hx hb dX1_single_33 rfl hl (by decide) rfl (fun ls hl => ?_)
      refine lv_iload_n hx hb dX1_single_34 rfl (lv_at hl 2 rfl) ?_
      refine lv_iconst (v := (4 : Int32)) hx hb dX1_single_35 (by decide) ?_
      refine lv_icmp_lt (tgt := 49) hx hb dX1_single_36 (by decide) (fun c3 => ?_) (fun c3 => ?_)
      · rw [if_pos c3] at hf
        refine lv_iconst (v := (0 : Int32)) hx hb dX1_single_49 (by decide) ?_
        refine lv_istore (lv' := [(4, .int (0 : Int32)), (3, .int ((19 : Int32) + ((16 : Int32) * x2))), (0, .int x0), (1, .int x1), (2, .int x2)]) hx hb dX1_single_50 hl (by decide) rfl (fun ls hl => ?_)
        refine lv_iload hx hb dX1_single_52 (lv_at hl 0 rfl) ?_
        refine lv_if_eq (tgt := 67) hx hb dX1_single_54 (by decide) (fun _ => ?_) (fun c4 => absurd c4 (by decide))
        refine lv_iload_n hx hb dX1_single_67 rfl (lv_at hl 1 rfl) ?_
        obtain rfl := Option.some.inj hf
        exact k_retI hx hb hr hlocks hP hS dX1_single_68
      · rw [if_neg c3] at hf
        refine lv_iload_n hx hb dX1_single_39 rfl (lv_at hl 2 rfl) ?_
        refine lv_bipush (v := (18 : Int32)) hx hb dX1_single_40 (by decide) ?_
        refine lv_icmp_gt (tgt := 49) hx hb dX1_single_42 (by decide) (fun c5 => ?_) (fun c5 => ?_)
        · rw [if_pos c5] at hf
          refine lv_iconst (v := (0 : Int32)) hx hb dX1_single_49 (by decide) ?_
          refine lv_istore (lv' := [(4, .int (0 : Int32)), (3, .int ((19 : Int32) + ((16 : Int32) * x2))), (0, .int x0), (1, .int x1), (2, .int x2)]) hx hb dX1_single_50 hl (by decide) rfl (fun ls hl => ?_)
          refine lv_iload hx hb dX1_single_52 (lv_at hl 0 rfl) ?_
          refine lv_if_eq (tgt := 67) hx hb dX1_single_54 (by decide) (fun _ => ?_) (fun c6 => absurd c6 (by decide))
          refine lv_iload_n hx hb dX1_single_67 rfl (lv_at hl 1 rfl) ?_
          obtain rfl := Option.some.inj hf
          exact k_retI hx hb hr hlocks hP hS dX1_single_68
        · rw [if_neg c5] at hf
          refine lv_iconst (v := (1 : Int32)) hx hb dX1_single_45 (by decide) ?_
          refine lv_goto (tgt := 50) hx hb dX1_single_46 (by decide) ?_
          refine lv_istore (lv' := [(4, .int (1 : Int32)), (3, .int ((19 : Int32) + ((16 : Int32) * x2))), (0, .int x0), (1, .int x1), (2, .int x2)]) hx hb dX1_single_50 hl (by decide) rfl (fun ls hl => ?_)
          refine lv_iload hx hb dX1_single_52 (lv_at hl 0 rfl) ?_
          refine lv_if_eq (tgt := 67) hx hb dX1_single_54 (by decide) (fun c7 => absurd c7 (by decide)) (fun _ => ?_)
          refine lv_iload_n hx hb dX1_single_57 rfl (lv_at hl 1 rfl) ?_
          refine lv_iload_n hx hb dX1_single_58 rfl (lv_at hl 3 rfl) ?_
          refine lv_iadd hx hb dX1_single_59 ?_
          refine lv_iconst (v := (4 : Int32)) hx hb dX1_single_60 (by decide) ?_
          refine lv_isub hx hb dX1_single_61 ?_
          refine lv_iconst (v := (1 : Int32)) hx hb dX1_single_62 (by decide) ?_
          refine lv_iadd hx hb dX1_single_63 ?_
          refine lv_goto (tgt := 68) hx hb dX1_single_64 (by decide) ?_
          obtain rfl := Option.some.inj hf
          exact k_retI hx hb hr hlocks hP hS dX1_single_68
    · rw [if_pos c2] at hf
      refine lv_iload_n hx hb dX1_single_12 rfl (lv_at hl 1 rfl) ?_
      refine lv_bipush (v := (17 : Int32)) hx hb dX1_single_13 (by decide) ?_
      refine lv_icmp_gt (tgt := 24) hx hb dX1_single_15 (by decide) (fun c8 => ?_) (fun c8 => ?_)
      · rw [if_pos c8] at hf
        refine lv_iconst (v := (1 : Int32)) hx hb dX1_single_24 (by decide) ?_
        obtain rfl := Option.some.inj hf
        exact k_retI hx hb hr hlocks hP hS dX1_single_25
      · rw [if_neg c8] at hf
        refine lv_iconst (v := (1 : Int32)) hx hb dX1_single_18 (by decide) ?_
        refine lv_iload_n hx hb dX1_single_19 rfl (lv_at hl 1 rfl) ?_
        refine lv_iadd hx hb dX1_single_20 ?_
        refine lv_goto (tgt := 25) hx hb dX1_single_21 (by decide) ?_
        obtain rfl := Option.some.inj hf
        exact k_retI hx hb hr hlocks hP hS dX1_single_25
  · rw [if_pos c1] at hf
    refine lv_iconst (v := (0 : Int32)) hx hb dX1_single_5 (by decide) ?_
    obtain rfl := Option.some.inj hf
    exact k_retI hx hb hr hlocks hP hS dX1_single_6

noncomputable def fX1_addThenCopy (x0 : Int32) (x1 : Int32) (x2 : Int32) : Option (Int32) :=
  if x0 < (1 : Int32) then
    some (-1 : Int32)
  else
    if (4 : Int32) < x0 then
      some (-1 : Int32)
    else
      if (4 : Int32) ≤ x1 then
        if (6 : Int32) ≤ x2 then
          if x1 = (4 : Int32) then
            some ((235 : Int32) + ((((4 : Int32) * (x2 - (6 : Int32))) + x0) - (1 : Int32)))
          else
            some (-1 : Int32)
        else
          if (6 : Int32) < x1 then
            some (-1 : Int32)
          else
            some ((163 : Int32) + (((((12 : Int32) * x2) + ((3 : Int32) * (x0 - (1 : Int32)))) + x1) - (4 : Int32)))
      else
        some (-1 : Int32)

set_option maxHeartbeats 4000000 in
set_option maxRecDepth 100000 in
theorem kX1_addThenCopy (l : Launch) (D : va_G) (x0 : Int32) (x1 : Int32) (x2 : Int32) {R : Int32} (hf : fX1_addThenCopy x0 x1 x2 = some R) : MI l yX1_addThenCopy wsX1_addThenCopy (rmD 0) D ([.int x0, .int x1, .int x2] : List Value) ([] : va_W) [] NT R ([] : va_W) := by
  refine MI.mk (cc := cX1_addThenCopy) (maxL := 4) (ret := (some .int)) (by first | decide | decide +kernel) rfl (Nat.le_of_ble_eq_true rfl) ?_
  intro p e s m below meth cd A ls hE
  obtain ⟨hx, hb, hr, hml, hts, hown, hlocks, hP, hK, hD, hA, hN, hAe, hl⟩ := hE
  have hown : s.vm.findClass RX1 = some m.cls := hown
  have hS : va_S A s.heap s.heap [] := va_S.rf
  have hl : lv_has ls 4 [(0, .int x0), (1, .int x1), (2, .int x2)] := hl
  rw [fX1_addThenCopy] at hf
  refine lv_iload_n hx hb dX1_addThenCopy_0 rfl (lv_at hl 0 rfl) ?_
  refine lv_iconst (v := (1 : Int32)) hx hb dX1_addThenCopy_1 (by decide) ?_
  refine lv_icmp_lt (tgt := 15) hx hb dX1_addThenCopy_2 (by decide) (fun c1 => ?_) (fun c1 => ?_)
  · rw [if_pos c1] at hf
    refine lv_iconst (v := (-1 : Int32)) hx hb dX1_addThenCopy_15 (by decide) ?_
    obtain rfl := Option.some.inj hf
    exact k_retI hx hb hr hlocks hP hS dX1_addThenCopy_16
  · rw [if_neg c1] at hf
    refine lv_iload_n hx hb dX1_addThenCopy_5 rfl (lv_at hl 0 rfl) ?_
    refine lv_iconst (v := (4 : Int32)) hx hb dX1_addThenCopy_6 (by decide) ?_
    refine lv_icmp_gt (tgt := 15) hx hb dX1_addThenCopy_7 (by decide) (fun c2 => ?_) (fun c2 => ?_)
    · rw [if_pos c2] at hf
      refine lv_iconst (v := (-1 : Int32)) hx hb dX1_addThenCopy_15 (by decide) ?_
      obtain rfl := Option.some.inj hf
      exact k_retI hx hb hr hlocks hP hS dX1_addThenCopy_16
    · rw [if_neg c2] at hf
      refine lv_iload_n hx hb dX1_addThenCopy_10 rfl (lv_at hl 1 rfl) ?_
      refine lv_iconst (v := (4 : Int32)) hx hb dX1_addThenCopy_11 (by decide) ?_
      refine lv_icmp_ge (tgt := 17) hx hb dX1_addThenCopy_12 (by decide) (fun c3 => ?_) (fun c3 => ?_)
      · rw [if_pos c3] at hf
        refine lv_iload_n hx hb dX1_addThenCopy_17 rfl (lv_at hl 2 rfl) ?_
        refine lv_bipush (v := (6 : Int32)) hx hb dX1_addThenCopy_18 (by decide) ?_
        refine lv_icmp_ge (tgt := 54) hx hb dX1_addThenCopy_20 (by decide) (fun c4 => ?_) (fun c4 => ?_)
        · rw [if_pos c4] at hf
          refine lv_iconst (v := (4 : Int32)) hx hb dX1_addThenCopy_54 (by decide) ?_
          refine lv_iload_n hx hb dX1_addThenCopy_55 rfl (lv_at hl 2 rfl) ?_
          refine lv_bipush (v := (6 : Int32)) hx hb dX1_addThenCopy_56 (by decide) ?_
          refine lv_isub hx hb dX1_addThenCopy_58 ?_
          refine lv_imul hx hb dX1_addThenCopy_59 ?_
          refine lv_iload_n hx hb dX1_addThenCopy_60 rfl (lv_at hl 0 rfl) ?_
          refine lv_iadd hx hb dX1_addThenCopy_61 ?_
          refine lv_iconst (v := (1 : Int32)) hx hb dX1_addThenCopy_62 (by decide) ?_
          refine lv_isub hx hb dX1_addThenCopy_63 ?_
          refine lv_istore_n (lv' := [(3, .int ((((4 : Int32) * (x2 - (6 : Int32))) + x0) - (1 : Int32))), (0, .int x0), (1, .int x1), (2, .int x2)]) hx hb dX1_addThenCopy_64 rfl hl (by decide) rfl (fun ls hl => ?_)
          refine lv_iload_n hx hb dX1_addThenCopy_65 rfl (lv_at hl 2 rfl) ?_
          refine lv_iconst (v := (4 : Int32)) hx hb dX1_addThenCopy_66 (by decide) ?_
          refine lv_icmp_ne (tgt := 78) hx hb dX1_addThenCopy_67 (by decide) (fun c5 => ?_) (fun c5 => ?_)
          · rw [if_neg c5] at hf
            refine lv_iconst (v := (-1 : Int32)) hx hb dX1_addThenCopy_78 (by decide) ?_
            obtain rfl := Option.some.inj hf
            exact k_retI hx hb hr hlocks hP hS dX1_addThenCopy_79
          · rw [if_pos c5] at hf
            refine lv_sipush (v := (235 : Int32)) hx hb dX1_addThenCopy_70 (by decide) ?_
            refine lv_iload_n hx hb dX1_addThenCopy_73 rfl (lv_at hl 0 rfl) ?_
            refine lv_iadd hx hb dX1_addThenCopy_74 ?_
            refine lv_goto (tgt := 79) hx hb dX1_addThenCopy_75 (by decide) ?_
            obtain rfl := Option.some.inj hf
            exact k_retI hx hb hr hlocks hP hS dX1_addThenCopy_79
        · rw [if_neg c4] at hf
          refine lv_bipush (v := (12 : Int32)) hx hb dX1_addThenCopy_23 (by decide) ?_
          refine lv_iload_n hx hb dX1_addThenCopy_25 rfl (lv_at hl 2 rfl) ?_
          refine lv_imul hx hb dX1_addThenCopy_26 ?_
          refine lv_iconst (v := (3 : Int32)) hx hb dX1_addThenCopy_27 (by decide) ?_
          refine lv_iload_n hx hb dX1_addThenCopy_28 rfl (lv_at hl 0 rfl) ?_
          refine lv_iconst (v := (1 : Int32)) hx hb dX1_addThenCopy_29 (by decide) ?_
          refine lv_isub hx hb dX1_addThenCopy_30 ?_
          refine lv_imul hx hb dX1_addThenCopy_31 ?_
          refine lv_iadd hx hb dX1_addThenCopy_32 ?_
          refine lv_iload_n hx hb dX1_addThenCopy_33 rfl (lv_at hl 1 rfl) ?_
          refine lv_iadd hx hb dX1_addThenCopy_34 ?_
          refine lv_iconst (v := (4 : Int32)) hx hb dX1_addThenCopy_35 (by decide) ?_
          refine lv_isub hx hb dX1_addThenCopy_36 ?_
          refine lv_istore_n (lv' := [(3, .int (((((12 : Int32) * x2) + ((3 : Int32) * (x0 - (1 : Int32)))) + x1) - (4 : Int32))), (0, .int x0), (1, .int x1), (2, .int x2)]) hx hb dX1_addThenCopy_37 rfl hl (by decide) rfl (fun ls hl => ?_)
          refine lv_iload_n hx hb dX1_addThenCopy_38 rfl (lv_at hl 2 rfl) ?_
          refine lv_bipush (v := (6 : Int32)) hx hb dX1_addThenCopy_39 (by decide) ?_
          refine lv_icmp_gt (tgt := 52) hx hb dX1_addThenCopy_41 (by decide) (fun c6 => ?_) (fun c6 => ?_)
          · rw [if_pos c6] at hf
            refine lv_iconst (v := (-1 : Int32)) hx hb dX1_addThenCopy_52 (by decide) ?_
            obtain rfl := Option.some.inj hf
            exact k_retI hx hb hr hlocks hP hS dX1_addThenCopy_53
          · rw [if_neg c6] at hf
            refine lv_sipush (v := (163 : Int32)) hx hb dX1_addThenCopy_44 (by decide) ?_
            refine lv_iload_n hx hb dX1_addThenCopy_47 rfl (lv_at hl 0 rfl) ?_
            refine lv_iadd hx hb dX1_addThenCopy_48 ?_
            refine lv_goto (tgt := 53) hx hb dX1_addThenCopy_49 (by decide) ?_
            obtain rfl := Option.some.inj hf
            exact k_retI hx hb hr hlocks hP hS dX1_addThenCopy_53
      · rw [if_neg c3] at hf
        refine lv_iconst (v := (-1 : Int32)) hx hb dX1_addThenCopy_15 (by decide) ?_
        obtain rfl := Option.some.inj hf
        exact k_retI hx hb hr hlocks hP hS dX1_addThenCopy_16

noncomputable def fX1_copyThenAdd (x0 : Int32) (x1 : Int32) (x2 : Int32) : Option (Int32) :=
  if x0 = (4 : Int32) then
    if x2 = (1 : Int32) then
      some ((247 : Int32) + x1)
    else
      some (-1 : Int32)
  else
    some (-1 : Int32)

set_option maxHeartbeats 4000000 in
set_option maxRecDepth 100000 in
theorem kX1_copyThenAdd (l : Launch) (D : va_G) (x0 : Int32) (x1 : Int32) (x2 : Int32) {R : Int32} (hf : fX1_copyThenAdd x0 x1 x2 = some R) : MI l yX1_copyThenAdd wsX1_copyThenAdd (rmD 0) D ([.int x0, .int x1, .int x2] : List Value) ([] : va_W) [] NT R ([] : va_W) := by
  refine MI.mk (cc := cX1_copyThenAdd) (maxL := 3) (ret := (some .int)) (by first | decide | decide +kernel) rfl (Nat.le_of_ble_eq_true rfl) ?_
  intro p e s m below meth cd A ls hE
  obtain ⟨hx, hb, hr, hml, hts, hown, hlocks, hP, hK, hD, hA, hN, hAe, hl⟩ := hE
  have hown : s.vm.findClass RX1 = some m.cls := hown
  have hS : va_S A s.heap s.heap [] := va_S.rf
  have hl : lv_has ls 3 [(0, .int x0), (1, .int x1), (2, .int x2)] := hl
  rw [fX1_copyThenAdd] at hf
  refine lv_iload_n hx hb dX1_copyThenAdd_0 rfl (lv_at hl 0 rfl) ?_
  refine lv_iconst (v := (4 : Int32)) hx hb dX1_copyThenAdd_1 (by decide) ?_
  refine lv_icmp_ne (tgt := 18) hx hb dX1_copyThenAdd_2 (by decide) (fun c1 => ?_) (fun c1 => ?_)
  · rw [if_neg c1] at hf
    refine lv_iconst (v := (-1 : Int32)) hx hb dX1_copyThenAdd_18 (by decide) ?_
    obtain rfl := Option.some.inj hf
    exact k_retI hx hb hr hlocks hP hS dX1_copyThenAdd_19
  · rw [if_pos c1] at hf
    refine lv_iload_n hx hb dX1_copyThenAdd_5 rfl (lv_at hl 2 rfl) ?_
    refine lv_iconst (v := (1 : Int32)) hx hb dX1_copyThenAdd_6 (by decide) ?_
    refine lv_icmp_ne (tgt := 18) hx hb dX1_copyThenAdd_7 (by decide) (fun c2 => ?_) (fun c2 => ?_)
    · rw [if_neg c2] at hf
      refine lv_iconst (v := (-1 : Int32)) hx hb dX1_copyThenAdd_18 (by decide) ?_
      obtain rfl := Option.some.inj hf
      exact k_retI hx hb hr hlocks hP hS dX1_copyThenAdd_19
    · rw [if_pos c2] at hf
      refine lv_sipush (v := (247 : Int32)) hx hb dX1_copyThenAdd_10 (by decide) ?_
      refine lv_iload_n hx hb dX1_copyThenAdd_13 rfl (lv_at hl 1 rfl) ?_
      refine lv_iadd hx hb dX1_copyThenAdd_14 ?_
      refine lv_goto (tgt := 19) hx hb dX1_copyThenAdd_15 (by decide) ?_
      obtain rfl := Option.some.inj hf
      exact k_retI hx hb hr hlocks hP hS dX1_copyThenAdd_19
