noncomputable def fX8_most (x0 : Int32) : Option (Int32) :=
  if x0 = 0 then
    some (48 : Int32)
  else
    if x0 = (1 : Int32) then
      some (64 : Int32)
    else
      some (1000 : Int32)

set_option maxHeartbeats 4000000 in
set_option maxRecDepth 100000 in
theorem kX8_most (l : Launch) (D : va_G) (x0 : Int32) {R : Int32} (hf : fX8_most x0 = some R) : MI l yX8_most wsX8_most (rmD 0) D ([.int x0] : List Value) ([] : va_W) [] NT R ([] : va_W) := by
  refine MI.mk (cc := cX8_most) (maxL := 1) (ret := (some .int)) (by first | decide | decide +kernel) rfl (Nat.le_of_ble_eq_true rfl) ?_
  intro p e s m below meth cd A ls hE
  obtain ⟨hx, hb, hr, hml, hts, hown, hlocks, hP, hK, hD, hA, hN, hAe, hl⟩ := hE
  have hown : s.vm.findClass RX8 = some m.cls := hown
  have hS : va_S A s.heap s.heap [] := va_S.rf
  have hl : lv_has ls 1 [(0, .int x0)] := hl
  rw [fX8_most] at hf
  refine lv_iload_n hx hb dX8_most_0 rfl (lv_at hl 0 rfl) ?_
  refine lv_if_ne (tgt := 9) hx hb dX8_most_1 (by decide) (fun c1 => ?_) (fun c1 => ?_)
  · rw [if_neg c1] at hf
    refine lv_iload_n hx hb dX8_most_9 rfl (lv_at hl 0 rfl) ?_
    refine lv_iconst (v := (1 : Int32)) hx hb dX8_most_10 (by decide) ?_
    refine lv_icmp_ne (tgt := 19) hx hb dX8_most_11 (by decide) (fun c2 => ?_) (fun c2 => ?_)
    · rw [if_neg c2] at hf
      refine lv_sipush (v := (1000 : Int32)) hx hb dX8_most_19 (by decide) ?_
      obtain rfl := Option.some.inj hf
      exact k_retI hx hb hr hlocks hP hS dX8_most_22
    · rw [if_pos c2] at hf
      refine lv_bipush (v := (64 : Int32)) hx hb dX8_most_14 (by decide) ?_
      refine lv_goto (tgt := 22) hx hb dX8_most_16 (by decide) ?_
      obtain rfl := Option.some.inj hf
      exact k_retI hx hb hr hlocks hP hS dX8_most_22
  · rw [if_pos c1] at hf
    refine lv_bipush (v := (48 : Int32)) hx hb dX8_most_4 (by decide) ?_
    refine lv_goto (tgt := 22) hx hb dX8_most_6 (by decide) ?_
    obtain rfl := Option.some.inj hf
    exact k_retI hx hb hr hlocks hP hS dX8_most_22

noncomputable def fX8_isByte (x0 : Int32) : Option (Int32) :=
  if x0 < 0 then
    some (0 : Int32)
  else
    if (255 : Int32) < x0 then
      some (0 : Int32)
    else
      some (1 : Int32)

set_option maxHeartbeats 4000000 in
set_option maxRecDepth 100000 in
theorem kX8_isByte (l : Launch) (D : va_G) (x0 : Int32) {R : Int32} (hf : fX8_isByte x0 = some R) : MI l yX8_isByte wsX8_isByte (rmD 0) D ([.int x0] : List Value) ([] : va_W) [] NT R ([] : va_W) := by
  refine MI.mk (cc := cX8_isByte) (maxL := 1) (ret := (some .boolean)) (by first | decide | decide +kernel) rfl (Nat.le_of_ble_eq_true rfl) ?_
  intro p e s m below meth cd A ls hE
  obtain ⟨hx, hb, hr, hml, hts, hown, hlocks, hP, hK, hD, hA, hN, hAe, hl⟩ := hE
  have hown : s.vm.findClass RX8 = some m.cls := hown
  have hS : va_S A s.heap s.heap [] := va_S.rf
  have hl : lv_has ls 1 [(0, .int x0)] := hl
  rw [fX8_isByte] at hf
  refine lv_iload_n hx hb dX8_isByte_0 rfl (lv_at hl 0 rfl) ?_
  refine lv_if_lt (tgt := 15) hx hb dX8_isByte_1 (by decide) (fun c1 => ?_) (fun c1 => ?_)
  · rw [if_pos c1] at hf
    refine lv_iconst (v := (0 : Int32)) hx hb dX8_isByte_15 (by decide) ?_
    obtain rfl := Option.some.inj hf
    exact k_retZ hx hb hr hlocks hP hS rfl dX8_isByte_16
  · rw [if_neg c1] at hf
    refine lv_iload_n hx hb dX8_isByte_4 rfl (lv_at hl 0 rfl) ?_
    refine lv_sipush (v := (255 : Int32)) hx hb dX8_isByte_5 (by decide) ?_
    refine lv_icmp_gt (tgt := 15) hx hb dX8_isByte_8 (by decide) (fun c2 => ?_) (fun c2 => ?_)
    · rw [if_pos c2] at hf
      refine lv_iconst (v := (0 : Int32)) hx hb dX8_isByte_15 (by decide) ?_
      obtain rfl := Option.some.inj hf
      exact k_retZ hx hb hr hlocks hP hS rfl dX8_isByte_16
    · rw [if_neg c2] at hf
      refine lv_iconst (v := (1 : Int32)) hx hb dX8_isByte_11 (by decide) ?_
      refine lv_goto (tgt := 16) hx hb dX8_isByte_12 (by decide) ?_
      obtain rfl := Option.some.inj hf
      exact k_retZ hx hb hr hlocks hP hS rfl dX8_isByte_16

noncomputable def fX8_part (x0 : Int32) (x1 : Int32) : Option (Int32) :=
  if (18 : Int32) < x0 then
    if (162 : Int32) < x0 then
      if (246 : Int32) < x0 then
        if x1 = 0 then
          some (3 : Int32)
        else
          if x1 = (1 : Int32) then
            some (4 : Int32)
          else
            if x1 = (2 : Int32) then
              some (x0 - (247 : Int32))
            else
              if x1 = (5 : Int32) then
                some (0 : Int32)
              else
                some (1 : Int32)
      else
        (if (234 : Int32) < x0 then
            some ((6 : Int32) + ((x0 - (235 : Int32)) / (4 : Int32)))
          else
            some ((x0 - (163 : Int32)) / (12 : Int32)) : Option (Int32)).bind fun R10 =>
        (if (234 : Int32) < x0 then
            some (((x0 - (235 : Int32)) - (x0 - (235 : Int32)) / (4 : Int32) * (4 : Int32)) + (1 : Int32))
          else
            some ((((x0 - (163 : Int32)) - (x0 - (163 : Int32)) / (12 : Int32) * (12 : Int32)) / (3 : Int32)) + (1 : Int32)) : Option (Int32)).bind fun R13 =>
        (if (234 : Int32) < x0 then
            some (4 : Int32)
          else
            some (((x0 - (163 : Int32)) - (x0 - (163 : Int32)) / (3 : Int32) * (3 : Int32)) + (4 : Int32)) : Option (Int32)).bind fun R16 =>
        if x1 = 0 then
          some (1 : Int32)
        else
          if x1 = (1 : Int32) then
            some R13
          else
            if x1 = (2 : Int32) then
              some (0 : Int32)
            else
              if x1 = (3 : Int32) then
                some (3 : Int32)
              else
                if x1 = (4 : Int32) then
                  some R16
                else
                  some R10
    else
      if x1 = 0 then
        some (3 : Int32)
      else
        if x1 = (1 : Int32) then
          if ((x0 - (19 : Int32)) - (x0 - (19 : Int32)) / (16 : Int32) * (16 : Int32)) = 0 then
            some (0 : Int32)
          else
            some ((3 : Int32) + ((x0 - (19 : Int32)) - (x0 - (19 : Int32)) / (16 : Int32) * (16 : Int32)))
        else
          if x1 = (2 : Int32) then
            some ((x0 - (19 : Int32)) / (16 : Int32))
          else
            some (0 : Int32)
  else
    if x1 = 0 then
      if x0 = 0 then
        some (2 : Int32)
      else
        some (1 : Int32)
    else
      if x1 = (1 : Int32) then
        if x0 ≤ (1 : Int32) then
          some (0 : Int32)
        else
          some (x0 - (1 : Int32))
      else
        some (0 : Int32)

set_option maxHeartbeats 4000000 in
set_option maxRecDepth 100000 in
theorem kX8_part (l : Launch) (D : va_G) (x0 : Int32) (x1 : Int32) {R : Int32} (hf : fX8_part x0 x1 = some R) : MI l yX8_part wsX8_part (rmD 0) D ([.int x0, .int x1] : List Value) ([] : va_W) [] NT R ([] : va_W) := by
  refine MI.mk (cc := cX8_part) (maxL := 5) (ret := (some .int)) (by first | decide | decide +kernel) rfl (Nat.le_of_ble_eq_true rfl) ?_
  intro p e s m below meth cd A ls hE
  obtain ⟨hx, hb, hr, hml, hts, hown, hlocks, hP, hK, hD, hA, hN, hAe, hl⟩ := hE
  have hown : s.vm.findClass RX8 = some m.cls := hown
  have hS : va_S A s.heap s.heap [] := va_S.rf
  have hl : lv_has ls 5 [(0, .int x0), (1, .int x1)] := hl
  rw [fX8_part] at hf
  refine lv_iload_n hx hb dX8_part_0 rfl (lv_at hl 0 rfl) ?_
  refine lv_bipush (v := (18 : Int32)) hx hb dX8_part_1 (by decide) ?_
  refine lv_icmp_gt (tgt := 40) hx hb dX8_part_3 (by decide) (fun c1 => ?_) (fun c1 => ?_)
  · rw [if_pos c1] at hf
    refine lv_iload_n hx hb dX8_part_40 rfl (lv_at hl 0 rfl) ?_
    refine lv_sipush (v := (162 : Int32)) hx hb dX8_part_41 (by decide) ?_
    refine lv_icmp_gt (tgt := 99) hx hb dX8_part_44 (by decide) (fun c2 => ?_) (fun c2 => ?_)
    · rw [if_pos c2] at hf
      refine lv_iload_n hx hb dX8_part_99 rfl (lv_at hl 0 rfl) ?_
      refine lv_sipush (v := (246 : Int32)) hx hb dX8_part_100 (by decide) ?_
      refine lv_icmp_gt (tgt := 236) hx hb dX8_part_103 (by decide) (fun c3 => ?_) (fun c3 => ?_)
      · rw [if_pos c3] at hf
        refine lv_iload_n hx hb dX8_part_236 rfl (lv_at hl 1 rfl) ?_
        refine lv_if_ne (tgt := 244) hx hb dX8_part_237 (by decide) (fun c4 => ?_) (fun c4 => ?_)
        · rw [if_neg c4] at hf
          refine lv_iload_n hx hb dX8_part_244 rfl (lv_at hl 1 rfl) ?_
          refine lv_iconst (v := (1 : Int32)) hx hb dX8_part_245 (by decide) ?_
          refine lv_icmp_ne (tgt := 253) hx hb dX8_part_246 (by decide) (fun c5 => ?_) (fun c5 => ?_)
          · rw [if_neg c5] at hf
            refine lv_iload_n hx hb dX8_part_253 rfl (lv_at hl 1 rfl) ?_
            refine lv_iconst (v := (2 : Int32)) hx hb dX8_part_254 (by decide) ?_
            refine lv_icmp_ne (tgt := 266) hx hb dX8_part_255 (by decide) (fun c6 => ?_) (fun c6 => ?_)
            · rw [if_neg c6] at hf
              refine lv_iload_n hx hb dX8_part_266 rfl (lv_at hl 1 rfl) ?_
              refine lv_iconst (v := (5 : Int32)) hx hb dX8_part_267 (by decide) ?_
              refine lv_icmp_ne (tgt := 275) hx hb dX8_part_268 (by decide) (fun c7 => ?_) (fun c7 => ?_)
              · rw [if_neg c7] at hf
                refine lv_iconst (v := (1 : Int32)) hx hb dX8_part_275 (by decide) ?_
                obtain rfl := Option.some.inj hf
                exact k_retI hx hb hr hlocks hP hS dX8_part_276
              · rw [if_pos c7] at hf
                refine lv_iconst (v := (0 : Int32)) hx hb dX8_part_271 (by decide) ?_
                refine lv_goto (tgt := 276) hx hb dX8_part_272 (by decide) ?_
                obtain rfl := Option.some.inj hf
                exact k_retI hx hb hr hlocks hP hS dX8_part_276
            · rw [if_pos c6] at hf
              refine lv_iload_n hx hb dX8_part_258 rfl (lv_at hl 0 rfl) ?_
              refine lv_sipush (v := (247 : Int32)) hx hb dX8_part_259 (by decide) ?_
              refine lv_isub hx hb dX8_part_262 ?_
              refine lv_goto (tgt := 276) hx hb dX8_part_263 (by decide) ?_
              obtain rfl := Option.some.inj hf
              exact k_retI hx hb hr hlocks hP hS dX8_part_276
          · rw [if_pos c5] at hf
            refine lv_iconst (v := (4 : Int32)) hx hb dX8_part_249 (by decide) ?_
            refine lv_goto (tgt := 276) hx hb dX8_part_250 (by decide) ?_
            obtain rfl := Option.some.inj hf
            exact k_retI hx hb hr hlocks hP hS dX8_part_276
        · rw [if_pos c4] at hf
          refine lv_iconst (v := (3 : Int32)) hx hb dX8_part_240 (by decide) ?_
          refine lv_goto (tgt := 276) hx hb dX8_part_241 (by decide) ?_
          obtain rfl := Option.some.inj hf
          exact k_retI hx hb hr hlocks hP hS dX8_part_276
      · rw [if_neg c3] at hf
        refine lv_iload_n hx hb dX8_part_106 rfl (lv_at hl 0 rfl) ?_
        refine lv_sipush (v := (234 : Int32)) hx hb dX8_part_107 (by decide) ?_
        obtain ⟨R10, hj30, hf⟩ := b_inv hf
        have kont : ∀ (H : Heap) (locs : List Loc) (ls : Array Slot), lv_has ls 5 [(0, .int x0), (1, .int x1)] → va_P D vwCl ([] : va_W) H → va_D A ([] : va_W) → va_S A s.heap H locs → W p l e (headSpec wsX8_part (rmD 0)).room s m ([.int x0, .int x1] : List Value).toArray below meth cd H locs 0 0 (QI D below ([.int x0, .int x1] : List Value).toArray s A R ([] : va_W)) (F0 m 134 ls [.int R10]) := by
          intro H locs ls hl hP hD hS
          refine lv_istore_n (lv' := [(2, .int R10), (0, .int x0), (1, .int x1)]) hx hb dX8_part_134 rfl hl (by decide) rfl (fun ls hl => ?_)
          refine lv_iload_n hx hb dX8_part_135 rfl (lv_at hl 1 rfl) ?_
          refine lv_sipush (v := (234 : Int32)) hx hb dX8_part_136 (by decide) ?_
          obtain ⟨R13, hj31, hf⟩ := b_inv hf
          have kont : ∀ (H : Heap) (locs : List Loc) (ls : Array Slot), lv_has ls 5 [(0, .int x0), (1, .int x1), (2, .int R10)] → va_P D vwCl ([] : va_W) H → va_D A ([] : va_W) → va_S A s.heap H locs → W p l e (headSpec wsX8_part (rmD 0)).room s m ([.int x0, .int x1] : List Value).toArray below meth cd H locs 0 0 (QI D below ([.int x0, .int x1] : List Value).toArray s A R ([] : va_W)) (F0 m 166 ls [.int R13]) := by
            intro H locs ls hl hP hD hS
            refine lv_istore_n (lv' := [(3, .int R13), (0, .int x0), (1, .int x1), (2, .int R10)]) hx hb dX8_part_166 rfl hl (by decide) rfl (fun ls hl => ?_)
            refine lv_iload_n hx hb dX8_part_167 rfl (lv_at hl 1 rfl) ?_
            refine lv_sipush (v := (234 : Int32)) hx hb dX8_part_168 (by decide) ?_
            obtain ⟨R16, hj32, hf⟩ := b_inv hf
            have kont : ∀ (H : Heap) (locs : List Loc) (ls : Array Slot), lv_has ls 5 [(1, .int x1), (2, .int R10), (3, .int R13)] → va_P D vwCl ([] : va_W) H → va_D A ([] : va_W) → va_S A s.heap H locs → W p l e (headSpec wsX8_part (rmD 0)).room s m ([.int x0, .int x1] : List Value).toArray below meth cd H locs 0 0 (QI D below ([.int x0, .int x1] : List Value).toArray s A R ([] : va_W)) (F0 m 187 ls [.int R16]) := by
              intro H locs ls hl hP hD hS
              refine lv_istore (lv' := [(4, .int R16), (1, .int x1), (2, .int R10), (3, .int R13)]) hx hb dX8_part_187 hl (by decide) rfl (fun ls hl => ?_)
              refine lv_iload_n hx hb dX8_part_189 rfl (lv_at hl 1 rfl) ?_
              refine lv_if_ne (tgt := 197) hx hb dX8_part_190 (by decide) (fun c17 => ?_) (fun c17 => ?_)
              · rw [if_neg c17] at hf
                refine lv_iload_n hx hb dX8_part_197 rfl (lv_at hl 1 rfl) ?_
                refine lv_iconst (v := (1 : Int32)) hx hb dX8_part_198 (by decide) ?_
                refine lv_icmp_ne (tgt := 206) hx hb dX8_part_199 (by decide) (fun c18 => ?_) (fun c18 => ?_)
                · rw [if_neg c18] at hf
                  refine lv_iload_n hx hb dX8_part_206 rfl (lv_at hl 1 rfl) ?_
                  refine lv_iconst (v := (2 : Int32)) hx hb dX8_part_207 (by decide) ?_
                  refine lv_icmp_ne (tgt := 215) hx hb dX8_part_208 (by decide) (fun c19 => ?_) (fun c19 => ?_)
                  · rw [if_neg c19] at hf
                    refine lv_iload_n hx hb dX8_part_215 rfl (lv_at hl 1 rfl) ?_
                    refine lv_iconst (v := (3 : Int32)) hx hb dX8_part_216 (by decide) ?_
                    refine lv_icmp_ne (tgt := 224) hx hb dX8_part_217 (by decide) (fun c20 => ?_) (fun c20 => ?_)
                    · rw [if_neg c20] at hf
                      refine lv_iload_n hx hb dX8_part_224 rfl (lv_at hl 1 rfl) ?_
                      refine lv_iconst (v := (4 : Int32)) hx hb dX8_part_225 (by decide) ?_
                      refine lv_icmp_ne (tgt := 234) hx hb dX8_part_226 (by decide) (fun c21 => ?_) (fun c21 => ?_)
                      · rw [if_neg c21] at hf
                        refine lv_iload_n hx hb dX8_part_234 rfl (lv_at hl 2 rfl) ?_
                        obtain rfl := Option.some.inj hf
                        exact k_retI hx hb hr hlocks hP hS dX8_part_235
                      · rw [if_pos c21] at hf
                        refine lv_iload hx hb dX8_part_229 (lv_at hl 0 rfl) ?_
                        refine lv_goto (tgt := 235) hx hb dX8_part_231 (by decide) ?_
                        obtain rfl := Option.some.inj hf
                        exact k_retI hx hb hr hlocks hP hS dX8_part_235
                    · rw [if_pos c20] at hf
                      refine lv_iconst (v := (3 : Int32)) hx hb dX8_part_220 (by decide) ?_
                      refine lv_goto (tgt := 235) hx hb dX8_part_221 (by decide) ?_
                      obtain rfl := Option.some.inj hf
                      exact k_retI hx hb hr hlocks hP hS dX8_part_235
                  · rw [if_pos c19] at hf
                    refine lv_iconst (v := (0 : Int32)) hx hb dX8_part_211 (by decide) ?_
                    refine lv_goto (tgt := 235) hx hb dX8_part_212 (by decide) ?_
                    obtain rfl := Option.some.inj hf
                    exact k_retI hx hb hr hlocks hP hS dX8_part_235
                · rw [if_pos c18] at hf
                  refine lv_iload_n hx hb dX8_part_202 rfl (lv_at hl 3 rfl) ?_
                  refine lv_goto (tgt := 235) hx hb dX8_part_203 (by decide) ?_
                  obtain rfl := Option.some.inj hf
                  exact k_retI hx hb hr hlocks hP hS dX8_part_235
              · rw [if_pos c17] at hf
                refine lv_iconst (v := (1 : Int32)) hx hb dX8_part_193 (by decide) ?_
                refine lv_goto (tgt := 235) hx hb dX8_part_194 (by decide) ?_
                obtain rfl := Option.some.inj hf
                exact k_retI hx hb hr hlocks hP hS dX8_part_235
            refine lv_icmp_gt (tgt := 186) hx hb dX8_part_171 (by decide) (fun c15 => ?_) (fun c15 => ?_)
            · rw [if_pos c15] at hj32
              refine lv_iconst (v := (4 : Int32)) hx hb dX8_part_186 (by decide) ?_
              obtain rfl := Option.some.inj hj32
              exact kont _ _ _ (lv_sub hl [2, 3, 0] rfl) hP hD hS
            · rw [if_neg c15] at hj32
              refine lv_iload_n hx hb dX8_part_174 rfl (lv_at hl 1 rfl) ?_
              refine lv_sipush (v := (163 : Int32)) hx hb dX8_part_175 (by decide) ?_
              refine lv_isub hx hb dX8_part_178 ?_
              refine lv_iconst (v := (3 : Int32)) hx hb dX8_part_179 (by decide) ?_
              refine lv_irem hx hb dX8_part_180 (by decide) ?_
              refine lv_iconst (v := (4 : Int32)) hx hb dX8_part_181 (by decide) ?_
              refine lv_iadd hx hb dX8_part_182 ?_
              refine lv_goto (tgt := 187) hx hb dX8_part_183 (by decide) ?_
              obtain rfl := Option.some.inj hj32
              exact kont _ _ _ (lv_sub hl [2, 3, 0] rfl) hP hD hS
          refine lv_icmp_gt (tgt := 157) hx hb dX8_part_139 (by decide) (fun c12 => ?_) (fun c12 => ?_)
          · rw [if_pos c12] at hj31
            refine lv_iload_n hx hb dX8_part_157 rfl (lv_at hl 1 rfl) ?_
            refine lv_sipush (v := (235 : Int32)) hx hb dX8_part_158 (by decide) ?_
            refine lv_isub hx hb dX8_part_161 ?_
            refine lv_iconst (v := (4 : Int32)) hx hb dX8_part_162 (by decide) ?_
            refine lv_irem hx hb dX8_part_163 (by decide) ?_
            refine lv_iconst (v := (1 : Int32)) hx hb dX8_part_164 (by decide) ?_
            refine lv_iadd hx hb dX8_part_165 ?_
            obtain rfl := Option.some.inj hj31
            exact kont _ _ _ (lv_sub hl [1, 2, 0] rfl) hP hD hS
          · rw [if_neg c12] at hj31
            refine lv_iload_n hx hb dX8_part_142 rfl (lv_at hl 1 rfl) ?_
            refine lv_sipush (v := (163 : Int32)) hx hb dX8_part_143 (by decide) ?_
            refine lv_isub hx hb dX8_part_146 ?_
            refine lv_bipush (v := (12 : Int32)) hx hb dX8_part_147 (by decide) ?_
            refine lv_irem hx hb dX8_part_149 (by decide) ?_
            refine lv_iconst (v := (3 : Int32)) hx hb dX8_part_150 (by decide) ?_
            refine lv_idiv hx hb dX8_part_151 (by decide) ?_
            refine lv_iconst (v := (1 : Int32)) hx hb dX8_part_152 (by decide) ?_
            refine lv_iadd hx hb dX8_part_153 ?_
            refine lv_goto (tgt := 166) hx hb dX8_part_154 (by decide) ?_
            obtain rfl := Option.some.inj hj31
            exact kont _ _ _ (lv_sub hl [1, 2, 0] rfl) hP hD hS
        refine lv_icmp_gt (tgt := 124) hx hb dX8_part_110 (by decide) (fun c9 => ?_) (fun c9 => ?_)
        · rw [if_pos c9] at hj30
          refine lv_bipush (v := (6 : Int32)) hx hb dX8_part_124 (by decide) ?_
          refine lv_iload_n hx hb dX8_part_126 rfl (lv_at hl 0 rfl) ?_
          refine lv_sipush (v := (235 : Int32)) hx hb dX8_part_127 (by decide) ?_
          refine lv_isub hx hb dX8_part_130 ?_
          refine lv_iconst (v := (4 : Int32)) hx hb dX8_part_131 (by decide) ?_
          refine lv_idiv hx hb dX8_part_132 (by decide) ?_
          refine lv_iadd hx hb dX8_part_133 ?_
          obtain rfl := Option.some.inj hj30
          exact kont _ _ _ (lv_sub hl [0, 1] rfl) hP hD hS
        · rw [if_neg c9] at hj30
          refine lv_iload_n hx hb dX8_part_113 rfl (lv_at hl 0 rfl) ?_
          refine lv_sipush (v := (163 : Int32)) hx hb dX8_part_114 (by decide) ?_
          refine lv_isub hx hb dX8_part_117 ?_
          refine lv_bipush (v := (12 : Int32)) hx hb dX8_part_118 (by decide) ?_
          refine lv_idiv hx hb dX8_part_120 (by decide) ?_
          refine lv_goto (tgt := 134) hx hb dX8_part_121 (by decide) ?_
          obtain rfl := Option.some.inj hj30
          exact kont _ _ _ (lv_sub hl [0, 1] rfl) hP hD hS
    · rw [if_neg c2] at hf
      refine lv_iload_n hx hb dX8_part_47 rfl (lv_at hl 0 rfl) ?_
      refine lv_bipush (v := (19 : Int32)) hx hb dX8_part_48 (by decide) ?_
      refine lv_isub hx hb dX8_part_50 ?_
      refine lv_bipush (v := (16 : Int32)) hx hb dX8_part_51 (by decide) ?_
      refine lv_irem hx hb dX8_part_53 (by decide) ?_
      refine lv_istore_n (lv' := [(2, .int ((x0 - (19 : Int32)) - (x0 - (19 : Int32)) / (16 : Int32) * (16 : Int32))), (0, .int x0), (1, .int x1)]) hx hb dX8_part_54 rfl hl (by decide) rfl (fun ls hl => ?_)
      refine lv_iload_n hx hb dX8_part_55 rfl (lv_at hl 2 rfl) ?_
      refine lv_if_ne (tgt := 63) hx hb dX8_part_56 (by decide) (fun c22 => ?_) (fun c22 => ?_)
      · rw [if_neg c22] at hf
        refine lv_iload_n hx hb dX8_part_63 rfl (lv_at hl 2 rfl) ?_
        refine lv_iconst (v := (1 : Int32)) hx hb dX8_part_64 (by decide) ?_
        refine lv_icmp_ne (tgt := 82) hx hb dX8_part_65 (by decide) (fun c23 => ?_) (fun c23 => ?_)
        · rw [if_neg c23] at hf
          refine lv_iload_n hx hb dX8_part_82 rfl (lv_at hl 2 rfl) ?_
          refine lv_iconst (v := (2 : Int32)) hx hb dX8_part_83 (by decide) ?_
          refine lv_icmp_ne (tgt := 97) hx hb dX8_part_84 (by decide) (fun c24 => ?_) (fun c24 => ?_)
          · rw [if_neg c24] at hf
            refine lv_iconst (v := (0 : Int32)) hx hb dX8_part_97 (by decide) ?_
            obtain rfl := Option.some.inj hf
            exact k_retI hx hb hr hlocks hP hS dX8_part_98
          · rw [if_pos c24] at hf
            refine lv_iload_n hx hb dX8_part_87 rfl (lv_at hl 1 rfl) ?_
            refine lv_bipush (v := (19 : Int32)) hx hb dX8_part_88 (by decide) ?_
            refine lv_isub hx hb dX8_part_90 ?_
            refine lv_bipush (v := (16 : Int32)) hx hb dX8_part_91 (by decide) ?_
            refine lv_idiv hx hb dX8_part_93 (by decide) ?_
            refine lv_goto (tgt := 98) hx hb dX8_part_94 (by decide) ?_
            obtain rfl := Option.some.inj hf
            exact k_retI hx hb hr hlocks hP hS dX8_part_98
        · rw [if_pos c23] at hf
          refine lv_iload_n hx hb dX8_part_68 rfl (lv_at hl 0 rfl) ?_
          refine lv_if_ne (tgt := 76) hx hb dX8_part_69 (by decide) (fun c25 => ?_) (fun c25 => ?_)
          · rw [if_neg c25] at hf
            refine lv_iconst (v := (3 : Int32)) hx hb dX8_part_76 (by decide) ?_
            refine lv_iload_n hx hb dX8_part_77 rfl (lv_at hl 0 rfl) ?_
            refine lv_iadd hx hb dX8_part_78 ?_
            refine lv_goto (tgt := 98) hx hb dX8_part_79 (by decide) ?_
            obtain rfl := Option.some.inj hf
            exact k_retI hx hb hr hlocks hP hS dX8_part_98
          · rw [if_pos c25] at hf
            refine lv_iconst (v := (0 : Int32)) hx hb dX8_part_72 (by decide) ?_
            refine lv_goto (tgt := 98) hx hb dX8_part_73 (by decide) ?_
            obtain rfl := Option.some.inj hf
            exact k_retI hx hb hr hlocks hP hS dX8_part_98
      · rw [if_pos c22] at hf
        refine lv_iconst (v := (3 : Int32)) hx hb dX8_part_59 (by decide) ?_
        refine lv_goto (tgt := 98) hx hb dX8_part_60 (by decide) ?_
        obtain rfl := Option.some.inj hf
        exact k_retI hx hb hr hlocks hP hS dX8_part_98
  · rw [if_neg c1] at hf
    refine lv_iload_n hx hb dX8_part_6 rfl (lv_at hl 1 rfl) ?_
    refine lv_if_ne (tgt := 22) hx hb dX8_part_7 (by decide) (fun c26 => ?_) (fun c26 => ?_)
    · rw [if_neg c26] at hf
      refine lv_iload_n hx hb dX8_part_22 rfl (lv_at hl 1 rfl) ?_
      refine lv_iconst (v := (1 : Int32)) hx hb dX8_part_23 (by decide) ?_
      refine lv_icmp_ne (tgt := 38) hx hb dX8_part_24 (by decide) (fun c27 => ?_) (fun c27 => ?_)
      · rw [if_neg c27] at hf
        refine lv_iconst (v := (0 : Int32)) hx hb dX8_part_38 (by decide) ?_
        obtain rfl := Option.some.inj hf
        exact k_retI hx hb hr hlocks hP hS dX8_part_39
      · rw [if_pos c27] at hf
        refine lv_iload_n hx hb dX8_part_27 rfl (lv_at hl 0 rfl) ?_
        refine lv_iconst (v := (1 : Int32)) hx hb dX8_part_28 (by decide) ?_
        refine lv_icmp_le (tgt := 38) hx hb dX8_part_29 (by decide) (fun c28 => ?_) (fun c28 => ?_)
        · rw [if_pos c28] at hf
          refine lv_iconst (v := (0 : Int32)) hx hb dX8_part_38 (by decide) ?_
          obtain rfl := Option.some.inj hf
          exact k_retI hx hb hr hlocks hP hS dX8_part_39
        · rw [if_neg c28] at hf
          refine lv_iload_n hx hb dX8_part_32 rfl (lv_at hl 0 rfl) ?_
          refine lv_iconst (v := (1 : Int32)) hx hb dX8_part_33 (by decide) ?_
          refine lv_isub hx hb dX8_part_34 ?_
          refine lv_goto (tgt := 39) hx hb dX8_part_35 (by decide) ?_
          obtain rfl := Option.some.inj hf
          exact k_retI hx hb hr hlocks hP hS dX8_part_39
    · rw [if_pos c26] at hf
      refine lv_iload_n hx hb dX8_part_10 rfl (lv_at hl 0 rfl) ?_
      refine lv_if_ne (tgt := 18) hx hb dX8_part_11 (by decide) (fun c29 => ?_) (fun c29 => ?_)
      · rw [if_neg c29] at hf
        refine lv_iconst (v := (1 : Int32)) hx hb dX8_part_18 (by decide) ?_
        refine lv_goto (tgt := 39) hx hb dX8_part_19 (by decide) ?_
        obtain rfl := Option.some.inj hf
        exact k_retI hx hb hr hlocks hP hS dX8_part_39
      · rw [if_pos c29] at hf
        refine lv_iconst (v := (2 : Int32)) hx hb dX8_part_14 (by decide) ?_
        refine lv_goto (tgt := 39) hx hb dX8_part_15 (by decide) ?_
        obtain rfl := Option.some.inj hf
        exact k_retI hx hb hr hlocks hP hS dX8_part_39

noncomputable def fX8_find_L8 (v0 : Int32) (v1 : Int32) (v2 : Int32) (v3 : Int32) (v4 : Int32) (v5 : Int32) : Nat → (Int32) → (Int32) → Option (Int32)
  | 0, _, _ => none
  | k + 1, v6, v7 =>
    if v7 < 0 then
      some v6
    else
      (fX8_part v7 (0 : Int32)).bind fun R2 =>
      (if R2 = v0 then
          (fX8_part v7 (1 : Int32)).bind fun R6 =>
          if R6 = v1 then
            (fX8_part v7 (2 : Int32)).bind fun R9 =>
            if R9 = v2 then
              some (1 : Int32)
            else
              some (0 : Int32)
          else
            some (0 : Int32)
        else
          some (0 : Int32) : Option (Int32)).bind fun R12 =>
      if R12 = 0 then
        fX8_find_L8 v0 v1 v2 v3 v4 v5 k v6 (v7 + (-1 : Int32))
      else
        (fX8_part v7 (3 : Int32)).bind fun R14 =>
        if R14 = v3 then
          (fX8_part v7 (4 : Int32)).bind fun R17 =>
          if R17 = v4 then
            (fX8_part v7 (5 : Int32)).bind fun R20 =>
            if R20 = v5 then
              fX8_find_L8 v0 v1 v2 v3 v4 v5 k v7 (v7 + (-1 : Int32))
            else
              fX8_find_L8 v0 v1 v2 v3 v4 v5 k v6 (v7 + (-1 : Int32))
          else
            fX8_find_L8 v0 v1 v2 v3 v4 v5 k v6 (v7 + (-1 : Int32))
        else
          fX8_find_L8 v0 v1 v2 v3 v4 v5 k v6 (v7 + (-1 : Int32))

noncomputable def fX8_find (x0 : Int32) (x1 : Int32) (x2 : Int32) (x3 : Int32) (x4 : Int32) (x5 : Int32) : Option (Int32) :=
  (fX8_find_L8 x0 x1 x2 x3 x4 x5 FU (-1 : Int32) (255 : Int32)).bind fun R23 =>
  some R23

set_option maxHeartbeats 4000000 in
set_option maxRecDepth 100000 in
theorem kX8_find (l : Launch) (D : va_G) (x0 : Int32) (x1 : Int32) (x2 : Int32) (x3 : Int32) (x4 : Int32) (x5 : Int32) {R : Int32} (hf : fX8_find x0 x1 x2 x3 x4 x5 = some R) : MI l yX8_find wsX8_find (rmD 1) D ([.int x0, .int x1, .int x2, .int x3, .int x4, .int x5] : List Value) ([] : va_W) [] NT R ([] : va_W) := by
  refine MI.mk (cc := cX8_find) (maxL := 9) (ret := (some .int)) (by first | decide | decide +kernel) rfl (Nat.le_of_ble_eq_true rfl) ?_
  intro p e s m below meth cd A ls hE
  obtain ⟨hx, hb, hr, hml, hts, hown, hlocks, hP, hK, hD, hA, hN, hAe, hl⟩ := hE
  have hown : s.vm.findClass RX8 = some m.cls := hown
  have hS : va_S A s.heap s.heap [] := va_S.rf
  have hl : lv_has ls 9 [(0, .int x0), (1, .int x1), (2, .int x2), (3, .int x3), (4, .int x4), (5, .int x5)] := hl
  rw [fX8_find] at hf
  refine lv_iconst (v := (-1 : Int32)) hx hb dX8_find_0 (by decide) ?_
  refine lv_istore (lv' := [(6, .int (-1 : Int32)), (0, .int x0), (1, .int x1), (2, .int x2), (3, .int x3), (4, .int x4), (5, .int x5)]) hx hb dX8_find_1 hl (by decide) rfl (fun ls hl => ?_)
  refine lv_sipush (v := (255 : Int32)) hx hb dX8_find_3 (by decide) ?_
  refine lv_istore (lv' := [(7, .int (255 : Int32)), (6, .int (-1 : Int32)), (0, .int x0), (1, .int x1), (2, .int x2), (3, .int x3), (4, .int x4), (5, .int x5)]) hx hb dX8_find_6 hl (by decide) rfl (fun ls hl => ?_)
  have lp25 : ∀ (v0 : Int32) (v1 : Int32) (v2 : Int32) (v3 : Int32) (v4 : Int32) (v5 : Int32), ∀ (k : Nat) (v6 : Int32) (v7 : Int32) (H : Heap) (locs : List Loc) (ls : Array Slot) (o : Int32), lv_has ls 9 [(6, .int v6), (7, .int v7), (0, .int v0), (1, .int v1), (2, .int v2), (3, .int v3), (4, .int v4), (5, .int v5)] → va_P D vwCl ([] : va_W) H → va_D A ([] : va_W) → va_S A s.heap H locs → fX8_find_L8 v0 v1 v2 v3 v4 v5 k v6 v7 = some o → (∀ (H : Heap) (locs : List Loc) (ls : Array Slot), lv_has ls 9 [(6, .int o)] → va_P D vwCl ([] : va_W) H → va_D A ([] : va_W) → va_S A s.heap H locs → W p l e (headSpec wsX8_find (rmD 1)).room s m ([.int x0, .int x1, .int x2, .int x3, .int x4, .int x5] : List Value).toArray below meth cd H locs 0 0 (QI D below ([.int x0, .int x1, .int x2, .int x3, .int x4, .int x5] : List Value).toArray s A R ([] : va_W)) (F0 m 102 ls [])) → W p l e (headSpec wsX8_find (rmD 1)).room s m ([.int x0, .int x1, .int x2, .int x3, .int x4, .int x5] : List Value).toArray below meth cd H locs 0 0 (QI D below ([.int x0, .int x1, .int x2, .int x3, .int x4, .int x5] : List Value).toArray s A R ([] : va_W)) (F0 m 8 ls []) := by
    intro v0 v1 v2 v3 v4 v5
    intro k
    induction k with
    | zero =>
      intro v6 v7 H locs ls o hl hP hD hS hf
      exact absurd hf (by simp [fX8_find_L8])
    | succ k ih =>
      intro v6 v7 H locs ls o hl hP hD hS hf kont
      rw [fX8_find_L8] at hf
      refine lv_iload hx hb dX8_find_8 (lv_at hl 1 rfl) ?_
      refine lv_if_lt (tgt := 102) hx hb dX8_find_10 (by decide) (fun c1 => ?_) (fun c1 => ?_)
      · rw [if_pos c1] at hf
        obtain rfl := Option.some.inj hf
        exact kont _ _ _ (lv_sub hl [0] rfl) hP hD hS
      · rw [if_neg c1] at hf
        refine lv_iload hx hb dX8_find_13 (lv_at hl 1 rfl) ?_
        refine lv_iconst (v := (0 : Int32)) hx hb dX8_find_15 (by decide) ?_
        obtain ⟨R2, hc3, hf⟩ := b_inv hf
        have hk := kcut (wc := ([] : va_W)) (wc' := ([] : va_W)) (wf := ([] : va_W)) hP hD hS hA [] rfl (by decide) rfl rfl
        refine k_goI (va_runS (As := [.int v7, .int (0 : Int32)]) (rest := []) ⟨hx, hb, hml, hown, hts⟩ (kX8_part l D v7 (0 : Int32) hc3 _) ⟨callB_of 2 hts ggX8_find_X8_part rfl rfl rfl (hts (.initialized RX8) (List.mem_of_getElem? (i := 3) rfl)) (hts (.methodLink RX8 58 yX8_part) (List.mem_of_getElem? (i := 1) rfl)) (by decide +kernel) ⟨Nat.le_of_ble_eq_true rfl, Nat.le_of_ble_eq_true rfl⟩, (hts (.static yX8_part) (List.mem_of_getElem? (i := 2) rfl))⟩ (k_preS hk (hK.sub [] rfl) NT_bl NT_u) rfl rfl hl.1 rfl (lv_room (Nat.le_of_ble_eq_true rfl)) dX8_find_16 ⟨Nat.zero_le _, Nat.zero_le _⟩) hk hS (fun H locs hP hD hS => ?_)
        refine lv_iload_n hx hb dX8_find_19 rfl (lv_at hl 2 rfl) ?_
        obtain ⟨R12, hj26, hf⟩ := b_inv hf
        have kont : ∀ (H : Heap) (locs : List Loc) (ls : Array Slot), lv_has ls 9 [(0, .int v0), (1, .int v1), (2, .int v2), (3, .int v3), (4, .int v4), (5, .int v5), (6, .int v6), (7, .int v7)] → va_P D vwCl ([] : va_W) H → va_D A ([] : va_W) → va_S A s.heap H locs → W p l e (headSpec wsX8_find (rmD 1)).room s m ([.int x0, .int x1, .int x2, .int x3, .int x4, .int x5] : List Value).toArray below meth cd H locs 0 0 (QI D below ([.int x0, .int x1, .int x2, .int x3, .int x4, .int x5] : List Value).toArray s A R ([] : va_W)) (F0 m 48 ls [.int R12]) := by
          intro H locs ls hl hP hD hS
          refine lv_istore (lv' := [(8, .int R12), (0, .int v0), (1, .int v1), (2, .int v2), (3, .int v3), (4, .int v4), (5, .int v5), (6, .int v6), (7, .int v7)]) hx hb dX8_find_48 hl (by decide) rfl (fun ls hl => ?_)
          refine lv_iload hx hb dX8_find_50 (lv_at hl 0 rfl) ?_
          refine lv_if_eq (tgt := 92) hx hb dX8_find_52 (by decide) (fun c13 => ?_) (fun c13 => ?_)
          · rw [if_pos c13] at hf
            refine lv_iload hx hb dX8_find_92 (lv_at hl 7 rfl) ?_
            refine lv_istore (lv' := [(6, .int v6), (8, .int R12), (0, .int v0), (1, .int v1), (2, .int v2), (3, .int v3), (4, .int v4), (5, .int v5), (7, .int v7)]) hx hb dX8_find_94 hl (by decide) rfl (fun ls hl => ?_)
            refine lv_iinc (v := (v7 + (-1 : Int32))) (lv' := [(7, .int (v7 + (-1 : Int32))), (6, .int v6), (8, .int R12), (0, .int v0), (1, .int v1), (2, .int v2), (3, .int v3), (4, .int v4), (5, .int v5)]) hx hb dX8_find_96 hl (k := 8) rfl rfl (by decide) rfl (fun ls hl => ?_)
            refine lv_goto (tgt := 8) hx hb dX8_find_99 (by decide) ?_
            exact ih v6 (v7 + (-1 : Int32)) _ _ _ o (lv_sub hl [1, 0, 3, 4, 5, 6, 7, 8] rfl) hP hD hS hf kont
          · rw [if_neg c13] at hf
            refine lv_iload hx hb dX8_find_55 (lv_at hl 8 rfl) ?_
            refine lv_iconst (v := (3 : Int32)) hx hb dX8_find_57 (by decide) ?_
            obtain ⟨R14, hc15, hf⟩ := b_inv hf
            have hk := kcut (wc := ([] : va_W)) (wc' := ([] : va_W)) (wf := ([] : va_W)) hP hD hS hA [] rfl (by decide) rfl rfl
            refine k_goI (va_runS (As := [.int v7, .int (3 : Int32)]) (rest := []) ⟨hx, hb, hml, hown, hts⟩ (kX8_part l D v7 (3 : Int32) hc15 _) ⟨callB_of 2 hts ggX8_find_X8_part rfl rfl rfl (hts (.initialized RX8) (List.mem_of_getElem? (i := 3) rfl)) (hts (.methodLink RX8 58 yX8_part) (List.mem_of_getElem? (i := 1) rfl)) (by decide +kernel) ⟨Nat.le_of_ble_eq_true rfl, Nat.le_of_ble_eq_true rfl⟩, (hts (.static yX8_part) (List.mem_of_getElem? (i := 2) rfl))⟩ (k_preS hk (hK.sub [] rfl) NT_bl NT_u) rfl rfl hl.1 rfl (lv_room (Nat.le_of_ble_eq_true rfl)) dX8_find_58 ⟨Nat.zero_le _, Nat.zero_le _⟩) hk hS (fun H locs hP hD hS => ?_)
            refine lv_iload_n hx hb dX8_find_61 rfl (lv_at hl 4 rfl) ?_
            refine lv_icmp_ne (tgt := 92) hx hb dX8_find_62 (by decide) (fun c16 => ?_) (fun c16 => ?_)
            · rw [if_neg c16] at hf
              refine lv_iload hx hb dX8_find_92 (lv_at hl 7 rfl) ?_
              refine lv_istore (lv' := [(6, .int v6), (8, .int R12), (0, .int v0), (1, .int v1), (2, .int v2), (3, .int v3), (4, .int v4), (5, .int v5), (7, .int v7)]) hx hb dX8_find_94 hl (by decide) rfl (fun ls hl => ?_)
              refine lv_iinc (v := (v7 + (-1 : Int32))) (lv' := [(7, .int (v7 + (-1 : Int32))), (6, .int v6), (8, .int R12), (0, .int v0), (1, .int v1), (2, .int v2), (3, .int v3), (4, .int v4), (5, .int v5)]) hx hb dX8_find_96 hl (k := 8) rfl rfl (by decide) rfl (fun ls hl => ?_)
              refine lv_goto (tgt := 8) hx hb dX8_find_99 (by decide) ?_
              exact ih v6 (v7 + (-1 : Int32)) _ _ _ o (lv_sub hl [1, 0, 3, 4, 5, 6, 7, 8] rfl) hP hD hS hf kont
            · rw [if_pos c16] at hf
              refine lv_iload hx hb dX8_find_65 (lv_at hl 8 rfl) ?_
              refine lv_iconst (v := (4 : Int32)) hx hb dX8_find_67 (by decide) ?_
              obtain ⟨R17, hc18, hf⟩ := b_inv hf
              have hk := kcut (wc := ([] : va_W)) (wc' := ([] : va_W)) (wf := ([] : va_W)) hP hD hS hA [] rfl (by decide) rfl rfl
              refine k_goI (va_runS (As := [.int v7, .int (4 : Int32)]) (rest := []) ⟨hx, hb, hml, hown, hts⟩ (kX8_part l D v7 (4 : Int32) hc18 _) ⟨callB_of 2 hts ggX8_find_X8_part rfl rfl rfl (hts (.initialized RX8) (List.mem_of_getElem? (i := 3) rfl)) (hts (.methodLink RX8 58 yX8_part) (List.mem_of_getElem? (i := 1) rfl)) (by decide +kernel) ⟨Nat.le_of_ble_eq_true rfl, Nat.le_of_ble_eq_true rfl⟩, (hts (.static yX8_part) (List.mem_of_getElem? (i := 2) rfl))⟩ (k_preS hk (hK.sub [] rfl) NT_bl NT_u) rfl rfl hl.1 rfl (lv_room (Nat.le_of_ble_eq_true rfl)) dX8_find_68 ⟨Nat.zero_le _, Nat.zero_le _⟩) hk hS (fun H locs hP hD hS => ?_)
              refine lv_iload hx hb dX8_find_71 (lv_at hl 5 rfl) ?_
              refine lv_icmp_ne (tgt := 92) hx hb dX8_find_73 (by decide) (fun c19 => ?_) (fun c19 => ?_)
              · rw [if_neg c19] at hf
                refine lv_iload hx hb dX8_find_92 (lv_at hl 7 rfl) ?_
                refine lv_istore (lv' := [(6, .int v6), (8, .int R12), (0, .int v0), (1, .int v1), (2, .int v2), (3, .int v3), (4, .int v4), (5, .int v5), (7, .int v7)]) hx hb dX8_find_94 hl (by decide) rfl (fun ls hl => ?_)
                refine lv_iinc (v := (v7 + (-1 : Int32))) (lv' := [(7, .int (v7 + (-1 : Int32))), (6, .int v6), (8, .int R12), (0, .int v0), (1, .int v1), (2, .int v2), (3, .int v3), (4, .int v4), (5, .int v5)]) hx hb dX8_find_96 hl (k := 8) rfl rfl (by decide) rfl (fun ls hl => ?_)
                refine lv_goto (tgt := 8) hx hb dX8_find_99 (by decide) ?_
                exact ih v6 (v7 + (-1 : Int32)) _ _ _ o (lv_sub hl [1, 0, 3, 4, 5, 6, 7, 8] rfl) hP hD hS hf kont
              · rw [if_pos c19] at hf
                refine lv_iload hx hb dX8_find_76 (lv_at hl 8 rfl) ?_
                refine lv_iconst (v := (5 : Int32)) hx hb dX8_find_78 (by decide) ?_
                obtain ⟨R20, hc21, hf⟩ := b_inv hf
                have hk := kcut (wc := ([] : va_W)) (wc' := ([] : va_W)) (wf := ([] : va_W)) hP hD hS hA [] rfl (by decide) rfl rfl
                refine k_goI (va_runS (As := [.int v7, .int (5 : Int32)]) (rest := []) ⟨hx, hb, hml, hown, hts⟩ (kX8_part l D v7 (5 : Int32) hc21 _) ⟨callB_of 2 hts ggX8_find_X8_part rfl rfl rfl (hts (.initialized RX8) (List.mem_of_getElem? (i := 3) rfl)) (hts (.methodLink RX8 58 yX8_part) (List.mem_of_getElem? (i := 1) rfl)) (by decide +kernel) ⟨Nat.le_of_ble_eq_true rfl, Nat.le_of_ble_eq_true rfl⟩, (hts (.static yX8_part) (List.mem_of_getElem? (i := 2) rfl))⟩ (k_preS hk (hK.sub [] rfl) NT_bl NT_u) rfl rfl hl.1 rfl (lv_room (Nat.le_of_ble_eq_true rfl)) dX8_find_79 ⟨Nat.zero_le _, Nat.zero_le _⟩) hk hS (fun H locs hP hD hS => ?_)
                refine lv_iload hx hb dX8_find_82 (lv_at hl 6 rfl) ?_
                refine lv_icmp_ne (tgt := 92) hx hb dX8_find_84 (by decide) (fun c22 => ?_) (fun c22 => ?_)
                · rw [if_neg c22] at hf
                  refine lv_iload hx hb dX8_find_92 (lv_at hl 7 rfl) ?_
                  refine lv_istore (lv' := [(6, .int v6), (8, .int R12), (0, .int v0), (1, .int v1), (2, .int v2), (3, .int v3), (4, .int v4), (5, .int v5), (7, .int v7)]) hx hb dX8_find_94 hl (by decide) rfl (fun ls hl => ?_)
                  refine lv_iinc (v := (v7 + (-1 : Int32))) (lv' := [(7, .int (v7 + (-1 : Int32))), (6, .int v6), (8, .int R12), (0, .int v0), (1, .int v1), (2, .int v2), (3, .int v3), (4, .int v4), (5, .int v5)]) hx hb dX8_find_96 hl (k := 8) rfl rfl (by decide) rfl (fun ls hl => ?_)
                  refine lv_goto (tgt := 8) hx hb dX8_find_99 (by decide) ?_
                  exact ih v6 (v7 + (-1 : Int32)) _ _ _ o (lv_sub hl [1, 0, 3, 4, 5, 6, 7, 8] rfl) hP hD hS hf kont
                · rw [if_pos c22] at hf
                  refine lv_iload hx hb dX8_find_87 (lv_at hl 8 rfl) ?_
                  refine lv_goto (tgt := 94) hx hb dX8_find_89 (by decide) ?_
                  refine lv_istore (lv' := [(6, .int v7), (8, .int R12), (0, .int v0), (1, .int v1), (2, .int v2), (3, .int v3), (4, .int v4), (5, .int v5), (7, .int v7)]) hx hb dX8_find_94 hl (by decide) rfl (fun ls hl => ?_)
                  refine lv_iinc (v := (v7 + (-1 : Int32))) (lv' := [(7, .int (v7 + (-1 : Int32))), (6, .int v7), (8, .int R12), (0, .int v0), (1, .int v1), (2, .int v2), (3, .int v3), (4, .int v4), (5, .int v5)]) hx hb dX8_find_96 hl (k := 8) rfl rfl (by decide) rfl (fun ls hl => ?_)
                  refine lv_goto (tgt := 8) hx hb dX8_find_99 (by decide) ?_
                  exact ih v7 (v7 + (-1 : Int32)) _ _ _ o (lv_sub hl [1, 0, 3, 4, 5, 6, 7, 8] rfl) hP hD hS hf kont
        refine lv_icmp_ne (tgt := 47) hx hb dX8_find_20 (by decide) (fun c5 => ?_) (fun c5 => ?_)
        · rw [if_neg c5] at hj26
          refine lv_iconst (v := (0 : Int32)) hx hb dX8_find_47 (by decide) ?_
          obtain rfl := Option.some.inj hj26
          exact kont _ _ _ (lv_sub hl [2, 3, 4, 5, 6, 7, 0, 1] rfl) hP hD hS
        · rw [if_pos c5] at hj26
          refine lv_iload hx hb dX8_find_23 (lv_at hl 1 rfl) ?_
          refine lv_iconst (v := (1 : Int32)) hx hb dX8_find_25 (by decide) ?_
          obtain ⟨R6, hc7, hj26⟩ := b_inv hj26
          have hk := kcut (wc := ([] : va_W)) (wc' := ([] : va_W)) (wf := ([] : va_W)) hP hD hS hA [] rfl (by decide) rfl rfl
          refine k_goI (va_runS (As := [.int v7, .int (1 : Int32)]) (rest := []) ⟨hx, hb, hml, hown, hts⟩ (kX8_part l D v7 (1 : Int32) hc7 _) ⟨callB_of 2 hts ggX8_find_X8_part rfl rfl rfl (hts (.initialized RX8) (List.mem_of_getElem? (i := 3) rfl)) (hts (.methodLink RX8 58 yX8_part) (List.mem_of_getElem? (i := 1) rfl)) (by decide +kernel) ⟨Nat.le_of_ble_eq_true rfl, Nat.le_of_ble_eq_true rfl⟩, (hts (.static yX8_part) (List.mem_of_getElem? (i := 2) rfl))⟩ (k_preS hk (hK.sub [] rfl) NT_bl NT_u) rfl rfl hl.1 rfl (lv_room (Nat.le_of_ble_eq_true rfl)) dX8_find_26 ⟨Nat.zero_le _, Nat.zero_le _⟩) hk hS (fun H locs hP hD hS => ?_)
          refine lv_iload_n hx hb dX8_find_29 rfl (lv_at hl 3 rfl) ?_
          refine lv_icmp_ne (tgt := 47) hx hb dX8_find_30 (by decide) (fun c8 => ?_) (fun c8 => ?_)
          · rw [if_neg c8] at hj26
            refine lv_iconst (v := (0 : Int32)) hx hb dX8_find_47 (by decide) ?_
            obtain rfl := Option.some.inj hj26
            exact kont _ _ _ (lv_sub hl [2, 3, 4, 5, 6, 7, 0, 1] rfl) hP hD hS
          · rw [if_pos c8] at hj26
            refine lv_iload hx hb dX8_find_33 (lv_at hl 1 rfl) ?_
            refine lv_iconst (v := (2 : Int32)) hx hb dX8_find_35 (by decide) ?_
            obtain ⟨R9, hc10, hj26⟩ := b_inv hj26
            have hk := kcut (wc := ([] : va_W)) (wc' := ([] : va_W)) (wf := ([] : va_W)) hP hD hS hA [] rfl (by decide) rfl rfl
            refine k_goI (va_runS (As := [.int v7, .int (2 : Int32)]) (rest := []) ⟨hx, hb, hml, hown, hts⟩ (kX8_part l D v7 (2 : Int32) hc10 _) ⟨callB_of 2 hts ggX8_find_X8_part rfl rfl rfl (hts (.initialized RX8) (List.mem_of_getElem? (i := 3) rfl)) (hts (.methodLink RX8 58 yX8_part) (List.mem_of_getElem? (i := 1) rfl)) (by decide +kernel) ⟨Nat.le_of_ble_eq_true rfl, Nat.le_of_ble_eq_true rfl⟩, (hts (.static yX8_part) (List.mem_of_getElem? (i := 2) rfl))⟩ (k_preS hk (hK.sub [] rfl) NT_bl NT_u) rfl rfl hl.1 rfl (lv_room (Nat.le_of_ble_eq_true rfl)) dX8_find_36 ⟨Nat.zero_le _, Nat.zero_le _⟩) hk hS (fun H locs hP hD hS => ?_)
            refine lv_iload_n hx hb dX8_find_39 rfl (lv_at hl 4 rfl) ?_
            refine lv_icmp_ne (tgt := 47) hx hb dX8_find_40 (by decide) (fun c11 => ?_) (fun c11 => ?_)
            · rw [if_neg c11] at hj26
              refine lv_iconst (v := (0 : Int32)) hx hb dX8_find_47 (by decide) ?_
              obtain rfl := Option.some.inj hj26
              exact kont _ _ _ (lv_sub hl [2, 3, 4, 5, 6, 7, 0, 1] rfl) hP hD hS
            · rw [if_pos c11] at hj26
              refine lv_iconst (v := (1 : Int32)) hx hb dX8_find_43 (by decide) ?_
              refine lv_goto (tgt := 48) hx hb dX8_find_44 (by decide) ?_
              obtain rfl := Option.some.inj hj26
              exact kont _ _ _ (lv_sub hl [2, 3, 4, 5, 6, 7, 0, 1] rfl) hP hD hS
  obtain ⟨R23, hc24, hf⟩ := b_inv hf
  refine lp25 x0 x1 x2 x3 x4 x5 FU (-1 : Int32) (255 : Int32) _ _ _ R23 (lv_sub hl [1, 0, 2, 3, 4, 5, 6, 7] rfl) hP hD hS hc24 (fun H locs ls hl hP hD hS => ?_)
  refine lv_iload hx hb dX8_find_102 (lv_at hl 0 rfl) ?_
  obtain rfl := Option.some.inj hf
  exact k_retI hx hb hr hlocks hP hS dX8_find_104

noncomputable def fX8_bytesOf_L7  : Nat → (Int32) → (Int32) → Option (Int32)
  | 0, _, _ => none
  | k + 1, v1, v2 =>
    if v2 ≤ 0 then
      some v1
    else
      fX8_bytesOf_L7 k (v1 + (1 : Int32)) (v2 >>> ((7 : Int32) &&& 31))

noncomputable def fX8_bytesOf (x0 : Int32) : Option (Int32) :=
  (fX8_bytesOf_L7 FU (1 : Int32) (x0 >>> ((7 : Int32) &&& 31))).bind fun R2 =>
  some R2

set_option maxHeartbeats 4000000 in
set_option maxRecDepth 100000 in
theorem kX8_bytesOf (l : Launch) (D : va_G) (x0 : Int32) {R : Int32} (hf : fX8_bytesOf x0 = some R) : MI l yX8_bytesOf wsX8_bytesOf (rmD 0) D ([.int x0] : List Value) ([] : va_W) [] NT R ([] : va_W) := by
  refine MI.mk (cc := cX8_bytesOf) (maxL := 3) (ret := (some .int)) (by first | decide | decide +kernel) rfl (Nat.le_of_ble_eq_true rfl) ?_
  intro p e s m below meth cd A ls hE
  obtain ⟨hx, hb, hr, hml, hts, hown, hlocks, hP, hK, hD, hA, hN, hAe, hl⟩ := hE
  have hown : s.vm.findClass RX8 = some m.cls := hown
  have hS : va_S A s.heap s.heap [] := va_S.rf
  have hl : lv_has ls 3 [(0, .int x0)] := hl
  rw [fX8_bytesOf] at hf
  refine lv_iconst (v := (1 : Int32)) hx hb dX8_bytesOf_0 (by decide) ?_
  refine lv_istore_n (lv' := [(1, .int (1 : Int32)), (0, .int x0)]) hx hb dX8_bytesOf_1 rfl hl (by decide) rfl (fun ls hl => ?_)
  refine lv_iload_n hx hb dX8_bytesOf_2 rfl (lv_at hl 1 rfl) ?_
  refine lv_bipush (v := (7 : Int32)) hx hb dX8_bytesOf_3 (by decide) ?_
  refine lv_ishr hx hb dX8_bytesOf_5 ?_
  refine lv_istore_n (lv' := [(2, .int (x0 >>> ((7 : Int32) &&& 31))), (1, .int (1 : Int32)), (0, .int x0)]) hx hb dX8_bytesOf_6 rfl hl (by decide) rfl (fun ls hl => ?_)
  have lp4 : ∀ (k : Nat) (v1 : Int32) (v2 : Int32) (H : Heap) (locs : List Loc) (ls : Array Slot) (o : Int32), lv_has ls 3 [(1, .int v1), (2, .int v2)] → va_P D vwCl ([] : va_W) H → va_D A ([] : va_W) → va_S A s.heap H locs → fX8_bytesOf_L7 k v1 v2 = some o → (∀ (H : Heap) (locs : List Loc) (ls : Array Slot), lv_has ls 3 [(1, .int o)] → va_P D vwCl ([] : va_W) H → va_D A ([] : va_W) → va_S A s.heap H locs → W p l e (headSpec wsX8_bytesOf (rmD 0)).room s m ([.int x0] : List Value).toArray below meth cd H locs 0 0 (QI D below ([.int x0] : List Value).toArray s A R ([] : va_W)) (F0 m 22 ls [])) → W p l e (headSpec wsX8_bytesOf (rmD 0)).room s m ([.int x0] : List Value).toArray below meth cd H locs 0 0 (QI D below ([.int x0] : List Value).toArray s A R ([] : va_W)) (F0 m 7 ls []) := by
    intro k
    induction k with
    | zero =>
      intro v1 v2 H locs ls o hl hP hD hS hf
      exact absurd hf (by simp [fX8_bytesOf_L7])
    | succ k ih =>
      intro v1 v2 H locs ls o hl hP hD hS hf kont
      rw [fX8_bytesOf_L7] at hf
      refine lv_iload_n hx hb dX8_bytesOf_7 rfl (lv_at hl 1 rfl) ?_
      refine lv_if_le (tgt := 22) hx hb dX8_bytesOf_8 (by decide) (fun c1 => ?_) (fun c1 => ?_)
      · rw [if_pos c1] at hf
        obtain rfl := Option.some.inj hf
        exact kont _ _ _ (lv_sub hl [0] rfl) hP hD hS
      · rw [if_neg c1] at hf
        refine lv_iinc (v := (v1 + (1 : Int32))) (lv' := [(1, .int (v1 + (1 : Int32))), (2, .int v2)]) hx hb dX8_bytesOf_11 hl (k := 0) rfl rfl (by decide) rfl (fun ls hl => ?_)
        refine lv_iload_n hx hb dX8_bytesOf_14 rfl (lv_at hl 1 rfl) ?_
        refine lv_bipush (v := (7 : Int32)) hx hb dX8_bytesOf_15 (by decide) ?_
        refine lv_ishr hx hb dX8_bytesOf_17 ?_
        refine lv_istore_n (lv' := [(2, .int (v2 >>> ((7 : Int32) &&& 31))), (1, .int (v1 + (1 : Int32)))]) hx hb dX8_bytesOf_18 rfl hl (by decide) rfl (fun ls hl => ?_)
        refine lv_goto (tgt := 7) hx hb dX8_bytesOf_19 (by decide) ?_
        exact ih (v1 + (1 : Int32)) (v2 >>> ((7 : Int32) &&& 31)) _ _ _ o (lv_sub hl [1, 0] rfl) hP hD hS hf kont
  obtain ⟨R2, hc3, hf⟩ := b_inv hf
  refine lp4 FU (1 : Int32) (x0 >>> ((7 : Int32) &&& 31)) _ _ _ R2 (lv_sub hl [1, 0] rfl) hP hD hS hc3 (fun H locs ls hl hP hD hS => ?_)
  refine lv_iload_n hx hb dX8_bytesOf_22 rfl (lv_at hl 0 rfl) ?_
  obtain rfl := Option.some.inj hf
  exact k_retI hx hb hr hlocks hP hS dX8_bytesOf_23

noncomputable def fX8_byteOf (x0 : Int32) (x1 : Int32) (x2 : Int32) : Option (Int32) :=
  if (x1 - (1 : Int32)) ≤ x2 then
    some (((x0 >>> (((7 : Int32) * ((x1 - (1 : Int32)) - x2)) &&& 31)) &&& (127 : Int32)) + (0 : Int32))
  else
    some (((x0 >>> (((7 : Int32) * ((x1 - (1 : Int32)) - x2)) &&& 31)) &&& (127 : Int32)) + (128 : Int32))

set_option maxHeartbeats 4000000 in
set_option maxRecDepth 100000 in
theorem kX8_byteOf (l : Launch) (D : va_G) (x0 : Int32) (x1 : Int32) (x2 : Int32) {R : Int32} (hf : fX8_byteOf x0 x1 x2 = some R) : MI l yX8_byteOf wsX8_byteOf (rmD 0) D ([.int x0, .int x1, .int x2] : List Value) ([] : va_W) [] NT R ([] : va_W) := by
  refine MI.mk (cc := cX8_byteOf) (maxL := 3) (ret := (some .int)) (by first | decide | decide +kernel) rfl (Nat.le_of_ble_eq_true rfl) ?_
  intro p e s m below meth cd A ls hE
  obtain ⟨hx, hb, hr, hml, hts, hown, hlocks, hP, hK, hD, hA, hN, hAe, hl⟩ := hE
  have hown : s.vm.findClass RX8 = some m.cls := hown
  have hS : va_S A s.heap s.heap [] := va_S.rf
  have hl : lv_has ls 3 [(0, .int x0), (1, .int x1), (2, .int x2)] := hl
  rw [fX8_byteOf] at hf
  refine lv_iload_n hx hb dX8_byteOf_0 rfl (lv_at hl 0 rfl) ?_
  refine lv_bipush (v := (7 : Int32)) hx hb dX8_byteOf_1 (by decide) ?_
  refine lv_iload_n hx hb dX8_byteOf_3 rfl (lv_at hl 1 rfl) ?_
  refine lv_iconst (v := (1 : Int32)) hx hb dX8_byteOf_4 (by decide) ?_
  refine lv_isub hx hb dX8_byteOf_5 ?_
  refine lv_iload_n hx hb dX8_byteOf_6 rfl (lv_at hl 2 rfl) ?_
  refine lv_isub hx hb dX8_byteOf_7 ?_
  refine lv_imul hx hb dX8_byteOf_8 ?_
  refine lv_ishr hx hb dX8_byteOf_9 ?_
  refine lv_bipush (v := (127 : Int32)) hx hb dX8_byteOf_10 (by decide) ?_
  refine lv_iand hx hb dX8_byteOf_12 ?_
  refine lv_iload_n hx hb dX8_byteOf_13 rfl (lv_at hl 2 rfl) ?_
  refine lv_iload_n hx hb dX8_byteOf_14 rfl (lv_at hl 1 rfl) ?_
  refine lv_iconst (v := (1 : Int32)) hx hb dX8_byteOf_15 (by decide) ?_
  refine lv_isub hx hb dX8_byteOf_16 ?_
  refine lv_icmp_ge (tgt := 26) hx hb dX8_byteOf_17 (by decide) (fun c1 => ?_) (fun c1 => ?_)
  · rw [if_pos c1] at hf
    refine lv_iconst (v := (0 : Int32)) hx hb dX8_byteOf_26 (by decide) ?_
    refine lv_iadd hx hb dX8_byteOf_27 ?_
    obtain rfl := Option.some.inj hf
    exact k_retI hx hb hr hlocks hP hS dX8_byteOf_28
  · rw [if_neg c1] at hf
    refine lv_sipush (v := (128 : Int32)) hx hb dX8_byteOf_20 (by decide) ?_
    refine lv_goto (tgt := 27) hx hb dX8_byteOf_23 (by decide) ?_
    refine lv_iadd hx hb dX8_byteOf_27 ?_
    obtain rfl := Option.some.inj hf
    exact k_retI hx hb hr hlocks hP hS dX8_byteOf_28

noncomputable def fX8_head (x0 : Int32) : Option (Int32) :=
  if x0 = 0 then
    some (214 : Int32)
  else
    if x0 = (1 : Int32) then
      some (195 : Int32)
    else
      if x0 = (2 : Int32) then
        some (196 : Int32)
      else
        some (0 : Int32)

set_option maxHeartbeats 4000000 in
set_option maxRecDepth 100000 in
theorem kX8_head (l : Launch) (D : va_G) (x0 : Int32) {R : Int32} (hf : fX8_head x0 = some R) : MI l yX8_head wsX8_head (rmD 0) D ([.int x0] : List Value) ([] : va_W) [] NT R ([] : va_W) := by
  refine MI.mk (cc := cX8_head) (maxL := 1) (ret := (some .int)) (by first | decide | decide +kernel) rfl (Nat.le_of_ble_eq_true rfl) ?_
  intro p e s m below meth cd A ls hE
  obtain ⟨hx, hb, hr, hml, hts, hown, hlocks, hP, hK, hD, hA, hN, hAe, hl⟩ := hE
  have hown : s.vm.findClass RX8 = some m.cls := hown
  have hS : va_S A s.heap s.heap [] := va_S.rf
  have hl : lv_has ls 1 [(0, .int x0)] := hl
  rw [fX8_head] at hf
  refine lv_iload_n hx hb dX8_head_0 rfl (lv_at hl 0 rfl) ?_
  refine lv_if_ne (tgt := 10) hx hb dX8_head_1 (by decide) (fun c1 => ?_) (fun c1 => ?_)
  · rw [if_neg c1] at hf
    refine lv_iload_n hx hb dX8_head_10 rfl (lv_at hl 0 rfl) ?_
    refine lv_iconst (v := (1 : Int32)) hx hb dX8_head_11 (by decide) ?_
    refine lv_icmp_ne (tgt := 21) hx hb dX8_head_12 (by decide) (fun c2 => ?_) (fun c2 => ?_)
    · rw [if_neg c2] at hf
      refine lv_iload_n hx hb dX8_head_21 rfl (lv_at hl 0 rfl) ?_
      refine lv_iconst (v := (2 : Int32)) hx hb dX8_head_22 (by decide) ?_
      refine lv_icmp_ne (tgt := 32) hx hb dX8_head_23 (by decide) (fun c3 => ?_) (fun c3 => ?_)
      · rw [if_neg c3] at hf
        refine lv_iconst (v := (0 : Int32)) hx hb dX8_head_32 (by decide) ?_
        obtain rfl := Option.some.inj hf
        exact k_retI hx hb hr hlocks hP hS dX8_head_33
      · rw [if_pos c3] at hf
        refine lv_sipush (v := (196 : Int32)) hx hb dX8_head_26 (by decide) ?_
        refine lv_goto (tgt := 33) hx hb dX8_head_29 (by decide) ?_
        obtain rfl := Option.some.inj hf
        exact k_retI hx hb hr hlocks hP hS dX8_head_33
    · rw [if_pos c2] at hf
      refine lv_sipush (v := (195 : Int32)) hx hb dX8_head_15 (by decide) ?_
      refine lv_goto (tgt := 33) hx hb dX8_head_18 (by decide) ?_
      obtain rfl := Option.some.inj hf
      exact k_retI hx hb hr hlocks hP hS dX8_head_33
  · rw [if_pos c1] at hf
    refine lv_sipush (v := (214 : Int32)) hx hb dX8_head_4 (by decide) ?_
    refine lv_goto (tgt := 33) hx hb dX8_head_7 (by decide) ?_
    obtain rfl := Option.some.inj hf
    exact k_retI hx hb hr hlocks hP hS dX8_head_33
