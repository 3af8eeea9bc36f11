/-! THE LAW: its eleven cases -/
section LWC
variable {p : Program} {l : Launch} {e : Env} {s : State} {m : MethodId} {below : List Frame} {meth : Method} {c : Code} {b L : Nat} {xs : Nat → Int32} {D : va_G} {q qm : Nat → Nat} {cA cB : Nat → ClassId} {hd i : Nat} {sc msc : Nat → Int32} {ar mar : Nat → Nat → Int32} {sg : Bool} {H : Heap} {locs : List Loc} {ls : Array Slot}
/-- the law may go on from 405 -/
def lw_next (p : Program) (l : Launch) (e : Env) (s : State) (m : MethodId) (below : List Frame) (meth : Method) (c : Code) (b : Nat) (D : va_G) (q qm : Nat → Nat) (cA cB : Nat → ClassId) (ls : Array Slot) : Prop := ∀ (sc' msc' : Nat → Int32) (ar' mar' : Nat → Nat → Int32) (sg' : Bool) (H' : Heap) (locs' : List Loc), Rel sc' ar' msc' mar' → va_P D vwCl (wX q cA sc' ar' sg' ++ wM qm cB msc' mar') H' → va_D (fun a : Nat => s.heap.size ≤ a) (wX q cA sc' ar' sg' ++ wM qm cB msc' mar') → va_S (fun a : Nat => s.heap.size ≤ a) s.heap H' locs' → W p l e room_1 s m #[Value.ref b] below meth c H' locs' 53 13931 (lw_Z below #[Value.ref b] s) (F0 m 405 ls [])
set_option maxHeartbeats 4000000 in
set_option maxRecDepth 100000 in
theorem lw_c_put (hi : i + 4 ≤ L) (hL : L ≤ 2048) (C0 : lw_At p s m meth c b L xs) (E : lw_E hd s) (hK : va_K D vwCl (tX cA ++ tM cB) s) (hP : va_P D vwCl (wX q cA sc ar sg ++ wM qm cB msc mar) H) (hD : va_D (fun a : Nat => s.heap.size ≤ a) (wX q cA sc ar sg ++ wM qm cB msc mar)) (hS : va_S (fun a : Nat => s.heap.size ≤ a) s.heap H locs) (hl : lv_has ls 4 [(0, .ref b), (1, .ref (q 0)), (2, .ref (qm 0)), (3, .int (nI i))]) (hR : Rel sc ar msc mar) (next : lw_next p l e s m below meth c b D q qm cA cB ls) : W p l e room_1 s m #[Value.ref b] below meth c H locs 53 13931 (lw_Z below #[Value.ref b] s) (F0 m 92 ls []) := by
  obtain ⟨hx, hb, hr, hml, hown0, hts, hX, hbl, hlocks, hgv⟩ := id C0
  have htl : ∀ w ∈ wsL_law, w.before #[Value.ref b] s = true := fun w h => hts w (wsL_law_in w h)
  have hown : s.vm.findClass RL = some m.cls := hown0
  have hA : ∀ a : Nat, s.heap.size ≤ a → (fun a : Nat => s.heap.size ≤ a) a := fun _ h => h
  have hbA : ¬ (fun a : Nat => s.heap.size ≤ a) b := Nat.not_le.mpr hbl
  have v1 : vp_in (nI i + (1 : Int32)) L := by rw [show nI i + (1 : Int32) = nI (i + 1) from nI_add i 1]; exact vp_in_nI (by omega) (by omega)
  have v2 : vp_in (nI i + (2 : Int32)) L := by rw [show nI i + (2 : Int32) = nI (i + 2) from nI_add i 2]; exact vp_in_nI (by omega) (by omega)
  have v3 : vp_in (nI i + (3 : Int32)) L := by rw [show nI i + (3 : Int32) = nI (i + 3) from nI_add i 3]; exact vp_in_nI (by omega) (by omega)
  obtain ⟨r, sc2, ar2, mar2, x1, x2, x3, x4⟩ := put_sim (sg := sg) hR (xs (nI i + (1 : Int32)).toNatClampNeg) (xs (nI i + (2 : Int32)).toNatClampNeg) (xs (nI i + (3 : Int32)).toNatClampNeg)
  refine lv_aload_n hx hb dL_law_92 rfl (lv_at hl 1 rfl) ?_
  refine lv_aload_n hx hb dL_law_93 rfl (lv_at hl 0 rfl) ?_
  refine lv_iload_n hx hb dL_law_94 rfl (lv_at hl 3 rfl) ?_
  refine lv_iconst (v := (1 : Int32)) hx hb dL_law_95 (by decide) ?_
  refine lv_iadd hx hb dL_law_96 ?_
  refine va_sld hx hb hX hbl hbA hS v1 dL_law_97 ?_
  refine lv_aload_n hx hb dL_law_98 rfl (lv_at hl 0 rfl) ?_
  refine lv_iload_n hx hb dL_law_99 rfl (lv_at hl 3 rfl) ?_
  refine lv_iconst (v := (2 : Int32)) hx hb dL_law_100 (by decide) ?_
  refine lv_iadd hx hb dL_law_101 ?_
  refine va_sld hx hb hX hbl hbA hS v2 dL_law_102 ?_
  refine lv_aload_n hx hb dL_law_103 rfl (lv_at hl 0 rfl) ?_
  refine lv_iload_n hx hb dL_law_104 rfl (lv_at hl 3 rfl) ?_
  refine lv_iconst (v := (3 : Int32)) hx hb dL_law_105 (by decide) ?_
  refine lv_iadd hx hb dL_law_106 ?_
  refine va_sld hx hb hX hbl hbA hS v3 dL_law_107 ?_
  have hk := kcutX (sc' := sc2) (ar' := ar2) (sg' := sg) hP hD hS hA
  refine k_goI (r := r) (va_runV (As := [.int (xs (nI i + (1 : Int32)).toNatClampNeg), .int (xs (nI i + (2 : Int32)).toNatClampNeg), .int (xs (nI i + (3 : Int32)).toNatClampNeg)]) (rest := []) ⟨hx, hb, hml, hown, htl⟩ (kX7_put l D q cA sc ar sg _ _ _ x1 _) (cwV 3 htl gL_law_X7_put rfl rfl rfl (by decide +kernel) ⟨(Nat.le_of_ble_eq_true rfl), (Nat.le_of_ble_eq_true rfl)⟩) (k_preV (q0 := 0) (ci := 6) hk (hK.sub (tys' := tX cA) [0, 1, 2, 3, 4, 5, 6, 7, 8, 9, 10, 11, 12, 13, 14, 15, 16, 17, 18] rfl) NX_bl (fun U _ hW => NX_w hW E.1) rfl rfl rfl) rfl rfl hl.1 rfl (lv_room (Nat.le_of_ble_eq_true rfl)) dL_law_108 ⟨(Nat.le_of_ble_eq_true rfl), (Nat.le_of_ble_eq_true rfl)⟩) hk hS (fun H locs hP hD hS => ?_)
  refine lv_aload_n hx hb dL_law_111 rfl (lv_at hl 2 rfl) ?_
  refine lv_aload_n hx hb dL_law_112 rfl (lv_at hl 0 rfl) ?_
  refine lv_iload_n hx hb dL_law_113 rfl (lv_at hl 3 rfl) ?_
  refine lv_iconst (v := (1 : Int32)) hx hb dL_law_114 (by decide) ?_
  refine lv_iadd hx hb dL_law_115 ?_
  refine va_sld hx hb hX hbl hbA hS v1 dL_law_116 ?_
  refine lv_aload_n hx hb dL_law_117 rfl (lv_at hl 0 rfl) ?_
  refine lv_iload_n hx hb dL_law_118 rfl (lv_at hl 3 rfl) ?_
  refine lv_iconst (v := (2 : Int32)) hx hb dL_law_119 (by decide) ?_
  refine lv_iadd hx hb dL_law_120 ?_
  refine va_sld hx hb hX hbl hbA hS v2 dL_law_121 ?_
  refine lv_aload_n hx hb dL_law_122 rfl (lv_at hl 0 rfl) ?_
  refine lv_iload_n hx hb dL_law_123 rfl (lv_at hl 3 rfl) ?_
  refine lv_iconst (v := (3 : Int32)) hx hb dL_law_124 (by decide) ?_
  refine lv_iadd hx hb dL_law_125 ?_
  refine va_sld hx hb hX hbl hbA hS v3 dL_law_126 ?_
  have hk := kcutM (msc' := msc) (mar' := mar2) hP hD hS hA
  refine k_goI (r := r) (va_runV (As := [.int (xs (nI i + (1 : Int32)).toNatClampNeg), .int (xs (nI i + (2 : Int32)).toNatClampNeg), .int (xs (nI i + (3 : Int32)).toNatClampNeg)]) (rest := [.int r]) ⟨hx, hb, hml, hown, htl⟩ (kX8_put l D qm cB msc mar _ _ _ x2 _) (cwV 3 htl gL_law_X8_put rfl rfl rfl (by decide +kernel) ⟨(Nat.le_of_ble_eq_true rfl), (Nat.le_of_ble_eq_true rfl)⟩) (k_preV (q0 := 0) (ci := 7) hk (hK.sub (tys' := tM cB) [19, 20, 21, 22, 23, 24, 25, 26, 27, 28, 29, 30] rfl) NT_bl NT_u rfl rfl rfl) rfl rfl hl.1 rfl (lv_room (Nat.le_of_ble_eq_true rfl)) dL_law_127 ⟨(Nat.le_of_ble_eq_true rfl), (Nat.le_of_ble_eq_true rfl)⟩) hk hS (fun H locs hP hD hS => ?_)
  refine lv_icmp_eq (tgt := 405) hx hb dL_law_130 (by decide) (fun _ => ?_) (fun hne => absurd rfl hne)
  exact next _ _ _ _ _ _ _ x3 hP hD hS
set_option maxHeartbeats 4000000 in
set_option maxRecDepth 100000 in
theorem lw_c_cut (hi : i + 4 ≤ L) (hL : L ≤ 2048) (C0 : lw_At p s m meth c b L xs) (E : lw_E hd s) (hK : va_K D vwCl (tX cA ++ tM cB) s) (hP : va_P D vwCl (wX q cA sc ar sg ++ wM qm cB msc mar) H) (hD : va_D (fun a : Nat => s.heap.size ≤ a) (wX q cA sc ar sg ++ wM qm cB msc mar)) (hS : va_S (fun a : Nat => s.heap.size ≤ a) s.heap H locs) (hl : lv_has ls 4 [(0, .ref b), (1, .ref (q 0)), (2, .ref (qm 0)), (3, .int (nI i))]) (hR : Rel sc ar msc mar) (next : lw_next p l e s m below meth c b D q qm cA cB ls) : W p l e room_1 s m #[Value.ref b] below meth c H locs 53 13931 (lw_Z below #[Value.ref b] s) (F0 m 135 ls []) := by
  obtain ⟨hx, hb, hr, hml, hown0, hts, hX, hbl, hlocks, hgv⟩ := id C0
  have htl : ∀ w ∈ wsL_law, w.before #[Value.ref b] s = true := fun w h => hts w (wsL_law_in w h)
  have hown : s.vm.findClass RL = some m.cls := hown0
  have hA : ∀ a : Nat, s.heap.size ≤ a → (fun a : Nat => s.heap.size ≤ a) a := fun _ h => h
  have hbA : ¬ (fun a : Nat => s.heap.size ≤ a) b := Nat.not_le.mpr hbl
  have v1 : vp_in (nI i + (1 : Int32)) L := by rw [show nI i + (1 : Int32) = nI (i + 1) from nI_add i 1]; exact vp_in_nI (by omega) (by omega)
  have v2 : vp_in (nI i + (2 : Int32)) L := by rw [show nI i + (2 : Int32) = nI (i + 2) from nI_add i 2]; exact vp_in_nI (by omega) (by omega)
  obtain ⟨r, sc2, mar2, x1, x2, x3, x4⟩ := cut_sim (sg := sg) hR (xs (nI i + (1 : Int32)).toNatClampNeg) (xs (nI i + (2 : Int32)).toNatClampNeg)
  refine lv_aload_n hx hb dL_law_135 rfl (lv_at hl 1 rfl) ?_
  refine lv_aload_n hx hb dL_law_136 rfl (lv_at hl 0 rfl) ?_
  refine lv_iload_n hx hb dL_law_137 rfl (lv_at hl 3 rfl) ?_
  refine lv_iconst (v := (1 : Int32)) hx hb dL_law_138 (by decide) ?_
  refine lv_iadd hx hb dL_law_139 ?_
  refine va_sld hx hb hX hbl hbA hS v1 dL_law_140 ?_
  refine lv_aload_n hx hb dL_law_141 rfl (lv_at hl 0 rfl) ?_
  refine lv_iload_n hx hb dL_law_142 rfl (lv_at hl 3 rfl) ?_
  refine lv_iconst (v := (2 : Int32)) hx hb dL_law_143 (by decide) ?_
  refine lv_iadd hx hb dL_law_144 ?_
  refine va_sld hx hb hX hbl hbA hS v2 dL_law_145 ?_
  have hk := kcutX (sc' := sc2) (ar' := ar) (sg' := sg) hP hD hS hA
  refine k_goI (r := r) (va_runV (As := [.int (xs (nI i + (1 : Int32)).toNatClampNeg), .int (xs (nI i + (2 : Int32)).toNatClampNeg)]) (rest := []) ⟨hx, hb, hml, hown, htl⟩ (kX7_cut l D q cA sc ar sg _ _ x1 _) (cwV 2 htl gL_law_X7_cut rfl rfl rfl (by decide +kernel) ⟨(Nat.le_of_ble_eq_true rfl), (Nat.le_of_ble_eq_true rfl)⟩) (k_preV (q0 := 0) (ci := 6) hk (hK.sub (tys' := tX cA) [0, 1, 2, 3, 4, 5, 6, 7, 8, 9, 10, 11, 12, 13, 14, 15, 16, 17, 18] rfl) NX_bl (fun U _ hW => NX_w hW E.1) rfl rfl rfl) rfl rfl hl.1 rfl (lv_room (Nat.le_of_ble_eq_true rfl)) dL_law_146 ⟨(Nat.le_of_ble_eq_true rfl), (Nat.le_of_ble_eq_true rfl)⟩) hk hS (fun H locs hP hD hS => ?_)
  refine lv_aload_n hx hb dL_law_149 rfl (lv_at hl 2 rfl) ?_
  refine lv_aload_n hx hb dL_law_150 rfl (lv_at hl 0 rfl) ?_
  refine lv_iload_n hx hb dL_law_151 rfl (lv_at hl 3 rfl) ?_
  refine lv_iconst (v := (1 : Int32)) hx hb dL_law_152 (by decide) ?_
  refine lv_iadd hx hb dL_law_153 ?_
  refine va_sld hx hb hX hbl hbA hS v1 dL_law_154 ?_
  refine lv_aload_n hx hb dL_law_155 rfl (lv_at hl 0 rfl) ?_
  refine lv_iload_n hx hb dL_law_156 rfl (lv_at hl 3 rfl) ?_
  refine lv_iconst (v := (2 : Int32)) hx hb dL_law_157 (by decide) ?_
  refine lv_iadd hx hb dL_law_158 ?_
  refine va_sld hx hb hX hbl hbA hS v2 dL_law_159 ?_
  have hk := kcutM (msc' := msc) (mar' := mar2) hP hD hS hA
  refine k_goI (r := r) (va_runV (As := [.int (xs (nI i + (1 : Int32)).toNatClampNeg), .int (xs (nI i + (2 : Int32)).toNatClampNeg)]) (rest := [.int r]) ⟨hx, hb, hml, hown, htl⟩ (kX8_cut l D qm cB msc mar _ _ x2 _) (cwV 2 htl gL_law_X8_cut rfl rfl rfl (by decide +kernel) ⟨(Nat.le_of_ble_eq_true rfl), (Nat.le_of_ble_eq_true rfl)⟩) (k_preV (q0 := 0) (ci := 7) hk (hK.sub (tys' := tM cB) [19, 20, 21, 22, 23, 24, 25, 26, 27, 28, 29, 30] rfl) NT_bl NT_u rfl rfl rfl) rfl rfl hl.1 rfl (lv_room (Nat.le_of_ble_eq_true rfl)) dL_law_160 ⟨(Nat.le_of_ble_eq_true rfl), (Nat.le_of_ble_eq_true rfl)⟩) hk hS (fun H locs hP hD hS => ?_)
  refine lv_icmp_eq (tgt := 405) hx hb dL_law_163 (by decide) (fun _ => ?_) (fun hne => absurd rfl hne)
  exact next _ _ _ _ _ _ _ x3 hP hD hS
set_option maxHeartbeats 4000000 in
set_option maxRecDepth 100000 in
theorem lw_c_set (hi : i + 4 ≤ L) (hL : L ≤ 2048) (C0 : lw_At p s m meth c b L xs) (E : lw_E hd s) (hK : va_K D vwCl (tX cA ++ tM cB) s) (hP : va_P D vwCl (wX q cA sc ar sg ++ wM qm cB msc mar) H) (hD : va_D (fun a : Nat => s.heap.size ≤ a) (wX q cA sc ar sg ++ wM qm cB msc mar)) (hS : va_S (fun a : Nat => s.heap.size ≤ a) s.heap H locs) (hl : lv_has ls 4 [(0, .ref b), (1, .ref (q 0)), (2, .ref (qm 0)), (3, .int (nI i))]) (hR : Rel sc ar msc mar) (next : lw_next p l e s m below meth c b D q qm cA cB ls) : W p l e room_1 s m #[Value.ref b] below meth c H locs 53 13931 (lw_Z below #[Value.ref b] s) (F0 m 168 ls []) := by
  obtain ⟨hx, hb, hr, hml, hown0, hts, hX, hbl, hlocks, hgv⟩ := id C0
  have htl : ∀ w ∈ wsL_law, w.before #[Value.ref b] s = true := fun w h => hts w (wsL_law_in w h)
  have hown : s.vm.findClass RL = some m.cls := hown0
  have hA : ∀ a : Nat, s.heap.size ≤ a → (fun a : Nat => s.heap.size ≤ a) a := fun _ h => h
  have hbA : ¬ (fun a : Nat => s.heap.size ≤ a) b := Nat.not_le.mpr hbl
  have v1 : vp_in (nI i + (1 : Int32)) L := by rw [show nI i + (1 : Int32) = nI (i + 1) from nI_add i 1]; exact vp_in_nI (by omega) (by omega)
  have v2 : vp_in (nI i + (2 : Int32)) L := by rw [show nI i + (2 : Int32) = nI (i + 2) from nI_add i 2]; exact vp_in_nI (by omega) (by omega)
  have v3 : vp_in (nI i + (3 : Int32)) L := by rw [show nI i + (3 : Int32) = nI (i + 3) from nI_add i 3]; exact vp_in_nI (by omega) (by omega)
  obtain ⟨r, ar2, mar2, x1, x2, x3, x4⟩ := set_sim (sg := sg) hR (xs (nI i + (1 : Int32)).toNatClampNeg) (xs (nI i + (2 : Int32)).toNatClampNeg) (xs (nI i + (3 : Int32)).toNatClampNeg)
  refine lv_aload_n hx hb dL_law_168 rfl (lv_at hl 1 rfl) ?_
  refine lv_aload_n hx hb dL_law_169 rfl (lv_at hl 0 rfl) ?_
  refine lv_iload_n hx hb dL_law_170 rfl (lv_at hl 3 rfl) ?_
  refine lv_iconst (v := (1 : Int32)) hx hb dL_law_171 (by decide) ?_
  refine lv_iadd hx hb dL_law_172 ?_
  refine va_sld hx hb hX hbl hbA hS v1 dL_law_173 ?_
  refine lv_aload_n hx hb dL_law_174 rfl (lv_at hl 0 rfl) ?_
  refine lv_iload_n hx hb dL_law_175 rfl (lv_at hl 3 rfl) ?_
  refine lv_iconst (v := (2 : Int32)) hx hb dL_law_176 (by decide) ?_
  refine lv_iadd hx hb dL_law_177 ?_
  refine va_sld hx hb hX hbl hbA hS v2 dL_law_178 ?_
  refine lv_aload_n hx hb dL_law_179 rfl (lv_at hl 0 rfl) ?_
  refine lv_iload_n hx hb dL_law_180 rfl (lv_at hl 3 rfl) ?_
  refine lv_iconst (v := (3 : Int32)) hx hb dL_law_181 (by decide) ?_
  refine lv_iadd hx hb dL_law_182 ?_
  refine va_sld hx hb hX hbl hbA hS v3 dL_law_183 ?_
  have hk := kcutX (sc' := sc) (ar' := ar2) (sg' := sg) hP hD hS hA
  refine k_goI (r := r) (va_runV (As := [.int (xs (nI i + (1 : Int32)).toNatClampNeg), .int (xs (nI i + (2 : Int32)).toNatClampNeg), .int (xs (nI i + (3 : Int32)).toNatClampNeg)]) (rest := []) ⟨hx, hb, hml, hown, htl⟩ (kX7_set l D q cA sc ar sg _ _ _ x1 _) (cwV 3 htl gL_law_X7_set rfl rfl rfl (by decide +kernel) ⟨(Nat.le_of_ble_eq_true rfl), (Nat.le_of_ble_eq_true rfl)⟩) (k_preV (q0 := 0) (ci := 6) hk (hK.sub (tys' := tX cA) [0, 1, 2, 3, 4, 5, 6, 7, 8, 9, 10, 11, 12, 13, 14, 15, 16, 17, 18] rfl) NX_bl (fun U _ hW => NX_w hW E.1) rfl rfl rfl) rfl rfl hl.1 rfl (lv_room (Nat.le_of_ble_eq_true rfl)) dL_law_184 ⟨(Nat.le_of_ble_eq_true rfl), (Nat.le_of_ble_eq_true rfl)⟩) hk hS (fun H locs hP hD hS => ?_)
  refine lv_aload_n hx hb dL_law_187 rfl (lv_at hl 2 rfl) ?_
  refine lv_aload_n hx hb dL_law_188 rfl (lv_at hl 0 rfl) ?_
  refine lv_iload_n hx hb dL_law_189 rfl (lv_at hl 3 rfl) ?_
  refine lv_iconst (v := (1 : Int32)) hx hb dL_law_190 (by decide) ?_
  refine lv_iadd hx hb dL_law_191 ?_
  refine va_sld hx hb hX hbl hbA hS v1 dL_law_192 ?_
  refine lv_aload_n hx hb dL_law_193 rfl (lv_at hl 0 rfl) ?_
  refine lv_iload_n hx hb dL_law_194 rfl (lv_at hl 3 rfl) ?_
  refine lv_iconst (v := (2 : Int32)) hx hb dL_law_195 (by decide) ?_
  refine lv_iadd hx hb dL_law_196 ?_
  refine va_sld hx hb hX hbl hbA hS v2 dL_law_197 ?_
  refine lv_aload_n hx hb dL_law_198 rfl (lv_at hl 0 rfl) ?_
  refine lv_iload_n hx hb dL_law_199 rfl (lv_at hl 3 rfl) ?_
  refine lv_iconst (v := (3 : Int32)) hx hb dL_law_200 (by decide) ?_
  refine lv_iadd hx hb dL_law_201 ?_
  refine va_sld hx hb hX hbl hbA hS v3 dL_law_202 ?_
  have hk := kcutM (msc' := msc) (mar' := mar2) hP hD hS hA
  refine k_goI (r := r) (va_runV (As := [.int (xs (nI i + (1 : Int32)).toNatClampNeg), .int (xs (nI i + (2 : Int32)).toNatClampNeg), .int (xs (nI i + (3 : Int32)).toNatClampNeg)]) (rest := [.int r]) ⟨hx, hb, hml, hown, htl⟩ (kX8_set l D qm cB msc mar _ _ _ x2 _) (cwV 3 htl gL_law_X8_set rfl rfl rfl (by decide +kernel) ⟨(Nat.le_of_ble_eq_true rfl), (Nat.le_of_ble_eq_true rfl)⟩) (k_preV (q0 := 0) (ci := 7) hk (hK.sub (tys' := tM cB) [19, 20, 21, 22, 23, 24, 25, 26, 27, 28, 29, 30] rfl) NT_bl NT_u rfl rfl rfl) rfl rfl hl.1 rfl (lv_room (Nat.le_of_ble_eq_true rfl)) dL_law_203 ⟨(Nat.le_of_ble_eq_true rfl), (Nat.le_of_ble_eq_true rfl)⟩) hk hS (fun H locs hP hD hS => ?_)
  refine lv_icmp_eq (tgt := 405) hx hb dL_law_206 (by decide) (fun _ => ?_) (fun hne => absurd rfl hne)
  exact next _ _ _ _ _ _ _ x3 hP hD hS
set_option maxHeartbeats 4000000 in
set_option maxRecDepth 100000 in
theorem lw_c_encode (hi : i + 4 ≤ L) (hL : L ≤ 2048) (C0 : lw_At p s m meth c b L xs) (E : lw_E hd s) (hK : va_K D vwCl (tX cA ++ tM cB) s) (hP : va_P D vwCl (wX q cA sc ar sg ++ wM qm cB msc mar) H) (hD : va_D (fun a : Nat => s.heap.size ≤ a) (wX q cA sc ar sg ++ wM qm cB msc mar)) (hS : va_S (fun a : Nat => s.heap.size ≤ a) s.heap H locs) (hl : lv_has ls 4 [(0, .ref b), (1, .ref (q 0)), (2, .ref (qm 0)), (3, .int (nI i))]) (hR : Rel sc ar msc mar) (next : lw_next p l e s m below meth c b D q qm cA cB ls) : W p l e room_1 s m #[Value.ref b] below meth c H locs 53 13931 (lw_Z below #[Value.ref b] s) (F0 m 211 ls []) := by
  obtain ⟨hx, hb, hr, hml, hown0, hts, hX, hbl, hlocks, hgv⟩ := id C0
  have htl : ∀ w ∈ wsL_law, w.before #[Value.ref b] s = true := fun w h => hts w (wsL_law_in w h)
  have hown : s.vm.findClass RL = some m.cls := hown0
  have hA : ∀ a : Nat, s.heap.size ≤ a → (fun a : Nat => s.heap.size ≤ a) a := fun _ h => h
  have hbA : ¬ (fun a : Nat => s.heap.size ≤ a) b := Nat.not_le.mpr hbl
  have v1 : vp_in (nI i + (1 : Int32)) L := by rw [show nI i + (1 : Int32) = nI (i + 1) from nI_add i 1]; exact vp_in_nI (by omega) (by omega)
  obtain ⟨r, sc2, ar2, msc2, mar2, x1, x2, x3⟩ := encode_sim (sg := sg) hR (xs (nI i + (1 : Int32)).toNatClampNeg)
  refine lv_aload_n hx hb dL_law_211 rfl (lv_at hl 1 rfl) ?_
  refine lv_aload_n hx hb dL_law_212 rfl (lv_at hl 0 rfl) ?_
  refine lv_iload_n hx hb dL_law_213 rfl (lv_at hl 3 rfl) ?_
  refine lv_iconst (v := (1 : Int32)) hx hb dL_law_214 (by decide) ?_
  refine lv_iadd hx hb dL_law_215 ?_
  refine va_sld hx hb hX hbl hbA hS v1 dL_law_216 ?_
  have hk := kcutX (sc' := sc2) (ar' := ar2) (sg' := sg) hP hD hS hA
  refine k_goI (r := r) (va_runV (As := [.int (xs (nI i + (1 : Int32)).toNatClampNeg)]) (rest := []) ⟨hx, hb, hml, hown, htl⟩ (kX7_encode l D hd q cA sc ar sg _ x1 _) (cwV 1 htl gL_law_X7_encode rfl rfl rfl (by decide +kernel) ⟨(Nat.le_of_ble_eq_true rfl), (Nat.le_of_ble_eq_true rfl)⟩) (k_preV (q0 := 0) (ci := 6) hk (hK.sub (tys' := tX cA) [0, 1, 2, 3, 4, 5, 6, 7, 8, 9, 10, 11, 12, 13, 14, 15, 16, 17, 18] rfl) NXH_bl (fun U hU hW => NXH_law E (hq_of hD) hS hU hW) rfl rfl rfl) rfl rfl hl.1 rfl (lv_room (Nat.le_of_ble_eq_true rfl)) dL_law_217 ⟨(Nat.le_of_ble_eq_true rfl), (Nat.le_of_ble_eq_true rfl)⟩) hk hS (fun H locs hP hD hS => ?_)
  refine lv_aload_n hx hb dL_law_220 rfl (lv_at hl 2 rfl) ?_
  refine lv_aload_n hx hb dL_law_221 rfl (lv_at hl 0 rfl) ?_
  refine lv_iload_n hx hb dL_law_222 rfl (lv_at hl 3 rfl) ?_
  refine lv_iconst (v := (1 : Int32)) hx hb dL_law_223 (by decide) ?_
  refine lv_iadd hx hb dL_law_224 ?_
  refine va_sld hx hb hX hbl hbA hS v1 dL_law_225 ?_
  have hk := kcutM (msc' := msc2) (mar' := mar2) hP hD hS hA
  refine k_goI (r := r) (va_runV (As := [.int (xs (nI i + (1 : Int32)).toNatClampNeg)]) (rest := [.int r]) ⟨hx, hb, hml, hown, htl⟩ (kX8_encode l D qm cB msc mar _ x2 _) (cwV 1 htl gL_law_X8_encode rfl rfl rfl (by decide +kernel) ⟨(Nat.le_of_ble_eq_true rfl), (Nat.le_of_ble_eq_true rfl)⟩) (k_preV (q0 := 0) (ci := 7) hk (hK.sub (tys' := tM cB) [19, 20, 21, 22, 23, 24, 25, 26, 27, 28, 29, 30] rfl) NT_bl NT_u rfl rfl rfl) rfl rfl hl.1 rfl (lv_room (Nat.le_of_ble_eq_true rfl)) dL_law_226 ⟨(Nat.le_of_ble_eq_true rfl), (Nat.le_of_ble_eq_true rfl)⟩) hk hS (fun H locs hP hD hS => ?_)
  refine lv_icmp_eq (tgt := 405) hx hb dL_law_229 (by decide) (fun _ => ?_) (fun hne => absurd rfl hne)
  exact next _ _ _ _ _ _ _ x3 hP hD hS
set_option maxHeartbeats 4000000 in
set_option maxRecDepth 100000 in
theorem lw_c_decode (hi : i + 4 ≤ L) (hL : L ≤ 2048) (C0 : lw_At p s m meth c b L xs) (E : lw_E hd s) (hK : va_K D vwCl (tX cA ++ tM cB) s) (hP : va_P D vwCl (wX q cA sc ar sg ++ wM qm cB msc mar) H) (hD : va_D (fun a : Nat => s.heap.size ≤ a) (wX q cA sc ar sg ++ wM qm cB msc mar)) (hS : va_S (fun a : Nat => s.heap.size ≤ a) s.heap H locs) (hl : lv_has ls 4 [(0, .ref b), (1, .ref (q 0)), (2, .ref (qm 0)), (3, .int (nI i))]) (hR : Rel sc ar msc mar) (next : lw_next p l e s m below meth c b D q qm cA cB ls) : W p l e room_1 s m #[Value.ref b] below meth c H locs 53 13931 (lw_Z below #[Value.ref b] s) (F0 m 234 ls []) := by
  obtain ⟨hx, hb, hr, hml, hown0, hts, hX, hbl, hlocks, hgv⟩ := id C0
  have htl : ∀ w ∈ wsL_law, w.before #[Value.ref b] s = true := fun w h => hts w (wsL_law_in w h)
  have hown : s.vm.findClass RL = some m.cls := hown0
  have hA : ∀ a : Nat, s.heap.size ≤ a → (fun a : Nat => s.heap.size ≤ a) a := fun _ h => h
  have hbA : ¬ (fun a : Nat => s.heap.size ≤ a) b := Nat.not_le.mpr hbl
  have v1 : vp_in (nI i + (1 : Int32)) L := by rw [show nI i + (1 : Int32) = nI (i + 1) from nI_add i 1]; exact vp_in_nI (by omega) (by omega)
  obtain ⟨r, sc2, ar2, sg2, msc2, mar2, x1, x2, x3⟩ := decode_sim (sg := sg) hR (xs (nI i + (1 : Int32)).toNatClampNeg)
  refine lv_aload_n hx hb dL_law_234 rfl (lv_at hl 1 rfl) ?_
  refine lv_aload_n hx hb dL_law_235 rfl (lv_at hl 0 rfl) ?_
  refine lv_iload_n hx hb dL_law_236 rfl (lv_at hl 3 rfl) ?_
  refine lv_iconst (v := (1 : Int32)) hx hb dL_law_237 (by decide) ?_
  refine lv_iadd hx hb dL_law_238 ?_
  refine va_sld hx hb hX hbl hbA hS v1 dL_law_239 ?_
  have hk := kcutX (sc' := sc2) (ar' := ar2) (sg' := sg2) hP hD hS hA
  refine k_goI (r := r) (va_runV (As := [.int (xs (nI i + (1 : Int32)).toNatClampNeg)]) (rest := []) ⟨hx, hb, hml, hown, htl⟩ (kX7_decode l D hd q cA sc ar sg _ x1 _) (cwV 1 htl gL_law_X7_decode rfl rfl rfl (by decide +kernel) ⟨(Nat.le_of_ble_eq_true rfl), (Nat.le_of_ble_eq_true rfl)⟩) (k_preV (q0 := 0) (ci := 6) hk (hK.sub (tys' := tX cA) [0, 1, 2, 3, 4, 5, 6, 7, 8, 9, 10, 11, 12, 13, 14, 15, 16, 17, 18] rfl) NXH_bl (fun U hU hW => NXH_law E (hq_of hD) hS hU hW) rfl rfl rfl) rfl rfl hl.1 rfl (lv_room (Nat.le_of_ble_eq_true rfl)) dL_law_240 ⟨(Nat.le_of_ble_eq_true rfl), (Nat.le_of_ble_eq_true rfl)⟩) hk hS (fun H locs hP hD hS => ?_)
  refine lv_aload_n hx hb dL_law_243 rfl (lv_at hl 2 rfl) ?_
  refine lv_aload_n hx hb dL_law_244 rfl (lv_at hl 0 rfl) ?_
  refine lv_iload_n hx hb dL_law_245 rfl (lv_at hl 3 rfl) ?_
  refine lv_iconst (v := (1 : Int32)) hx hb dL_law_246 (by decide) ?_
  refine lv_iadd hx hb dL_law_247 ?_
  refine va_sld hx hb hX hbl hbA hS v1 dL_law_248 ?_
  have hk := kcutM (msc' := msc2) (mar' := mar2) hP hD hS hA
  refine k_goI (r := r) (va_runV (As := [.int (xs (nI i + (1 : Int32)).toNatClampNeg)]) (rest := [.int r]) ⟨hx, hb, hml, hown, htl⟩ (kX8_decode l D qm cB msc mar _ x2 _) (cwV 1 htl gL_law_X8_decode rfl rfl rfl (by decide +kernel) ⟨(Nat.le_of_ble_eq_true rfl), (Nat.le_of_ble_eq_true rfl)⟩) (k_preV (q0 := 0) (ci := 7) hk (hK.sub (tys' := tM cB) [19, 20, 21, 22, 23, 24, 25, 26, 27, 28, 29, 30] rfl) NT_bl NT_u rfl rfl rfl) rfl rfl hl.1 rfl (lv_room (Nat.le_of_ble_eq_true rfl)) dL_law_249 ⟨(Nat.le_of_ble_eq_true rfl), (Nat.le_of_ble_eq_true rfl)⟩) hk hS (fun H locs hP hD hS => ?_)
  refine lv_icmp_eq (tgt := 405) hx hb dL_law_252 (by decide) (fun _ => ?_) (fun hne => absurd rfl hne)
  exact next _ _ _ _ _ _ _ x3 hP hD hS
set_option maxHeartbeats 4000000 in
set_option maxRecDepth 100000 in
theorem lw_c_length (hi : i + 4 ≤ L) (hL : L ≤ 2048) (C0 : lw_At p s m meth c b L xs) (E : lw_E hd s) (hK : va_K D vwCl (tX cA ++ tM cB) s) (hP : va_P D vwCl (wX q cA sc ar sg ++ wM qm cB msc mar) H) (hD : va_D (fun a : Nat => s.heap.size ≤ a) (wX q cA sc ar sg ++ wM qm cB msc mar)) (hS : va_S (fun a : Nat => s.heap.size ≤ a) s.heap H locs) (hl : lv_has ls 4 [(0, .ref b), (1, .ref (q 0)), (2, .ref (qm 0)), (3, .int (nI i))]) (hR : Rel sc ar msc mar) (next : lw_next p l e s m below meth c b D q qm cA cB ls) : W p l e room_1 s m #[Value.ref b] below meth c H locs 53 13931 (lw_Z below #[Value.ref b] s) (F0 m 257 ls []) := by
  obtain ⟨hx, hb, hr, hml, hown0, hts, hX, hbl, hlocks, hgv⟩ := id C0
  have htl : ∀ w ∈ wsL_law, w.before #[Value.ref b] s = true := fun w h => hts w (wsL_law_in w h)
  have hown : s.vm.findClass RL = some m.cls := hown0
  have hA : ∀ a : Nat, s.heap.size ≤ a → (fun a : Nat => s.heap.size ≤ a) a := fun _ h => h
  have hbA : ¬ (fun a : Nat => s.heap.size ≤ a) b := Nat.not_le.mpr hbl
  have v1 : vp_in (nI i + (1 : Int32)) L := by rw [show nI i + (1 : Int32) = nI (i + 1) from nI_add i 1]; exact vp_in_nI (by omega) (by omega)
  obtain ⟨r, x1, x2⟩ := length_sim (sg := sg) hR (xs (nI i + (1 : Int32)).toNatClampNeg)
  refine lv_aload_n hx hb dL_law_257 rfl (lv_at hl 1 rfl) ?_
  refine lv_aload_n hx hb dL_law_258 rfl (lv_at hl 0 rfl) ?_
  refine lv_iload_n hx hb dL_law_259 rfl (lv_at hl 3 rfl) ?_
  refine lv_iconst (v := (1 : Int32)) hx hb dL_law_260 (by decide) ?_
  refine lv_iadd hx hb dL_law_261 ?_
  refine va_sld hx hb hX hbl hbA hS v1 dL_law_262 ?_
  have hk := kcutX (sc' := sc) (ar' := ar) (sg' := sg) hP hD hS hA
  refine k_goI (r := r) (va_runV (As := [.int (xs (nI i + (1 : Int32)).toNatClampNeg)]) (rest := []) ⟨hx, hb, hml, hown, htl⟩ (kX7_length l D q cA sc ar sg _ x1 _) (cwV 1 htl gL_law_X7_length rfl rfl rfl (by decide +kernel) ⟨(Nat.le_of_ble_eq_true rfl), (Nat.le_of_ble_eq_true rfl)⟩) (k_preV (q0 := 0) (ci := 6) hk (hK.sub (tys' := tX cA) [0, 1, 2, 3, 4, 5, 6, 7, 8, 9, 10, 11, 12, 13, 14, 15, 16, 17, 18] rfl) NX_bl (fun U _ hW => NX_w hW E.1) rfl rfl rfl) rfl rfl hl.1 rfl (lv_room (Nat.le_of_ble_eq_true rfl)) dL_law_263 ⟨(Nat.le_of_ble_eq_true rfl), (Nat.le_of_ble_eq_true rfl)⟩) hk hS (fun H locs hP hD hS => ?_)
  refine lv_aload_n hx hb dL_law_266 rfl (lv_at hl 2 rfl) ?_
  refine lv_aload_n hx hb dL_law_267 rfl (lv_at hl 0 rfl) ?_
  refine lv_iload_n hx hb dL_law_268 rfl (lv_at hl 3 rfl) ?_
  refine lv_iconst (v := (1 : Int32)) hx hb dL_law_269 (by decide) ?_
  refine lv_iadd hx hb dL_law_270 ?_
  refine va_sld hx hb hX hbl hbA hS v1 dL_law_271 ?_
  have hk := kcutM (msc' := msc) (mar' := mar) hP hD hS hA
  refine k_goI (r := r) (va_runV (As := [.int (xs (nI i + (1 : Int32)).toNatClampNeg)]) (rest := [.int r]) ⟨hx, hb, hml, hown, htl⟩ (kX8_length l D qm cB msc mar _ x2 _) (cwV 1 htl gL_law_X8_length rfl rfl rfl (by decide +kernel) ⟨(Nat.le_of_ble_eq_true rfl), (Nat.le_of_ble_eq_true rfl)⟩) (k_preV (q0 := 0) (ci := 7) hk (hK.sub (tys' := tM cB) [19, 20, 21, 22, 23, 24, 25, 26, 27, 28, 29, 30] rfl) NT_bl NT_u rfl rfl rfl) rfl rfl hl.1 rfl (lv_room (Nat.le_of_ble_eq_true rfl)) dL_law_272 ⟨(Nat.le_of_ble_eq_true rfl), (Nat.le_of_ble_eq_true rfl)⟩) hk hS (fun H locs hP hD hS => ?_)
  refine lv_icmp_eq (tgt := 405) hx hb dL_law_275 (by decide) (fun _ => ?_) (fun hne => absurd rfl hne)
  exact next _ _ _ _ _ _ _ hR hP hD hS
set_option maxHeartbeats 4000000 in
set_option maxRecDepth 100000 in
theorem lw_c_byteAt (hi : i + 4 ≤ L) (hL : L ≤ 2048) (C0 : lw_At p s m meth c b L xs) (E : lw_E hd s) (hK : va_K D vwCl (tX cA ++ tM cB) s) (hP : va_P D vwCl (wX q cA sc ar sg ++ wM qm cB msc mar) H) (hD : va_D (fun a : Nat => s.heap.size ≤ a) (wX q cA sc ar sg ++ wM qm cB msc mar)) (hS : va_S (fun a : Nat => s.heap.size ≤ a) s.heap H locs) (hl : lv_has ls 4 [(0, .ref b), (1, .ref (q 0)), (2, .ref (qm 0)), (3, .int (nI i))]) (hR : Rel sc ar msc mar) (next : lw_next p l e s m below meth c b D q qm cA cB ls) : W p l e room_1 s m #[Value.ref b] below meth c H locs 53 13931 (lw_Z below #[Value.ref b] s) (F0 m 280 ls []) := by
  obtain ⟨hx, hb, hr, hml, hown0, hts, hX, hbl, hlocks, hgv⟩ := id C0
  have htl : ∀ w ∈ wsL_law, w.before #[Value.ref b] s = true := fun w h => hts w (wsL_law_in w h)
  have hown : s.vm.findClass RL = some m.cls := hown0
  have hA : ∀ a : Nat, s.heap.size ≤ a → (fun a : Nat => s.heap.size ≤ a) a := fun _ h => h
  have hbA : ¬ (fun a : Nat => s.heap.size ≤ a) b := Nat.not_le.mpr hbl
  have v1 : vp_in (nI i + (1 : Int32)) L := by rw [show nI i + (1 : Int32) = nI (i + 1) from nI_add i 1]; exact vp_in_nI (by omega) (by omega)
  have v2 : vp_in (nI i + (2 : Int32)) L := by rw [show nI i + (2 : Int32) = nI (i + 2) from nI_add i 2]; exact vp_in_nI (by omega) (by omega)
  obtain ⟨r, x1, x2⟩ := byteAt_sim (sg := sg) hR (xs (nI i + (1 : Int32)).toNatClampNeg) (xs (nI i + (2 : Int32)).toNatClampNeg)
  refine lv_aload_n hx hb dL_law_280 rfl (lv_at hl 1 rfl) ?_
  refine lv_aload_n hx hb dL_law_281 rfl (lv_at hl 0 rfl) ?_
  refine lv_iload_n hx hb dL_law_282 rfl (lv_at hl 3 rfl) ?_
  refine lv_iconst (v := (1 : Int32)) hx hb dL_law_283 (by decide) ?_
  refine lv_iadd hx hb dL_law_284 ?_
  refine va_sld hx hb hX hbl hbA hS v1 dL_law_285 ?_
  refine lv_aload_n hx hb dL_law_286 rfl (lv_at hl 0 rfl) ?_
  refine lv_iload_n hx hb dL_law_287 rfl (lv_at hl 3 rfl) ?_
  refine lv_iconst (v := (2 : Int32)) hx hb dL_law_288 (by decide) ?_
  refine lv_iadd hx hb dL_law_289 ?_
  refine va_sld hx hb hX hbl hbA hS v2 dL_law_290 ?_
  have hk := kcutX (sc' := sc) (ar' := ar) (sg' := sg) hP hD hS hA
  refine k_goI (r := r) (va_runV (As := [.int (xs (nI i + (1 : Int32)).toNatClampNeg), .int (xs (nI i + (2 : Int32)).toNatClampNeg)]) (rest := []) ⟨hx, hb, hml, hown, htl⟩ (kX7_byteAt l D q cA sc ar sg _ _ x1 _) (cwV 2 htl gL_law_X7_byteAt rfl rfl rfl (by decide +kernel) ⟨(Nat.le_of_ble_eq_true rfl), (Nat.le_of_ble_eq_true rfl)⟩) (k_preV (q0 := 0) (ci := 6) hk (hK.sub (tys' := tX cA) [0, 1, 2, 3, 4, 5, 6, 7, 8, 9, 10, 11, 12, 13, 14, 15, 16, 17, 18] rfl) NX_bl (fun U _ hW => NX_w hW E.1) rfl rfl rfl) rfl rfl hl.1 rfl (lv_room (Nat.le_of_ble_eq_true rfl)) dL_law_291 ⟨(Nat.le_of_ble_eq_true rfl), (Nat.le_of_ble_eq_true rfl)⟩) hk hS (fun H locs hP hD hS => ?_)
  refine lv_aload_n hx hb dL_law_294 rfl (lv_at hl 2 rfl) ?_
  refine lv_aload_n hx hb dL_law_295 rfl (lv_at hl 0 rfl) ?_
  refine lv_iload_n hx hb dL_law_296 rfl (lv_at hl 3 rfl) ?_
  refine lv_iconst (v := (1 : Int32)) hx hb dL_law_297 (by decide) ?_
  refine lv_iadd hx hb dL_law_298 ?_
  refine va_sld hx hb hX hbl hbA hS v1 dL_law_299 ?_
  refine lv_aload_n hx hb dL_law_300 rfl (lv_at hl 0 rfl) ?_
  refine lv_iload_n hx hb dL_law_301 rfl (lv_at hl 3 rfl) ?_
  refine lv_iconst (v := (2 : Int32)) hx hb dL_law_302 (by decide) ?_
  refine lv_iadd hx hb dL_law_303 ?_
  refine va_sld hx hb hX hbl hbA hS v2 dL_law_304 ?_
  have hk := kcutM (msc' := msc) (mar' := mar) hP hD hS hA
  refine k_goI (r := r) (va_runV (As := [.int (xs (nI i + (1 : Int32)).toNatClampNeg), .int (xs (nI i + (2 : Int32)).toNatClampNeg)]) (rest := [.int r]) ⟨hx, hb, hml, hown, htl⟩ (kX8_byteAt l D qm cB msc mar _ _ x2 _) (cwV 2 htl gL_law_X8_byteAt rfl rfl rfl (by decide +kernel) ⟨(Nat.le_of_ble_eq_true rfl), (Nat.le_of_ble_eq_true rfl)⟩) (k_preV (q0 := 0) (ci := 7) hk (hK.sub (tys' := tM cB) [19, 20, 21, 22, 23, 24, 25, 26, 27, 28, 29, 30] rfl) NT_bl NT_u rfl rfl rfl) rfl rfl hl.1 rfl (lv_room (Nat.le_of_ble_eq_true rfl)) dL_law_305 ⟨(Nat.le_of_ble_eq_true rfl), (Nat.le_of_ble_eq_true rfl)⟩) hk hS (fun H locs hP hD hS => ?_)
  refine lv_icmp_eq (tgt := 405) hx hb dL_law_308 (by decide) (fun _ => ?_) (fun hne => absurd rfl hne)
  exact next _ _ _ _ _ _ _ hR hP hD hS
set_option maxHeartbeats 4000000 in
set_option maxRecDepth 100000 in
theorem lw_c_code (hi : i + 4 ≤ L) (hL : L ≤ 2048) (C0 : lw_At p s m meth c b L xs) (E : lw_E hd s) (hK : va_K D vwCl (tX cA ++ tM cB) s) (hP : va_P D vwCl (wX q cA sc ar sg ++ wM qm cB msc mar) H) (hD : va_D (fun a : Nat => s.heap.size ≤ a) (wX q cA sc ar sg ++ wM qm cB msc mar)) (hS : va_S (fun a : Nat => s.heap.size ≤ a) s.heap H locs) (hl : lv_has ls 4 [(0, .ref b), (1, .ref (q 0)), (2, .ref (qm 0)), (3, .int (nI i))]) (hR : Rel sc ar msc mar) (next : lw_next p l e s m below meth c b D q qm cA cB ls) : W p l e room_1 s m #[Value.ref b] below meth c H locs 53 13931 (lw_Z below #[Value.ref b] s) (F0 m 313 ls []) := by
  obtain ⟨hx, hb, hr, hml, hown0, hts, hX, hbl, hlocks, hgv⟩ := id C0
  have htl : ∀ w ∈ wsL_law, w.before #[Value.ref b] s = true := fun w h => hts w (wsL_law_in w h)
  have hown : s.vm.findClass RL = some m.cls := hown0
  have hA : ∀ a : Nat, s.heap.size ≤ a → (fun a : Nat => s.heap.size ≤ a) a := fun _ h => h
  have hbA : ¬ (fun a : Nat => s.heap.size ≤ a) b := Nat.not_le.mpr hbl
  have v1 : vp_in (nI i + (1 : Int32)) L := by rw [show nI i + (1 : Int32) = nI (i + 1) from nI_add i 1]; exact vp_in_nI (by omega) (by omega)
  have v2 : vp_in (nI i + (2 : Int32)) L := by rw [show nI i + (2 : Int32) = nI (i + 2) from nI_add i 2]; exact vp_in_nI (by omega) (by omega)
  obtain ⟨r, x1, x2⟩ := code_sim (sc := sc) (ar := ar) (msc := msc) (mar := mar) (sg := sg) (xs (nI i + (1 : Int32)).toNatClampNeg) (xs (nI i + (2 : Int32)).toNatClampNeg)
  refine lv_aload_n hx hb dL_law_313 rfl (lv_at hl 1 rfl) ?_
  refine lv_aload_n hx hb dL_law_314 rfl (lv_at hl 0 rfl) ?_
  refine lv_iload_n hx hb dL_law_315 rfl (lv_at hl 3 rfl) ?_
  refine lv_iconst (v := (1 : Int32)) hx hb dL_law_316 (by decide) ?_
  refine lv_iadd hx hb dL_law_317 ?_
  refine va_sld hx hb hX hbl hbA hS v1 dL_law_318 ?_
  refine lv_aload_n hx hb dL_law_319 rfl (lv_at hl 0 rfl) ?_
  refine lv_iload_n hx hb dL_law_320 rfl (lv_at hl 3 rfl) ?_
  refine lv_iconst (v := (2 : Int32)) hx hb dL_law_321 (by decide) ?_
  refine lv_iadd hx hb dL_law_322 ?_
  refine va_sld hx hb hX hbl hbA hS v2 dL_law_323 ?_
  have hk := kcutX (sc' := sc) (ar' := ar) (sg' := sg) hP hD hS hA
  refine k_goI (r := r) (va_runV (As := [.int (xs (nI i + (1 : Int32)).toNatClampNeg), .int (xs (nI i + (2 : Int32)).toNatClampNeg)]) (rest := []) ⟨hx, hb, hml, hown, htl⟩ (kX7_code l D q cA sc ar sg _ _ x1 _) (cwV 2 htl gL_law_X7_code rfl rfl rfl (by decide +kernel) ⟨(Nat.le_of_ble_eq_true rfl), (Nat.le_of_ble_eq_true rfl)⟩) (k_preV (q0 := 0) (ci := 6) hk (hK.sub (tys' := tX cA) [0, 1, 2, 3, 4, 5, 6, 7, 8, 9, 10, 11, 12, 13, 14, 15, 16, 17, 18] rfl) NX_bl (fun U _ hW => NX_w hW E.1) rfl rfl rfl) rfl rfl hl.1 rfl (lv_room (Nat.le_of_ble_eq_true rfl)) dL_law_324 ⟨(Nat.le_of_ble_eq_true rfl), (Nat.le_of_ble_eq_true rfl)⟩) hk hS (fun H locs hP hD hS => ?_)
  refine lv_aload_n hx hb dL_law_327 rfl (lv_at hl 2 rfl) ?_
  refine lv_aload_n hx hb dL_law_328 rfl (lv_at hl 0 rfl) ?_
  refine lv_iload_n hx hb dL_law_329 rfl (lv_at hl 3 rfl) ?_
  refine lv_iconst (v := (1 : Int32)) hx hb dL_law_330 (by decide) ?_
  refine lv_iadd hx hb dL_law_331 ?_
  refine va_sld hx hb hX hbl hbA hS v1 dL_law_332 ?_
  refine lv_aload_n hx hb dL_law_333 rfl (lv_at hl 0 rfl) ?_
  refine lv_iload_n hx hb dL_law_334 rfl (lv_at hl 3 rfl) ?_
  refine lv_iconst (v := (2 : Int32)) hx hb dL_law_335 (by decide) ?_
  refine lv_iadd hx hb dL_law_336 ?_
  refine va_sld hx hb hX hbl hbA hS v2 dL_law_337 ?_
  have hk := kcutM (msc' := msc) (mar' := mar) hP hD hS hA
  refine k_goI (r := r) (va_runV (As := [.int (xs (nI i + (1 : Int32)).toNatClampNeg), .int (xs (nI i + (2 : Int32)).toNatClampNeg)]) (rest := [.int r]) ⟨hx, hb, hml, hown, htl⟩ (kX8_code l D qm cB msc mar _ _ x2 _) (cwV 2 htl gL_law_X8_code rfl rfl rfl (by decide +kernel) ⟨(Nat.le_of_ble_eq_true rfl), (Nat.le_of_ble_eq_true rfl)⟩) (k_preV (q0 := 0) (ci := 7) hk (hK.sub (tys' := tM cB) [19, 20, 21, 22, 23, 24, 25, 26, 27, 28, 29, 30] rfl) NT_bl NT_u rfl rfl rfl) rfl rfl hl.1 rfl (lv_room (Nat.le_of_ble_eq_true rfl)) dL_law_338 ⟨(Nat.le_of_ble_eq_true rfl), (Nat.le_of_ble_eq_true rfl)⟩) hk hS (fun H locs hP hD hS => ?_)
  refine lv_icmp_eq (tgt := 405) hx hb dL_law_341 (by decide) (fun _ => ?_) (fun hne => absurd rfl hne)
  exact next _ _ _ _ _ _ _ hR hP hD hS
set_option maxHeartbeats 4000000 in
set_option maxRecDepth 100000 in
theorem lw_c_cache (hi : i + 4 ≤ L) (hL : L ≤ 2048) (C0 : lw_At p s m meth c b L xs) (E : lw_E hd s) (hK : va_K D vwCl (tX cA ++ tM cB) s) (hP : va_P D vwCl (wX q cA sc ar sg ++ wM qm cB msc mar) H) (hD : va_D (fun a : Nat => s.heap.size ≤ a) (wX q cA sc ar sg ++ wM qm cB msc mar)) (hS : va_S (fun a : Nat => s.heap.size ≤ a) s.heap H locs) (hl : lv_has ls 4 [(0, .ref b), (1, .ref (q 0)), (2, .ref (qm 0)), (3, .int (nI i))]) (hR : Rel sc ar msc mar) (next : lw_next p l e s m below meth c b D q qm cA cB ls) : W p l e room_1 s m #[Value.ref b] below meth c H locs 53 13931 (lw_Z below #[Value.ref b] s) (F0 m 346 ls []) := by
  obtain ⟨hx, hb, hr, hml, hown0, hts, hX, hbl, hlocks, hgv⟩ := id C0
  have htl : ∀ w ∈ wsL_law, w.before #[Value.ref b] s = true := fun w h => hts w (wsL_law_in w h)
  have hown : s.vm.findClass RL = some m.cls := hown0
  have hA : ∀ a : Nat, s.heap.size ≤ a → (fun a : Nat => s.heap.size ≤ a) a := fun _ h => h
  have hbA : ¬ (fun a : Nat => s.heap.size ≤ a) b := Nat.not_le.mpr hbl
  have v1 : vp_in (nI i + (1 : Int32)) L := by rw [show nI i + (1 : Int32) = nI (i + 1) from nI_add i 1]; exact vp_in_nI (by omega) (by omega)
  have v2 : vp_in (nI i + (2 : Int32)) L := by rw [show nI i + (2 : Int32) = nI (i + 2) from nI_add i 2]; exact vp_in_nI (by omega) (by omega)
  obtain ⟨r, x1, x2⟩ := cache_sim (sg := sg) hR (xs (nI i + (1 : Int32)).toNatClampNeg) (xs (nI i + (2 : Int32)).toNatClampNeg)
  refine lv_aload_n hx hb dL_law_346 rfl (lv_at hl 1 rfl) ?_
  refine lv_aload_n hx hb dL_law_347 rfl (lv_at hl 0 rfl) ?_
  refine lv_iload_n hx hb dL_law_348 rfl (lv_at hl 3 rfl) ?_
  refine lv_iconst (v := (1 : Int32)) hx hb dL_law_349 (by decide) ?_
  refine lv_iadd hx hb dL_law_350 ?_
  refine va_sld hx hb hX hbl hbA hS v1 dL_law_351 ?_
  refine lv_aload_n hx hb dL_law_352 rfl (lv_at hl 0 rfl) ?_
  refine lv_iload_n hx hb dL_law_353 rfl (lv_at hl 3 rfl) ?_
  refine lv_iconst (v := (2 : Int32)) hx hb dL_law_354 (by decide) ?_
  refine lv_iadd hx hb dL_law_355 ?_
  refine va_sld hx hb hX hbl hbA hS v2 dL_law_356 ?_
  have hk := kcutX (sc' := sc) (ar' := ar) (sg' := sg) hP hD hS hA
  refine k_goI (r := r) (va_runV (As := [.int (xs (nI i + (1 : Int32)).toNatClampNeg), .int (xs (nI i + (2 : Int32)).toNatClampNeg)]) (rest := []) ⟨hx, hb, hml, hown, htl⟩ (kX7_cache l D q cA sc ar sg _ _ x1 _) (cwV 2 htl gL_law_X7_cache rfl rfl rfl (by decide +kernel) ⟨(Nat.le_of_ble_eq_true rfl), (Nat.le_of_ble_eq_true rfl)⟩) (k_preV (q0 := 0) (ci := 6) hk (hK.sub (tys' := tX cA) [0, 1, 2, 3, 4, 5, 6, 7, 8, 9, 10, 11, 12, 13, 14, 15, 16, 17, 18] rfl) NX_bl (fun U _ hW => NX_w hW E.1) rfl rfl rfl) rfl rfl hl.1 rfl (lv_room (Nat.le_of_ble_eq_true rfl)) dL_law_357 ⟨(Nat.le_of_ble_eq_true rfl), (Nat.le_of_ble_eq_true rfl)⟩) hk hS (fun H locs hP hD hS => ?_)
  refine lv_aload_n hx hb dL_law_360 rfl (lv_at hl 2 rfl) ?_
  refine lv_aload_n hx hb dL_law_361 rfl (lv_at hl 0 rfl) ?_
  refine lv_iload_n hx hb dL_law_362 rfl (lv_at hl 3 rfl) ?_
  refine lv_iconst (v := (1 : Int32)) hx hb dL_law_363 (by decide) ?_
  refine lv_iadd hx hb dL_law_364 ?_
  refine va_sld hx hb hX hbl hbA hS v1 dL_law_365 ?_
  refine lv_aload_n hx hb dL_law_366 rfl (lv_at hl 0 rfl) ?_
  refine lv_iload_n hx hb dL_law_367 rfl (lv_at hl 3 rfl) ?_
  refine lv_iconst (v := (2 : Int32)) hx hb dL_law_368 (by decide) ?_
  refine lv_iadd hx hb dL_law_369 ?_
  refine va_sld hx hb hX hbl hbA hS v2 dL_law_370 ?_
  have hk := kcutM (msc' := msc) (mar' := mar) hP hD hS hA
  refine k_goI (r := r) (va_runV (As := [.int (xs (nI i + (1 : Int32)).toNatClampNeg), .int (xs (nI i + (2 : Int32)).toNatClampNeg)]) (rest := [.int r]) ⟨hx, hb, hml, hown, htl⟩ (kX8_cache l D qm cB msc mar _ _ x2 _) (cwV 2 htl gL_law_X8_cache rfl rfl rfl (by decide +kernel) ⟨(Nat.le_of_ble_eq_true rfl), (Nat.le_of_ble_eq_true rfl)⟩) (k_preV (q0 := 0) (ci := 7) hk (hK.sub (tys' := tM cB) [19, 20, 21, 22, 23, 24, 25, 26, 27, 28, 29, 30] rfl) NT_bl NT_u rfl rfl rfl) rfl rfl hl.1 rfl (lv_room (Nat.le_of_ble_eq_true rfl)) dL_law_371 ⟨(Nat.le_of_ble_eq_true rfl), (Nat.le_of_ble_eq_true rfl)⟩) hk hS (fun H locs hP hD hS => ?_)
  refine lv_icmp_eq (tgt := 405) hx hb dL_law_374 (by decide) (fun _ => ?_) (fun hne => absurd rfl hne)
  exact next _ _ _ _ _ _ _ hR hP hD hS
set_option maxHeartbeats 4000000 in
set_option maxRecDepth 100000 in
theorem lw_c_windows (hi : i + 4 ≤ L) (hL : L ≤ 2048) (C0 : lw_At p s m meth c b L xs) (E : lw_E hd s) (hK : va_K D vwCl (tX cA ++ tM cB) s) (hP : va_P D vwCl (wX q cA sc ar sg ++ wM qm cB msc mar) H) (hD : va_D (fun a : Nat => s.heap.size ≤ a) (wX q cA sc ar sg ++ wM qm cB msc mar)) (hS : va_S (fun a : Nat => s.heap.size ≤ a) s.heap H locs) (hl : lv_has ls 4 [(0, .ref b), (1, .ref (q 0)), (2, .ref (qm 0)), (3, .int (nI i))]) (hR : Rel sc ar msc mar) (next : lw_next p l e s m below meth c b D q qm cA cB ls) : W p l e room_1 s m #[Value.ref b] below meth c H locs 53 13931 (lw_Z below #[Value.ref b] s) (F0 m 379 ls []) := by
  obtain ⟨hx, hb, hr, hml, hown0, hts, hX, hbl, hlocks, hgv⟩ := id C0
  have htl : ∀ w ∈ wsL_law, w.before #[Value.ref b] s = true := fun w h => hts w (wsL_law_in w h)
  have hown : s.vm.findClass RL = some m.cls := hown0
  have hA : ∀ a : Nat, s.heap.size ≤ a → (fun a : Nat => s.heap.size ≤ a) a := fun _ h => h
  have hbA : ¬ (fun a : Nat => s.heap.size ≤ a) b := Nat.not_le.mpr hbl
  obtain ⟨r, x1, x2⟩ := windows_sim (sg := sg) hR
  refine lv_aload_n hx hb dL_law_379 rfl (lv_at hl 1 rfl) ?_
  have hk := kcutX (sc' := sc) (ar' := ar) (sg' := sg) hP hD hS hA
  refine k_goI (r := r) (va_runV (As := []) (rest := []) ⟨hx, hb, hml, hown, htl⟩ (kX7_windows l D q cA sc ar sg x1 _) (cwV 0 htl gL_law_X7_windows rfl rfl rfl (by decide +kernel) ⟨(Nat.le_of_ble_eq_true rfl), (Nat.le_of_ble_eq_true rfl)⟩) (k_preV (q0 := 0) (ci := 6) hk (hK.sub (tys' := tX cA) [0, 1, 2, 3, 4, 5, 6, 7, 8, 9, 10, 11, 12, 13, 14, 15, 16, 17, 18] rfl) NX_bl (fun U _ hW => NX_w hW E.1) rfl rfl rfl) rfl rfl hl.1 rfl (lv_room (Nat.le_of_ble_eq_true rfl)) dL_law_380 ⟨(Nat.le_of_ble_eq_true rfl), (Nat.le_of_ble_eq_true rfl)⟩) hk hS (fun H locs hP hD hS => ?_)
  refine lv_aload_n hx hb dL_law_383 rfl (lv_at hl 2 rfl) ?_
  have hk := kcutM (msc' := msc) (mar' := mar) hP hD hS hA
  refine k_goI (r := r) (va_runV (As := []) (rest := [.int r]) ⟨hx, hb, hml, hown, htl⟩ (kX8_windows l D qm cB msc mar x2 _) (cwV 0 htl gL_law_X8_windows rfl rfl rfl (by decide +kernel) ⟨(Nat.le_of_ble_eq_true rfl), (Nat.le_of_ble_eq_true rfl)⟩) (k_preV (q0 := 0) (ci := 7) hk (hK.sub (tys' := tM cB) [19, 20, 21, 22, 23, 24, 25, 26, 27, 28, 29, 30] rfl) NT_bl NT_u rfl rfl rfl) rfl rfl hl.1 rfl (lv_room (Nat.le_of_ble_eq_true rfl)) dL_law_384 ⟨(Nat.le_of_ble_eq_true rfl), (Nat.le_of_ble_eq_true rfl)⟩) hk hS (fun H locs hP hD hS => ?_)
  refine lv_icmp_eq (tgt := 405) hx hb dL_law_387 (by decide) (fun _ => ?_) (fun hne => absurd rfl hne)
  exact next _ _ _ _ _ _ _ hR hP hD hS
set_option maxHeartbeats 4000000 in
set_option maxRecDepth 100000 in
theorem lw_c_agrees (hi : i + 4 ≤ L) (hL : L ≤ 2048) (C0 : lw_At p s m meth c b L xs) (E : lw_E hd s) (hK : va_K D vwCl (tX cA ++ tM cB) s) (hP : va_P D vwCl (wX q cA sc ar sg ++ wM qm cB msc mar) H) (hD : va_D (fun a : Nat => s.heap.size ≤ a) (wX q cA sc ar sg ++ wM qm cB msc mar)) (hS : va_S (fun a : Nat => s.heap.size ≤ a) s.heap H locs) (hl : lv_has ls 4 [(0, .ref b), (1, .ref (q 0)), (2, .ref (qm 0)), (3, .int (nI i))]) (hR : Rel sc ar msc mar) (next : lw_next p l e s m below meth c b D q qm cA cB ls) : W p l e room_1 s m #[Value.ref b] below meth c H locs 53 13931 (lw_Z below #[Value.ref b] s) (F0 m 392 ls []) := by
  obtain ⟨hx, hb, hr, hml, hown0, hts, hX, hbl, hlocks, hgv⟩ := id C0
  have htl : ∀ w ∈ wsL_law, w.before #[Value.ref b] s = true := fun w h => hts w (wsL_law_in w h)
  have hown : s.vm.findClass RL = some m.cls := hown0
  have hA : ∀ a : Nat, s.heap.size ≤ a → (fun a : Nat => s.heap.size ≤ a) a := fun _ h => h
  have hbA : ¬ (fun a : Nat => s.heap.size ≤ a) b := Nat.not_le.mpr hbl
  obtain ⟨r, x1, x2, x4⟩ := agrees_sim (sg := sg) hR
  refine lv_aload_n hx hb dL_law_392 rfl (lv_at hl 1 rfl) ?_
  have hk := kcutX (sc' := sc) (ar' := ar) (sg' := sg) hP hD hS hA
  refine k_goI (r := r) (va_runV (As := []) (rest := []) ⟨hx, hb, hml, hown, htl⟩ (kX7_agrees l D q cA sc ar sg x1 _) (cwV 0 htl gL_law_X7_agrees rfl rfl rfl (by decide +kernel) ⟨(Nat.le_of_ble_eq_true rfl), (Nat.le_of_ble_eq_true rfl)⟩) (k_preV (q0 := 0) (ci := 6) hk (hK.sub (tys' := tX cA) [0, 1, 2, 3, 4, 5, 6, 7, 8, 9, 10, 11, 12, 13, 14, 15, 16, 17, 18] rfl) NX_bl (fun U _ hW => NX_w hW E.1) rfl rfl rfl) rfl rfl hl.1 rfl (lv_room (Nat.le_of_ble_eq_true rfl)) dL_law_393 ⟨(Nat.le_of_ble_eq_true rfl), (Nat.le_of_ble_eq_true rfl)⟩) hk hS (fun H locs hP hD hS => ?_)
  refine lv_aload_n hx hb dL_law_396 rfl (lv_at hl 2 rfl) ?_
  have hk := kcutM (msc' := msc) (mar' := mar) hP hD hS hA
  refine k_goI (r := r) (va_runV (As := []) (rest := [.int r]) ⟨hx, hb, hml, hown, htl⟩ (kX8_agrees l D qm cB msc mar x2 _) (cwV 0 htl gL_law_X8_agrees rfl rfl rfl (by decide +kernel) ⟨(Nat.le_of_ble_eq_true rfl), (Nat.le_of_ble_eq_true rfl)⟩) (k_preV (q0 := 0) (ci := 7) hk (hK.sub (tys' := tM cB) [19, 20, 21, 22, 23, 24, 25, 26, 27, 28, 29, 30] rfl) NT_bl NT_u rfl rfl rfl) rfl rfl hl.1 rfl (lv_room (Nat.le_of_ble_eq_true rfl)) dL_law_397 ⟨(Nat.le_of_ble_eq_true rfl), (Nat.le_of_ble_eq_true rfl)⟩) hk hS (fun H locs hP hD hS => ?_)
  refine lv_icmp_eq (tgt := 405) hx hb dL_law_400 (by decide) (fun _ => ?_) (fun hne => absurd rfl hne)
  exact next _ _ _ _ _ _ _ hR hP hD hS
end LWC
