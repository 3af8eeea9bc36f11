/-! THE LAW: its loop, its start -/
set_option maxHeartbeats 4000000 in
set_option maxRecDepth 100000 in
theorem law_loop {p : Program} {l : Launch} {e : Env} {s : State} {m : MethodId} {below : List Frame} {meth : Method} {c : Code} {b L : Nat} {xs : Nat → Int32} {D : va_G} {q qm : Nat → Nat} {cA cB : Nat → ClassId} {hd : Nat} (hL : L ≤ 2048) (C0 : lw_At p s m meth c b L xs) (E : lw_E hd s) (hK : va_K D vwCl (tX cA ++ tM cB) s) : ∀ (n i : Nat) (sc msc : Nat → Int32) (ar mar : Nat → Nat → Int32) (sg : Bool) (H : Heap) (locs : List Loc) (ls : Array Slot), L < i + n → i ≤ 4096 → Rel sc ar msc mar → va_P D vwCl (wX q cA sc ar sg ++ wM qm cB msc mar) H → va_D (fun a : Nat => s.heap.size ≤ a) (wX q cA sc ar sg ++ wM qm cB msc mar) → va_S (fun a : Nat => s.heap.size ≤ a) s.heap H locs → lv_has ls 4 [(0, .ref b), (1, .ref (q 0)), (2, .ref (qm 0)), (3, .int (nI i))] →
    W p l e room_1 s m #[Value.ref b] below meth c H locs 53 13931 (lw_Z below #[Value.ref b] s) (F0 m 18 ls []) := by
  obtain ⟨hx, hb, hr, hml, hown0, hts, hX, hbl, hlocks, hgv⟩ := id C0
  have hA : ∀ a : Nat, s.heap.size ≤ a → (fun a : Nat => s.heap.size ≤ a) a := fun _ h => h
  have hbA : ¬ (fun a : Nat => s.heap.size ≤ a) b := Nat.not_le.mpr hbl
  intro n
  induction n with
  | zero =>
    intro i sc msc ar mar sg H locs ls hn hi4 hR hP hD hS hl
    refine lv_iload_n hx hb dL_law_18 rfl (lv_at hl 3 rfl) ?_
    refine lv_aload_n hx hb dL_law_19 rfl (lv_at hl 0 rfl) ?_
    refine va_slen hx hb hX hbl hbA hS dL_law_20 ?_
    refine lv_iconst (v := (4 : Int32)) hx hb dL_law_21 (by decide) ?_
    refine lv_isub hx hb dL_law_22 ?_
    refine lv_icmp_gt (tgt := 411) hx hb dL_law_23 (by decide) (fun _ => ?_) (fun hc => ?_)
    · refine lv_iconst (v := (1 : Int32)) hx hb dL_law_411 (by decide) ?_
      refine va_forget (fun a ha => hS.2.2 a ha) ?_
      refine W.widen (k := 600000) (n := 7302249) (by omega) (by omega) ?_
      exact lw_ret hx hb hr hlocks dL_law_412
    · refine absurd ?_ hc
      rw [Int32.lt_iff_toInt_lt]
      have e1 : (Int32.ofNat L - (4 : Int32)).toInt = (L : Int) - 4 := pk_sub_toInt (a := L) (b := 4) (by omega) (by omega)
      have e2 : (nI i).toInt = (i : Int) := nI_toInt (by omega)
      rw [e1, e2]; omega
  | succ n ih =>
    intro i sc msc ar mar sg H locs ls hn hi4 hR hP hD hS hl
    refine lv_iload_n hx hb dL_law_18 rfl (lv_at hl 3 rfl) ?_
    refine lv_aload_n hx hb dL_law_19 rfl (lv_at hl 0 rfl) ?_
    refine va_slen hx hb hX hbl hbA hS dL_law_20 ?_
    refine lv_iconst (v := (4 : Int32)) hx hb dL_law_21 (by decide) ?_
    refine lv_isub hx hb dL_law_22 ?_
    refine lv_icmp_gt (tgt := 411) hx hb dL_law_23 (by decide) (fun _ => ?_) (fun hc => ?_)
    · refine lv_iconst (v := (1 : Int32)) hx hb dL_law_411 (by decide) ?_
      refine va_forget (fun a ha => hS.2.2 a ha) ?_
      refine W.widen (k := 600000) (n := 7302249) (by omega) (by omega) ?_
      exact lw_ret hx hb hr hlocks dL_law_412
    · have hi : i + 4 ≤ L := by
        rw [Int32.lt_iff_toInt_lt] at hc
        have e1 : (Int32.ofNat L - (4 : Int32)).toInt = (L : Int) - 4 := pk_sub_toInt (a := L) (b := 4) (by omega) (by omega)
        have e2 : (nI i).toInt = (i : Int) := nI_toInt (by omega)
        rw [e1, e2] at hc; omega
      have v0 : vp_in (nI i) L := vp_in_nI (by omega) (by omega)
      have next : lw_next p l e s m below meth c b D q qm cA cB ls := by
        intro sc' msc' ar' mar' sg' H' locs' hR' hP' hD' hS'
        refine lv_iinc (v := nI (i + 4)) (lv' := [(3, .int (nI (i + 4))), (0, .ref b), (1, .ref (q 0)), (2, .ref (qm 0))]) hx hb dL_law_405 hl (k := 3) rfl (by rw [← nI_add]; rfl) (by decide) rfl (fun ls hl => ?_)
        refine lv_goto (tgt := 18) hx hb dL_law_408 (by decide) ?_
        exact ih (i + 4) sc' msc' ar' mar' sg' H' locs' ls (by omega) (by omega) hR' hP' hD' hS' (lv_sub hl [1, 2, 3, 0] rfl)
      refine lv_aload_n hx hb dL_law_26 rfl (lv_at hl 0 rfl) ?_
      refine lv_iload_n hx hb dL_law_27 rfl (lv_at hl 3 rfl) ?_
      refine va_sld hx hb hX hbl hbA hS v0 dL_law_28 ?_
      refine lv_bipush (v := (15 : Int32)) hx hb dL_law_29 (by decide) ?_
      refine lv_iand hx hb dL_law_31 ?_
      refine lv_topi (fun y _ => ?_)
      by_cases h0 : y.toInt < 0
      · exact lv_tableOut (tgt := 405) hx hb dL_law_32 (Or.inl h0) (by decide) (next sc msc ar mar sg H locs hR hP hD hS)
      by_cases h1 : 10 < y.toInt
      · exact lv_tableOut (tgt := 405) hx hb dL_law_32 (Or.inr h1) (by decide) (next sc msc ar mar sg H locs hR hP hD hS)
      obtain ⟨k, hk, rfl⟩ := nI_of2 (x := y) (M := 10) (n := 10) (by decide) (fun z => h0 (by rw [Int32.lt_iff_toInt_lt] at z; exact z)) (by rw [Int32.le_iff_toInt_le]; exact Int.not_lt.mp h1)
      rcases (show k = 0 ∨ k = 1 ∨ k = 2 ∨ k = 3 ∨ k = 4 ∨ k = 5 ∨ k = 6 ∨ k = 7 ∨ k = 8 ∨ k = 9 ∨ k = 10 by omega) with rfl | rfl | rfl | rfl | rfl | rfl | rfl | rfl | rfl | rfl | rfl
      · exact lv_tableIn (tgt := 92) hx hb dL_law_32 (by decide) (by decide) rfl (by decide) (lw_c_put hi hL C0 E hK hP hD hS hl hR next)
      · exact lv_tableIn (tgt := 135) hx hb dL_law_32 (by decide) (by decide) rfl (by decide) (lw_c_cut hi hL C0 E hK hP hD hS hl hR next)
      · exact lv_tableIn (tgt := 168) hx hb dL_law_32 (by decide) (by decide) rfl (by decide) (lw_c_set hi hL C0 E hK hP hD hS hl hR next)
      · exact lv_tableIn (tgt := 211) hx hb dL_law_32 (by decide) (by decide) rfl (by decide) (lw_c_encode hi hL C0 E hK hP hD hS hl hR next)
      · exact lv_tableIn (tgt := 234) hx hb dL_law_32 (by decide) (by decide) rfl (by decide) (lw_c_decode hi hL C0 E hK hP hD hS hl hR next)
      · exact lv_tableIn (tgt := 257) hx hb dL_law_32 (by decide) (by decide) rfl (by decide) (lw_c_length hi hL C0 E hK hP hD hS hl hR next)
      · exact lv_tableIn (tgt := 280) hx hb dL_law_32 (by decide) (by decide) rfl (by decide) (lw_c_byteAt hi hL C0 E hK hP hD hS hl hR next)
      · exact lv_tableIn (tgt := 313) hx hb dL_law_32 (by decide) (by decide) rfl (by decide) (lw_c_code hi hL C0 E hK hP hD hS hl hR next)
      · exact lv_tableIn (tgt := 346) hx hb dL_law_32 (by decide) (by decide) rfl (by decide) (lw_c_cache hi hL C0 E hK hP hD hS hl hR next)
      · exact lv_tableIn (tgt := 379) hx hb dL_law_32 (by decide) (by decide) rfl (by decide) (lw_c_windows hi hL C0 E hK hP hD hS hl hR next)
      · exact lv_tableIn (tgt := 392) hx hb dL_law_32 (by decide) (by decide) rfl (by decide) (lw_c_agrees hi hL C0 E hK hP hD hS hl hR next)
set_option maxHeartbeats 4000000 in
set_option maxRecDepth 100000 in
/-- THE LAW, from its entry -/
theorem whole_start {p : Program} {e : Env} {s : State} {m : MethodId} {below : List Frame} {meth : Method} {c : Code} (l : Launch) {b L : Nat} {xs : Nat → Int32} (hL : L ≤ 2048) (C0 : lw_At p s m meth c b L xs) : W p l e room_1 s m #[Value.ref b] below meth c s.heap [] 0 0 (lw_Z below #[Value.ref b] s) (entryFrame m ([Value.ref b] : List Value).toArray 4) := by
  obtain ⟨hx, hb, hr, hml, hown0, hts, hX, hbl, hlocks, hgv⟩ := id C0
  obtain ⟨hd, E⟩ := lw_consts hts hgv
  have htl : ∀ w ∈ wsL_law, w.before #[Value.ref b] s = true := fun w h => hts w (wsL_law_in w h)
  have hown : s.vm.findClass RL = some m.cls := hown0
  have hA : ∀ a : Nat, s.heap.size ≤ a → (fun a : Nat => s.heap.size ≤ a) a := fun _ h => h
  have hi0 : (Cond.instantiable RX0 3).before #[Value.ref b] s = true := hts _ (List.mem_of_getElem? (i := 93) (by decide +kernel))
  have hi2 : (Cond.instantiable RX2 13).before #[Value.ref b] s = true := hts _ (List.mem_of_getElem? (i := 168) (by decide +kernel))
  have hi3 : (Cond.instantiable RX3 12).before #[Value.ref b] s = true := hts _ (List.mem_of_getElem? (i := 87) (by decide +kernel))
  have hi4 : (Cond.instantiable RX4 4).before #[Value.ref b] s = true := hts _ (List.mem_of_getElem? (i := 109) (by decide +kernel))
  have hi5 : (Cond.instantiable RX5 3).before #[Value.ref b] s = true := hts _ (List.mem_of_getElem? (i := 178) (by decide +kernel))
  have hi6 : (Cond.instantiable RX6 2).before #[Value.ref b] s = true := hts _ (List.mem_of_getElem? (i := 71) (by decide +kernel))
  have hi7 : (Cond.instantiable RX7 8).before #[Value.ref b] s = true := hts _ (List.mem_of_getElem? (i := 63) (by decide +kernel))
  have hi8 : (Cond.instantiable RX8 21).before #[Value.ref b] s = true := hts _ (List.mem_of_getElem? (i := 588) (by decide +kernel))
  obtain ⟨c0, i0, hKn0⟩ := u_known (C := RX0) (T := TX0) (N := 3) (n := 3) hts wsX00_in hi0
  obtain ⟨c2, i2, hKn2⟩ := u_known (C := RX2) (T := TX2) (N := 13) (n := 13) hts wsX20_in hi2
  obtain ⟨c3, i3, hKn3⟩ := u_known (C := RX3) (T := TX3) (N := 12) (n := 12) hts wsX30_in hi3
  obtain ⟨c4, i4, hKn4⟩ := u_known (C := RX4) (T := TX4) (N := 4) (n := 4) hts wsX40_in hi4
  obtain ⟨c5, i5, hKn5⟩ := u_known (C := RX5) (T := TX5) (N := 3) (n := 3) hts wsX50_in hi5
  obtain ⟨c6, i6, hKn6⟩ := u_known (C := RX6) (T := TX6) (N := 2) (n := 2) hts wsX60_in hi6
  obtain ⟨c7, i7, hKn7⟩ := u_known (C := RX7) (T := TX7) (N := 8) (n := 8) hts wsX70_in hi7
  obtain ⟨c8, i8, hKn8⟩ := u_known (C := RX8) (T := TX8) (N := 21) (n := 21) hts wsX80_in hi8
  obtain ⟨D, hKc⟩ : ∃ D : va_G, ∀ (k : Nat) (r : vw_C), vwCl[k]? = some r → u_Kn s r.1 r.2.1 r.2.2 (D.1 k) (D.2 k) := by
    refine ⟨(fun k => if k = 0 then c0 else if k = 1 then c2 else if k = 2 then c3 else if k = 3 then c4 else if k = 4 then c5 else if k = 5 then c6 else if k = 6 then c7 else c8, fun k => if k = 0 then i0 else if k = 1 then i2 else if k = 2 then i3 else if k = 3 then i4 else if k = 4 then i5 else if k = 5 then i6 else if k = 6 then i7 else i8), ?_⟩
    intro k r hr
    match k, hr with
    | 0, hr => cases hr; exact hKn0
    | 1, hr => cases hr; exact hKn2
    | 2, hr => cases hr; exact hKn3
    | 3, hr => cases hr; exact hKn4
    | 4, hr => cases hr; exact hKn5
    | 5, hr => cases hr; exact hKn6
    | 6, hr => cases hr; exact hKn7
    | 7, hr => cases hr; exact hKn8
    | k + 8, hr => simp [vwCl] at hr
  have hS : va_S (fun a : Nat => s.heap.size ≤ a) s.heap s.heap [] := va_S.rf
  have hK : va_K D vwCl [] s := ⟨hKc, fun k q h => by simp at h⟩
  have hP : va_P D vwCl [] s.heap := fun k q h => by simp at h
  have hD : va_D (fun a : Nat => s.heap.size ≤ a) [] := ⟨fun i j p q h => by simp at h, fun k q h => by simp at h⟩
  have hl := lv_entry ([.ref b]) (n := 4) (Nat.le_of_ble_eq_true rfl)
  rw [lg_entry_eq]
  generalize (lg_sl ([.ref b]) ++ List.replicate (4 - (lg_sl ([.ref b])).length) Slot.unset).toArray = ls at hl ⊢
  have hl : lv_has ls 4 [(0, .ref b)] := hl
  refine va_new (ci := 6) (fs := [.null, .null, .null, .null, .null, .null, .null, .int 0]) (C := RX7) (T := TX7) (N := 8) hx hb hts wsX70_in tyX7 tyX7_ok hown (hts _ (List.mem_of_getElem? (i := 62) (by decide +kernel))) hi7 (hts _ (List.mem_of_getElem? (i := 50) (by decide +kernel))) hK hP hD hS hA rfl (fun j hj => by rcases (show j = 0 ∨ j = 1 ∨ j = 2 ∨ j = 3 ∨ j = 4 ∨ j = 5 ∨ j = 6 ∨ j = 7 by omega) with rfl | rfl | rfl | rfl | rfl | rfl | rfl | rfl <;> rfl) (Nat.le_of_ble_eq_true rfl) (Nat.le_of_ble_eq_true rfl) dL_law_0 (fun o1 H hP hD hS => ?_)
  have hP : va_P D vwCl [(o1, .inr (6, [.null, .null, .null, .null, .null, .null, .null, .int 0]))] H := hP
  have hD : va_D (fun a : Nat => s.heap.size ≤ a) [(o1, .inr (6, [.null, .null, .null, .null, .null, .null, .null, .int 0]))] := hD
  refine W.widen (k := 1) (n := 8) (by omega) (by omega) ?_
  refine lv_dup hx hb dL_law_3 rfl ?_
  have hPc := hP
  have hDc := hD
  have hKc2 := hK.sub (tys' := []) [] rfl
  have hFc := va_free (wc := [(o1, .inr (6, [.null, .null, .null, .null, .null, .null, .null, .int 0]))]) hD hS hA [0] rfl
  refine va_callv (va_runI (As := []) (rest := [.ref o1]) ⟨hx, hb, hml, hown, htl⟩ (kX7_init l D o1 H.size) (cwI 0 htl gL_law_X7_init rfl rfl rfl (hts _ (List.mem_of_getElem? (i := 50) (by decide +kernel))) (hts _ (List.mem_of_getElem? (i := 64) (by decide +kernel))) (hts _ (List.mem_of_getElem? (i := 65) (by decide +kernel))) rfl (by decide +kernel) ⟨(Nat.le_of_ble_eq_true rfl), (Nat.le_of_ble_eq_true rfl)⟩) ⟨fun a U g mk q => by obtain ⟨q0, q1, qP, qK, qD⟩ := q; exact ⟨q0, q1, qP, va_K.moved (u := U) (U := U.calling g mk a) (Vm.Alike.refl U.vm) qK, qD⟩, fun U hU hW => ⟨rfl, by rw [hU], by rw [hU]; exact hPc, va_K.moved hW.alike hKc2, hDc.weaken (fun _ _ _ _ => trivial)⟩⟩ rfl rfl hl.1 rfl (lv_room (Nat.le_of_ble_eq_true rfl)) dL_law_4 ⟨(Nat.le_of_ble_eq_true rfl), (Nat.le_of_ble_eq_true rfl)⟩) hS (fun q _ h => hFc q h) hFc (fun u t H1 locs ht hvm hw hB hz1 hk1 hS => ?_)
  obtain ⟨q, cA, hq0, hP1, hK1, hD1⟩ := hB
  rw [ht] at hP1
  have hK := va_K.moved hvm.symm hK1
  have hP := hP1
  have hD : va_D (fun a : Nat => s.heap.size ≤ a) (wX q cA (fun _ => 0) (fun _ _ => 0) false) := hD1.weaken (fun k x hx hA1 => hFc _ hA1)
  generalize H1 = H at hP hS ⊢
  refine W.widen (k := 40) (n := 5186) (by omega) (by omega) ?_
  refine lv_astore_n (lv' := [(1, .ref o1), (0, .ref b)]) hx hb dL_law_7 rfl hl (by decide) rfl (fun ls hl => ?_)
  refine va_new (ci := 7) (fs := [.null, .null, .int 0, .null, .null, .int 0, .null, .int 0, .null, .null, .null, .null, .null, .null, .null, .int 0, .int 0, .int 0, .int 0, .int 0, .int 0]) (C := RX8) (T := TX8) (N := 21) hx hb hts wsX80_in tyX8 tyX8_ok hown (hts _ (List.mem_of_getElem? (i := 587) (by decide +kernel))) hi8 (hts _ (List.mem_of_getElem? (i := 57) (by decide +kernel))) hK hP hD hS hA rfl (fun j hj => by rcases (show j = 0 ∨ j = 1 ∨ j = 2 ∨ j = 3 ∨ j = 4 ∨ j = 5 ∨ j = 6 ∨ j = 7 ∨ j = 8 ∨ j = 9 ∨ j = 10 ∨ j = 11 ∨ j = 12 ∨ j = 13 ∨ j = 14 ∨ j = 15 ∨ j = 16 ∨ j = 17 ∨ j = 18 ∨ j = 19 ∨ j = 20 by omega) with rfl | rfl | rfl | rfl | rfl | rfl | rfl | rfl | rfl | rfl | rfl | rfl | rfl | rfl | rfl | rfl | rfl | rfl | rfl | rfl | rfl <;> rfl) (Nat.le_of_ble_eq_true rfl) (Nat.le_of_ble_eq_true rfl) dL_law_8 (fun o2 H hP hD hS => ?_)
  have hP : va_P D vwCl (wX q cA (fun _ => 0) (fun _ _ => 0) false ++ [(o2, .inr (7, [.null, .null, .int 0, .null, .null, .int 0, .null, .int 0, .null, .null, .null, .null, .null, .null, .null, .int 0, .int 0, .int 0, .int 0, .int 0, .int 0]))]) H := hP
  have hD : va_D (fun a : Nat => s.heap.size ≤ a) (wX q cA (fun _ => 0) (fun _ _ => 0) false ++ [(o2, .inr (7, [.null, .null, .int 0, .null, .null, .int 0, .null, .int 0, .null, .null, .null, .null, .null, .null, .null, .int 0, .int 0, .int 0, .int 0, .int 0, .int 0]))]) := hD
  refine W.widen (k := 41) (n := 5207) (by omega) (by omega) ?_
  refine lv_dup hx hb dL_law_11 rfl ?_
  have hPc : va_P D vwCl [(o2, .inr (7, [.null, .null, .int 0, .null, .null, .int 0, .null, .int 0, .null, .null, .null, .null, .null, .null, .null, .int 0, .int 0, .int 0, .int 0, .int 0, .int 0]))] H := fun k x hk => hP _ x (ap_r hk)
  have hDc := D_r hD
  have hKc2 := hK.sub (tys' := []) [] rfl
  have hFc : ∀ a, va_A [(o2, .inr (7, [.null, .null, .int 0, .null, .null, .int 0, .null, .int 0, .null, .null, .null, .null, .null, .null, .null, .int 0, .int 0, .int 0, .int 0, .int 0, .int 0]))] H.size a → (fun a : Nat => s.heap.size ≤ a) a := fun a ha => by
    rcases ha with ⟨k, e, h⟩ | h
    · exact hD.2 _ _ (ap_r h)
    · exact Nat.le_trans hS.1 h
  refine va_callv (va_runI (As := []) (rest := [.ref o2]) ⟨hx, hb, hml, hown, htl⟩ (kX8_init l D o2 H.size) (cwI 0 htl gL_law_X8_init rfl rfl rfl (hts _ (List.mem_of_getElem? (i := 57) (by decide +kernel))) (hts _ (List.mem_of_getElem? (i := 589) (by decide +kernel))) (hts _ (List.mem_of_getElem? (i := 590) (by decide +kernel))) rfl (by decide +kernel) ⟨(Nat.le_of_ble_eq_true rfl), (Nat.le_of_ble_eq_true rfl)⟩) ⟨fun a U g mk q => by obtain ⟨q0, q1, qP, qK, qD⟩ := q; exact ⟨q0, q1, qP, va_K.moved (u := U) (U := U.calling g mk a) (Vm.Alike.refl U.vm) qK, qD⟩, fun U hU hW => ⟨rfl, by rw [hU], by rw [hU]; exact hPc, va_K.moved hW.alike hKc2, hDc.weaken (fun _ _ _ _ => trivial)⟩⟩ rfl rfl hl.1 rfl (lv_room (Nat.le_of_ble_eq_true rfl)) dL_law_12 ⟨(Nat.le_of_ble_eq_true rfl), (Nat.le_of_ble_eq_true rfl)⟩) hS (fun q _ h => hFc q h) hFc (fun u t H1 locs ht hvm hw hB hz1 hk1 hS => ?_)
  obtain ⟨qm, cB, hqm0, hP1, hK1, hD1⟩ := hB
  rw [ht] at hP1
  have hK1 := va_K.moved hvm.symm hK1
  have hK2 := hK.app hK1
  have hP2 : va_P D vwCl (wX q cA (fun _ => 0) (fun _ _ => 0) false ++ wM qm cB (fun _ => 0) (fun _ _ => 0)) H1 := by
    refine va_P.app (fun k x hk => ?_) hP1
    have h0 := hP k x (ap_l hk)
    refine h0.kept (hk1 x.1 h0.lt (fun h => ?_))
    rcases h with ⟨k', e', h'⟩ | h'
    · exact D_x hD hk h' rfl
    · exact absurd h0.lt (Nat.not_lt.mpr h')
  have hD2 : va_D (fun a : Nat => s.heap.size ≤ a) (wX q cA (fun _ => 0) (fun _ _ => 0) false ++ wM qm cB (fun _ => 0) (fun _ _ => 0)) := by
    refine (D_l hD).app (hD1.weaken (fun k x hx hA1 => hFc _ hA1)) (fun i j x y hx hy e => ?_)
    have h1 := hD1.2 j y hy
    rcases h1 with ⟨k', e', h'⟩ | h'
    · exact D_x hD hx h' e
    · have h0 := (hP i x (ap_l hx)).lt
      rw [e] at h0
      exact absurd h0 (Nat.not_lt.mpr h')
  generalize H1 = H at hP2 hS ⊢
  refine W.widen (k := 53) (n := 13931) (by omega) (by omega) ?_
  refine lv_astore_n (lv' := [(2, .ref o2), (1, .ref o1), (0, .ref b)]) hx hb dL_law_15 rfl hl (by decide) rfl (fun ls hl => ?_)
  refine lv_iconst (v := (0 : Int32)) hx hb dL_law_16 (by decide) ?_
  refine lv_istore_n (lv' := [(3, .int (nI 0)), (2, .ref o2), (1, .ref o1), (0, .ref b)]) hx hb dL_law_17 rfl hl (by decide) rfl (fun ls hl => ?_)
  subst hq0
  subst hqm0
  exact law_loop hL C0 E hK2 (L + 1) 0 _ _ _ _ _ _ _ ls (by omega) (by omega) Rel_start hP2 hD2 hS (lv_sub hl [3, 2, 1, 0] rfl)
