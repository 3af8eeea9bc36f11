/-! THE CLAIM OUT OF ONE WALK OF THE LAW'S BODY. Your part is whole_start (and what it stands on); all else here is the same for every law, but numbers. -/
def R_law : String := "DeltaWindowsLaw"
def lw_P (b : Addr) (xs : List Int32) (args : Array Value) (s : State) : Prop := args = #[.ref b] ∧ s.IntsAt b xs ∧ xs.length ≤ 2048 ∧ (Jvm.Cond.and given_1 narrow_1).before args s = true
def lw_Q (_ : Array Value) (s : State) (o : Outcome) (t : State) : Prop := o = .returned (some (.int 1)) ∧ Framed s o t [] 600000 7302249
def lw_Z (below : List Frame) (a : Array Value) (s : State) : State → Prop := fun t => ∃ o, t.status = .running ∧ Ended t below o ∧ lw_Q a s o t
/-- the law's own end, with 1 on the stack, nothing written that was there before, its room as the claim has it -/
theorem lw_ret {p : Program} {l : Launch} {e : Env} {s : State} {m : MethodId} {below : List Frame} {meth : Method} {c : Code} {b : Nat} (hx : p.tables.exec = Jvm.exec) (hb : c.code = code) (hr : meth.sig.returnType = ret) (hlocks : meth.locks = false) {pc : Nat} {H : Heap} {ls : Array Slot} (hdg : decode code pc = .ok (.ireturn, 1)) : W p l e room_1 s m #[Value.ref b] below meth c H [] 600000 7302249 (lw_Z below #[Value.ref b] s) (F0 m pc ls [.int 1]) := by
  intro T hT X
  obtain ⟨fs, hret, hrun, hended, hW, hframe⟩ := X.leave (v := some (.int 1)) (hlocks := hlocks) (fun h => by rw [hr] at h; cases h)
  have hmeth' : T.vm.method? m = some meth := X.method'
  refine ⟨T.setFrames fs, ?_, .returned (some (.int 1)), hrun, hended, rfl, ⟨_, rfl⟩, hW, hframe⟩
  jvm_step X.here [X.here.top, hx, hb, hdg, hmeth', hr, ret, narrow_b1]
  (try refine ⟨rfl, ?_⟩); (try refine ⟨rfl, ?_⟩)
  first | (intro acts; rw [hret _ acts rfl rfl rfl]) | rw [hret _ _ rfl rfl rfl]
  exact Steps.refl _
/-- what holds at the law's entry: the machine, the code, the tables' words (any of lw_tbl by 'hts w (by decide +kernel)'), the script of L ints xs at the cell b, what the Statement gives of the start (any of its parts by flat_of_before) -/
def lw_At (p : Program) (s : State) (m : MethodId) (meth : Method) (c : Code) (b L : Nat) (xs : Nat → Int32) : Prop :=
  p.tables.exec = Jvm.exec ∧ c.code = code ∧ meth.sig.returnType = ret ∧ c.maxLocals = 4 ∧ s.vm.findClass R_law = some m.cls ∧ (∀ w ∈ lw_tbl, w.before #[Value.ref b] s = true) ∧ va_X b L xs s s.heap ∧ b < s.heap.size ∧ meth.locks = false ∧ (Jvm.Cond.and given_1 narrow_1).before #[Value.ref b] s = true
/-! what the law's walk stands on -/
theorem ap_l {w1 w2 : va_W} {k : Nat} {x : Nat × va_E} (h : w1[k]? = some x) : (w1 ++ w2)[k]? = some x := by
  rw [List.getElem?_append_left (List.getElem?_eq_some_iff.mp h).1]; exact h
theorem ap_r {w1 w2 : va_W} {k : Nat} {x : Nat × va_E} (h : w2[k]? = some x) : (w1 ++ w2)[w1.length + k]? = some x := by
  rw [List.getElem?_append_right (Nat.le_add_right _ _), Nat.add_sub_cancel_left]; exact h
theorem fst_at {w w' : va_W} (had : w'.map Prod.fst = w.map Prod.fst) {j : Nat} {x : Nat × va_E} (hx : w'[j]? = some x) : ∃ x0 : Nat × va_E, w[j]? = some x0 ∧ x0.1 = x.1 := by
  have h1 := congrArg (fun l : List Nat => l[j]?) had
  simp only [List.getElem?_map, hx, Option.map_some] at h1
  cases hw : w[j]? with
  | none => rw [hw] at h1; simp at h1
  | some y => rw [hw] at h1; exact ⟨y, rfl, by simpa using h1.symm⟩
theorem D_l {A : Nat → Prop} {w1 w2 : va_W} (hD : va_D A (w1 ++ w2)) : va_D A w1 := ⟨fun i j x y hx hy e => hD.1 i j x y (ap_l hx) (ap_l hy) e, fun k q hk => hD.2 k q (ap_l hk)⟩
theorem D_r {A : Nat → Prop} {w1 w2 : va_W} (hD : va_D A (w1 ++ w2)) : va_D A w2 := ⟨fun i j x y hx hy e => Nat.add_left_cancel (hD.1 _ _ x y (ap_r hx) (ap_r hy) e), fun k q hk => hD.2 _ q (ap_r hk)⟩
theorem D_x {A : Nat → Prop} {w1 w2 : va_W} (hD : va_D A (w1 ++ w2)) {i j : Nat} {x y : Nat × va_E} (hx : w1[i]? = some x) (hy : w2[j]? = some y) : x.1 ≠ y.1 := fun e => by
  have h1 := hD.1 _ _ x y (ap_l hx) (ap_r hy) e
  have h2 := (List.getElem?_eq_some_iff.mp hx).1
  omega
theorem D_eq {A : Nat → Prop} {w w' : va_W} (had : w'.map Prod.fst = w.map Prod.fst) (hD : va_D A w) : va_D A w' := by
  refine ⟨fun i j x y hx hy e => ?_, fun k q hk => ?_⟩
  · obtain ⟨x0, h1, h2⟩ := fst_at had hx
    obtain ⟨y0, h3, h4⟩ := fst_at had hy
    exact hD.1 i j x0 y0 h1 h3 (by rw [h2, h4]; exact e)
  · obtain ⟨q0, h1, h2⟩ := fst_at had hk
    rw [← h2]; exact hD.2 k q0 h1
theorem kL {D : va_G} {A : Nat → Prop} {w1 w1' w2 : va_W} {H H0 : Heap} {locs : List Loc} (hP : va_P D vwCl (w1 ++ w2) H) (hD : va_D A (w1 ++ w2)) (hS : va_S A H0 H locs) (hA : ∀ a, H0.size ≤ a → A a) (had : w1'.map Prod.fst = w1.map Prod.fst) : KC D A w1 w1' (w1' ++ w2) H := by
  refine ⟨fun q hq => ?_, fun k q hk => hP k q (ap_l hk), (D_l hD).weaken (fun _ _ _ _ => trivial), fun H1 hk hP1 => ⟨hP1.app (fun k q hq => ?_), ?_⟩⟩
  · rcases hq with ⟨k, e, h⟩ | h
    · exact hD.2 k _ (ap_l h)
    · exact hA q (Nat.le_trans hS.1 h)
  · have h0 := hP _ q (ap_r hq)
    refine h0.kept (hk q.1 h0.lt (fun h => ?_))
    rcases h with ⟨k', e', h'⟩ | h'
    · exact D_x hD h' hq rfl
    · exact absurd h0.lt (Nat.not_lt.mpr h')
  · refine (D_eq had (D_l hD)).app (D_r hD) (fun i j x y hx hy => ?_)
    obtain ⟨x0, h1, h2⟩ := fst_at had hx
    rw [← h2]; exact D_x hD h1 hy
theorem kR {D : va_G} {A : Nat → Prop} {w1 w2 w2' : va_W} {H H0 : Heap} {locs : List Loc} (hP : va_P D vwCl (w1 ++ w2) H) (hD : va_D A (w1 ++ w2)) (hS : va_S A H0 H locs) (hA : ∀ a, H0.size ≤ a → A a) (had : w2'.map Prod.fst = w2.map Prod.fst) : KC D A w2 w2' (w1 ++ w2') H := by
  refine ⟨fun q hq => ?_, fun k q hk => hP _ q (ap_r hk), (D_r hD).weaken (fun _ _ _ _ => trivial), fun H1 hk hP1 => ⟨va_P.app (fun k q hq => ?_) hP1, ?_⟩⟩
  · rcases hq with ⟨k, e, h⟩ | h
    · exact hD.2 _ _ (ap_r h)
    · exact hA q (Nat.le_trans hS.1 h)
  · have h0 := hP _ q (ap_l hq)
    refine h0.kept (hk q.1 h0.lt (fun h => ?_))
    rcases h with ⟨k', e', h'⟩ | h'
    · exact D_x hD hq h' rfl
    · exact absurd h0.lt (Nat.not_lt.mpr h')
  · refine (D_l hD).app (D_eq had (D_r hD)) (fun i j x y hx hy => ?_)
    obtain ⟨y0, h1, h2⟩ := fst_at had hy
    rw [← h2]; exact D_x hD hx h1
theorem kcutX {D : va_G} {A : Nat → Prop} {q qm : Nat → Nat} {cA cB : Nat → ClassId} {sc sc' msc : Nat → Int32} {ar ar' mar : Nat → Nat → Int32} {sg sg' : Bool} {H H0 : Heap} {locs : List Loc} (hP : va_P D vwCl (wX q cA sc ar sg ++ wM qm cB msc mar) H) (hD : va_D A (wX q cA sc ar sg ++ wM qm cB msc mar)) (hS : va_S A H0 H locs) (hA : ∀ a, H0.size ≤ a → A a) : KC D A (wX q cA sc ar sg) (wX q cA sc' ar' sg') (wX q cA sc' ar' sg' ++ wM qm cB msc mar) H :=
  kL hP hD hS hA ((wX_fst q cA sc' ar' sg').trans (wX_fst q cA sc ar sg).symm)
theorem wM_fst (q : Nat → Nat) (cA : Nat → ClassId) (sc : Nat → Int32) (ar : Nat → Nat → Int32) : (wM q cA sc ar).map Prod.fst = (List.range 13).map q := rfl
theorem kcutM {D : va_G} {A : Nat → Prop} {q qm : Nat → Nat} {cA cB : Nat → ClassId} {sc msc msc' : Nat → Int32} {ar mar mar' : Nat → Nat → Int32} {sg : Bool} {H H0 : Heap} {locs : List Loc} (hP : va_P D vwCl (wX q cA sc ar sg ++ wM qm cB msc mar) H) (hD : va_D A (wX q cA sc ar sg ++ wM qm cB msc mar)) (hS : va_S A H0 H locs) (hA : ∀ a, H0.size ≤ a → A a) : KC D A (wM qm cB msc mar) (wM qm cB msc' mar') (wX q cA sc ar sg ++ wM qm cB msc' mar') H :=
  kR hP hD hS hA ((wM_fst qm cB msc' mar').trans (wM_fst qm cB msc mar).symm)
theorem hq_of {A : Nat → Prop} {q : Nat → Nat} {cA : Nat → ClassId} {sc : Nat → Int32} {ar : Nat → Nat → Int32} {sg : Bool} {w : va_W} (hD : va_D A (wX q cA sc ar sg ++ w)) : ∀ k, k < 40 → A (q k) := by
  intro k hk
  have h1 := congrArg (fun l : List Nat => l[k]?) (wX_fst q cA sc ar sg)
  simp only [List.getElem?_map, List.getElem?_range hk, Option.map_some] at h1
  cases hw : (wX q cA sc ar sg)[k]? with
  | none => rw [hw] at h1; simp at h1
  | some x =>
    rw [hw] at h1
    have e : x.1 = q k := by simpa using h1
    rw [← e]
    exact hD.2 k x (ap_l hw)
/-- what the law knows of the class's constants -/
def lw_E (hd : Nat) (s : State) : Prop := NX s ∧ va_Z RX7 "HEAD" "[I" (.ref hd) (fun a : Nat => s.heap.size ≤ a) s s.heap ∧ va_X hd 5 HDf s s.heap ∧ hd < s.heap.size
theorem NXH_law {hd : Nat} {q : Nat → Nat} {s U : State} {H : Heap} {locs : List Loc} (E : lw_E hd s) (hq : ∀ k, k < 40 → s.heap.size ≤ q k) (hS : va_S (fun a : Nat => s.heap.size ≤ a) s.heap H locs) (hU : U.heap = H) (hW : s.WarmedH U.vm) : NXH hd q U := by
  obtain ⟨h1, h2, h3, h4⟩ := E
  have hle : s.heap.size ≤ U.heap.size := by rw [hU]; exact hS.1
  have hsub : ∀ a, Ah q U.heap.size a → s.heap.size ≤ a := fun a ha => by
    rcases ha with ⟨k, hk, rfl⟩ | ha
    · exact hq k hk
    · exact Nat.le_trans hle ha
  refine ⟨NX_w hW h1, ?_, ?_, Nat.lt_of_lt_of_le h4 hle, fun x => absurd (hsub _ x) (Nat.not_le.mpr h4)⟩
  · rw [hU]
    have hz := (h2.moved hW.alike).kept (H1 := H) (fun a ha hn => hS.2.1 a ha hn)
    exact hz.narrow (fun a ha => hsub a (by rw [hU]; exact ha))
  · rw [hU]
    exact (h3.moved hW.alike).kept (hS.2.1 hd h4 (Nat.not_le.mpr h4))
theorem len_small {args : Array Value} {s : State} {tm : Term} {v : Value} (h : (Term.length tm).eval args s none [] s = some v) : ∃ b cell, tm.eval args s none [] s = some (.ref b) ∧ s.arrayAt? b = some cell ∧ cell.slots.size < 2 ^ 31 ∧ v = .int cell.slots.size.toInt32 := by
  obtain ⟨b, cell, ht, harr, hv⟩ := Term.length_spec h
  have hsz : cell.slots.size < 2 ^ 31 := by
    simp only [Term.eval, ht, harr, Option.bind_eq_bind, Option.bind_some] at h
    by_cases hlt : cell.slots.size < 2147483648
    · exact hlt
    · simp [hlt] at h
  exact ⟨b, cell, ht, harr, hsz, hv⟩
theorem lw_consts {b : Nat} {s : State} (hts : ∀ w ∈ lw_tbl, w.before #[Value.ref b] s = true) (hgv : (Jvm.Cond.and given_1 narrow_1).before #[Value.ref b] s = true) : ∃ hd, lw_E hd s := by
  have hs := flat_of_before _ hgv
  have harr : (Cond.arrayOf (.static "DeltaWindows" "HEAD" "[I") .int).before #[Value.ref b] s = true := hs _ (by decide +kernel)
  have hlen := va_eqt (hs (Cond.eq (.length (.static "DeltaWindows" "HEAD" "[I")) (.int 5)) (by decide +kernel))
  have e0 := va_eqt (hs (Cond.eq (.elem (.static "DeltaWindows" "HEAD" "[I") (.int 0)) (.int 214)) (by decide +kernel))
  have e1 := va_eqt (hs (Cond.eq (.elem (.static "DeltaWindows" "HEAD" "[I") (.int 1)) (.int 195)) (by decide +kernel))
  have e2 := va_eqt (hs (Cond.eq (.elem (.static "DeltaWindows" "HEAD" "[I") (.int 2)) (.int 196)) (by decide +kernel))
  have e3 := va_eqt (hs (Cond.eq (.elem (.static "DeltaWindows" "HEAD" "[I") (.int 3)) (.int 0)) (by decide +kernel))
  have e4 := va_eqt (hs (Cond.eq (.elem (.static "DeltaWindows" "HEAD" "[I") (.int 4)) (.int 0)) (by decide +kernel))
  have hel : ∀ j : Nat, j < 5 → (Term.elem (.static "DeltaWindows" "HEAD" "[I") (.int (Int32.ofNat j))).eval #[Value.ref b] s none [] s = some (Value.int (HDf j)) := by
    intro j hj
    rcases (show j = 0 ∨ j = 1 ∨ j = 2 ∨ j = 3 ∨ j = 4 by omega) with rfl | rfl | rfl | rfl | rfl
    · exact e0
    · exact e1
    · exact e2
    · exact e3
    · exact e4
  obtain ⟨t, ht, cell, h1, h2, h3, h4, h5, h6, h7⟩ := va_Tof (A := fun a : Nat => s.heap.size ≤ a) (N := 5) (by decide) harr hlen hel (fun a ha => Nat.not_le.mpr ha)
  obtain ⟨t2, cell2, ht2, hat, hsm, -⟩ := len_small hlen
  cases ht.symm.trans ht2
  obtain ⟨hc2, -, -, -⟩ := State.arrayAt?_spec hat
  cases h1.symm.trans hc2
  have h55 : nI cell.slots.size = nI 5 := h5
  have hsz : cell.slots.size = 5 := (nI_eq hsm (by decide)).mp h55
  refine ⟨t, ⟨⟨?_, ?_⟩, ?_, ?_, ?_, ?_, ?_, ?_⟩, ?_, ⟨cell, h1, h2, h3, hsz, fun j hj => h6 j hj⟩, Nat.not_le.mp h7⟩
  · exact va_Nw.of rfl (hts _ (List.mem_of_getElem? (i := 77) (by decide +kernel)))
  · exact va_Nw.of rfl (hts _ (List.mem_of_getElem? (i := 79) (by decide +kernel)))
  · exact va_Nw.of rfl (hts _ (List.mem_of_getElem? (i := 133) (by decide +kernel)))
  · exact va_Nw.of rfl (hts _ (List.mem_of_getElem? (i := 195) (by decide +kernel)))
  · exact va_Nw.of rfl (hts _ (List.mem_of_getElem? (i := 197) (by decide +kernel)))
  · exact va_Nw.of rfl (hts _ (List.mem_of_getElem? (i := 203) (by decide +kernel)))
  · exact va_Nw.of rfl (hts _ (List.mem_of_getElem? (i := 315) (by decide +kernel)))
  · exact va_Nw.of rfl (hts _ (List.mem_of_getElem? (i := 473) (by decide +kernel)))
  · exact va_Zref (C := RX7) (hts _ (List.mem_of_getElem? (i := 316) (by decide +kernel))) (hts _ (List.mem_of_getElem? (i := 50) (by decide +kernel))) ht (fun a ha => Nat.not_le.mpr ha)
