/-! THE WORLDS: which cells a method of each class speaks of -/
abbrev wR (h a : Nat) (cA : ClassId) (n : Nat) (f : Nat → Int32) (ct : Int32) : va_W := [(h, .inr (5, [.ref a, .int ct])), (a, .inl (cA, n, .inl f))]
abbrev wRR (h a : Nat) (cA : ClassId) (n : Nat) (h2 a2 : Nat) (cA2 : ClassId) (n2 : Nat) (f : Nat → Int32) (ct : Int32) (f2 : Nat → Int32) (ct2 : Int32) : va_W := [(h, .inr (5, [.ref a, .int ct])), (a, .inl (cA, n, .inl f)), (h2, .inr (5, [.ref a2, .int ct2])), (a2, .inl (cA2, n2, .inl f2))]
abbrev wD (h r a : Nat) (cA : ClassId) (n : Nat) (pl en : Int32) (f : Nat → Int32) (ct : Int32) : va_W := [(h, .inr (4, [.ref r, .int pl, .int en])), (r, .inr (5, [.ref a, .int ct])), (a, .inl (cA, n, .inl f))]
abbrev wC (h an az : Nat) (cN cS : ClassId) (fn fs : Nat → Int32) (cp : Int32) : va_W := [(h, .inr (0, [.ref an, .ref az, .int cp])), (an, .inl (cN, 4, .inl fn)), (az, .inl (cS, 768, .inl fs))]
abbrev wCC (h an az : Nat) (cN cS : ClassId) (h2 an2 az2 : Nat) (cN2 cS2 : ClassId) (fn fs : Nat → Int32) (cp : Int32) (fn2 fs2 : Nat → Int32) (cp2 : Int32) : va_W := [(h, .inr (0, [.ref an, .ref az, .int cp])), (an, .inl (cN, 4, .inl fn)), (az, .inl (cS, 768, .inl fs)), (h2, .inr (0, [.ref an2, .ref az2, .int cp2])), (an2, .inl (cN2, 4, .inl fn2)), (az2, .inl (cS2, 768, .inl fs2))]
abbrev wI (h ak az am : Nat) (cK cZ cM : ClassId) (fk fz fm : Nat → Int32) (ct : Int32) : va_W := [(h, .inr (3, [.ref ak, .ref az, .ref am, .int ct])), (ak, .inl (cK, 64, .inl fk)), (az, .inl (cZ, 64, .inl fz)), (am, .inl (cM, 64, .inl fm))]
abbrev wF (a : Nat) (cA : ClassId) (n : Nat) (f : Nat → Int32) : va_W := [(a, .inl (cA, n, .inl f))]
abbrev wX (q : Nat → Nat) (cA : Nat → ClassId) (sc : Nat → Int32) (ar : Nat → Nat → Int32) (sg : Bool) : va_W := [(q 0, .inr (6, [.ref (q 1), .ref (q 3), .ref (q 5), .ref (q 7), .ref (q 21), .ref (q 22), .ref (q 29), .int (sc 29)])), (q 1, .inr (5, [.ref (q 2), .int (sc 0)])), (q 2, .inl (cA 0, 48, .inl (ar 0))), (q 3, .inr (5, [.ref (q 4), .int (sc 1)])), (q 4, .inl (cA 1, 64, .inl (ar 1))), (q 5, .inr (5, [.ref (q 6), .int (sc 2)])), (q 6, .inl (cA 2, 1000, .inl (ar 2))), (q 7, .inr (5, [.ref (q 8), .int (sc 3)])), (q 8, .inl (cA 3, 400, .inl (ar 3))), (q 9, .inr (5, [.ref (q 10), .int (sc 4)])), (q 10, .inl (cA 4, 112, .inl (ar 4))), (q 11, .inr (5, [.ref (q 12), .int (sc 5)])), (q 12, .inl (cA 5, 64, .inl (ar 5))), (q 13, .inr (5, [.ref (q 14), .int (sc 6)])), (q 14, .inl (cA 6, 128, .inl (ar 6))), (q 15, .inr (5, [.ref (q 16), .int (sc 7)])), (q 16, .inl (cA 7, 64, .inl (ar 7))), (q 17, .inr (5, [.ref (q 18), .int (sc 8)])), (q 18, .inl (cA 8, 320, .inl (ar 8))), (q 19, .inr (5, [.ref (q 20), .int (sc 9)])), (q 20, .inl (cA 9, 400, .inl (ar 9))), (q 21, .inr (2, [.ref (q 1), .ref (q 3), .ref (q 5), .ref (q 23), .ref (q 32), .ref (q 9), .ref (q 11), .ref (q 13), .ref (q 15), .ref (q 17), .int (sc 10), .int (sc 11)])), (q 22, .inr (1, [.ref (q 1), .ref (q 19), .ref (q 26), .ref (q 36), .ref (q 37), .ref (q 38), .ref (q 39), .int (sc 12), .ref (bif sg then q 19 else q 1), .int (sc 13), .int (sc 14), .int (sc 15), .int (sc 16)])), (q 23, .inr (0, [.ref (q 24), .ref (q 25), .int (sc 17)])), (q 24, .inl (cA 10, 4, .inl (ar 10))), (q 25, .inl (cA 11, 768, .inl (ar 11))), (q 26, .inr (0, [.ref (q 27), .ref (q 28), .int (sc 18)])), (q 27, .inl (cA 12, 4, .inl (ar 12))), (q 28, .inl (cA 13, 768, .inl (ar 13))), (q 29, .inr (0, [.ref (q 30), .ref (q 31), .int (sc 19)])), (q 30, .inl (cA 14, 4, .inl (ar 14))), (q 31, .inl (cA 15, 768, .inl (ar 15))), (q 32, .inr (3, [.ref (q 33), .ref (q 34), .ref (q 35), .int (sc 20)])), (q 33, .inl (cA 16, 64, .inl (ar 16))), (q 34, .inl (cA 17, 64, .inl (ar 17))), (q 35, .inl (cA 18, 64, .inl (ar 18))), (q 36, .inr (4, [.ref (q 5), .int (sc 21), .int (sc 22)])), (q 37, .inr (4, [.ref (q 5), .int (sc 23), .int (sc 24)])), (q 38, .inr (4, [.ref (q 5), .int (sc 25), .int (sc 26)])), (q 39, .inr (4, [.ref (q 5), .int (sc 27), .int (sc 28)]))]
abbrev tX (cA : Nat → ClassId) : List (ClassId × FieldType) := [(cA 0, .int), (cA 1, .int), (cA 2, .int), (cA 3, .int), (cA 4, .int), (cA 5, .int), (cA 6, .int), (cA 7, .int), (cA 8, .int), (cA 9, .int), (cA 10, .int), (cA 11, .int), (cA 12, .int), (cA 13, .int), (cA 14, .int), (cA 15, .int), (cA 16, .int), (cA 17, .int), (cA 18, .int)]
abbrev wM (q : Nat → Nat) (cA : Nat → ClassId) (sc : Nat → Int32) (ar : Nat → Nat → Int32) : va_W := [(q 0, .inr (7, [.ref (q 1), .ref (q 2), .int (sc 0), .ref (q 3), .ref (q 4), .int (sc 1), .ref (q 5), .int (sc 2), .ref (q 6), .ref (q 7), .ref (q 8), .ref (q 9), .ref (q 10), .ref (q 11), .ref (q 12), .int (sc 3), .int (sc 4), .int (sc 5), .int (sc 6), .int (sc 7), .int (sc 8)])), (q 1, .inl (cA 0, 5000, .inl (ar 0))), (q 2, .inl (cA 1, 5, .inl (ar 1))), (q 3, .inl (cA 2, 4, .inl (ar 2))), (q 4, .inl (cA 3, 768, .inl (ar 3))), (q 5, .inl (cA 4, 1544, .inl (ar 4))), (q 6, .inl (cA 5, 64, .inl (ar 5))), (q 7, .inl (cA 6, 64, .inl (ar 6))), (q 8, .inl (cA 7, 64, .inl (ar 7))), (q 9, .inl (cA 8, 1200, .inl (ar 8))), (q 10, .inl (cA 9, 3, .inl (ar 9))), (q 11, .inl (cA 10, 4, .inl (ar 10))), (q 12, .inl (cA 11, 4, .inl (ar 11)))]
abbrev tM (cA : Nat → ClassId) : List (ClassId × FieldType) := [(cA 0, .int), (cA 1, .int), (cA 2, .int), (cA 3, .int), (cA 4, .int), (cA 5, .int), (cA 6, .int), (cA 7, .int), (cA 8, .int), (cA 9, .int), (cA 10, .int), (cA 11, .int)]
/-- what a nest mate may touch -/
def NR (U : State) : Prop := va_Nw (.fieldLinkNest RX5 36 RX6 "bytes" "[I" RX7) U ∧ va_Nw (.fieldLinkNest RX5 22 RX6 "count" "I" RX7) U
def NX (U : State) : Prop := NR U ∧ va_Nw (.fieldLinkNest RX7 116 RX3 "caches" "LDeltaWindows$Caches;" RX7) U ∧ va_Nw (.fieldLinkNest RX7 88 RX2 "made" "LDeltaWindows$Row;" RX7) U ∧ va_Nw (.fieldLinkNest RX7 95 RX2 "caches" "LDeltaWindows$Caches;" RX7) U ∧ va_Nw (.fieldLinkNest RX7 101 RX2 "windowsRead" "I" RX7) U ∧ va_Nw (.fieldLinkNest RX3 65 RX7 "HEAD" "[I" RX7) U ∧ va_Nw (.fieldLinkNest RX2 95 RX7 "HEAD" "[I" RX7) U
theorem nw_c {w : Cond} (hw : w.onTables = true) {a : Array Value} {U : State} {g : JFrame} {mk : MethodId} (h : va_Nw w U) : va_Nw w (U.calling g mk a) := va_Nw.same (u := U) (U := U.calling g mk a) hw rfl h
theorem NR_bl : NBl NR := fun _ _ _ _ h => ⟨nw_c rfl h.1, nw_c rfl h.2⟩
theorem NR_w {s U : State} (hW : s.WarmedH U.vm) (h : NR s) : NR U := ⟨va_Nw.warmF hW h.1, va_Nw.warmF hW h.2⟩
theorem NX_bl : NBl NX := fun a U g mk h => ⟨NR_bl a U g mk h.1, nw_c rfl h.2.1, nw_c rfl h.2.2.1, nw_c rfl h.2.2.2.1, nw_c rfl h.2.2.2.2.1, nw_c rfl h.2.2.2.2.2.1, nw_c rfl h.2.2.2.2.2.2⟩
theorem NX_w {s U : State} (hW : s.WarmedH U.vm) (h : NX s) : NX U := ⟨NR_w hW h.1, va_Nw.warmF hW h.2.1, va_Nw.warmF hW h.2.2.1, va_Nw.warmF hW h.2.2.2.1, va_Nw.warmF hW h.2.2.2.2.1, va_Nw.warmF hW h.2.2.2.2.2.1, va_Nw.warmF hW h.2.2.2.2.2.2⟩
def nz (y : Int32) : Bool := !(y == 0)
theorem nz_ne {y : Int32} (h : nz y = true) : ¬ y = 0 := by
  intro e; rw [e] at h; exact absurd h (by decide)
/-- the head of a delta, as the class's static array holds it -/
def HDf (k : Nat) : Int32 := if k = 0 then 214 else if k = 1 then 195 else if k = 2 then 196 else 0
def Ah (q : Nat → Nat) (sz a : Nat) : Prop := (∃ k, k < 40 ∧ a = q k) ∨ sz ≤ a
theorem wX_fst (q : Nat → Nat) (cA : Nat → ClassId) (sc : Nat → Int32) (ar : Nat → Nat → Int32) (sg : Bool) : (wX q cA sc ar sg).map Prod.fst = (List.range 40).map q := rfl
theorem wX_A {q : Nat → Nat} {cA : Nat → ClassId} {sc : Nat → Int32} {ar : Nat → Nat → Int32} {sg : Bool} {sz a : Nat} (h : va_A (wX q cA sc ar sg) sz a) : Ah q sz a := by
  rcases h with ⟨k, e, hk⟩ | h
  · have h1 := congrArg (fun l : List Nat => l[k]?) (wX_fst q cA sc ar sg)
    simp only [List.getElem?_map, hk, Option.map_some] at h1
    by_cases hl : k < 40
    · rw [List.getElem?_range hl] at h1
      exact Or.inl ⟨k, hl, by simpa using h1⟩
    · rw [List.getElem?_eq_none (by simp; omega)] at h1
      simp at h1
  · exact Or.inr h
def NXH (hd : Nat) (q : Nat → Nat) (U : State) : Prop := NX U ∧ va_Z RX7 "HEAD" "[I" (.ref hd) (Ah q U.heap.size) U U.heap ∧ va_X hd 5 HDf U U.heap ∧ hd < U.heap.size ∧ ¬ Ah q U.heap.size hd
theorem NXH_bl {hd : Nat} {q : Nat → Nat} : NBl (NXH hd q) := fun a U g mk h => ⟨NX_bl a U g mk h.1, va_Z.moved (u := U) (U := U.calling g mk a) (Vm.Alike.refl U.vm) h.2.1, va_X.moved (u := U) (U := U.calling g mk a) (Vm.Alike.refl U.vm) h.2.2.1, h.2.2.2.1, h.2.2.2.2⟩
theorem NXH_w {hd : Nat} {q : Nat → Nat} {cA : Nat → ClassId} {sc : Nat → Int32} {ar : Nat → Nat → Int32} {sg : Bool} {s U : State} {H : Heap} {A : Nat → Prop} {locs : List Loc} (hAe : A = va_A (wX q cA sc ar sg) s.heap.size) (hS : va_S A s.heap H locs) (hU : U.heap = H) (hW : s.WarmedH U.vm) (h : NXH hd q s) : NXH hd q U := by
  obtain ⟨h1, h2, h3, h4, h5⟩ := h
  have hAh : ∀ a, A a → Ah q s.heap.size a := fun a ha => by rw [hAe] at ha; exact wX_A ha
  have hle : s.heap.size ≤ U.heap.size := by rw [hU]; exact hS.1
  have hsub : ∀ a, Ah q U.heap.size a → Ah q s.heap.size a := fun a ha => ha.elim Or.inl (fun x => Or.inr (Nat.le_trans hle x))
  refine ⟨NX_w hW h1, ?_, ?_, Nat.lt_of_lt_of_le h4 hle, fun x => h5 (hsub _ x)⟩
  · rw [hU]
    have hz := (h2.moved hW.alike).kept (H1 := H) (fun a ha hn => hS.2.1 a ha (fun x => hn (hAh a x)))
    exact hz.narrow (fun a ha => hsub a (by rw [hU]; exact ha))
  · rw [hU]
    exact (h3.moved hW.alike).kept (hS.2.1 hd h4 (fun x => h5 (hAh hd x)))
