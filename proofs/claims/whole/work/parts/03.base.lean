abbrev vwCl : List vw_C := [(RX0, TX0, 3), (RX2, TX2, 13), (RX3, TX3, 12), (RX4, TX4, 4), (RX5, TX5, 3), (RX6, TX6, 2), (RX7, TX7, 8), (RX8, TX8, 21)]
/-! THE BASE: contracts over a fixed world, calls that put the callee's cells back in their places -/
/-- the cells xs at the places is of ws -/
def sA : va_W → List Nat → va_W → va_W
  | ws, i :: is, x :: xs => sA (ws.set i x) is xs
  | ws, _, _ => ws
theorem sA_len : ∀ (is : List Nat) (ws xs : va_W), (sA ws is xs).length = ws.length
  | [], ws, xs => by simp [sA]
  | i :: is, ws, [] => by simp [sA]
  | i :: is, ws, x :: xs => by rw [sA, sA_len is]; simp
theorem sA_out : ∀ (is : List Nat) (ws xs : va_W) (k : Nat), k ∉ is → (sA ws is xs)[k]? = ws[k]?
  | [], ws, xs, k, _ => by simp [sA]
  | i :: is, ws, [], k, _ => by simp [sA]
  | i :: is, ws, x :: xs, k, h => by
    have h1 : k ≠ i := fun q => h (by rw [q]; exact List.mem_cons_self)
    have h2 : k ∉ is := fun q => h (List.mem_cons_of_mem _ q)
    rw [sA, sA_out is _ xs k h2, List.getElem?_set_ne (Ne.symm h1)]
theorem sA_in : ∀ (is : List Nat) (ws xs : va_W) (j k : Nat), va_nd is = true → is.length = xs.length → is[j]? = some k → k < ws.length → (sA ws is xs)[k]? = xs[j]?
  | [], ws, xs, j, k, _, _, hj, _ => by simp at hj
  | i :: is, ws, [], j, k, _, hl, _, _ => by simp at hl
  | i :: is, ws, x :: xs, j, k, hn, hl, hj, hk => by
    have hinj := va_nd_inj _ hn
    cases j with
    | zero =>
      have hk0 : i = k := by simpa using hj
      subst hk0
      have hni : i ∉ is := fun q => by
        obtain ⟨j', hj'⟩ := List.mem_iff_getElem?.mp q
        have := hinj 0 (j' + 1) i (by simp) (by simpa using hj')
        omega
      rw [sA, sA_out is _ xs i hni]
      simp [hk]
    | succ j =>
      have hn' : va_nd is = true := by
        simp only [va_nd, Bool.and_eq_true] at hn
        exact hn.2
      rw [sA, sA_in is _ xs j k hn' (by simpa using hl) (by simpa using hj) (by simpa using hk)]
      simp
theorem k_fm {α β : Type} {f : α → Option β} : ∀ {is : List α} {ws : List β}, is.map f = ws.map some → is.filterMap f = ws
  | [], [], _ => rfl
  | [], x :: xs, h => by simp at h
  | i :: is, [], h => by simp at h
  | i :: is, x :: xs, h => by
    simp only [List.map_cons, List.cons.injEq] at h
    rw [List.filterMap_cons, h.1]
    simp only [k_fm h.2]
theorem k_set {D : va_G} {cl : List vw_C} {A : Nat → Prop} {ws wc wc' : va_W} {H H1 : Heap} (hP : va_P D cl ws H) (hD : va_D A ws) (is : List Nat) (hC : is.map (fun i => ws[i]?) = wc.map some) (hn : va_nd is = true) (had : wc'.map Prod.fst = wc.map Prod.fst)
    (hk : ∀ q : Nat, q < H.size → ¬ va_A wc H.size q → H1[q]? = H[q]?) (hP1 : va_P D cl wc' H1) : va_P D cl (sA ws is wc') H1 ∧ va_D A (sA ws is wc') := by
  have hlen : is.length = wc.length := by have := congrArg List.length hC; simpa using this
  have hlen' : wc'.length = wc.length := by have := congrArg List.length had; simpa using this
  have hat : ∀ (j k : Nat), is[j]? = some k → ws[k]? = wc[j]? := fun j k hj => by
    have h1 := congrArg (fun l : List (Option (Nat × va_E)) => l[j]?) hC
    simp only [List.getElem?_map, hj, Option.map_some] at h1
    cases hw : wc[j]? with
    | none => rw [hw] at h1; simp at h1
    | some x => rw [hw] at h1; simpa using h1
  have hfst : ∀ (j : Nat) (x : Nat × va_E), wc'[j]? = some x → ∃ x0 : Nat × va_E, wc[j]? = some x0 ∧ x0.1 = x.1 := fun j x hx => by
    have h1 := congrArg (fun l : List Nat => l[j]?) had
    simp only [List.getElem?_map, hx, Option.map_some] at h1
    cases hw : wc[j]? with
    | none => rw [hw] at h1; simp at h1
    | some y => rw [hw] at h1; exact ⟨y, rfl, by simpa using h1.symm⟩
  have key : ∀ (k : Nat) (q : Nat × va_E), (sA ws is wc')[k]? = some q → (∃ j : Nat, is[j]? = some k ∧ wc'[j]? = some q) ∨ (k ∉ is ∧ ws[k]? = some q) := fun k q hq => by
    by_cases hm : k ∈ is
    · obtain ⟨j, hj⟩ := List.mem_iff_getElem?.mp hm
      have hkl : k < ws.length := by
        have h2 : k < (sA ws is wc').length := (List.getElem?_eq_some_iff.mp hq).1
        rwa [sA_len] at h2
      rw [sA_in is ws wc' j k hn (by omega) hj hkl] at hq
      exact Or.inl ⟨j, hj, hq⟩
    · rw [sA_out is ws wc' k hm] at hq
      exact Or.inr ⟨hm, hq⟩
  have addr : ∀ (k : Nat) (q : Nat × va_E), (sA ws is wc')[k]? = some q → ∃ q0 : Nat × va_E, ws[k]? = some q0 ∧ q0.1 = q.1 := fun k q hq => by
    rcases key k q hq with ⟨j, hj, hx⟩ | ⟨-, h⟩
    · obtain ⟨x0, h1, h2⟩ := hfst j q hx
      exact ⟨x0, by rw [hat j k hj]; exact h1, h2⟩
    · exact ⟨q, h, rfl⟩
  refine ⟨fun k q hq => ?_, ⟨fun i j x y hx hy hxy => ?_, fun k q hq => ?_⟩⟩
  · rcases key k q hq with ⟨j, hj, hx⟩ | ⟨hm, h⟩
    · exact hP1 j q hx
    · have hat0 := hP k q h
      refine hat0.kept (hk q.1 hat0.lt (fun hA => ?_))
      rcases hA with ⟨k', e', hk'⟩ | hge
      · have hk2 : k' < is.length := by rw [hlen]; exact (List.getElem?_eq_some_iff.mp hk').1
        have hj : is[k']? = some is[k'] := List.getElem?_eq_getElem hk2
        have h3 := hat k' _ hj
        rw [hk'] at h3
        have := hD.1 k is[k'] q (q.1, e') h h3 rfl
        exact hm (by rw [this]; exact List.getElem_mem hk2)
      · exact absurd hat0.lt (by omega)
  · obtain ⟨x0, h1, h2⟩ := addr i x hx
    obtain ⟨y0, h3, h4⟩ := addr j y hy
    exact hD.1 i j x0 y0 h1 h3 (by rw [h2, h4]; exact hxy)
  · obtain ⟨q0, h1, h2⟩ := addr k q hq
    rw [← h2]; exact hD.2 k q0 h1
/-- a contract's start: the world ws, the array classes tys, N of the state -/
def kP (D : va_G) (ws : va_W) (tys : List (ClassId × FieldType)) (N : State → Prop) (sz : Nat) (U : State) : Prop := U.heap.size = sz ∧ va_P D vwCl ws U.heap ∧ va_K D vwCl tys U ∧ va_D (fun _ => True) ws ∧ N U
def kBd (D : va_G) (ws' : va_W) (_ : Unit) (t : State) : Prop := va_P D vwCl ws' t.heap
/-- contracts: the method answers r (an int, a long, nothing, a reference or null) and the world becomes ws' -/
def MI (l : Launch) (y : MethodName) (wd : List Cond) (rm : Room) (D : va_G) (av : List Value) (ws : va_W) (tys : List (ClassId × FieldType)) (N : State → Prop) (r : Int32) (ws' : va_W) : Prop := ∀ sz, Met l y wd rm (va_Pc av (kP D ws tys N sz)) (va_Qi (fun r' (_ : Unit) => r' = r) (kBd D ws') (va_A ws sz)) 0 0 (va_A ws sz)
def ML (l : Launch) (y : MethodName) (wd : List Cond) (rm : Room) (D : va_G) (av : List Value) (ws : va_W) (tys : List (ClassId × FieldType)) (N : State → Prop) (r : Int64) (ws' : va_W) : Prop := ∀ sz, Met l y wd rm (va_Pc av (kP D ws tys N sz)) (va_Ql (fun r' (_ : Unit) => r' = r) (kBd D ws') (va_A ws sz)) 0 0 (va_A ws sz)
def MV (l : Launch) (y : MethodName) (wd : List Cond) (rm : Room) (D : va_G) (av : List Value) (ws : va_W) (tys : List (ClassId × FieldType)) (N : State → Prop) (ws' : va_W) : Prop := ∀ sz, Met l y wd rm (va_Pc av (kP D ws tys N sz)) (va_Qv (fun (_ : Unit) => True) (kBd D ws') (va_A ws sz)) 0 0 (va_A ws sz)
def MR (l : Launch) (y : MethodName) (wd : List Cond) (rm : Room) (D : va_G) (av : List Value) (ws : va_W) (tys : List (ClassId × FieldType)) (N : State → Prop) (r : Option Nat) (ws' : va_W) : Prop := ∀ sz, Met l y wd rm (va_Pc av (kP D ws tys N sz)) (va_Qq (fun r' (_ : Unit) => r' = r) (kBd D ws') (va_A ws sz)) 0 0 (va_A ws sz)
def NT (_ : State) : Prop := True
def NBl (N : State → Prop) : Prop := ∀ (a : Array Value) (U : State) (g : JFrame) (mk : MethodId), N U → N (U.calling g mk a)
theorem NT_bl : NBl NT := fun _ _ _ _ _ => trivial
theorem NT_u {s : State} {H : Heap} : ∀ U : State, U.heap = H → s.WarmedH U.vm → NT U := fun _ _ _ => trivial
theorem k_blind {av : List Value} {D : va_G} {ws : va_W} {tys : List (ClassId × FieldType)} {N : State → Prop} {sz : Nat} (hN : NBl N) : FrameBlind (va_Pc av (kP D ws tys N sz)) := by
  intro a U g mk q
  obtain ⟨q0, q1, qP, qK, qD, qN⟩ := q
  exact ⟨q0, q1, qP, va_K.moved (u := U) (U := U.calling g mk a) (Vm.Alike.refl U.vm) qK, qD, hN a U g mk qN⟩
/-- a callee's cells wc cut out of the world ws; behind the call they are wc', the world wf -/
def KC (D : va_G) (A : Nat → Prop) (wc wc' wf : va_W) (H : Heap) : Prop := (∀ q, va_A wc H.size q → A q) ∧ va_P D vwCl wc H ∧ va_D (fun _ => True) wc ∧ ∀ H1 : Heap, (∀ q : Nat, q < H.size → ¬ va_A wc H.size q → H1[q]? = H[q]?) → va_P D vwCl wc' H1 → va_P D vwCl wf H1 ∧ va_D A wf
theorem kcut {D : va_G} {A : Nat → Prop} {ws wc wc' wf : va_W} {H H0 : Heap} {locs : List Loc} (hP : va_P D vwCl ws H) (hD : va_D A ws) (hS : va_S A H0 H locs) (hA : ∀ q, H0.size ≤ q → A q) (is : List Nat) (hC : is.map (fun i => ws[i]?) = wc.map some) (hn : va_nd is = true) (had : wc'.map Prod.fst = wc.map Prod.fst) (hw : sA ws is wc' = wf) : KC D A wc wc' wf H := by
  subst hw
  exact ⟨va_free hD hS hA is hC, hP.sub is (k_fm hC), (hD.sub is hn hC).weaken (fun _ _ _ _ => trivial), fun H1 hk hP1 => k_set hP hD is hC hn had hk hP1⟩
theorem kall {D : va_G} {A : Nat → Prop} {ws wc' : va_W} {H H0 : Heap} {locs : List Loc} (hP : va_P D vwCl ws H) (hD : va_D A ws) (hS : va_S A H0 H locs) (hA : ∀ q, H0.size ≤ q → A q) (had : wc'.map Prod.fst = ws.map Prod.fst) : KC D A ws wc' wc' H := by
  refine ⟨fun q hq => ?_, hP, hD.weaken (fun _ _ _ _ => trivial), fun H1 _ hP1 => ⟨hP1, ?_⟩⟩
  · rcases hq with ⟨k, e, hk⟩ | hge
    · exact hD.2 k _ hk
    · exact hA q (Nat.le_trans hS.1 hge)
  · have hfst : ∀ (j : Nat) (x : Nat × va_E), wc'[j]? = some x → ∃ x0 : Nat × va_E, ws[j]? = some x0 ∧ x0.1 = x.1 := fun j x hx => by
      have h1 := congrArg (fun l : List Nat => l[j]?) had
      simp only [List.getElem?_map, hx, Option.map_some] at h1
      cases hw : ws[j]? with
      | none => rw [hw] at h1; simp at h1
      | some y => rw [hw] at h1; exact ⟨y, rfl, by simpa using h1.symm⟩
    refine ⟨fun i j x y hx hy hxy => ?_, fun k q hq => ?_⟩
    · obtain ⟨x0, h1, h2⟩ := hfst i x hx
      obtain ⟨y0, h3, h4⟩ := hfst j y hy
      exact hD.1 i j x0 y0 h1 h3 (by rw [h2, h4]; exact hxy)
    · obtain ⟨q0, h1, h2⟩ := hfst k q hq
      rw [← h2]; exact hD.2 k q0 h1
section KCS
variable {p : Program} {l : Launch} {e : Env} {R : Room} {s : State} {m : MethodId} {args : Array Value} {below : List Frame} {meth : Method} {c : Code} {H H0 : Heap} {locs : List Loc} {cells slots : Nat} {Q : State → Prop} {D : va_G} {A : Nat → Prop} {wc wc' wf : va_W} {tc : List (ClassId × FieldType)} {N : State → Prop} {As st0 rest : List Value} {ls : Array Slot} {pc : Nat} {a : Array Value}
theorem k_preS (hk : KC D A wc wc' wf H) (hK : va_K D vwCl tc s) (hNb : NBl N) (hNu : ∀ U : State, U.heap = H → s.WarmedH U.vm → N U) : PreS s H (va_Pc As (kP D wc tc N H.size)) As :=
  ⟨k_blind hNb, fun U hU hW => ⟨rfl, by rw [hU], by rw [hU]; exact hk.2.1, va_K.moved hW.alike hK, hk.2.2.1, hNu U hU hW⟩⟩
theorem k_preV {C : String} {b ci q0 : Nat} {q : vw_C} {fs : List Value} (hk : KC D A wc wc' wf H) (hK : va_K D vwCl tc s) (hNb : NBl N) (hNu : ∀ U : State, U.heap = H → s.WarmedH U.vm → N U)
    (hc : vwCl[ci]? = some q) (hq : q.1 = C) (he : wc[q0]? = some (b, .inr (ci, fs))) : PreV s H C b (va_Pc (.ref b :: As) (kP D wc tc N H.size)) As := by
  have h := k_preS (As := .ref b :: As) hk hK hNb hNu
  subst hq
  exact ⟨h.1, va_recv hK hk.2.1 hc he, h.2⟩
theorem k_goI {r : Int32} (hr : va_Run p l e R s m args below meth c H locs cells slots 0 0 (F0 m pc ls st0) rest (va_Qi (fun r' (_ : Unit) => r' = r) (kBd D wc') (va_A wc H.size) a) (va_A wc H.size)) (hk : KC D A wc wc' wf H) (hS : va_S A H0 H locs)
    (kk : ∀ (H1 : Heap) (locs1 : List Loc), va_P D vwCl wf H1 → va_D A wf → va_S A H0 H1 locs1 → W p l e R s m args below meth c H1 locs1 cells slots Q (F0 m (pc + 3) ls (.int r :: rest))) : W p l e R s m args below meth c H locs cells slots Q (F0 m pc ls st0) := by
  refine va_calli hr hS (fun q _ h => hk.1 q h) hk.1 (fun r' u t H1 locs1 ht hvm hw hB hz1 hk1 hS1 => ?_)
  subst hw
  have hB : va_P D vwCl wc' t.heap := hB
  rw [ht] at hB
  obtain ⟨h1, h2⟩ := hk.2.2.2 H1 hk1 hB
  exact kk H1 locs1 h1 h2 hS1
theorem k_goL {r : Int64} (hr : va_Run p l e R s m args below meth c H locs cells slots 0 0 (F0 m pc ls st0) rest (va_Ql (fun r' (_ : Unit) => r' = r) (kBd D wc') (va_A wc H.size) a) (va_A wc H.size)) (hk : KC D A wc wc' wf H) (hS : va_S A H0 H locs)
    (kk : ∀ (H1 : Heap) (locs1 : List Loc), va_P D vwCl wf H1 → va_D A wf → va_S A H0 H1 locs1 → W p l e R s m args below meth c H1 locs1 cells slots Q (F0 m (pc + 3) ls (.long r :: rest))) : W p l e R s m args below meth c H locs cells slots Q (F0 m pc ls st0) := by
  refine va_calll hr hS (fun q _ h => hk.1 q h) hk.1 (fun r' u t H1 locs1 ht hvm hw hB hz1 hk1 hS1 => ?_)
  subst hw
  have hB : va_P D vwCl wc' t.heap := hB
  rw [ht] at hB
  obtain ⟨h1, h2⟩ := hk.2.2.2 H1 hk1 hB
  exact kk H1 locs1 h1 h2 hS1
theorem k_goV (hr : va_Run p l e R s m args below meth c H locs cells slots 0 0 (F0 m pc ls st0) rest (va_Qv (fun (_ : Unit) => True) (kBd D wc') (va_A wc H.size) a) (va_A wc H.size)) (hk : KC D A wc wc' wf H) (hS : va_S A H0 H locs)
    (kk : ∀ (H1 : Heap) (locs1 : List Loc), va_P D vwCl wf H1 → va_D A wf → va_S A H0 H1 locs1 → W p l e R s m args below meth c H1 locs1 cells slots Q (F0 m (pc + 3) ls rest)) : W p l e R s m args below meth c H locs cells slots Q (F0 m pc ls st0) := by
  refine va_callv hr hS (fun q _ h => hk.1 q h) hk.1 (fun u t H1 locs1 ht hvm hw hB hz1 hk1 hS1 => ?_)
  have hB : va_P D vwCl wc' t.heap := hB
  rw [ht] at hB
  obtain ⟨h1, h2⟩ := hk.2.2.2 H1 hk1 hB
  exact kk H1 locs1 h1 h2 hS1
theorem k_goR {r : Option Nat} (hr : va_Run p l e R s m args below meth c H locs cells slots 0 0 (F0 m pc ls st0) rest (va_Qq (fun r' (_ : Unit) => r' = r) (kBd D wc') (va_A wc H.size) a) (va_A wc H.size)) (hk : KC D A wc wc' wf H) (hS : va_S A H0 H locs)
    (kk : ∀ (H1 : Heap) (locs1 : List Loc), va_P D vwCl wf H1 → va_D A wf → va_S A H0 H1 locs1 → W p l e R s m args below meth c H1 locs1 cells slots Q (F0 m (pc + 3) ls (va_rf r :: rest))) : W p l e R s m args below meth c H locs cells slots Q (F0 m pc ls st0) := by
  refine va_callq hr hS (fun q _ h => hk.1 q h) hk.1 (fun r' u t H1 locs1 ht hvm hw hB hz1 hk1 hS1 => ?_)
  subst hw
  have hB : va_P D vwCl wc' t.heap := hB
  rw [ht] at hB
  obtain ⟨h1, h2⟩ := hk.2.2.2 H1 hk1 hB
  exact kk H1 locs1 h1 h2 hS1
end KCS
/-- in bounds -/
def inb (i : Int32) (n : Nat) : Bool := decide (0 ≤ i.toInt) && decide (i.toInt < (n : Int))
theorem inb_vp {i : Int32} {n : Nat} (h : inb i n = true) : vp_in i n := by
  simp only [inb, Bool.and_eq_true, decide_eq_true_eq] at h
  exact vp_in_iff.mpr h
theorem g_inv {α : Type} {b : Bool} {k : Option α} {r : α} (h : (if b = true then k else none) = some r) : b = true ∧ k = some r := by
  by_cases hb : b = true
  · rw [if_pos hb] at h; exact ⟨hb, h⟩
  · rw [if_neg hb] at h; simp at h
theorem b_inv {α β : Type} {x : Option α} {f : α → Option β} {r : β} (h : x.bind f = some r) : ∃ a, x = some a ∧ f a = some r := Option.bind_eq_some_iff.mp h
/-- fuel that every loop of this system has enough of -/
def FU : Nat := 6000
