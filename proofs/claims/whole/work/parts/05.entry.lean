/-! entries and ends -/
abbrev QI (D : va_G) (below : List Frame) (args : Array Value) (s : State) (A : Nat → Prop) (r : Int32) (ws' : va_W) : State → Prop := MQ below (va_Qi (fun r' (_ : Unit) => r' = r) (kBd D ws') A) args s 0 0 A
abbrev QL (D : va_G) (below : List Frame) (args : Array Value) (s : State) (A : Nat → Prop) (r : Int64) (ws' : va_W) : State → Prop := MQ below (va_Ql (fun r' (_ : Unit) => r' = r) (kBd D ws') A) args s 0 0 A
abbrev QV (D : va_G) (below : List Frame) (args : Array Value) (s : State) (A : Nat → Prop) (ws' : va_W) : State → Prop := MQ below (va_Qv (fun (_ : Unit) => True) (kBd D ws') A) args s 0 0 A
abbrev QR (D : va_G) (below : List Frame) (args : Array Value) (s : State) (A : Nat → Prop) (r : Option Nat) (ws' : va_W) : State → Prop := MQ below (va_Qq (fun r' (_ : Unit) => r' = r) (kBd D ws') A) args s 0 0 A
/-- what holds at a method's entry -/
def EN (p : Program) (s : State) (m : MethodId) (meth : Method) (c : Code) (D : va_G) (av : List Value) (ws : va_W) (tys : List (ClassId × FieldType)) (N : State → Prop) (wd : List Cond) (own : String) (cc : ByteArray) (maxL : Nat) (ret : Option FieldType) (A : Nat → Prop) (ls : Array Slot) : Prop :=
  p.tables.exec = Jvm.exec ∧ c.code = cc ∧ meth.sig.returnType = ret ∧ c.maxLocals = maxL ∧ (∀ w ∈ wd, w.before av.toArray s = true) ∧ s.vm.findClass own = some m.cls ∧ meth.locks = false ∧ va_P D vwCl ws s.heap ∧ va_K D vwCl tys s ∧ va_D A ws ∧ (∀ q : Nat, s.heap.size ≤ q → A q) ∧ N s ∧ A = va_A ws s.heap.size ∧ lv_has ls maxL (lv_args 0 av)
section ENT
variable {l : Launch} {y : MethodName} {wd wd' : List Cond} {rm : Room} {D : va_G} {av : List Value} {ws ws' : va_W} {tys : List (ClassId × FieldType)} {N : State → Prop} {cc : ByteArray} {maxL : Nat} {ret : Option FieldType}
theorem en_of {Qc : Nat → Array Value → State → Outcome → State → Prop} (hy : plainFor y = true) (hw : wd = Cond.code y cc maxL ret :: wd') (hlen : (lg_sl av).length ≤ maxL)
    (body : ∀ (p : Program) (e : Env) (s : State) (m : MethodId) (below : List Frame) (meth : Method) (c : Code) (A : Nat → Prop) (ls : Array Slot), EN p s m meth c D av ws tys N wd y.cls cc maxL ret A ls →
      W p l e (headSpec wd rm).room s m av.toArray below meth c s.heap [] 0 0 (MQ below (Qc s.heap.size) av.toArray s 0 0 (va_A ws s.heap.size)) (F0 m 0 ls [])) (sz : Nat) :
    Met l y wd rm (va_Pc av (kP D ws tys N sz)) (Qc sz) 0 0 (va_A ws sz) := by
  refine va_MetF (cc := cc) (maxL := maxL) (ret := ret) hy hw ?_
  intro p e s m args below meth c s₁ B hml hv
  obtain ⟨rfl, hsz, hP, hK, hD0, hN⟩ := hv
  subst hsz
  have hl := lv_entry av (n := maxL) hlen
  rw [lg_entry_eq]
  generalize (lg_sl av ++ List.replicate (maxL - (lg_sl av).length) Slot.unset).toArray = ls at hl ⊢
  exact body p e s m below meth c _ ls ⟨B.exec, B.bytes, B.returns, hml, atoms_spec (ws := wd) B.pre, findClass_of_methodNamed B.named, B.notSynchronized, hP, hK, hD0.self, fun q h => Or.inr h, hN, rfl, hl⟩
theorem MI.mk {r : Int32} (hy : plainFor y = true) (hw : wd = Cond.code y cc maxL ret :: wd') (hlen : (lg_sl av).length ≤ maxL)
    (body : ∀ (p : Program) (e : Env) (s : State) (m : MethodId) (below : List Frame) (meth : Method) (c : Code) (A : Nat → Prop) (ls : Array Slot), EN p s m meth c D av ws tys N wd y.cls cc maxL ret A ls →
      W p l e (headSpec wd rm).room s m av.toArray below meth c s.heap [] 0 0 (QI D below av.toArray s A r ws') (F0 m 0 ls [])) : MI l y wd rm D av ws tys N r ws' :=
  en_of (Qc := fun sz => va_Qi (fun r' (_ : Unit) => r' = r) (kBd D ws') (va_A ws sz)) hy hw hlen (fun p e s m below meth c A ls h => by have hb := body p e s m below meth c A ls h; obtain rfl := h.2.2.2.2.2.2.2.2.2.2.2.2.1; exact hb)
theorem ML.mk {r : Int64} (hy : plainFor y = true) (hw : wd = Cond.code y cc maxL ret :: wd') (hlen : (lg_sl av).length ≤ maxL)
    (body : ∀ (p : Program) (e : Env) (s : State) (m : MethodId) (below : List Frame) (meth : Method) (c : Code) (A : Nat → Prop) (ls : Array Slot), EN p s m meth c D av ws tys N wd y.cls cc maxL ret A ls →
      W p l e (headSpec wd rm).room s m av.toArray below meth c s.heap [] 0 0 (QL D below av.toArray s A r ws') (F0 m 0 ls [])) : ML l y wd rm D av ws tys N r ws' :=
  en_of (Qc := fun sz => va_Ql (fun r' (_ : Unit) => r' = r) (kBd D ws') (va_A ws sz)) hy hw hlen (fun p e s m below meth c A ls h => by have hb := body p e s m below meth c A ls h; obtain rfl := h.2.2.2.2.2.2.2.2.2.2.2.2.1; exact hb)
theorem MV.mk (hy : plainFor y = true) (hw : wd = Cond.code y cc maxL ret :: wd') (hlen : (lg_sl av).length ≤ maxL)
    (body : ∀ (p : Program) (e : Env) (s : State) (m : MethodId) (below : List Frame) (meth : Method) (c : Code) (A : Nat → Prop) (ls : Array Slot), EN p s m meth c D av ws tys N wd y.cls cc maxL ret A ls →
      W p l e (headSpec wd rm).room s m av.toArray below meth c s.heap [] 0 0 (QV D below av.toArray s A ws') (F0 m 0 ls [])) : MV l y wd rm D av ws tys N ws' :=
  en_of (Qc := fun sz => va_Qv (fun (_ : Unit) => True) (kBd D ws') (va_A ws sz)) hy hw hlen (fun p e s m below meth c A ls h => by have hb := body p e s m below meth c A ls h; obtain rfl := h.2.2.2.2.2.2.2.2.2.2.2.2.1; exact hb)
theorem MR.mk {r : Option Nat} (hy : plainFor y = true) (hw : wd = Cond.code y cc maxL ret :: wd') (hlen : (lg_sl av).length ≤ maxL)
    (body : ∀ (p : Program) (e : Env) (s : State) (m : MethodId) (below : List Frame) (meth : Method) (c : Code) (A : Nat → Prop) (ls : Array Slot), EN p s m meth c D av ws tys N wd y.cls cc maxL ret A ls →
      W p l e (headSpec wd rm).room s m av.toArray below meth c s.heap [] 0 0 (QR D below av.toArray s A r ws') (F0 m 0 ls [])) : MR l y wd rm D av ws tys N r ws' :=
  en_of (Qc := fun sz => va_Qq (fun r' (_ : Unit) => r' = r) (kBd D ws') (va_A ws sz)) hy hw hlen (fun p e s m below meth c A ls h => by have hb := body p e s m below meth c A ls h; obtain rfl := h.2.2.2.2.2.2.2.2.2.2.2.2.1; exact hb)
end ENT
section ENDS
variable {p : Program} {l : Launch} {e : Env} {R : Room} {s : State} {m : MethodId} {args : Array Value} {below : List Frame} {meth : Method} {c : Code} {H : Heap} {locs : List Loc} {D : va_G} {A : Nat → Prop} {ws' : va_W} {ls : Array Slot} {pc : Nat} {cc : ByteArray}
theorem k_retI {r : Int32} (hx : p.tables.exec = Jvm.exec) (hb : c.code = cc) (hr : meth.sig.returnType = some .int) (hlocks : meth.locks = false) (hP : va_P D vwCl ws' H) (hS : va_S A s.heap H locs) (hdg : decode cc pc = .ok (.ireturn, 1)) : W p l e R s m args below meth c H locs 0 0 (QI D below args s A r ws') (F0 m pc ls [.int r]) :=
  W.iret (v := r) hx hb hr (fun t ht hW => ⟨⟨r, (), rfl, rfl, by show va_P D vwCl ws' t.heap; rw [ht]; exact hP⟩, hS.F ht⟩) hS.2.2 hdg
def b01 (v : Int32) : Bool := v == 0 || v == 1
theorem b01_n {v : Int32} (h : b01 v = true) : narrow .boolean (.int v) = .int v := by
  simp only [b01, Bool.or_eq_true, beq_iff_eq] at h
  rcases h with rfl | rfl <;> rfl
theorem k_retZ {r : Int32} (hx : p.tables.exec = Jvm.exec) (hb : c.code = cc) (hr : meth.sig.returnType = some .boolean) (hlocks : meth.locks = false) (hP : va_P D vwCl ws' H) (hS : va_S A s.heap H locs) (h01 : b01 r = true) (hdg : decode cc pc = .ok (.ireturn, 1)) : W p l e R s m args below meth c H locs 0 0 (QI D below args s A r ws') (F0 m pc ls [.int r]) :=
  W.zret (v := r) hx hb hr (b01_n h01) (fun t ht hW => ⟨⟨r, (), rfl, rfl, by show va_P D vwCl ws' t.heap; rw [ht]; exact hP⟩, hS.F ht⟩) hS.2.2 hdg
theorem k_retL {r : Int64} (hx : p.tables.exec = Jvm.exec) (hb : c.code = cc) (hr : meth.sig.returnType = some .long) (hlocks : meth.locks = false) (hP : va_P D vwCl ws' H) (hS : va_S A s.heap H locs) (hdg : decode cc pc = .ok (.lreturn, 1)) : W p l e R s m args below meth c H locs 0 0 (QL D below args s A r ws') (F0 m pc ls [.long r]) :=
  W.lret (v := r) hx hb hr (fun t ht hW => ⟨⟨r, (), rfl, rfl, by show va_P D vwCl ws' t.heap; rw [ht]; exact hP⟩, hS.F ht⟩) hS.2.2 hdg
theorem k_retV (hx : p.tables.exec = Jvm.exec) (hb : c.code = cc) (hr : meth.sig.returnType = none) (hlocks : meth.locks = false) (hP : va_P D vwCl ws' H) (hS : va_S A s.heap H locs) (hdg : decode cc pc = .ok (.return_, 1)) : W p l e R s m args below meth c H locs 0 0 (QV D below args s A ws') (F0 m pc ls []) :=
  W.vret hx hb hr (fun t ht hW => ⟨⟨(), rfl, trivial, by show va_P D vwCl ws' t.heap; rw [ht]; exact hP⟩, hS.F ht⟩) hS.2.2 hdg
theorem k_retR {r : Option Nat} {rt : FieldType} (hx : p.tables.exec = Jvm.exec) (hb : c.code = cc) (hr : meth.sig.returnType = some rt) (hrt : (∃ n, rt = .object n) ∨ ∃ t, rt = .array t) (hlocks : meth.locks = false) (hP : va_P D vwCl ws' H) (hS : va_S A s.heap H locs) (hdg : decode cc pc = .ok (.areturn, 1)) : W p l e R s m args below meth c H locs 0 0 (QR D below args s A r ws') (F0 m pc ls [va_rf r]) :=
  W.aret (v := va_rf r) hx hb hr hrt (va_rf_or r) (fun t ht hW => ⟨⟨r, (), rfl, rfl, by show va_P D vwCl ws' t.heap; rw [ht]; exact hP⟩, hS.F ht⟩) hS.2.2 hdg
end ENDS
/-- the room of a method whose calls go d deep -/
abbrev rmD (d : Nat) : Room := { frames := d, cells := 0, slots := 0, locals := 39 * d }
