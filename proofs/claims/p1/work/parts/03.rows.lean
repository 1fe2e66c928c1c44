/-! OWN ROWS: the invoke instructions, the throw of a new exception, a method's start and ends over one world list. -/
section GXR
variable {p : Program} {l : Launch} {e : Env} {R : Room} {s : State} {m : MethodId} {args : Array Value} {below : List Frame} {meth : Method} {c : Code} {H : Heap} {locs : List Loc} {cells slots : Nat} {Q : State → Prop} {cc : ByteArray}
/-- facts of the method named, for an instance method -/
theorem gx_invV {own C : String} {index : Nat} {y : MethodName} {bytes : ByteArray} {maxL : Nat} {ret : Option FieldType} {b : Addr} {As rest : List Value} {g : JFrame} (hx : p.tables.exec = Jvm.exec) (hb : c.code = cc) (hown : s.vm.findClass own = some m.cls) (hts : ∀ w ∈ gx_all, w.before args s = true)
    (w1 : Cond.methodLink own index y ∈ gx_all) (w2 : Cond.instanceMethod y ∈ gx_all) (w3 : Cond.selects C y y ∈ gx_all) (w4 : Cond.code y bytes maxL ret ∈ gx_all) (hy : y.cls ≠ "java/lang/invoke/MethodHandle" ∧ y.cls ≠ "java/lang/invoke/VarHandle")
    (hn : (parseMethodDescriptor y.desc).map (fun d => d.parameters.length) = some As.length) (hrec : ∃ cell : Cell, H[b]? = some cell ∧ cell.vm.isStatics = false ∧ s.vm.findClass C = some cell.cls)
    (hg : g.method = m) (hstack : g.stack = As.reverse ++ .ref b :: rest) (hdg : decode cc g.pc = .ok (.invokevirtual index, 3)) :
    gx_inv p l e R s m args below meth c H locs cells slots y (Value.ref b :: As).toArray g rest := by
  intro T hT X
  obtain ⟨cell, h1, h2, h3⟩ := hrec
  obtain ⟨mk, mM, hnm, hmM, hst, hab⟩ := Cond.instanceMethod_spec (hts _ w2)
  obtain ⟨mM2, cM, hmM2, -, -, -, -, -, -, hsig⟩ := Cond.code_spec hnm (hts _ w4)
  cases hmM.symm.trans hmM2
  obtain ⟨c2, r2, m2, q1, q2, q3, q4, kP, hkP, hkPi⟩ := Cond.selects_spec (hts _ w3)
  cases h3.symm.trans q1
  cases (State.methodFound?_of_named hnm hy).symm.trans q2
  cases hnm.symm.trans q3
  rw [hsig] at hn
  obtain ⟨vm₁, X₁, st⟩ := X.invokevirtual hx hown (hts _ w1) hnm hmM hst hkP hkPi hy (a := b) (cell := cell) (by rw [hT]; exact h1) (fun z h => by rw [h] at h2; cases h2) (by rw [Launch.admits_selectMethod X.admits]; exact q4) hmM hab hkP hkPi (g := g) hg (argsL := As) (rest := rest) (Option.some.inj hn).symm hstack (by rw [hb]; exact hdg)
  exact ⟨mk, vm₁, X₁, X₁.named hnm, fun target h => st target fun acts => by rw [doInvoke_state]; exact h⟩
theorem gx_invS {own : String} {index : Nat} {y : MethodName} {bytes : ByteArray} {maxL : Nat} {ret : Option FieldType} {As rest : List Value} {g : JFrame} (hx : p.tables.exec = Jvm.exec) (hb : c.code = cc) (hown : s.vm.findClass own = some m.cls) (hts : ∀ w ∈ gx_all, w.before args s = true)
    (w1 : Cond.methodLink own index y ∈ gx_all) (w2 : Cond.static y ∈ gx_all) (w3 : Cond.initialized y.cls ∈ gx_all) (w4 : Cond.code y bytes maxL ret ∈ gx_all) (hy : y.cls ≠ "java/lang/invoke/MethodHandle" ∧ y.cls ≠ "java/lang/invoke/VarHandle")
    (hn : (parseMethodDescriptor y.desc).map (fun d => d.parameters.length) = some As.length) (hg : g.method = m) (hstack : g.stack = As.reverse ++ rest) (hdg : decode cc g.pc = .ok (.invokestatic index, 3)) :
    gx_inv p l e R s m args below meth c H locs cells slots y As.toArray g rest := by
  intro T hT X
  obtain ⟨mk, hnm⟩ := Cond.code_named (hts _ w4)
  obtain ⟨mM, cM, hmM, -, -, -, -, -, -, hsig⟩ := Cond.code_spec hnm (hts _ w4)
  obtain ⟨kP, hkP, -⟩ := className_of_methodNamed hnm
  rw [hsig] at hn
  obtain ⟨vm₁, X₁, st⟩ := X.invokestatic hx hown (hts _ w1) hnm hmM (Cond.static_spec hnm hmM (hts _ w2)) hkP (Cond.initialized_spec (findClass_of_methodNamed hnm) hkP (hts _ w3)) hy (g := g) hg (argsL := As) (rest := rest) (Option.some.inj hn).symm hstack (by rw [hb]; exact hdg)
  exact ⟨mk, vm₁, X₁, X₁.named hnm, fun target h => st target fun acts => by rw [doInvoke_state]; exact h⟩
theorem gx_invSN {own host : String} {index : Nat} {y : MethodName} {bytes : ByteArray} {maxL : Nat} {ret : Option FieldType} {As rest : List Value} {g : JFrame} (hx : p.tables.exec = Jvm.exec) (hb : c.code = cc) (hown : s.vm.findClass own = some m.cls) (hts : ∀ w ∈ gx_all, w.before args s = true)
    (w1 : Cond.methodLinkNest own index y host ∈ gx_all) (w2 : Cond.static y ∈ gx_all) (w3 : Cond.initialized y.cls ∈ gx_all) (w4 : Cond.code y bytes maxL ret ∈ gx_all) (hy : y.cls ≠ "java/lang/invoke/MethodHandle" ∧ y.cls ≠ "java/lang/invoke/VarHandle")
    (hn : (parseMethodDescriptor y.desc).map (fun d => d.parameters.length) = some As.length) (hg : g.method = m) (hstack : g.stack = As.reverse ++ rest) (hdg : decode cc g.pc = .ok (.invokestatic index, 3)) :
    gx_inv p l e R s m args below meth c H locs cells slots y As.toArray g rest := by
  intro T hT X
  obtain ⟨mk, hnm⟩ := Cond.code_named (hts _ w4)
  obtain ⟨mM, cM, hmM, -, -, -, -, -, -, hsig⟩ := Cond.code_spec hnm (hts _ w4)
  obtain ⟨kP, hkP, -⟩ := className_of_methodNamed hnm
  rw [hsig] at hn
  obtain ⟨vm₁, X₁, st⟩ := X.invokestaticNest hx hown (hts _ w1) hnm hmM (Cond.static_spec hnm hmM (hts _ w2)) hkP (Cond.initialized_spec (findClass_of_methodNamed hnm) hkP (hts _ w3)) hy (g := g) hg (argsL := As) (rest := rest) (Option.some.inj hn).symm hstack (by rw [hb]; exact hdg)
  exact ⟨mk, vm₁, X₁, X₁.named hnm, fun target h => st target fun acts => by rw [doInvoke_state]; exact h⟩
theorem gx_len {d : String} {n : Nat} (hn : (parseMethodDescriptor d).map (fun d => d.parameters.length) = some n) : ∀ sig, parseMethodDescriptor d = some sig → n = sig.parameters.length := fun sig h => by
  rw [h] at hn
  exact (Option.some.inj hn).symm
theorem gx_invI {own : String} {index : Nat} {y : MethodName} {bytes : ByteArray} {maxL : Nat} {b : Addr} {As rest : List Value} {g : JFrame} (hx : p.tables.exec = Jvm.exec) (hb : c.code = cc) (hown : s.vm.findClass own = some m.cls) (hts : ∀ w ∈ gx_all, w.before args s = true)
    (w1 : Cond.methodLink own index y ∈ gx_all) (w2 : Cond.instanceMethod y ∈ gx_all) (w4 : Cond.code y bytes maxL none ∈ gx_all) (hy : y.cls ≠ "java/lang/invoke/MethodHandle" ∧ y.cls ≠ "java/lang/invoke/VarHandle") (hy1 : y.name = "<init>")
    (hn : (parseMethodDescriptor y.desc).map (fun d => d.parameters.length) = some As.length) (hg : g.method = m) (hstack : g.stack = As.reverse ++ .ref b :: rest) (hdg : decode cc g.pc = .ok (.invokespecial index, 3)) :
    gx_inv p l e R s m args below meth c H locs cells slots y (Value.ref b :: As).toArray g rest := by
  intro T hT X
  subst hg; subst hb
  obtain ⟨mk, mM, cM, kP, vm₁, hnm, -, -, -, -, -, -, -, hW₁, st⟩ := Steps.initColdArgs (e := e) X.here hx X.warmed (by rw [X.admits.platform]) hown hy1 hy (hts _ w1) (hts _ w2) (hts _ w4) (f := g) rfl (gx_len hn) hstack hdg
  have X₁ := X.noted hW₁
  exact ⟨mk, vm₁, X₁, X₁.named hnm, fun target h => st target fun acts => by rw [doInvoke_state]; exact h⟩
theorem gx_invIN {own host : String} {index : Nat} {y : MethodName} {bytes : ByteArray} {maxL : Nat} {b : Addr} {As rest : List Value} {g : JFrame} (hx : p.tables.exec = Jvm.exec) (hb : c.code = cc) (hown : s.vm.findClass own = some m.cls) (hts : ∀ w ∈ gx_all, w.before args s = true)
    (w1 : Cond.methodLinkNest own index y host ∈ gx_all) (w2 : Cond.instanceMethod y ∈ gx_all) (w4 : Cond.code y bytes maxL none ∈ gx_all) (hy : y.cls ≠ "java/lang/invoke/MethodHandle" ∧ y.cls ≠ "java/lang/invoke/VarHandle") (hy1 : y.name = "<init>")
    (hn : (parseMethodDescriptor y.desc).map (fun d => d.parameters.length) = some As.length) (hg : g.method = m) (hstack : g.stack = As.reverse ++ .ref b :: rest) (hdg : decode cc g.pc = .ok (.invokespecial index, 3)) :
    gx_inv p l e R s m args below meth c H locs cells slots y (Value.ref b :: As).toArray g rest := by
  intro T hT X
  subst hg; subst hb
  obtain ⟨mk, mM, cM, kP, vm₁, hnm, -, -, -, -, -, -, -, hW₁, st⟩ := Steps.initColdArgsNest (e := e) X.here hx X.warmed (by rw [X.admits.platform]) hown hy1 hy (hts _ w1) (hts _ w2) (hts _ w4) (f := g) rfl (gx_len hn) hstack hdg
  have X₁ := X.noted hW₁
  exact ⟨mk, vm₁, X₁, X₁.named hnm, fun target h => st target fun acts => by rw [doInvoke_state]; exact h⟩
/-- what the walk writes isn't a cell of statics -/
def gx_NS (A : Nat → Prop) (s : State) : Prop := ∀ (q : Nat) (cell : Cell), A q → s.heap[q]? = some cell → cell.vm.isStatics = false
theorem gx_ns {D : va_G} {cl : List vw_C} {ws : va_W} (hP : va_P D cl ws s.heap) : gx_NS (va_A ws s.heap.size) s := by
  intro q cell h hc
  rcases h with ⟨k, e9, he⟩ | h
  · have h1 := hP k _ he
    cases e9 with
    | inl x =>
      have h2 : s.heap[q]? = some (vp_cell x.1 x.2) := h1
      rw [hc] at h2
      cases h2
      obtain ⟨a, n, f⟩ := x
      rcases f with f | f | f | f | f <;> rfl
    | inr o =>
      obtain ⟨r, -, cell2, g1, -, g3, -⟩ := h1
      have g1 : s.heap[q]? = some cell2 := g1
      rw [hc] at g1
      cases g1
      rw [g3]; rfl
  · rw [Array.getElem?_eq_none h] at hc
    cases hc
end GXR
