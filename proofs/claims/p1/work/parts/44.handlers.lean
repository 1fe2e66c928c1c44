/-! OWN ROWS: methods with handlers: their contract out of a walk, and the call of one. -/
section GXH
variable {p : Program} {l : Launch} {e : Env} {R : Room} {s : State} {m : MethodId} {args : Array Value} {below : List Frame} {meth : Method} {c : Code} {H : Heap} {locs : List Loc} {cells slots : Nat} {Q : State → Prop}
theorem gx_ofWH {y : MethodName} {rm : Room} {Pc : Array Value → State → Prop} {Qc : Array Value → State → Outcome → State → Prop} {mc ms : Nat} {free : Addr → Prop} {cc : ByteArray} {maxL : Nat} {ret : Option FieldType} {hs : List (Nat × Nat × Nat × Nat)}
    (hy : plainName y.cls = true)
    (body : ∀ p e s m args below meth c s₁, BodyLoose p l y (headSpec [Cond.codeWith y cc maxL ret hs] rm) cc maxL ret e s m args below meth c s₁ → c.maxLocals = maxL → c.exceptionTable.toList.map (fun h => (h.startPc, h.endPc, h.handlerPc, h.catchType)) = hs → Pc args s →
      W p l e (headSpec [Cond.codeWith y cc maxL ret hs] rm).room s m args below meth c s.heap [] 0 0 (gx_MQ below Qc args s mc ms free) (entryFrame m args maxL)) : gx_Met l y [Cond.codeWith y cc maxL ret hs] rm Pc Qc mc ms free := by
  refine MetFree.of_bodyS (code := cc) (maxLocals := maxL) (ret := ret) hy ?_ ?_
  · intro args s m h hn
    obtain ⟨m2, meth, c, h0, h1, h2, h3, h4, -, h5, h6, -⟩ := Cond.codeWith_spec (atoms_spec (ws := [Cond.codeWith y cc maxL ret hs]) h _ List.mem_cons_self)
    cases Option.some.inj (hn.symm.trans h0)
    exact ⟨meth, c, h1, h2, h3, h4, h5, h6⟩
  · intro p e s m args below meth c s₁ B hml hP _
    obtain ⟨m2, meth2, c2, h0, h1, h2, -, -, h5, -⟩ := Cond.codeWith_spec (atoms_spec (ws := [Cond.codeWith y cc maxL ret hs]) B.pre _ List.mem_cons_self)
    cases Option.some.inj (B.named.symm.trans h0)
    cases Option.some.inj (B.method.symm.trans h1)
    cases Option.some.inj ((Stand.of_body B).code.symm.trans h2)
    have hh0 : s₁.heap = s.heap := by rw [B.state]; rfl
    obtain ⟨t, a1, o, b1, b2, b3, b4⟩ := body p e s m args below meth c s₁ B hml h5 hP s₁ hh0 (Stand.of_body B)
    exact ⟨t, o, a1, b1, b2, b3, b4⟩
theorem gx_invSH {own : String} {index : Nat} {y : MethodName} {bytes cc : ByteArray} {maxL : Nat} {ret : Option FieldType} {hs : List (Nat × Nat × Nat × Nat)} {As rest : List Value} {g : JFrame} (hx : p.tables.exec = Jvm.exec) (hb : c.code = cc) (hown : s.vm.findClass own = some m.cls) (hts : ∀ w ∈ gx_all, w.before args s = true)
    (w1 : Cond.methodLink own index y ∈ gx_all) (w2 : Cond.static y ∈ gx_all) (w3 : Cond.initialized y.cls ∈ gx_all) (w4 : Cond.codeWith y bytes maxL ret hs ∈ gx_all) (hy : y.cls ≠ "java/lang/invoke/MethodHandle" ∧ y.cls ≠ "java/lang/invoke/VarHandle")
    (hn : (parseMethodDescriptor y.desc).map (fun d => d.parameters.length) = some As.length) (hg : g.method = m) (hstack : g.stack = As.reverse ++ rest) (hdg : decode cc g.pc = .ok (.invokestatic index, 3)) :
    gx_inv p l e R s m args below meth c H locs cells slots y As.toArray g rest := by
  intro T hT X
  obtain ⟨mk, mM, cM, hnm, hmM, -, -, -, -, -, -, hsig⟩ := Cond.codeWith_spec (hts _ w4)
  obtain ⟨kP, hkP, -⟩ := className_of_methodNamed hnm
  rw [hsig] at hn
  obtain ⟨vm₁, X₁, st⟩ := X.invokestatic hx hown (hts _ w1) hnm hmM (Cond.static_spec hnm hmM (hts _ w2)) hkP (Cond.initialized_spec (findClass_of_methodNamed hnm) hkP (hts _ w3)) hy (g := g) hg (argsL := As) (rest := rest) (Option.some.inj hn).symm hstack (by rw [hb]; exact hdg)
  exact ⟨mk, vm₁, X₁, X₁.named hnm, fun target h => st target fun acts => by rw [doInvoke_state]; exact h⟩
def gx_WH (R : Room) (s : State) (y : MethodName) (bytes : ByteArray) (maxL : Nat) (ret : Option FieldType) (hs : List (Nat × Nat × Nat × Nat)) (rm : Room) (mc ms : Nat) : Prop :=
  rm.cells = mc ∧ rm.slots = ms ∧ rm.frames + 1 ≤ R.frames ∧ 8 + (maxL + 11) + rm.locals ≤ R.locals ∧ ∀ (a : Array Value) (U : State), s.WarmedH U.vm → (Cond.codeWith y bytes maxL ret hs).before a U = true ∧ (Cond.initialized y.cls).before a U = true
theorem gx_cwH {y : MethodName} {bytes : ByteArray} {maxL : Nat} {ret : Option FieldType} {hs : List (Nat × Nat × Nat × Nat)} {rm : Room} {mc ms : Nat} (hts : ∀ w ∈ gx_all, w.before args s = true) (h1 : Cond.codeWith y bytes maxL ret hs ∈ gx_all) (h2 : Cond.initialized y.cls ∈ gx_all) (hc : rm.cells = mc) (hsl : rm.slots = ms) (hR : rm.frames + 1 ≤ R.frames ∧ 8 + (maxL + 11) + rm.locals ≤ R.locals) : gx_WH R s y bytes maxL ret hs rm mc ms :=
  ⟨hc, hsl, hR.1, hR.2, fun a U hW => ⟨word_at hW (Or.inl (by first | rfl | simp [Cond.onTables, Cond.keeps, Cond.steady])) (hts _ h1), word_at hW (Or.inl (by first | rfl | simp [Cond.onTables, Cond.keeps, Cond.steady])) (hts _ h2)⟩⟩
theorem gx_callH {y : MethodName} {bytes cc : ByteArray} {maxL nL mc ms : Nat} {ret : Option FieldType} {hs : List (Nat × Nat × Nat × Nat)} {rm : Room} {Pc : Array Value → State → Prop} {Qc : Array Value → State → Outcome → State → Prop} {free : Addr → Prop} {a : Array Value} {g : JFrame} {rest : List Value} {ig : Instr}
    (hM : gx_Met l y [Cond.codeWith y bytes maxL ret hs] rm Pc Qc mc ms free) (hI : gx_inv p l e R s m args below meth c H locs cells slots y a g rest) (cw : gx_WH R s y bytes maxL ret hs rm mc ms) (hb : c.code = cc) (hml : c.maxLocals = nL)
    (hbl : FrameBlind Pc) (hPc : ∀ U : State, U.heap = H → s.WarmedH U.vm → Pc a U) (hg : g.method = m) (hsize : g.locals.size = nL) (hW : 2 * g.monitorRoom + (rest.map fun v => v.category).sum ≤ 8) (hdg : decode cc g.pc = .ok (ig, 3)) (hf : cells + mc ≤ R.cells ∧ slots + ms ≤ R.slots)
    (kr : ∀ (v : Option Value) (st t : State) (L : List Loc), st.heap = H → s.WarmedH t.vm → Qc a st (.returned v) t → (∀ q ∈ L, free q.base) → W p l e R s m args below meth c t.heap (locs ++ L) (cells + mc) (slots + ms) Q { g with pc := g.pc + 3, stack := v.toList ++ rest })
    (kt : ∀ (x : Nat) (st t : State) (L : List Loc), st.heap = H → s.WarmedH t.vm → Qc a st (.threw x) t → (∀ q ∈ L, free q.base) → gx_T p l e R s m args below meth c t.heap (locs ++ L) (cells + mc) (slots + ms) Q { g with stack := rest } x) :
    W p l e R s m args below meth c H locs cells slots Q g := by
  intro T hT X
  obtain ⟨mk, vm₁, X₁, hn, st1⟩ := hI T hT X
  obtain ⟨hrc, hrs, hfr, hlo, hww⟩ := cw
  have hdg' : decode c.code ({ g with stack := rest } : JFrame).pc = .ok (ig, 3) := by rw [hb]; exact hdg
  have hcode := (hww a (T.setVm vm₁) X₁.warmed).1
  obtain ⟨mk2, methY, cY, hn2, hmY, hcY, -, hlY, -⟩ := Cond.codeWith_spec hcode
  cases Option.some.inj (hn.symm.trans hn2)
  obtain ⟨kY, hkY, -⟩ := className_of_methodNamed hn
  have hinitY : kY.init = .initialized := Cond.initialized_spec (findClass_of_methodNamed hn) hkY (hww a (T.setVm vm₁) X₁.warmed).2
  have hAt : At (T.setVm vm₁) ({ g with stack := rest } : JFrame).method c below := by rw [show ({ g with stack := rest } : JFrame).method = m from hg]; exact X₁.here
  have hsz : ({ g with stack := rest } : JFrame).locals.size = c.maxLocals := hsize.trans hml.symm
  have happ : (headSpec [Cond.codeWith y bytes maxL ret hs] rm).appliesLoose y e.platform ((T.setVm vm₁).calling { g with stack := rest } mk a) = true :=
    Spec.appliesLoose_calling (g := { g with stack := rest }) hAt hdg' hn hkY hinitY
      (X₁.room_calling (g := { g with stack := rest }) (R' := rm) hsz hmY hcY hfr (by rw [hlY]; show 2 * g.monitorRoom + (rest.map fun v => v.category).sum + (maxL + 11) + rm.locals ≤ R.locals; omega) (by rw [hrc]; exact hf.1) (by rw [hrs]; exact hf.2))
      (atoms_intro fun w hw => by rw [List.mem_singleton.mp hw]; exact hcode)
  obtain ⟨mid, hmid⟩ := hAt.above
  have hfr2 : ((T.setVm vm₁).setTop { g with stack := rest }).frames = (.java { g with stack := rest } :: mid) ++ below := by rw [State.frames_setTop' _ hAt.top, hmid]; rfl
  obtain ⟨o, t, hsteps, -, hend, hq, L, ⟨hW2, hsame⟩, hL⟩ := Steps.callFree hM p X₁.admits X₁.cas X₁.clock (acts := []) hfr2 happ (hbl _ _ _ _ (hPc (T.setVm vm₁) hT X₁.warmed)) trivial
  rw [State.frames_setTop' _ hAt.top] at hend
  have htail : (T.setVm vm₁).frames.tail = below := X₁.tail
  rw [htail] at hend
  cases o with
  | returned v =>
    obtain ⟨T', X', hW', -, rfl⟩ := X₁.outOf (g := { g with stack := rest }) hg hdg' (mk := mk) (a := a) hend hW2 hsame
    obtain ⟨t2, a1, b1⟩ := kr v _ _ L (show ((T.setVm vm₁).calling { g with stack := rest } mk a).heap = H from hT) (by exact X'.warmed) hq hL T' rfl X'
    exact ⟨t2, st1 t2 (hsteps.trans a1), b1⟩
  | threw x =>
    obtain ⟨T', X', hW', -, rfl⟩ := X₁.outOfThrown (g := { g with stack := rest }) hg (mk := mk) (a := a) hend hW2 hsame
    obtain ⟨t2, a1, b1⟩ := kt x _ _ L (show ((T.setVm vm₁).calling { g with stack := rest } mk a).heap = H from hT) (by exact X'.warmed) hq hL T' rfl X'
    exact ⟨t2, st1 t2 (hsteps.trans a1), b1⟩
end GXH
