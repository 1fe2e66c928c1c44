/-! OWN LAYER. One world list 'ws' for all that the law made; contracts whose outcome is a return or an exception (gx_Met, gx_Q); an exception under way (gx_T); one call rule for both outcomes (gx_call). -/
/-- words of the start beside the tables: three statics that hold a reference, and which exceptions no clause of another class takes -/
def gx_ext : List Cond := [.isRef (.static Bundle.tN "UNASSIGNED_STACK" Bundle.steD), .isRef (.static Bundle.tN "SUPPRESSED_SENTINEL" Bundle.listD), .isRef (.static "java/util/ArrayList" "DEFAULTCAPACITY_EMPTY_ELEMENTDATA" "[Ljava/lang/Object;"), .not (.castable "CommitLedger" "java/lang/IllegalArgumentException"), .not (.castable "CommitLedger$Entries" "java/lang/IllegalArgumentException"), .not (.castable "CommitLedger$Directory" "java/lang/IllegalArgumentException"), .not (.castable "java/util/ArrayList" "java/lang/IllegalArgumentException"), .not (.castable "CommitLedger$View" "java/lang/IllegalArgumentException"), .not (.castable "CommitLedger$Merge" "java/lang/IllegalArgumentException"), .not (.castable "CommitLedger$Reader" "java/lang/IllegalArgumentException"), .not (.castable "CommitLedgerModel" "java/lang/IllegalArgumentException"), .not (.castable "CommitLedgerModel$Version" "java/lang/IllegalArgumentException"), .not (.castable "java/lang/IllegalStateException" "java/lang/IllegalArgumentException"), .not (.castable "java/lang/UnsupportedOperationException" "java/lang/IllegalArgumentException"), .not (.castable "java/lang/IndexOutOfBoundsException" "java/lang/IllegalArgumentException"), .not (.castable "java/lang/ArithmeticException" "java/lang/IllegalArgumentException"), .not (.castable "CommitLedger$LedgerFile" "java/lang/IllegalArgumentException"), .not (.castable "java/util/NoSuchElementException" "java/lang/IllegalArgumentException"), .not (.castable "CommitLedger" "java/lang/IllegalStateException"), .not (.castable "CommitLedger$Entries" "java/lang/IllegalStateException"), .not (.castable "CommitLedger$Directory" "java/lang/IllegalStateException"), .not (.castable "java/util/ArrayList" "java/lang/IllegalStateException"), .not (.castable "CommitLedger$View" "java/lang/IllegalStateException"), .not (.castable "CommitLedger$Merge" "java/lang/IllegalStateException"), .not (.castable "CommitLedger$Reader" "java/lang/IllegalStateException"), .not (.castable "CommitLedgerModel" "java/lang/IllegalStateException"), .not (.castable "CommitLedgerModel$Version" "java/lang/IllegalStateException"), .not (.castable "java/lang/IllegalArgumentException" "java/lang/IllegalStateException"), .not (.castable "java/lang/UnsupportedOperationException" "java/lang/IllegalStateException"), .not (.castable "java/lang/IndexOutOfBoundsException" "java/lang/IllegalStateException"), .not (.castable "java/lang/ArithmeticException" "java/lang/IllegalStateException"), .not (.castable "CommitLedger$LedgerFile" "java/lang/IllegalStateException"), .not (.castable "java/util/NoSuchElementException" "java/lang/IllegalStateException"), .not (.castable "CommitLedger" "java/lang/UnsupportedOperationException"), .not (.castable "CommitLedger$Entries" "java/lang/UnsupportedOperationException"), .not (.castable "CommitLedger$Directory" "java/lang/UnsupportedOperationException"), .not (.castable "java/util/ArrayList" "java/lang/UnsupportedOperationException"), .not (.castable "CommitLedger$View" "java/lang/UnsupportedOperationException"), .not (.castable "CommitLedger$Merge" "java/lang/UnsupportedOperationException"), .not (.castable "CommitLedger$Reader" "java/lang/UnsupportedOperationException"), .not (.castable "CommitLedgerModel" "java/lang/UnsupportedOperationException"), .not (.castable "CommitLedgerModel$Version" "java/lang/UnsupportedOperationException"), .not (.castable "java/lang/IllegalArgumentException" "java/lang/UnsupportedOperationException"), .not (.castable "java/lang/IllegalStateException" "java/lang/UnsupportedOperationException"), .not (.castable "java/lang/IndexOutOfBoundsException" "java/lang/UnsupportedOperationException"), .not (.castable "java/lang/ArithmeticException" "java/lang/UnsupportedOperationException"), .not (.castable "CommitLedger$LedgerFile" "java/lang/UnsupportedOperationException"), .not (.castable "java/util/NoSuchElementException" "java/lang/UnsupportedOperationException"), .not (.castable "CommitLedger" "java/lang/IndexOutOfBoundsException"), .not (.castable "CommitLedger$Entries" "java/lang/IndexOutOfBoundsException"), .not (.castable "CommitLedger$Directory" "java/lang/IndexOutOfBoundsException"), .not (.castable "java/util/ArrayList" "java/lang/IndexOutOfBoundsException"), .not (.castable "CommitLedger$View" "java/lang/IndexOutOfBoundsException"), .not (.castable "CommitLedger$Merge" "java/lang/IndexOutOfBoundsException"), .not (.castable "CommitLedger$Reader" "java/lang/IndexOutOfBoundsException"), .not (.castable "CommitLedgerModel" "java/lang/IndexOutOfBoundsException"), .not (.castable "CommitLedgerModel$Version" "java/lang/IndexOutOfBoundsException"), .not (.castable "java/lang/IllegalArgumentException" "java/lang/IndexOutOfBoundsException"), .not (.castable "java/lang/IllegalStateException" "java/lang/IndexOutOfBoundsException"), .not (.castable "java/lang/UnsupportedOperationException" "java/lang/IndexOutOfBoundsException"), .not (.castable "java/lang/ArithmeticException" "java/lang/IndexOutOfBoundsException"), .not (.castable "CommitLedger$LedgerFile" "java/lang/IndexOutOfBoundsException"), .not (.castable "java/util/NoSuchElementException" "java/lang/IndexOutOfBoundsException"), .not (.castable "CommitLedger" "java/lang/ArithmeticException"), .not (.castable "CommitLedger$Entries" "java/lang/ArithmeticException"), .not (.castable "CommitLedger$Directory" "java/lang/ArithmeticException"), .not (.castable "java/util/ArrayList" "java/lang/ArithmeticException"), .not (.castable "CommitLedger$View" "java/lang/ArithmeticException"), .not (.castable "CommitLedger$Merge" "java/lang/ArithmeticException"), .not (.castable "CommitLedger$Reader" "java/lang/ArithmeticException"), .not (.castable "CommitLedgerModel" "java/lang/ArithmeticException"), .not (.castable "CommitLedgerModel$Version" "java/lang/ArithmeticException"), .not (.castable "java/lang/IllegalArgumentException" "java/lang/ArithmeticException"), .not (.castable "java/lang/IllegalStateException" "java/lang/ArithmeticException"), .not (.castable "java/lang/UnsupportedOperationException" "java/lang/ArithmeticException"), .not (.castable "java/lang/IndexOutOfBoundsException" "java/lang/ArithmeticException"), .not (.castable "CommitLedger$LedgerFile" "java/lang/ArithmeticException"), .not (.castable "java/util/NoSuchElementException" "java/lang/ArithmeticException"), .not (.castable "CommitLedger" "java/util/NoSuchElementException"), .not (.castable "CommitLedger$Entries" "java/util/NoSuchElementException"), .not (.castable "CommitLedger$Directory" "java/util/NoSuchElementException"), .not (.castable "java/util/ArrayList" "java/util/NoSuchElementException"), .not (.castable "CommitLedger$View" "java/util/NoSuchElementException"), .not (.castable "CommitLedger$Merge" "java/util/NoSuchElementException"), .not (.castable "CommitLedger$Reader" "java/util/NoSuchElementException"), .not (.castable "CommitLedgerModel" "java/util/NoSuchElementException"), .not (.castable "CommitLedgerModel$Version" "java/util/NoSuchElementException"), .not (.castable "java/lang/IllegalArgumentException" "java/util/NoSuchElementException"), .not (.castable "java/lang/IllegalStateException" "java/util/NoSuchElementException"), .not (.castable "java/lang/UnsupportedOperationException" "java/util/NoSuchElementException"), .not (.castable "java/lang/IndexOutOfBoundsException" "java/util/NoSuchElementException"), .not (.castable "java/lang/ArithmeticException" "java/util/NoSuchElementException"), .not (.castable "CommitLedger$LedgerFile" "java/util/NoSuchElementException"), .arrayOf (.static "java/util/ArrayList" "DEFAULTCAPACITY_EMPTY_ELEMENTDATA" "[Ljava/lang/Object;") (.object "java/lang/Object"), .eq (.length (.static "java/util/ArrayList" "DEFAULTCAPACITY_EMPTY_ELEMENTDATA" "[Ljava/lang/Object;")) (.int 0), .isRef (.mirror "[Ljava/lang/Object;")]
/-- every word of the tables, and those -/
def gx_all : List Cond := lw_tbl ++ gx_ext
theorem gx_inx {w : Cond} (i : Nat) (h : gx_ext[i]? = some w) : w ∈ gx_all := List.mem_append_right _ (List.mem_of_getElem? h)
theorem gx_in {w : Cond} (i : Nat) (h : tables_1[i]? = some w) : w ∈ gx_all := List.mem_append_left _ (List.mem_append_right _ (List.mem_of_getElem? h))
theorem gx_inp {w : Cond} (i : Nat) (h : (k2_sels lw_privs)[i]? = some w) : w ∈ gx_all := List.mem_append_left _ (List.mem_append_left _ (List.mem_of_getElem? h))
/-- the address of the empty array that every new ArrayList begins with (kept in a place of D that no class has) -/
def gx_av (D : va_G) : Nat := D.2 99 0
def gx_sT : Term := .static "java/util/ArrayList" "DEFAULTCAPACITY_EMPTY_ELEMENTDATA" "[Ljava/lang/Object;"
/-- the words hold here, and at every later state that is alike below z; so does the static's value -/
def gx_Y (z : Nat) (D : va_G) (U : State) : Prop := gx_av D < z ∧ ∀ (a : Array Value) (V : State), U.WarmedH V.vm → (∀ q : Nat, q < z → V.heap[q]? = U.heap[q]?) → (∀ w ∈ gx_all, w.before a V = true) ∧ gx_sT.eval a V none [] V = some (.ref (gx_av D))
theorem gx_Y.hts {z : Nat} {D : va_G} {U : State} (h : gx_Y z D U) (a : Array Value) : ∀ w ∈ gx_all, w.before a U = true := (h.2 a U (State.WarmedH.refl U) (fun _ _ => rfl)).1
theorem gx_Y.st {z : Nat} {D : va_G} {U : State} (h : gx_Y z D U) (a : Array Value) : gx_sT.eval a U none [] U = some (.ref (gx_av D)) := (h.2 a U (State.WarmedH.refl U) (fun _ _ => rfl)).2
theorem gx_Y.moved {z : Nat} {D : va_G} {U V : State} (h : gx_Y z D U) (hW : U.WarmedH V.vm) (hq : ∀ q : Nat, q < z → V.heap[q]? = U.heap[q]?) : gx_Y z D V :=
  ⟨h.1, fun a T hT hz => h.2 a T (State.WarmedH.trans hW hT) (fun q h1 => (hz q h1).trans (hq q h1))⟩
/-- what a method finds at its start: the world ws, all of it at or behind z -/
def gx_I (z : Nat) (D : va_G) (cl : List vw_C) (tys : List (ClassId × FieldType)) (ws : va_W) (U : State) : Prop :=
  z ≤ U.heap.size ∧ va_P D cl ws U.heap ∧ va_K D cl tys U ∧ va_D (fun q => z ≤ q) ws ∧ gx_Y z D U
def gx_P (z sz : Nat) (D : va_G) (cl : List vw_C) (tys : List (ClassId × FieldType)) (ws : va_W) (av : List Value) : Array Value → State → Prop := fun a U => a = av.toArray ∧ U.heap.size = sz ∧ gx_I z D cl tys ws U
/-- how a method ended: inl: it returned that; inr: it threw a new object of that class -/
def gx_o (r : Option Value ⊕ String) (o : Outcome) (t : State) : Prop := match r with
  | .inl v => o = .returned v
  | .inr E => ∃ (x : Nat) (ce : Cell), o = .threw x ∧ t.heap[x]? = some ce ∧ ce.vm = .none ∧ t.vm.findClass E = some ce.cls
def gx_Q (D : va_G) (cl : List vw_C) (tys : List (ClassId × FieldType)) (A : Nat → Prop) (post : Option Value ⊕ String → va_W → Prop) : Array Value → State → Outcome → State → Prop := fun _ st o t =>
  ∃ (r : Option Value ⊕ String) (ws : va_W), gx_o r o t ∧ post r ws ∧ va_P D cl ws t.heap ∧ va_K D cl tys t ∧ va_D A ws ∧ va_F A st t
def gx_E (st t : State) (L : List Loc) (k n : Nat) : Prop := st.WarmedH t.vm ∧ st.sameButNew ({ t with vm := st.vm } : State) L k n
def gx_Met (l : Launch) (y : MethodName) (ws : List Cond) (rm : Room) (Pc : Array Value → State → Prop) (Qc : Array Value → State → Outcome → State → Prop) (mc ms : Nat) (free : Addr → Prop) : Prop :=
  MetFree l y (headSpec ws rm) Pc (fun _ _ _ _ _ => True) (fun a st o t => Qc a st o t ∧ ∃ L, gx_E st t L mc ms ∧ ∀ q ∈ L, free q.base)
def gx_MQ (below : List Frame) (Qc : Array Value → State → Outcome → State → Prop) (a : Array Value) (s : State) (mc ms : Nat) (free : Addr → Prop) : State → Prop := fun t =>
  ∃ o, t.status = .running ∧ Ended t below o ∧ Qc a s o t ∧ ∃ L, gx_E s t L mc ms ∧ ∀ q ∈ L, free q.base
theorem gx_blind {z sz : Nat} {D : va_G} {cl : List vw_C} {tys : List (ClassId × FieldType)} {ws : va_W} {av : List Value} : FrameBlind (gx_P z sz D cl tys ws av) := by
  intro a U g mk h
  obtain ⟨h1, h2, h3, h4, h5, h6, h7⟩ := h
  exact ⟨h1, h2, h3, h4, va_K.moved (u := U) (U := U.calling g mk a) (Vm.Alike.refl U.vm) h5, h6, ⟨h7.1, fun b V hV hq => h7.2 b V hV hq⟩⟩
section GX
variable {p : Program} {l : Launch} {e : Env} {R : Room} {s : State} {m : MethodId} {args : Array Value} {below : List Frame} {meth : Method} {c : Code} {H : Heap} {locs : List Loc} {cells slots : Nat} {Q : State → Prop}
/-- the exception x is under way over the frame g -/
def gx_T (p : Program) (l : Launch) (e : Env) (R : Room) (s : State) (m : MethodId) (args : Array Value) (below : List Frame) (meth : Method) (c : Code) (H : Heap) (locs : List Loc) (cells slots : Nat) (Q : State → Prop) (g : JFrame) (x : Nat) : Prop :=
  ∀ T : State, T.heap = H → Stand p l e R s m args below meth c T locs cells slots → ∃ t, Steps p.tables e below ((T.setTop g).pushFrame (.throwing x)) t ∧ Q t
theorem gx_ret {Qc : Array Value → State → Outcome → State → Prop} {free : Addr → Prop} {mc ms : Nat} {g : JFrame} (k : W p l e R s m args below meth c H locs cells slots (MQ below Qc args s mc ms free) g) :
    W p l e R s m args below meth c H locs cells slots (gx_MQ below Qc args s mc ms free) g := by
  intro T hT X
  obtain ⟨t, a1, o, b1, b2, b3, L, ⟨-, hW, hf⟩, hL⟩ := k T hT X
  exact ⟨t, a1, o, b1, b2, b3, L, ⟨hW, hf⟩, hL⟩
theorem gx_leave {Qc : Array Value → State → Outcome → State → Prop} {free : Addr → Prop} {pc : Nat} {ls : Array Slot} {st : List Value} {x : Nat} (hout : ∀ y ∈ c.exceptionTable.toList, covers y pc = false) (hlocks : meth.locks = false)
    (hq : ∀ t : State, t.heap = H → s.WarmedH t.vm → Qc args s (.threw x) t) (hf : ∀ q ∈ locs, free q.base) : gx_T p l e R s m args below meth c H locs cells slots (gx_MQ below Qc args s cells slots free) (F0 m pc ls st) x := by
  intro T hT X
  obtain ⟨a1, a2, a3, a4, a5⟩ := X.leaveThrown x (g := F0 m pc ls st) rfl rfl rfl hout hlocks
  exact ⟨_, a1, .threw x, a2, a3, hq _ hT a4, locs, ⟨a4, a5⟩, hf⟩
theorem gx_widenT {g : JFrame} {x k n : Nat} (h1 : cells ≤ k) (h2 : slots ≤ n) (kk : gx_T p l e R s m args below meth c H locs k n Q g x) : gx_T p l e R s m args below meth c H locs cells slots Q g x := fun T hT X => kk T hT (stand_widen X h1 h2)
/-- the method's contract out of its walk; 'handlers or not' -/
theorem gx_ofW {y : MethodName} {ws ws' : List Cond} {rm : Room} {Pc : Array Value → State → Prop} {Qc : Array Value → State → Outcome → State → Prop} {mc ms : Nat} {free : Addr → Prop} {cc : ByteArray} {maxL : Nat} {ret : Option FieldType}
    (hy : plainName y.cls = true) (hw : ws = Cond.code y cc maxL ret :: ws')
    (body : ∀ p e s m args below meth c s₁, BodyLoose p l y (headSpec ws rm) cc maxL ret e s m args below meth c s₁ → c.maxLocals = maxL → Pc args s →
      W p l e (headSpec ws rm).room s m args below meth c s.heap [] 0 0 (gx_MQ below Qc args s mc ms free) (entryFrame m args maxL)) : gx_Met l y ws rm Pc Qc mc ms free := by
  refine MetFree.of_bodyS (code := cc) (maxLocals := maxL) (ret := ret) hy ?_ ?_
  · intro args s m h hn
    obtain ⟨meth, c, h1, h2, h3, h4, h5, h6, -, -⟩ := Cond.code_spec hn (atoms_spec (ws := ws) h _ (by rw [hw]; exact List.mem_cons_self))
    exact ⟨meth, c, h1, h2, h3, h4, h5, h6⟩
  · intro p e s m args below meth c s₁ B hml hP _
    have hh0 : s₁.heap = s.heap := by rw [B.state]; rfl
    obtain ⟨t, a1, o, b1, b2, b3, b4⟩ := body p e s m args below meth c s₁ B hml hP s₁ hh0 (Stand.of_body B)
    exact ⟨t, o, a1, b1, b2, b3, b4⟩
/-- an invoke instruction at g comes to the method y with the arguments a -/
def gx_inv (p : Program) (l : Launch) (e : Env) (R : Room) (s : State) (m : MethodId) (args : Array Value) (below : List Frame) (meth : Method) (c : Code) (H : Heap) (locs : List Loc) (cells slots : Nat) (y : MethodName) (a : Array Value) (g : JFrame) (rest : List Value) : Prop :=
  ∀ T : State, T.heap = H → Stand p l e R s m args below meth c T locs cells slots → ∃ (mk : MethodId) (vm₁ : Vm), Stand p l e R s m args below meth c (T.setVm vm₁) locs cells slots ∧ (T.setVm vm₁).methodNamed? y = some mk ∧
    ∀ target, Steps p.tables e below (doInvoke e ((T.setVm vm₁).setTop { g with stack := rest }) [] mk a).1 target → Steps p.tables e below (T.setTop g) target
/-- what a callee's contract y needs of the caller: its code among the words, its class initialised, room -/
def gx_W (R : Room) (s : State) (y : MethodName) (bytes : ByteArray) (maxL : Nat) (ret : Option FieldType) (rm : Room) (mc ms : Nat) : Prop :=
  rm.cells = mc ∧ rm.slots = ms ∧ rm.frames + 1 ≤ R.frames ∧ 8 + (maxL + 11) + rm.locals ≤ R.locals ∧ ∀ (a : Array Value) (U : State), s.WarmedH U.vm → (Cond.code y bytes maxL ret).before a U = true ∧ (Cond.initialized y.cls).before a U = true
theorem gx_cw {z : Nat} {y : MethodName} {bytes : ByteArray} {maxL : Nat} {ret : Option FieldType} {rm : Room} {mc ms : Nat} (hts : ∀ w ∈ gx_all, w.before args s = true) (h1 : Cond.code y bytes maxL ret ∈ gx_all) (h2 : Cond.initialized y.cls ∈ gx_all) (hc : rm.cells = mc) (hs : rm.slots = ms) (hR : rm.frames + 1 ≤ R.frames ∧ 8 + (maxL + 11) + rm.locals ≤ R.locals) : gx_W R s y bytes maxL ret rm mc ms :=
  ⟨hc, hs, hR.1, hR.2, fun a U hW => ⟨word_at hW (Or.inl (by first | rfl | simp [Cond.onTables, Cond.keeps, Cond.steady])) (hts _ h1), word_at hW (Or.inl (by first | rfl | simp [Cond.onTables, Cond.keeps, Cond.steady])) (hts _ h2)⟩⟩
/-- THE CALL: it comes back with a value, or the exception is under way in the caller's frame -/
theorem gx_call {y : MethodName} {bytes cc : ByteArray} {maxL nL mc ms : Nat} {ret : Option FieldType} {rm : Room} {Pc : Array Value → State → Prop} {Qc : Array Value → State → Outcome → State → Prop} {free : Addr → Prop} {a : Array Value} {g : JFrame} {rest : List Value} {ig : Instr}
    (hM : gx_Met l y [Cond.code y bytes maxL ret] rm Pc Qc mc ms free) (hI : gx_inv p l e R s m args below meth c H locs cells slots y a g rest) (cw : gx_W R s y bytes maxL ret rm mc ms) (hb : c.code = cc) (hml : c.maxLocals = nL)
    (hbl : FrameBlind Pc) (hPc : ∀ U : State, U.heap = H → s.WarmedH U.vm → Pc a U) (hg : g.method = m) (hsize : g.locals.size = nL) (hW : 2 * g.monitorRoom + (rest.map fun v => v.category).sum ≤ 8) (hdg : decode cc g.pc = .ok (ig, 3)) (hf : cells + mc ≤ R.cells ∧ slots + ms ≤ R.slots)
    (kr : ∀ (v : Option Value) (st t : State) (L : List Loc), st.heap = H → s.WarmedH t.vm → Qc a st (.returned v) t → (∀ q ∈ L, free q.base) → W p l e R s m args below meth c t.heap (locs ++ L) (cells + mc) (slots + ms) Q { g with pc := g.pc + 3, stack := v.toList ++ rest })
    (kt : ∀ (x : Nat) (st t : State) (L : List Loc), st.heap = H → s.WarmedH t.vm → Qc a st (.threw x) t → (∀ q ∈ L, free q.base) → gx_T p l e R s m args below meth c t.heap (locs ++ L) (cells + mc) (slots + ms) Q { g with stack := rest } x) :
    W p l e R s m args below meth c H locs cells slots Q g := by
  intro T hT X
  obtain ⟨mk, vm₁, X₁, hn, st1⟩ := hI T hT X
  obtain ⟨hrc, hrs, hfr, hlo, hww⟩ := cw
  have hdg' : decode c.code ({ g with stack := rest } : JFrame).pc = .ok (ig, 3) := by rw [hb]; exact hdg
  have hcode := (hww a (T.setVm vm₁) X₁.warmed).1
  obtain ⟨methY, cY, hmY, hcY, -, hlY, -, -, -, -⟩ := Cond.code_spec hn hcode
  obtain ⟨kY, hkY, -⟩ := className_of_methodNamed hn
  have hinitY : kY.init = .initialized := Cond.initialized_spec (findClass_of_methodNamed hn) hkY (hww a (T.setVm vm₁) X₁.warmed).2
  have hAt : At (T.setVm vm₁) ({ g with stack := rest } : JFrame).method c below := by rw [show ({ g with stack := rest } : JFrame).method = m from hg]; exact X₁.here
  have hsz : ({ g with stack := rest } : JFrame).locals.size = c.maxLocals := hsize.trans hml.symm
  have happ : (headSpec [Cond.code y bytes maxL ret] rm).appliesLoose y e.platform ((T.setVm vm₁).calling { g with stack := rest } mk a) = true :=
    Spec.appliesLoose_calling (g := { g with stack := rest }) hAt hdg' hn hkY hinitY
      (X₁.room_calling (g := { g with stack := rest }) (R' := rm) hsz hmY hcY hfr (by rw [hlY]; show 2 * g.monitorRoom + (rest.map fun v => v.category).sum + (maxL + 11) + rm.locals ≤ R.locals; omega) (by rw [hrc]; exact hf.1) (by rw [hrs]; exact hf.2))
      (atoms_intro fun w hw => by rw [List.mem_singleton.mp hw]; exact hcode)
  obtain ⟨mid, hmid⟩ := hAt.above
  have hfr2 : ((T.setVm vm₁).setTop { g with stack := rest }).frames = (.java { g with stack := rest } :: mid) ++ below := by rw [State.frames_setTop' _ hAt.top, hmid]; rfl
  obtain ⟨o, t, hsteps, -, hend, hq, L, ⟨hW2, hsame⟩, hL⟩ := Steps.callFree hM p X₁.admits X₁.cas X₁.clock (acts := []) hfr2 happ (hbl _ _ _ _ (hPc (T.setVm vm₁) hT X₁.warmed)) trivial
  rw [State.frames_setTop' _ hAt.top] at hend
  have htail : (T.setVm vm₁).frames.tail = below := X₁.tail
  rw [htail] at hend
  cases o with
  | returned v =>
    obtain ⟨T', X', hW', -, rfl⟩ := X₁.outOf (g := { g with stack := rest }) hg hdg' (mk := mk) (a := a) hend hW2 hsame
    obtain ⟨t2, a1, b1⟩ := kr v _ _ L (show ((T.setVm vm₁).calling { g with stack := rest } mk a).heap = H from hT) (by exact X'.warmed) hq hL T' rfl X'
    exact ⟨t2, st1 t2 (hsteps.trans a1), b1⟩
  | threw x =>
    obtain ⟨T', X', hW', -, rfl⟩ := X₁.outOfThrown (g := { g with stack := rest }) hg (mk := mk) (a := a) hend hW2 hsame
    obtain ⟨t2, a1, b1⟩ := kt x _ _ L (show ((T.setVm vm₁).calling { g with stack := rest } mk a).heap = H from hT) (by exact X'.warmed) hq hL T' rfl X'
    exact ⟨t2, st1 t2 (hsteps.trans a1), b1⟩
end GX
