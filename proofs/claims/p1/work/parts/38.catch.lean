/-! OWN ROWS: an exception caught by a clause whose class is linked as the search comes to it; methods with handlers. -/
/-- the rows of a handler table lead an exception of class E, thrown at pc, to the handler at hp -/
def gx_hit (args : Array Value) (s0 : State) (own E : String) (pc : Nat) : List (Nat × Nat × Nat × Nat) → Nat → Prop
  | [], _ => False
  | r :: rs, hp => (¬ (r.1 ≤ pc ∧ pc < r.2.1) ∧ gx_hit args s0 own E pc rs hp) ∨
    ((r.1 ≤ pc ∧ pc < r.2.1) ∧ r.2.2.2 ≠ 0 ∧ ∃ nm : String, (Cond.classLink own r.2.2.2 nm).before args s0 = true ∧
      ((hp = r.2.2.1 ∧ (Cond.castable E nm).before args s0 = true) ∨ ((Cond.not (.castable E nm)).before args s0 = true ∧ gx_hit args s0 own E pc rs hp)))
theorem gx_go1 {Q : Handler → Pre} {E : CtlPost} {e : Env} {d : Bool} {acts : List Action} {s : State} {f : JFrame} {a : Addr} {x : ExceptionTableEntry} {t : List ExceptionTableEntry} {c : ClassId} {cell : Cell} (hx : (decide (x.startPc ≤ f.pc) && decide (f.pc < x.endPc)) = true) (h0 : x.catchType ≠ 0)
    (hl : s.vm.ClassLinks e.platform f.method.cls x.catchType c) (hcell : s.heap[a]? = some cell) (hobj : ∀ k, cell.vm ≠ .statics k) (hk : ∃ k, s.vm.classes[cell.cls]? = some k) (hc : ∃ k, s.vm.classes[c]? = some k) :
    wp (findHandler.go f a (x :: t)) Q E e d acts s ↔ if s.vm.assignable cell.cls c = true then Q (.found x.handlerPc) d acts (s.setVm (s.vm.noted f.method.cls x.catchType (.cls c))) else wp (findHandler.go f a t) Q E e d acts (s.setVm (s.vm.noted f.method.cls x.catchType (.cls c))) := by
  obtain ⟨ha, ht⟩ := (resolveClass_links e.toSetting hl).op (op := VmOp.resolveClass f.method.cls x.catchType) rfl
  have hal : s.vm.Alike (s.vm.noted f.method.cls x.catchType (.cls c)) := (Vm.Alike.refl s.vm).noted _ _ _
  obtain ⟨k1, hk1⟩ := hk
  obtain ⟨k2, hk2⟩ := hc
  obtain ⟨k1', hk1', -⟩ := hal.2.2 _ _ hk1
  obtain ⟨k2', hk2', -⟩ := hal.2.2 _ _ hk2
  have has : (s.vm.noted f.method.cls x.catchType (.cls c)).assignable cell.cls c = s.vm.assignable cell.cls c := hal.assignable ..
  cases hfit : s.vm.assignable cell.cls c <;> rw [hfit] at has <;>
    simp [findHandler.go, hx, h0, ha, ht, hcell, hobj, hk1', hk2', has, VmOp.dirties, VmOp.acts]
theorem gx_goes {e : Env} {s0 : State} {args : Array Value} {own E : String} {f : JFrame} {a hp : Nat} {cell : Cell} (hpl : e.platform.magicAccessors = ({} : Platform).magicAccessors) (hown : s0.vm.findClass own = some f.method.cls) (hE : s0.vm.findClass E = some cell.cls) (hobj : ∀ k, cell.vm ≠ .statics k) :
    ∀ (tab : List ExceptionTableEntry) (S : State), s0.WarmedH S.vm → S.heap[a]? = some cell → gx_hit args s0 own E f.pc (tab.map (fun h => (h.startPc, h.endPc, h.handlerPc, h.catchType))) hp →
      ∃ vm', s0.WarmedH vm' ∧ ∀ (Q : Handler → Pre) (X : CtlPost) (d : Bool) (acts : List Action), wp (findHandler.go f a tab) Q X e d acts S ↔ Q (.found hp) d acts (S.setVm vm') := by
  intro tab
  induction tab with
  | nil => intro S _ _ h; exact h.elim
  | cons x t ih =>
    intro S hW hcell h
    obtain ⟨k0, hk0⟩ := Vm.classAt_of_findClass hE
    obtain ⟨k0', hk0', -⟩ := hW.alike.2.2 _ _ hk0
    rcases h with ⟨hno, hr⟩ | ⟨hyes, h0, nm, hlk, hh⟩
    · obtain ⟨vm', hW', hq⟩ := ih S hW hcell hr
      refine ⟨vm', hW', fun Q X d acts => ?_⟩
      have hcov : (decide (x.startPc ≤ f.pc) && decide (f.pc < x.endPc)) = false := by
        simp only [Bool.and_eq_false_iff, decide_eq_false_iff_not]
        have hno : ¬ (x.startPc ≤ f.pc ∧ f.pc < x.endPc) := hno
        omega
      rw [← hq Q X d acts]
      simp [findHandler.go, hcov]
    · have hcov : (decide (x.startPc ≤ f.pc) && decide (f.pc < x.endPc)) = true := by
        have hyes : x.startPc ≤ f.pc ∧ f.pc < x.endPc := hyes
        simp [hyes.1, hyes.2]
      obtain ⟨c1, hc1, hcl⟩ := Cond.classLink_spec hown hlk e.platform hpl
      obtain ⟨dk, _, _, kt, hd, _, _, _, _, hkt, _, hopen⟩ := hcl.here
      obtain ⟨kt', hkt', -⟩ := hW.alike.2.2 _ _ hkt
      have hWn := hW.noted hd hopen (State.rightAt_cls hcl)
      have hgo : ∀ (Q : Handler → Pre) (X : CtlPost) (d : Bool) (acts : List Action), _ := fun Q X d acts => gx_go1 (Q := Q) (E := X) (d := d) (acts := acts) (t := t) hcov h0 (hW.classLinks hcl) hcell hobj ⟨k0', hk0'⟩ ⟨kt', hkt'⟩
      rcases hh with ⟨rfl, hcast⟩ | ⟨hnot, hr⟩
      · obtain ⟨c3, c4, h3, h4, hasg⟩ := Cond.castable_spec hcast
        cases Option.some.inj (h3.symm.trans hE)
        cases Option.some.inj (h4.symm.trans hc1)
        refine ⟨_, hWn, fun Q X d acts => ?_⟩
        rw [hgo Q X d acts, if_pos (by rw [hW.alike.assignable]; exact hasg)]
      · have hv := Cond.holds_not_iff.mp hnot
        simp only [Cond.value, hE, hc1] at hv
        have hna : s0.vm.assignable cell.cls c1 = false := Option.some.inj hv
        obtain ⟨vm', hW', hq⟩ := ih (S.setVm (S.vm.noted f.method.cls x.catchType (.cls c1))) hWn hcell hr
        refine ⟨vm', hW', fun Q X d acts => ?_⟩
        rw [hgo Q X d acts, if_neg (by rw [hW.alike.assignable, hna]; decide)]
        exact hq Q X d acts
theorem gx_stepc {e : Env} {s : State} {a : Addr} {f : JFrame} {r : List Frame} {pc : Nat} {vm' : Vm} (hfind : ∀ (Q : Handler → Pre) (X : CtlPost) (d : Bool) (acts : List Action), wp (findHandler f a) Q X e d acts s ↔ Q (.found pc) d acts (s.setVm vm')) :
    (stepThrowing e s a (.java f :: r)).Is ((s.setVm vm').setFrames (.java { f with pc := pc, stack := [.ref a] } :: r)) [] := by
  simp only [stepThrowing, searchFrame, vmDo]
  generalize hr : Sem.go _ e false [] s = res
  obtain ⟨as, rfl, ha⟩ := Sem.eq_ok_of hr (a := Handler.found pc) (s' := s.setVm vm') (acts' := []) (by simp [hfind _ _ _ _])
  exact ⟨rfl, ha⟩
theorem gx_caught {tb : Tables} {e : Env} {s target : State} {g : JFrame} {c : Code} {below : List Frame} {a : Addr} (h : At s g.method c below) {pc : Nat} {vm' : Vm} (hfind : ∀ (Q : Handler → Pre) (X : CtlPost) (d : Bool) (acts : List Action), wp (findHandler g a) Q X e d acts ((s.setTop g).pushFrame (.throwing a)) ↔ Q (.found pc) d acts (((s.setTop g).pushFrame (.throwing a)).setVm vm'))
    (hrest : Steps tb e below ((s.setVm vm').setTop { g with pc := pc, stack := [.ref a] }) target) : Steps tb e below ((s.setTop g).pushFrame (.throwing a)) target := by
  obtain ⟨hgo, hw⟩ := h.throwing a
  refine Steps.head hgo hw ?_
  rw [stepThread_throwing (frames_entered h.top _), (gx_stepc (s := (s.setTop g).pushFrame (.throwing a)) hfind).1]
  obtain ⟨g₀, hg⟩ := Option.isSome_iff_exists.mp h.top
  obtain ⟨r, hr⟩ := State.topJava?_eq_some.mp hg
  have hr' : (s.setVm vm').frames = .java g₀ :: r := hr
  rw [State.setTop_of_frames _ hr'] at hrest
  have key : ((((s.setTop g).pushFrame (.throwing a)).setVm vm').setFrames (.java { g with pc := pc, stack := [.ref a] } :: s.frames.tail)) = (s.setVm vm').setFrames (.java { g with pc := pc, stack := [.ref a] } :: r) := by
    rw [State.pushFrame, State.setTop_of_frames _ hr, State.setFrames_setFrames, hr]
    exact State.setFrames_setFrames (s := s.setVm vm') ..
  rw [key]
  exact hrest
section GXK
variable {p : Program} {l : Launch} {e : Env} {R : Room} {s : State} {m : MethodId} {args : Array Value} {below : List Frame} {meth : Method} {c : Code} {H : Heap} {locs : List Loc} {cells slots : Nat} {Q : State → Prop} {cc : ByteArray}
theorem gx_catch {own E : String} {ce : Cell} {x pc hp : Nat} {ls : Array Slot} {st : List Value} {hs : List (Nat × Nat × Nat × Nat)} (hown : s.vm.findClass own = some m.cls) (htab : c.exceptionTable.toList.map (fun h => (h.startPc, h.endPc, h.handlerPc, h.catchType)) = hs) (hit : gx_hit args s own E pc hs hp) (hce : H[x]? = some ce ∧ ce.vm = .none ∧ s.vm.findClass E = some ce.cls)
    (k : W p l e R s m args below meth c H locs cells slots Q (F0 m hp ls [.ref x])) : gx_T p l e R s m args below meth c H locs cells slots Q (F0 m pc ls st) x := by
  intro T hT X
  have hpl : e.platform.magicAccessors = ({} : Platform).magicAccessors := by rw [X.admits.platform]
  subst htab
  obtain ⟨vm', hW', hq⟩ := gx_goes (e := e) (s0 := s) (args := args) (f := F0 m pc ls st) (a := x) (cell := ce) hpl hown hce.2.2 (fun k9 => by rw [hce.2.1]; exact fun h => by cases h) c.exceptionTable.toList ((T.setTop (F0 m pc ls st)).pushFrame (.throwing x)) X.warmed (by show T.heap[x]? = some ce; rw [hT]; exact hce.1) hit
  obtain ⟨t, a1, b1⟩ := k (T.setVm vm') hT (X.noted hW')
  refine ⟨t, gx_caught (g := F0 m pc ls st) X.here (fun Q9 X9 d9 acts9 => ?_) a1, b1⟩
  rw [_root_.Jvm.W.findHandler_eq (s := (T.setTop (F0 m pc ls st)).pushFrame (.throwing x)) (f := F0 m pc ls st) X.method' X.code]
  exact hq Q9 X9 d9 acts9
end GXK
