section GXC
variable {p : Program} {l : Launch} {e : Env} {R : Room} {s : State} {m : MethodId} {args : Array Value} {below : List Frame} {meth : Method} {c : Code} {H : Heap} {locs : List Loc} {cells slots : Nat} {Q : State → Prop} {cc : ByteArray}
/-- the words of 'new X(text)' for an exception X under RuntimeException: i1, b1: the place in X's pool and the code of X's own constructor -/
def gx_cl (own : String) (ic : Nat) (X : String) : List Cond :=
  [.methodLink own ic (Bundle.initS X), .instantiable X 6, .selects X Bundle.tFill0 Bundle.tFill0, .selects X Bundle.tFill Bundle.tFill, .lays X Bundle.tN "cause" "Ljava/lang/Throwable;", .lays X Bundle.tN "stackTrace" Bundle.steD, .lays X Bundle.tN "suppressedExceptions" Bundle.listD,
   .lays X Bundle.tN "detailMessage" "Ljava/lang/String;", .isRef (.static Bundle.tN "UNASSIGNED_STACK" Bundle.steD), .isRef (.static Bundle.tN "SUPPRESSED_SENTINEL" Bundle.listD), .fieldLink Bundle.tN 198 Bundle.tN "backtrace" "Ljava/lang/Object;", .lays Bundle.tN Bundle.tN "backtrace" "Ljava/lang/Object;", .lays X Bundle.tN "backtrace" "Ljava/lang/Object;"]
def gx_ca (own : String) (ic : Nat) (X : String) (i1 : Nat) (b1 : ByteArray) : List Cond :=
  Bundle.throwableAtoms ++ (Bundle.throwableSAtoms ++ (Bundle.passSAtoms X "java/lang/RuntimeException" i1 b1 ++ (Bundle.chainSAtoms "java/lang/RuntimeException" ["java/lang/Exception"] ++ gx_cl own ic X)))
set_option maxHeartbeats 1000000 in
/-- the constructor of an exception just made: only its own cell changes -/
theorem gx_ctor {own cls : String} {ic i1 pc a q : Nat} {b1 : ByteArray} {ls : Array Slot} {rest : List Value} {cX : ClassId} {kX : Class} {A : Nat → Prop} (hx : p.tables.exec = Jvm.exec) (hb : c.code = cc) (htr : l.stackTraces = false) (hml : c.maxLocals = ls.size) (hown : s.vm.findClass own = some m.cls) (hts : ∀ w ∈ gx_all, w.before args s = true)
    (hN : gx_NS A s) (hS : va_S A s.heap H locs) (hAa : A a) (hnew : s.heap.size ≤ a) (hfc : s.vm.findClass cls = some cX) (hkc : s.vm.classes[cX]? = some kX) (hcell : H[a]? = some (freshCell cX kX)) (w5 : ∀ w ∈ gx_ca own ic cls i1 b1, w ∈ gx_all) (hfit : Bundle.fit cls = true)
    (g0 : decode b1 0 = .ok (.aload_n 0, 1)) (g1 : decode b1 1 = .ok (.aload_n 1, 1)) (g2 : decode b1 2 = .ok (.invokespecial i1, 3)) (g5 : decode b1 5 = .ok (.return_, 1))
    (d : decode cc pc = .ok (.invokespecial ic, 3)) (hf : 6 ≤ R.frames) (hl : (rest.map fun v => v.category).sum + 82 ≤ R.locals)
    (kk : ∀ (H1 : Heap) (locs1 : List Loc), (∃ ce : Cell, H1[a]? = some ce ∧ ce.vm = .none ∧ ce.cls = cX) → H1.size = H.size → (∀ z : Nat, z ≠ a → H1[z]? = H[z]?) → va_S A s.heap H1 locs1 → W p l e R s m args below meth c H1 locs1 cells slots Q (F0 m (pc + 3) ls (.ref a :: rest))) :
    W p l e R s m args below meth c H locs cells slots Q (F0 m pc ls (.ref q :: .ref a :: .ref a :: rest)) := by
  intro T hT X
  have hpl : e.platform.magicAccessors = ({} : Platform).magicAccessors := by rw [X.admits.platform]
  have at' : ∀ w, w ∈ gx_ca own ic cls i1 b1 → w.before args s = true := fun w hw => hts w (w5 w hw)
  have hlast : ∀ w, w ∈ gx_cl own ic cls → w.before args s = true := fun w hw => at' w (by unfold gx_ca; exact List.mem_append_right _ (List.mem_append_right _ (List.mem_append_right _ (List.mem_append_right _ hw))))
  obtain ⟨Th, Z0, L, -, Y⟩ := ThrowableC.of_atoms (args := args) (s := s) (pl := e.platform) (by rw [X.admits.platform]) (by rw [X.admits.platform]) hpl (fun w hw => at' w (by unfold gx_ca; exact List.mem_append_left _ hw))
  obtain ⟨Z, M, LZ, LM, hnZ⟩ := Init0T.ofS_atoms (args := args) hpl L Y (fun w hw => at' w (by unfold gx_ca; exact List.mem_append_right _ (List.mem_append_left _ hw)))
  obtain ⟨P1, L1, hP1m, hP1s⟩ := PassC.ofS_atoms (args := args) (s := s) (pl := e.platform) hpl (X := cls) (Y := "java/lang/RuntimeException") (Bundle.fit_spec hfit).1 (by decide) g0 g1 g2 g5 (fun w hw => at' w (by unfold gx_ca; exact List.mem_append_right _ (List.mem_append_right _ (List.mem_append_left _ hw))))
  obtain ⟨P2, Ps, hlen, L2, hL, hP2m, hlk1, hlk⟩ := Bundle.chainS (args := args) (s := s) (pl := e.platform) hpl hnZ ["java/lang/Exception"] "java/lang/RuntimeException" (by decide) (by decide) (fun w hw => at' w (by unfold gx_ca; exact List.mem_append_right _ (List.mem_append_right _ (List.mem_append_right _ (List.mem_append_left _ hw)))))
  have hfound : s.vm.findClass cls = some P1.m.cls := findClass_of_methodNamed hP1m
  cases Option.some.inj (hfc.symm.trans hfound)
  obtain ⟨c1, k1, hc1, hk1, hord, -, -, -⟩ := Cond.instantiable_spec (hlast (.instantiable cls 6) (by simp [gx_cl]))
  cases Option.some.inj (hc1.symm.trans hfound)
  cases Option.some.inj (hkc.symm.trans hk1)
  have sel : ∀ (y : MethodName) (k : MethodId), s.methodNamed? y = some k → (y.cls ≠ "java/lang/invoke/MethodHandle" ∧ y.cls ≠ "java/lang/invoke/VarHandle") → (Cond.selects cls y y).before args s = true → selectMethod e.platform s.vm P1.m.cls k = .method k := by
    intro y k hy hne hw
    obtain ⟨c2, r2, m2, q1, q2, q3, q4, -⟩ := Cond.selects_spec hw
    cases Option.some.inj (q1.symm.trans hfound)
    cases Option.some.inj (q2.symm.trans (State.methodFound?_of_named hy hne))
    cases Option.some.inj (q3.symm.trans hy)
    rw [Launch.admits_selectMethod X.admits]; exact q4
  obtain ⟨cellS0, hcS0, hiss⟩ := Y.statics
  obtain ⟨u0, hu0⟩ := Cond.staticRefV Y.unassigned L.unassignedStatic L.statics hcS0 hiss (hlast (.isRef (.static Bundle.tN "UNASSIGNED_STACK" Bundle.steD)) (by simp [gx_cl]))
  obtain ⟨sen, hsen⟩ := Cond.staticRefV Y.sentinel L.sentinelStatic L.statics hcS0 hiss (hlast (.isRef (.static Bundle.tN "SUPPRESSED_SENTINEL" Bundle.listD)) (by simp [gx_cl]))
  obtain ⟨ci, i9, fB, e1, e2, e3, e4, -, e6, e7, e8⟩ := Cond.ownField (t := .object "java/lang/Object") Y.found L.cls (by decide +kernel) (hlast (.fieldLink Bundle.tN 198 Bundle.tN "backtrace" "Ljava/lang/Object;") (by simp [gx_cl])) (hlast (.lays Bundle.tN Bundle.tN "backtrace" "Ljava/lang/Object;") (by simp [gx_cl])) e.platform hpl
  obtain ⟨cellS, hcS1, heS, -, hkeep⟩ := X.same.2.2.2.2.2 Th.aS cellS0 hcS0
  have hcellS : T.heap[Th.aS]? = some cellS := hcS1
  have hfree : ∀ i, (⟨Th.aS, i⟩ : Loc) ∉ locs := fun i hm => by
    have := hN Th.aS cellS0 (hS.2.2 _ hm) hcS0
    rw [hiss] at this; cases this
  have hknown : cellS.vm ≠ .unknown := by
    rw [heS]; intro hu
    rw [show cellS0.vm = .unknown from hu] at hiss
    cases hiss
  obtain ⟨iM, hffM⟩ := Y.msg
  obtain ⟨tyC, dC, hdC, hdnC⟩ := Cond.laysAt hfound hk1 Y.cause (hlast (.lays cls Bundle.tN "cause" "Ljava/lang/Throwable;") (by simp [gx_cl]))
  obtain ⟨tyS, dS, hdS, hdnS⟩ := Cond.laysAt hfound hk1 Y.stack (hlast (.lays cls Bundle.tN "stackTrace" Bundle.steD) (by simp [gx_cl]))
  obtain ⟨tyP, dP, hdP, hdnP⟩ := Cond.laysAt hfound hk1 Y.supp (hlast (.lays cls Bundle.tN "suppressedExceptions" Bundle.listD) (by simp [gx_cl]))
  obtain ⟨tyM, dM, hdM, hdnM⟩ := Cond.laysAt hfound hk1 hffM (hlast (.lays cls Bundle.tN "detailMessage" "Ljava/lang/String;") (by simp [gx_cl]))
  obtain ⟨tyB, dB, hdB, hdnB⟩ := Cond.laysAt hfound hk1 e8 (hlast (.lays cls Bundle.tN "backtrace" "Ljava/lang/Object;") (by simp [gx_cl]))
  have bC := Cond.laysApart hdB hdC hdnB hdnC (by rw [e6, Y.causeName]; decide)
  have bS := Cond.laysApart hdB hdS hdnB hdnS (by rw [e6, Y.stackName]; decide)
  have bP := Cond.laysApart hdB hdP hdnB hdnP (by rw [e6, Y.suppName]; decide)
  obtain ⟨mk, vm₁, X₁, hn, st1⟩ := gx_invI (l := l) (e := e) (R := R) (below := below) (meth := meth) (H := H) (locs := locs) (cells := cells) (slots := slots) (y := Bundle.initS cls) (bytes := b1) (maxL := 2) (b := a) (As := [.ref q]) (rest := .ref a :: rest) (g := F0 m pc ls (.ref q :: .ref a :: .ref a :: rest)) hx hb hown hts
    (w5 _ (by unfold gx_ca; exact List.mem_append_right _ (List.mem_append_right _ (List.mem_append_right _ (List.mem_append_right _ (by simp [gx_cl])))))) (w5 _ (by unfold gx_ca; exact List.mem_append_right _ (List.mem_append_right _ (List.mem_append_left _ (by simp [Bundle.passSAtoms]))))) (w5 _ (by unfold gx_ca; exact List.mem_append_right _ (List.mem_append_right _ (List.mem_append_left _ (by simp [Bundle.passSAtoms])))))
    (Bundle.fit_spec hfit).2 rfl (show (parseMethodDescriptor "(Ljava/lang/String;)V").map (fun d => d.parameters.length) = some 1 by decide +kernel) rfl rfl d T hT X
  have hn1 : s.methodNamed? (Bundle.initS cls) = some mk := by
    have h9 := X₁.named hP1m
    rw [hn] at h9
    rw [Option.some.inj h9]; exact hP1m
  cases Option.some.inj (hn1.symm.trans hP1m)
  obtain ⟨vm₂, X₂, st2⟩ := X₁.ctorMessageOffV hx (g := F0 m pc ls (.ref a :: rest)) rfl hml.symm Th L Z LZ M LM (P1 :: P2 :: Ps)
    (fun P hP => by rcases List.mem_cons.mp hP with rfl | hP; exact L1; rcases List.mem_cons.mp hP with rfl | hP; exact L2; exact hL P hP) ⟨Option.some.inj (hP1s.symm.trans hP2m), hlk1, hlk⟩ (u0 := u0) (sen := sen) (self := a) (msg := .ref q) rfl (cell := freshCell P1.m.cls kX) (cellS := cellS)
    (show T.heap[a]? = _ by rw [hT]; exact hcell) (fun _ => by simp) (by simp) rfl rfl (sel _ _ Y.fill0 (by decide) (hlast (.selects cls Bundle.tFill0 Bundle.tFill0) (by simp [gx_cl]))) (sel _ _ Y.fill (by decide) (hlast (.selects cls Bundle.tFill Bundle.tFill) (by simp [gx_cl]))) hcellS
    (Nat.ne_of_lt (Nat.lt_of_lt_of_le (Array.getElem?_eq_some_iff.mp hcS0).1 hnew)) hknown (by rw [hkeep _ (hfree _)]; exact hu0) (by rw [hkeep _ (hfree _)]; exact hsen)
    (Takes.of_laid hk1 hord tyC (by rw [Y.causeType]; rfl)) (Takes.of_laid hk1 hord tyS (by rw [Y.stackType]; exact fits_refV_array _ u0)) (Takes.of_laid hk1 hord tyP (by rw [Y.suppType]; exact fits_refV_object _ sen))
    (Takes.of_laid hk1 hord tyM (by rw [Y.msgType]; exact fits_refV_object _ ⟨.ref q, rfl⟩)) Y.objLocals
    ⟨{ ci198 := ci, i198 := i9, fBack := fB }, ⟨e1, e2, e3, e4⟩, by
      have := fresh_default (c := P1.m.cls) tyB
      rw [e7] at this
      simpa [preparedCellV, Cell.setSlot, Cell.withEntry, Array.getElem?_setIfInBounds, bC, bS, bP, bC.symm, bS.symm, bP.symm, defaultValue] using this, fun _ _ => rfl⟩ (show e.platform.stackTraces = false from (show e.platform.stackTraces = l.stackTraces by rw [X.admits.platform]).trans htr) [] (show decode c.code pc = .ok (.invokespecial ic, 3) by rw [hb]; exact d)
    (by show Ps.length + 1 + 1 + 2 < R.frames; have h9 : Ps.length = 1 := hlen; omega) (by show 2 * 0 + (1 + (rest.map fun v => v.category).sum) + (13 * (Ps.length + 1 + 1) + 42) ≤ R.locals; have h9 : Ps.length = 1 := hlen; omega)
  have hlt : a < T.heap.size := by rw [hT]; exact (Array.getElem?_eq_some_iff.mp hcell).1
  obtain ⟨t, a1, b2⟩ := kk _ _ ⟨_, heapAt_setCell_self (s := (T.setVm vm₁).setVm vm₂) (plainBareV Th.toThrowableT (freshCell P1.m.cls kX) a u0 sen (.ref q)) hlt, rfl, rfl⟩ (by rw [← hT]; simp [State.setCell]) (fun z hz => by rw [← hT]; simp [State.setCell, Array.getElem?_setIfInBounds, Ne.symm hz])
    ⟨by simp only [State.setCell, Array.size_setIfInBounds]; show s.heap.size ≤ T.heap.size; rw [hT]; exact hS.1, fun z h1 h2 => by
      have hz : a ≠ z := fun h => h2 (by rw [← h]; exact hAa)
      simp only [State.setCell, Array.getElem?_setIfInBounds, hz, if_false]
      show T.heap[z]? = _
      rw [hT]; exact hS.2.1 z h1 h2, fun z hz => by
      rcases List.mem_append.mp hz with h | h
      · exact hS.2.2 z h
      · have : z.base = a := by
          simp only [List.mem_cons, List.not_mem_nil, or_false] at h
          rcases h with rfl | rfl | rfl | rfl | rfl <;> rfl
        rw [this]; exact hAa⟩ _ rfl X₂
  exact ⟨t, st1 t (st2 t a1), b2⟩
end GXC
