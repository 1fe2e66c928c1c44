/-! OWN ROW: 'throw new X("text")' in a method that has written nothing so far and has no handlers; a method's start. -/
section GXT
variable {p : Program} {l : Launch} {e : Env} {R : Room} {s : State} {m : MethodId} {args : Array Value} {below : List Frame} {meth : Method} {c : Code} {H : Heap} {cells slots : Nat} {cc : ByteArray}
/-- what is there at the start is there behind, where no slot was written -/
theorem gx_same {U : State} {k n : Nat} (h : s.sameButNew ({ U with vm := s.vm } : State) [] k n) : s.heap.size ≤ U.heap.size ∧ ∀ q : Nat, q < s.heap.size → U.heap[q]? = s.heap[q]? := by
  obtain ⟨-, h2, -, -, -, h6⟩ := h
  refine ⟨h2, fun q hq => ?_⟩
  obtain ⟨c1, e1, e2, e3, e4⟩ := h6 q _ (Array.getElem?_eq_getElem hq)
  have e5 : U.heap[q]? = some c1 := e1
  have hs : c1.slots = (s.heap[q]).slots := Array.ext_getElem? fun i => e4 i List.not_mem_nil
  rw [hs] at e2
  rw [e5, e2, Array.getElem?_eq_getElem hq]
theorem gx_throw {D : va_G} {cl : List vw_C} {tys : List (ClassId × FieldType)} {ws : va_W} {A : Nat → Prop} {free : Addr → Prop} {post : Option Value ⊕ String → va_W → Prop} {own cls text : String} {names : List String} {ik is ic pc : Nat} {ls : Array Slot}
    (hx : p.tables.exec = Jvm.exec) (hb : c.code = cc) (htr : l.stackTraces = false) (hml : c.maxLocals = ls.size) (hown : s.vm.findClass own = some m.cls) (hts : ∀ w ∈ gx_all, w.before args s = true) (hne : c.exceptionTable.isEmpty = true) (hlocks : meth.locks = false)
    (hP : va_P D cl ws s.heap) (hK : va_K D cl tys s) (hD : va_D A ws) (hsz : s.heap.size ≤ H.size)
    (w1 : Cond.classLink own ik cls ∈ gx_all) (w2 : Cond.instantiable cls 6 ∈ gx_all) (w3 : Cond.initialized cls ∈ gx_all) (w4 : Cond.stringRef own is text ∈ gx_all) (w5 : ∀ w ∈ Bundle.ownAtoms own ic cls names, w ∈ gx_all) (hcls : Bundle.fit cls = true) (hnames : ∀ n ∈ names, Bundle.fit n = true)
    (d0 : decode cc pc = .ok (.new ik, 3)) (d3 : decode cc (pc + 3) = .ok (.dup, 1)) (d4 : decode cc (pc + 4) = .ok (.ldc is, 2)) (d6 : decode cc (pc + 6) = .ok (.invokespecial ic, 3)) (d9 : decode cc (pc + 9) = .ok (.athrow, 1))
    (hf : names.length + 3 < R.frames) (hl : 13 * (names.length + 1) + 43 ≤ R.locals) (hc : cells + 1 ≤ R.cells) (hs : slots + 6 ≤ R.slots) (hpost : post (.inr cls) ws) :
    W p l e R s m args below meth c H [] cells slots (gx_MQ below (gx_Q D cl tys A post) args s (cells + 1) (slots + 6) free) (F0 m pc ls []) := by
  refine W.newc hx hb hown (hts _ w1) (hts _ w2) (hts _ w3) rfl d0 hc hs (fun cC kC h1 h2 h3 h4 => ?_)
  refine W.eq (g2 := F0 m (pc + 3) ls [.ref H.size]) rfl ?_
  refine lv_dup hx hb d3 rfl ?_
  obtain ⟨-, -, -, q, -, -, -, -, -, hev⟩ := Cond.stringRef_spec hown (hts _ w4)
  intro T hT X
  have hXd : decode c.code (F0 m (pc + 3 + 1) ls [.ref H.size, .ref H.size]).pc = .ok (.ldc is, 2) := by rw [hb]; exact d4
  obtain ⟨U, a1, a2, a3, a4, a5, ce, a6, a7⟩ := X.ctorThrowS hx (show e.platform.stackTraces = false from (show e.platform.stackTraces = l.stackTraces by rw [X.admits.platform]).trans htr) hown hcls hnames (fun a ha => hts a (w5 a ha)) (fun x hx9 => nomatch hx9) (a := H.size) h1 h2
    (by rw [hT, Array.getElem?_push_size]) hsz (msg := .ref q) rfl (g := F0 m (pc + 6) ls [.ref q, .ref H.size, .ref H.size]) rfl hml.symm rfl rfl (rest := []) rfl (by rw [hb]; exact d6) (by rw [hb]; exact d9)
    (fun x hx9 => by rw [Array.isEmpty_iff.mp hne] at hx9; cases hx9) hf (by show 2 * 0 + ([Value.ref H.size].map fun v => v.category).sum + _ ≤ _; simp [Value.category]; omega) hlocks
  obtain ⟨b1, b2⟩ := gx_same a5
  refine ⟨U, X.ldcString hx hown (text := text) (a := q) (hts _ w4) hev (g := F0 m (pc + 3 + 1) ls [.ref H.size, .ref H.size]) rfl hXd U a1, .threw H.size, a2, a3, ⟨.inr cls, ws, ⟨H.size, ce, rfl, a6, a7.vm, by rw [a4.alike.findClass]; exact a7.cls⟩, hpost, hP.kept (fun k q9 hq9 => b2 _ (hP k q9 hq9).lt), va_K.moved a4.alike hK, hD, b1, fun q h _ => b2 q h⟩, [], ⟨a4, a5⟩, fun _ h => nomatch h⟩
end GXT
