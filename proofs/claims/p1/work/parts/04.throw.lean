/-! OWN ROW: 'throw new X("text")' in a method that has written nothing so far and has no handlers; a method's start. -/
section GXT
variable {p : Program} {l : Launch} {e : Env} {R : Room} {s : State} {m : MethodId} {args : Array Value} {below : List Frame} {meth : Method} {c : Code} {H : Heap} {cells slots : Nat} {cc : ByteArray}
/-- what is there at the start is there behind, where no slot was written -/
theorem gx_same {U : State} {k n : Nat} (h : s.sameButNew ({ U with vm := s.vm } : State) [] k n) : s.heap.size ≤ U.heap.size ∧ ∀ q : Nat, q < s.heap.size → U.heap[q]? = s.heap[q]? := by
  obtain ⟨-, h2, -, -, -, h6⟩ := h
  refine ⟨h2, fun q hq => ?_⟩
  obtain ⟨c1, e1, e2, e3, e4⟩ := h6 q _ (Array.getElem?_eq_getElem hq)
  have e5 : U.heap[q]? = some c1 := e1
  have hs : c1.slots = (s.heap[q]).slots := Array.ext_getElem? fun i => e4 i List.not_mem_nil
  rw [hs] at e2
  rw [e5, e2, Array.getElem?_eq_getElem hq]
/-- ldc, ldc_w of a String constant that is resolved -/
theorem gx_ldc {Q : State → Prop} {locs : List Loc} {own text : String} {is pc : Nat} {ls : Array Slot} {rest : List Value} (hx : p.tables.exec = Jvm.exec) (hb : c.code = cc) (hown : s.vm.findClass own = some m.cls) (hw : (Cond.stringRef own is text).before args s = true)
    (d : decode cc pc = .ok (.ldc is, 2)) (k : ∀ q : Nat, W p l e R s m args below meth c H locs cells slots Q (F0 m (pc + 2) ls (.ref q :: rest))) : W p l e R s m args below meth c H locs cells slots Q (F0 m pc ls rest) := by
  obtain ⟨-, -, -, q, -, -, -, -, -, hev⟩ := Cond.stringRef_spec hown hw
  intro T hT X
  obtain ⟨t, a1, b1⟩ := k q T hT X
  exact ⟨t, X.ldcString hx hown (text := text) (a := q) hw hev (g := F0 m pc ls rest) rfl (by rw [hb]; exact d) t a1, b1⟩
theorem gx_ldcw {Q : State → Prop} {locs : List Loc} {own text : String} {is pc : Nat} {ls : Array Slot} {rest : List Value} (hx : p.tables.exec = Jvm.exec) (hb : c.code = cc) (hown : s.vm.findClass own = some m.cls) (hw : (Cond.stringRef own is text).before args s = true)
    (d : decode cc pc = .ok (.ldc_w is, 3)) (k : ∀ q : Nat, W p l e R s m args below meth c H locs cells slots Q (F0 m (pc + 3) ls (.ref q :: rest))) : W p l e R s m args below meth c H locs cells slots Q (F0 m pc ls rest) := by
  obtain ⟨k1, cf, i, q, hk, hcf, hcp, -, hr, hev⟩ := Cond.stringRef_spec hown hw
  intro T hT X
  subst hb
  obtain ⟨t, a1, b1⟩ := k q T hT X
  obtain ⟨k', hk', he⟩ := X.warmed.alike.2.2 _ _ hk
  have hr' : k'.resolved[is]? = some (some (.string q)) := by
    rcases X.warmed.entry hk hk' is with h | ⟨h, -⟩
    · rw [h]; exact hr
    · rw [hr] at h; cases h
  refine ⟨t, ?_, b1⟩
  jvm_step X.here [hx, d, ldc_w.wp_string (e := e) (s := T) (f := F0 m pc ls rest) X.here.top hk' (by rw [he]; exact hcf) hcp hr']
  exact a1
/-- the constructor and the throw, from the invokespecial on -/
theorem gx_throwI {D : va_G} {cl : List vw_C} {tys : List (ClassId × FieldType)} {ws : va_W} {A : Nat → Prop} {free : Addr → Prop} {post : Option Value ⊕ String → va_W → Prop} {own cls : String} {names : List String} {ic pc a q : Nat} {ls : Array Slot} {cX : ClassId} {kX : Class}
    (hx : p.tables.exec = Jvm.exec) (hb : c.code = cc) (htr : l.stackTraces = false) (hml : c.maxLocals = ls.size) (hown : s.vm.findClass own = some m.cls) (hts : ∀ w ∈ gx_all, w.before args s = true) (hne : c.exceptionTable.isEmpty = true) (hlocks : meth.locks = false)
    (hP : va_P D cl ws s.heap) (hK : va_K D cl tys s) (hD : va_D A ws) (hsz : s.heap.size ≤ a) (hfc : s.vm.findClass cls = some cX) (hkc : s.vm.classes[cX]? = some kX) (hcell : H[a]? = some (freshCell cX kX))
    (w5 : ∀ w ∈ Bundle.ownAtoms own ic cls names, w ∈ gx_all) (hcls : Bundle.fit cls = true) (hnames : ∀ n ∈ names, Bundle.fit n = true)
    (d6 : decode cc pc = .ok (.invokespecial ic, 3)) (d9 : decode cc (pc + 3) = .ok (.athrow, 1)) (hf : names.length + 3 < R.frames) (hl : 13 * (names.length + 1) + 43 ≤ R.locals) (hpost : post (.inr cls) ws) :
    W p l e R s m args below meth c H [] cells slots (gx_MQ below (gx_Q D cl tys A post) args s cells slots free) (F0 m pc ls [.ref q, .ref a, .ref a]) := by
  intro T hT X
  obtain ⟨U, a1, a2, a3, a4, a5, ce, a6, a7⟩ := X.ctorThrowS hx (show e.platform.stackTraces = false from (show e.platform.stackTraces = l.stackTraces by rw [X.admits.platform]).trans htr) hown hcls hnames (fun a ha => hts a (w5 a ha)) (fun x hx9 => nomatch hx9) (a := a) hfc hkc
    (by rw [hT]; exact hcell) hsz (msg := .ref q) rfl (g := F0 m pc ls [.ref q, .ref a, .ref a]) rfl hml.symm rfl rfl (rest := []) rfl (by rw [hb]; exact d6) (by rw [hb]; exact d9)
    (fun x hx9 => by rw [Array.isEmpty_iff.mp hne] at hx9; cases hx9) hf (by show 2 * 0 + ([Value.ref a].map fun v => v.category).sum + _ ≤ _; simp [Value.category]; omega) hlocks
  obtain ⟨b1, b2⟩ := gx_same a5
  exact ⟨U, a1, .threw a, a2, a3, ⟨.inr cls, ws, ⟨a, ce, rfl, a6, a7.vm, by rw [a4.alike.findClass]; exact a7.cls⟩, hpost, hP.kept (fun k q9 hq9 => b2 _ (hP k q9 hq9).lt), va_K.moved a4.alike hK, hD, b1, fun q h _ => b2 q h⟩, [], ⟨a4, a5⟩, fun _ h => nomatch h⟩
theorem gx_throw {D : va_G} {cl : List vw_C} {tys : List (ClassId × FieldType)} {ws : va_W} {A : Nat → Prop} {free : Addr → Prop} {post : Option Value ⊕ String → va_W → Prop} {own cls text : String} {names : List String} {ik is ic pc : Nat} {ls : Array Slot}
    (hx : p.tables.exec = Jvm.exec) (hb : c.code = cc) (htr : l.stackTraces = false) (hml : c.maxLocals = ls.size) (hown : s.vm.findClass own = some m.cls) (hts : ∀ w ∈ gx_all, w.before args s = true) (hne : c.exceptionTable.isEmpty = true) (hlocks : meth.locks = false)
    (hP : va_P D cl ws s.heap) (hK : va_K D cl tys s) (hD : va_D A ws) (hsz : s.heap.size ≤ H.size)
    (w1 : Cond.classLink own ik cls ∈ gx_all) (w2 : Cond.instantiable cls 6 ∈ gx_all) (w3 : Cond.initialized cls ∈ gx_all) (w4 : Cond.stringRef own is text ∈ gx_all) (w5 : ∀ w ∈ Bundle.ownAtoms own ic cls names, w ∈ gx_all) (hcls : Bundle.fit cls = true) (hnames : ∀ n ∈ names, Bundle.fit n = true)
    (d0 : decode cc pc = .ok (.new ik, 3)) (d3 : decode cc (pc + 3) = .ok (.dup, 1)) (d4 : decode cc (pc + 4) = .ok (.ldc is, 2)) (d6 : decode cc (pc + 6) = .ok (.invokespecial ic, 3)) (d9 : decode cc (pc + 9) = .ok (.athrow, 1))
    (hf : names.length + 3 < R.frames) (hl : 13 * (names.length + 1) + 43 ≤ R.locals) (hc : cells + 1 ≤ R.cells) (hs : slots + 6 ≤ R.slots) (hpost : post (.inr cls) ws) :
    W p l e R s m args below meth c H [] cells slots (gx_MQ below (gx_Q D cl tys A post) args s (cells + 1) (slots + 6) free) (F0 m pc ls []) := by
  refine W.newc hx hb hown (hts _ w1) (hts _ w2) (hts _ w3) rfl d0 hc hs (fun cC kC h1 h2 h3 h4 => ?_)
  refine W.eq (g2 := F0 m (pc + 3) ls [.ref H.size]) rfl ?_
  refine lv_dup hx hb d3 rfl ?_
  refine gx_ldc hx hb hown (hts _ w4) d4 (fun q => ?_)
  exact gx_throwI hx hb htr hml hown hts hne hlocks hP hK hD hsz h1 h2 (by rw [Array.getElem?_push_size]) w5 hcls hnames d6 d9 hf hl hpost
theorem gx_throww {D : va_G} {cl : List vw_C} {tys : List (ClassId × FieldType)} {ws : va_W} {A : Nat → Prop} {free : Addr → Prop} {post : Option Value ⊕ String → va_W → Prop} {own cls text : String} {names : List String} {ik is ic pc : Nat} {ls : Array Slot}
    (hx : p.tables.exec = Jvm.exec) (hb : c.code = cc) (htr : l.stackTraces = false) (hml : c.maxLocals = ls.size) (hown : s.vm.findClass own = some m.cls) (hts : ∀ w ∈ gx_all, w.before args s = true) (hne : c.exceptionTable.isEmpty = true) (hlocks : meth.locks = false)
    (hP : va_P D cl ws s.heap) (hK : va_K D cl tys s) (hD : va_D A ws) (hsz : s.heap.size ≤ H.size)
    (w1 : Cond.classLink own ik cls ∈ gx_all) (w2 : Cond.instantiable cls 6 ∈ gx_all) (w3 : Cond.initialized cls ∈ gx_all) (w4 : Cond.stringRef own is text ∈ gx_all) (w5 : ∀ w ∈ Bundle.ownAtoms own ic cls names, w ∈ gx_all) (hcls : Bundle.fit cls = true) (hnames : ∀ n ∈ names, Bundle.fit n = true)
    (d0 : decode cc pc = .ok (.new ik, 3)) (d3 : decode cc (pc + 3) = .ok (.dup, 1)) (d4 : decode cc (pc + 4) = .ok (.ldc_w is, 3)) (d6 : decode cc (pc + 7) = .ok (.invokespecial ic, 3)) (d9 : decode cc (pc + 10) = .ok (.athrow, 1))
    (hf : names.length + 3 < R.frames) (hl : 13 * (names.length + 1) + 43 ≤ R.locals) (hc : cells + 1 ≤ R.cells) (hs : slots + 6 ≤ R.slots) (hpost : post (.inr cls) ws) :
    W p l e R s m args below meth c H [] cells slots (gx_MQ below (gx_Q D cl tys A post) args s (cells + 1) (slots + 6) free) (F0 m pc ls []) := by
  refine W.newc hx hb hown (hts _ w1) (hts _ w2) (hts _ w3) rfl d0 hc hs (fun cC kC h1 h2 h3 h4 => ?_)
  refine W.eq (g2 := F0 m (pc + 3) ls [.ref H.size]) rfl ?_
  refine lv_dup hx hb d3 rfl ?_
  refine gx_ldcw hx hb hown (hts _ w4) d4 (fun q => ?_)
  exact gx_throwI hx hb htr hml hown hts hne hlocks hP hK hD hsz h1 h2 (by rw [Array.getElem?_push_size]) w5 hcls hnames d6 d9 hf hl hpost
end GXT
