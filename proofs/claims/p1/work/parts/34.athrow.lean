/-! OWN ROWS: athrow; 'throw new X(text)' wherever it stands in a method without handlers. -/
section GXA
variable {p : Program} {l : Launch} {e : Env} {R : Room} {s : State} {m : MethodId} {args : Array Value} {below : List Frame} {meth : Method} {c : Code} {H : Heap} {locs : List Loc} {cells slots : Nat} {Q : State → Prop} {cc : ByteArray}
theorem gx_athrow {pc x : Nat} {ls : Array Slot} {rest : List Value} (hx : p.tables.exec = Jvm.exec) (hb : c.code = cc) (d : decode cc pc = .ok (.athrow, 1)) (k : gx_T p l e R s m args below meth c H locs cells slots Q (F0 m pc ls rest) x) : W p l e R s m args below meth c H locs cells slots Q (F0 m pc ls (.ref x :: rest)) := by
  intro T hT X
  obtain ⟨t, a1, b1⟩ := k T hT X
  subst hb
  refine ⟨t, ?_, b1⟩
  jvm_step X.here [hx, d, athrow.wp_sem]
  exact a1
theorem gx_thr {D : va_G} {cl : List vw_C} {tys : List (ClassId × FieldType)} {ws : va_W} {A : Nat → Prop} {post : Option Value ⊕ String → va_W → Prop} {own cls text : String} {ik is ic i1 pc mc ms : Nat} {b1 : ByteArray} {ls : Array Slot}
    (hx : p.tables.exec = Jvm.exec) (hb : c.code = cc) (htr : l.stackTraces = false) (hml : c.maxLocals = ls.size) (hown : s.vm.findClass own = some m.cls) (hts : ∀ w ∈ gx_all, w.before args s = true) (hne : c.exceptionTable.isEmpty = true) (hlocks : meth.locks = false)
    (hP : va_P D cl ws H) (hK : va_K D cl tys s) (hD : va_D A ws) (hS : va_S A s.heap H locs) (hA : ∀ q : Nat, s.heap.size ≤ q → A q) (hN : gx_NS A s)
    (w1 : Cond.classLink own ik cls ∈ gx_all) (w2 : Cond.instantiable cls 6 ∈ gx_all) (w3 : Cond.initialized cls ∈ gx_all) (w4 : Cond.stringRef own is text ∈ gx_all) (w5 : ∀ w ∈ gx_ca own ic cls i1 b1, w ∈ gx_all) (hfit : Bundle.fit cls = true)
    (g0 : decode b1 0 = .ok (.aload_n 0, 1)) (g1 : decode b1 1 = .ok (.aload_n 1, 1)) (g2 : decode b1 2 = .ok (.invokespecial i1, 3)) (g5 : decode b1 5 = .ok (.return_, 1))
    (d0 : decode cc pc = .ok (.new ik, 3)) (d3 : decode cc (pc + 3) = .ok (.dup, 1)) (d4 : decode cc (pc + 4) = .ok (.ldc is, 2)) (d6 : decode cc (pc + 6) = .ok (.invokespecial ic, 3)) (d9 : decode cc (pc + 9) = .ok (.athrow, 1))
    (hf : 6 ≤ R.frames) (hl : 82 ≤ R.locals) (hc : cells + 1 ≤ R.cells) (hs : slots + 6 ≤ R.slots) (hc2 : cells + 1 ≤ mc) (hs2 : slots + 6 ≤ ms) (hpost : post (.inr cls) ws) :
    W p l e R s m args below meth c H locs cells slots (gx_MQ below (gx_Q D cl tys A post) args s mc ms A) (F0 m pc ls []) := by
  refine W.newc hx hb hown (hts _ w1) (hts _ w2) (hts _ w3) rfl d0 hc hs (fun cC kC h1 h2 h3 h4 => ?_)
  refine W.eq (g2 := F0 m (pc + 3) ls [.ref H.size]) rfl ?_
  refine lv_dup hx hb d3 rfl ?_
  refine gx_ldc hx hb hown (hts _ w4) d4 (fun q => ?_)
  have hS1 : va_S A s.heap (H.push { cls := cC, slots := kC.instanceTypes.map defaultValue, vm := .none }) locs := ⟨by rw [Array.size_push]; exact Nat.le_succ_of_le hS.1, fun z z1 z2 => by rw [Array.getElem?_push_lt (Nat.lt_of_lt_of_le z1 hS.1), ← Array.getElem?_eq_getElem]; exact hS.2.1 z z1 z2, hS.2.2⟩
  refine gx_ctor (cls := cls) hx hb htr hml hown hts hN hS1 (hA _ hS.1) hS.1 h1 h2 (by rw [Array.getElem?_push_size]) w5 hfit g0 g1 g2 g5 d6 hf (by simpa using hl) (fun H1 locs1 hce hz hk hS2 => ?_)
  obtain ⟨ce, e1, e2, e3⟩ := hce
  refine gx_athrow hx hb d9 ?_
  refine gx_widenT (k := mc) (n := ms) hc2 hs2 ?_
  have hP1 : va_P D cl ws H1 := hP.kept (fun k q9 hq9 => by
    have hlt := (hP k q9 hq9).lt
    rw [hk _ (Nat.ne_of_lt hlt), Array.getElem?_push_lt hlt, ← Array.getElem?_eq_getElem])
  exact gx_leave (fun x hx9 => by rw [Array.isEmpty_iff.mp hne] at hx9; cases hx9) hlocks (fun t ht hW => ⟨.inr cls, ws, ⟨H.size, ce, rfl, by rw [ht]; exact e1, e2, by rw [hW.alike.findClass, e3]; exact h1⟩, hpost, by rw [ht]; exact hP1, va_K.moved hW.alike hK, hD, hS2.F ht⟩) hS2.2.2
theorem gx_thrw {D : va_G} {cl : List vw_C} {tys : List (ClassId × FieldType)} {ws : va_W} {A : Nat → Prop} {post : Option Value ⊕ String → va_W → Prop} {own cls text : String} {ik is ic i1 pc mc ms : Nat} {b1 : ByteArray} {ls : Array Slot}
    (hx : p.tables.exec = Jvm.exec) (hb : c.code = cc) (htr : l.stackTraces = false) (hml : c.maxLocals = ls.size) (hown : s.vm.findClass own = some m.cls) (hts : ∀ w ∈ gx_all, w.before args s = true) (hne : c.exceptionTable.isEmpty = true) (hlocks : meth.locks = false)
    (hP : va_P D cl ws H) (hK : va_K D cl tys s) (hD : va_D A ws) (hS : va_S A s.heap H locs) (hA : ∀ q : Nat, s.heap.size ≤ q → A q) (hN : gx_NS A s)
    (w1 : Cond.classLink own ik cls ∈ gx_all) (w2 : Cond.instantiable cls 6 ∈ gx_all) (w3 : Cond.initialized cls ∈ gx_all) (w4 : Cond.stringRef own is text ∈ gx_all) (w5 : ∀ w ∈ gx_ca own ic cls i1 b1, w ∈ gx_all) (hfit : Bundle.fit cls = true)
    (g0 : decode b1 0 = .ok (.aload_n 0, 1)) (g1 : decode b1 1 = .ok (.aload_n 1, 1)) (g2 : decode b1 2 = .ok (.invokespecial i1, 3)) (g5 : decode b1 5 = .ok (.return_, 1))
    (d0 : decode cc pc = .ok (.new ik, 3)) (d3 : decode cc (pc + 3) = .ok (.dup, 1)) (d4 : decode cc (pc + 4) = .ok (.ldc_w is, 3)) (d6 : decode cc (pc + 7) = .ok (.invokespecial ic, 3)) (d9 : decode cc (pc + 10) = .ok (.athrow, 1))
    (hf : 6 ≤ R.frames) (hl : 82 ≤ R.locals) (hc : cells + 1 ≤ R.cells) (hs : slots + 6 ≤ R.slots) (hc2 : cells + 1 ≤ mc) (hs2 : slots + 6 ≤ ms) (hpost : post (.inr cls) ws) :
    W p l e R s m args below meth c H locs cells slots (gx_MQ below (gx_Q D cl tys A post) args s mc ms A) (F0 m pc ls []) := by
  refine W.newc hx hb hown (hts _ w1) (hts _ w2) (hts _ w3) rfl d0 hc hs (fun cC kC h1 h2 h3 h4 => ?_)
  refine W.eq (g2 := F0 m (pc + 3) ls [.ref H.size]) rfl ?_
  refine lv_dup hx hb d3 rfl ?_
  refine gx_ldcw hx hb hown (hts _ w4) d4 (fun q => ?_)
  have hS1 : va_S A s.heap (H.push { cls := cC, slots := kC.instanceTypes.map defaultValue, vm := .none }) locs := ⟨by rw [Array.size_push]; exact Nat.le_succ_of_le hS.1, fun z z1 z2 => by rw [Array.getElem?_push_lt (Nat.lt_of_lt_of_le z1 hS.1), ← Array.getElem?_eq_getElem]; exact hS.2.1 z z1 z2, hS.2.2⟩
  refine gx_ctor (cls := cls) hx hb htr hml hown hts hN hS1 (hA _ hS.1) hS.1 h1 h2 (by rw [Array.getElem?_push_size]) w5 hfit g0 g1 g2 g5 d6 hf (by simpa using hl) (fun H1 locs1 hce hz hk hS2 => ?_)
  obtain ⟨ce, e1, e2, e3⟩ := hce
  refine gx_athrow hx hb d9 ?_
  refine gx_widenT (k := mc) (n := ms) hc2 hs2 ?_
  have hP1 : va_P D cl ws H1 := hP.kept (fun k q9 hq9 => by
    have hlt := (hP k q9 hq9).lt
    rw [hk _ (Nat.ne_of_lt hlt), Array.getElem?_push_lt hlt, ← Array.getElem?_eq_getElem])
  exact gx_leave (fun x hx9 => by rw [Array.isEmpty_iff.mp hne] at hx9; cases hx9) hlocks (fun t ht hW => ⟨.inr cls, ws, ⟨H.size, ce, rfl, by rw [ht]; exact e1, e2, by rw [hW.alike.findClass, e3]; exact h1⟩, hpost, by rw [ht]; exact hP1, va_K.moved hW.alike hK, hD, hS2.F ht⟩) hS2.2.2
end GXA
