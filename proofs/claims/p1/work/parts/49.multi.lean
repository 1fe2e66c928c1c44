/-! OWN ROW: new int[4][4096] (multianewarray of two dimensions): five cells are made; they are not kept in the world. -/
section GXM1
variable {E : CtlPost} {e : Env} {d : Bool} {acts : List Action} {s : State}
theorem gx_wna {c comp : ClassId} {k : Class} {ty : FieldType} {len : Nat} {init : Value} (hk : s.vm.classes[c]? = some k) (hkind : k.kind = .array comp ty) (hl : len ≤ e.platform.arrayLengthLimit) (hh : len * componentBytes ty ≤ e.platform.maxHeapBytes) (hfit : fits ty init = true) (hdef : init.isDefault = true) {Q : Addr → Pre}
    (h1 : s.heap.size < e.platform.maxCells) (h2 : s.slotsUsed + len ≤ e.platform.maxSlots) (hq : Q s.heap.size d acts (s.pushCell { cls := c, slots := Array.replicate len init, vm := .none })) : wp (Jvm.newArray c len init) Q E e d acts s := by
  have hf : ∀ i v, (Array.replicate len init)[i]? = some v → s.fitsSlot c .none i v = true := by
    intro i v hv
    rw [Array.getElem?_replicate] at hv
    split at hv
    · cases hv
      simp [State.fitsSlot, State.slotType?, hk, hkind, hfit]
    · cases hv
  have ha : allocActs (Array.replicate len init) s.heap.size acts = acts := by
    unfold allocActs
    rw [if_pos (by rw [Array.all_replicate]; split <;> simp [hdef])]
  simp only [Jvm.newArray, Jvm.arrayFits, wp_bind', _root_.Jvm.W.ask, _root_.Jvm.W.ite, if_neg (Nat.not_lt.mpr hl), wp_pure', _root_.Jvm.W.theClass, hk, hkind, if_neg (Nat.not_lt.mpr hh), _root_.Jvm.W.alloc, _root_.Jvm.W.stop, Option.some.injEq, exists_eq_left', Array.size_replicate, ha]
  rw [if_neg (by omega)]
  exact ⟨h1, h2, hf, hq⟩
end GXM1
theorem gx_over {args : Array Value} {s : State} (h : (Cond.arrayOver (.array .int)).before args s = true) :
    ∃ comp c k, s.vm.findClass "[I" = some comp ∧ s.vm.classes[c]? = some k ∧ k.kind = .array comp (.array .int) ∧ s.vm.findClass "[[I" = some c := by
  have h : (Cond.arrayOver (.array .int)).holds args s none s [] = true := h
  simp only [Cond.holds, Cond.value, beq_iff_eq] at h
  have en : (FieldType.array .int).toString = "[I" := by decide +kernel
  rw [en] at h
  cases hc : s.vm.findClass "[I" with
  | none => simp [hc] at h
  | some comp =>
    simp only [hc, Option.bind_some, Option.bind_eq_some_iff, Option.map_eq_some_iff] at h
    obtain ⟨c, hi, k, hk, hb⟩ := h
    obtain ⟨hlt, hp, -⟩ := Array.findIdx?_eq_some_iff_getElem.mp hi
    have hkk : s.vm.classes[c] = k := (Array.getElem?_eq_some_iff.mp hk).2
    rw [hkk] at hp
    cases hkind : k.kind with
    | array component ty =>
      rw [hkind] at hb hp
      simp at hb hp
      exact ⟨comp, c, k, rfl, hk, by rw [hkind, hp, hb.1], hb.2⟩
    | _ => rw [hkind] at hb; simp at hb
/-- the outer array behind i turns; the state behind i turns -/
def gx_O (cA : ClassId) (a : Nat) : Nat → Cell
  | 0 => { cls := cA, slots := Array.replicate 4 .null, vm := .none }
  | i + 1 => (gx_O cA a i).setSlot i (.ref (a + 1 + i))
def gx_U (S : State) (cA comp : ClassId) : Nat → State
  | 0 => S.pushCell (gx_O cA S.heap.size 0)
  | i + 1 => ((gx_U S cA comp i).pushCell { cls := comp, slots := Array.replicate 4096 (.int 0), vm := .none }).setCell S.heap.size (gx_O cA S.heap.size (i + 1))
theorem gx_Of (cA : ClassId) (a : Nat) : ∀ i, (gx_O cA a i).cls = cA ∧ (gx_O cA a i).vm = .none ∧ (gx_O cA a i).slots.size = 4
  | 0 => ⟨rfl, rfl, by simp [gx_O]⟩
  | i + 1 => by
    obtain ⟨h1, h2, h3⟩ := gx_Of cA a i
    exact ⟨by simp [gx_O, Cell.setSlot, h1], by simp [gx_O, Cell.setSlot, h2], by simp [gx_O, Cell.setSlot, h3]⟩
theorem gx_Uf (S : State) (cA comp : ClassId) : ∀ i, (gx_U S cA comp i).heap.size = S.heap.size + 1 + i ∧ (gx_U S cA comp i).heap[S.heap.size]? = some (gx_O cA S.heap.size i) ∧ (gx_U S cA comp i).vm = S.vm ∧ (gx_U S cA comp i).slotsUsed = S.slotsUsed + 4 + i * 4096 ∧ ∀ z : Nat, z < S.heap.size → (gx_U S cA comp i).heap[z]? = S.heap[z]?
  | 0 => ⟨by simp [gx_U, State.pushCell], by simp [gx_U, State.pushCell], rfl, by simp [gx_U, gx_O, State.pushCell], fun z hz => by show (S.heap.push _)[z]? = _; rw [Array.getElem?_push_lt hz, ← Array.getElem?_eq_getElem]⟩
  | i + 1 => by
    obtain ⟨h1, h2, h3, h4, h5⟩ := gx_Uf S cA comp i
    have hlt : S.heap.size < (gx_U S cA comp i).heap.size := by omega
    refine ⟨?_, ?_, ?_, ?_, fun z hz => ?_⟩
    · simp [gx_U, State.setCell, State.pushCell, h1]; omega
    · show (((gx_U S cA comp i).heap.push _).setIfInBounds S.heap.size _)[S.heap.size]? = _
      rw [Array.getElem?_setIfInBounds_self_of_lt (by rw [Array.size_push]; omega)]
    · show (gx_U S cA comp i).vm = S.vm
      exact h3
    · simp [gx_U, State.setCell, State.pushCell, h4]; omega
    · show (((gx_U S cA comp i).heap.push _).setIfInBounds S.heap.size _)[z]? = _
      rw [Array.getElem?_setIfInBounds_ne (by omega), Array.getElem?_push_lt (by omega), ← Array.getElem?_eq_getElem]
      exact h5 z hz
theorem gx_Ut (S : State) (f : JFrame) (cA comp : ClassId) : ∀ i, gx_U (S.setTop f) cA comp i = (gx_U S cA comp i).setTop f
  | 0 => rfl
  | i + 1 => by simp only [gx_U, gx_Ut S f cA comp i, State.heap_setTop, State.pushCell_setTop, State.setCell_setTop]
section GXM3
variable {E : CtlPost} {e : Env} {d : Bool} {acts : List Action} {s : State}
theorem gx_make1 {c comp : ClassId} {k : Class} (hk : s.vm.classes[c]? = some k) (hkind : k.kind = .array comp .int) (hl : 4096 ≤ e.platform.arrayLengthLimit) (hh : 16384 ≤ e.platform.maxHeapBytes) {Q : Addr → Pre}
    (h1 : s.heap.size < e.platform.maxCells) (h2 : s.slotsUsed + 4096 ≤ e.platform.maxSlots) (hq : Q s.heap.size d acts (s.pushCell { cls := c, slots := Array.replicate 4096 (.int 0), vm := .none })) : wp (multianewarray.make c [4096]) Q E e d acts s := by
  have e1 : ((4096 : Int32) < 0) = False := by simp
  have e2 : (4096 : Int32).toNatClampNeg = 4096 := by decide +kernel
  have e3 : defaultValue .int = Value.int 0 := rfl
  simp only [multianewarray.make, wp_bind', e1, if_false, wp_pure', _root_.Jvm.W.theClass, hk, hkind, Option.some.injEq, exists_eq_left', e2, e3]
  exact gx_wna hk hkind hl (by simpa [componentBytes] using hh) rfl rfl h1 h2 hq
theorem gx_make {cA comp cc2 : ClassId} {kA kC : Class} (hkA : s.vm.classes[cA]? = some kA) (hkindA : kA.kind = .array comp (.array .int)) (hkC : s.vm.classes[comp]? = some kC) (hkindC : kC.kind = .array cc2 .int) (hl : 4096 ≤ e.platform.arrayLengthLimit) (hh : 16384 ≤ e.platform.maxHeapBytes) {Q : Addr → Pre}
    (h1 : s.heap.size + 5 ≤ e.platform.maxCells) (h2 : s.slotsUsed + 16388 ≤ e.platform.maxSlots) (hq : ∀ d' acts', Q s.heap.size d' acts' (gx_U s cA comp 4)) : wp (multianewarray.make cA [4, 4096]) Q E e d acts s := by
  have e1 : ((4 : Int32) < 0) = False := by simp
  have e2 : (4 : Int32).toNatClampNeg = 4 := by decide +kernel
  have e3 : ((4 : Int32) == 0) = false := by decide
  rw [multianewarray.make]
  simp only [wp_bind', e1, if_false, wp_pure', _root_.Jvm.W.theClass, hkA, hkindA, Option.some.injEq, exists_eq_left', e2, e3, Bool.false_eq_true]
  refine gx_wna hkA hkindA (by omega) (by show 4 * 4 ≤ _; omega) rfl rfl (by omega) (by omega) ?_
  simp only [Std.Legacy.Range.forIn_eq_forIn_range', wp_bind', wp_pure']
  refine wp_forIn_inv (fun rest s' => ∃ i, rest = List.range' i (4 - i) 1 ∧ i ≤ 4 ∧ s' = gx_U s cA comp i) _ _ ⟨0, rfl, by omega, rfl⟩ ?_ ?_
  · rintro x rest s' d' acts' Q' ⟨i, hr, hi, rfl⟩ hq'
    obtain ⟨f1, f2, f3, f4, f5⟩ := gx_Uf s cA comp i
    have hi4 : i < 4 := by
      rcases Nat.lt_or_ge i 4 with h | h
      · exact h
      · have : 4 - i = 0 := by omega
        rw [this] at hr; simp at hr
    have e4 : 4 - i = (4 - (i + 1)) + 1 := by omega
    rw [e4, List.range'_succ] at hr
    injection hr with hx hr
    subst hx
    simp only [wp_bind', wp_pure']
    refine gx_make1 (by rw [f3]; exact hkC) hkindC hl hh (by rw [f1]; omega) (by rw [f4]; omega) ?_
    have hcell : ((gx_U s cA comp x).pushCell { cls := comp, slots := Array.replicate 4096 (.int 0), vm := .none }).heap[s.heap.size]? = some (gx_O cA s.heap.size x) := by
      show ((gx_U s cA comp x).heap.push _)[s.heap.size]? = _
      rw [Array.getElem?_push_lt (by omega), ← Array.getElem?_eq_getElem]; exact f2
    obtain ⟨g1, g2, g3⟩ := gx_Of cA s.heap.size x
    simp only [wp_bind', wp_pure', _root_.Jvm.W.writeLoc]
    refine ⟨gx_O cA s.heap.size x, hcell, by rw [g2]; simp, by rw [g3]; exact hi4, ?_, ?_⟩
    · rw [g1, g2]
      have hv : ((gx_U s cA comp x).pushCell { cls := comp, slots := Array.replicate 4096 (.int 0), vm := .none }).vm.classes[cA]? = some kA := by
        show (gx_U s cA comp x).vm.classes[cA]? = some kA
        rw [f3]; exact hkA
      have hv2 : (gx_U s cA comp x).vm.classes[cA]? = some kA := hv
      simp [State.fitsSlot, State.slotType?, hv2, hkindA, fits]
    · refine hq' _ _ _ ⟨x + 1, hr, by omega, ?_⟩
      rw [f1]
      rfl
  · rintro s' d' acts' ⟨i, hr, hi, rfl⟩
    have : i = 4 := by
      rcases Nat.lt_or_ge i 4 with h | h
      · have e4 : 4 - i = (4 - (i + 1)) + 1 := by omega
        rw [e4, List.range'_succ] at hr; cases hr
      · omega
    subst this
    exact hq _ _
end GXM3
section GXM2
variable {p : Program} {l : Launch} {e : Env} {R : Room} {s : State} {m : MethodId} {args : Array Value} {below : List Frame} {meth : Method} {c : Code} {H : Heap} {locs : List Loc} {cells slots : Nat} {Q : State → Prop} {cc : ByteArray} {D : va_G} {cl : List vw_C} {ws : va_W} {A : Nat → Prop}
theorem gx_US {T : State} (X : Stand p l e R s m args below meth c T locs cells slots) (cA comp : ClassId) : ∀ i, ∃ locs2, Stand p l e R s m args below meth c (gx_U T cA comp i) locs2 (cells + 1 + i) (slots + 4 + i * 4096) ∧ ∀ x ∈ locs2, x ∈ locs ∨ x.base = T.heap.size
  | 0 => ⟨locs, by
      have h := X.pushed (gx_O cA T.heap.size 0)
      rw [(gx_Of cA T.heap.size 0).2.2] at h
      simpa [gx_U] using h, fun x hx => Or.inl hx⟩
  | i + 1 => by
    obtain ⟨locs2, Xi, hl⟩ := gx_US X cA comp i
    obtain ⟨h1, h2, -, -, -⟩ := gx_Uf T cA comp i
    have hcell : ((gx_U T cA comp i).pushCell { cls := comp, slots := Array.replicate 4096 (.int 0), vm := .none }).heap[T.heap.size]? = some (gx_O cA T.heap.size i) := by
      show ((gx_U T cA comp i).heap.push _)[T.heap.size]? = _
      rw [Array.getElem?_push_lt (by omega), ← Array.getElem?_eq_getElem]; exact h2
    have h := (Xi.pushed { cls := comp, slots := Array.replicate 4096 (.int 0), vm := .none }).stored hcell i (.ref (T.heap.size + 1 + i))
    refine ⟨locs2 ++ [{ base := T.heap.size, slot := i }], ?_, fun x hx => ?_⟩
    · have e3 : slots + 4 + (i + 1) * 4096 = slots + 4 + i * 4096 + (Array.replicate 4096 (Value.int 0)).size := by rw [Array.size_replicate]; omega
      rw [e3]
      exact h
    · rcases List.mem_append.mp hx with h9 | h9
      · exact hl x h9
      · right; rw [List.mem_singleton.mp h9]
set_option maxHeartbeats 1000000 in
theorem gx_multi {own : String} {index pc : Nat} {ls : Array Slot} {rest : List Value} (hx : p.tables.exec = Jvm.exec) (hb : c.code = cc) (hown : s.vm.findClass own = some m.cls) (hts : ∀ w ∈ gx_all, w.before args s = true) (w1 : Cond.classLink own index "[[I" ∈ gx_all) (w2 : Cond.arrayOver (.array .int) ∈ gx_all) (w3 : Cond.arrayClass .int ∈ gx_all)
    (hP : va_P D cl ws H) (hS : va_S A s.heap H locs) (hA : ∀ q : Nat, s.heap.size ≤ q → A q) (hd : decode cc pc = .ok (.multianewarray index 2, 4)) (hc5 : cells + 5 ≤ R.cells) (hs5 : slots + 16388 ≤ R.slots)
    (kk : ∀ (q : Nat) (H1 : Heap) (locs1 : List Loc), va_P D cl ws H1 → va_S A s.heap H1 locs1 → W p l e R s m args below meth c H1 locs1 (cells + 5) (slots + 16388) Q (F0 m (pc + 4) ls (.ref q :: rest))) :
    W p l e R s m args below meth c H locs cells slots Q (F0 m pc ls (.int 4096 :: .int 4 :: rest)) := by
  intro T hT X
  subst hb
  have hpl : e.platform.magicAccessors = ({} : Platform).magicAccessors := by rw [X.admits.platform]
  obtain ⟨comp, cA, kA, hcomp, hkA, hkindA, hnameA⟩ := gx_over (hts _ w2)
  obtain ⟨comp2, kC, cc2, hcomp2, hkC, hkindC⟩ := Cond.arrayClass_spec (hts _ w3)
  have ecomp : comp2 = comp := Option.some.inj (hcomp2.symm.trans (show s.vm.findClass ("[" ++ FieldType.int.toString) = some comp from (show ("[" ++ FieldType.int.toString) = "[I" by decide +kernel) ▸ hcomp))
  subst ecomp
  obtain ⟨c0, hfc0, hcl⟩ := Cond.classLink_spec hown (hts _ w1) e.platform hpl
  cases hnameA.symm.trans hfc0
  have hG := resolveClass_links e.toSetting (X.warmed.classLinks hcl)
  obtain ⟨dk, _, _, _, hdk, _, _, _, _, _, _, hopen⟩ := hcl.here
  have hwarm := X.warmed.noted hdk hopen (State.rightAt_cls hcl)
  generalize T.vm.noted m.cls index (.cls cA) = vm₁ at hG hwarm
  obtain ⟨kA1, hkA1, heA⟩ := hwarm.alike.2.2 _ _ hkA
  obtain ⟨kC1, hkC1, heC⟩ := hwarm.alike.2.2 _ _ hkC
  have hkiA : kA1.kind = .array comp2 (.array .int) := by rw [heA]; exact hkindA
  have hkiC : kC1.kind = .array cc2 .int := by rw [heC]; exact hkindC
  have X₁ := X.noted hwarm
  obtain ⟨hr1, hr2⟩ := X.heapHas hc5 hs5
  have hlim : (4096 : Nat) ≤ e.platform.arrayLengthLimit := by rw [Launch.admits_arrayLengthLimit X.admits]; decide
  have hhp : (16384 : Nat) ≤ e.platform.maxHeapBytes := by rw [Launch.admits_maxHeapBytes X.admits]; decide
  -- the state behind
  suffices key : ∀ (T2 : State) (locs2 : List Loc), Stand p l e R s m args below meth c T2 locs2 (cells + 5) (slots + 16388) → (∀ z : Nat, z < T.heap.size → T2.heap[z]? = T.heap[z]?) → T.heap.size ≤ T2.heap.size → (∀ x ∈ locs2, x ∈ locs ∨ x.base = T.heap.size) →
      ∃ t, Steps p.tables e below (T2.setTop (F0 m (pc + 4) ls (.ref T.heap.size :: rest))) t ∧ Q t by
    obtain ⟨locs2, X2, hl2⟩ := gx_US X₁ cA comp2 4
    obtain ⟨f1, f2, f3, f4, f5⟩ := gx_Uf (T.setVm vm₁) cA comp2 4
    have eN1 : slots + 4 + 4 * 4096 = slots + 16388 := by omega
    have eN2 : cells + 1 + 4 = cells + 5 := by omega
    rw [eN1, eN2] at X2
    obtain ⟨t, a1, b1⟩ := key _ locs2 X2 f5 (by rw [f1]; show T.heap.size ≤ T.heap.size + 1 + 4; omega) hl2
    refine ⟨t, ?_, b1⟩
    jvm_step X.here [hx, hd]
    simp only [multianewarray.sem, wp_bind', _root_.Jvm.W.resolveClassAt_links (State.method?_setTop (F0 m pc ls (.int 4096 :: .int 4 :: rest)) X.here.top) hG]
    rw [_root_.Jvm.W.popN, if_neg (by decide)]
    refine ⟨F0 m pc ls (.int 4096 :: .int 4 :: rest), State.topJava?_setTop' (s := T.setVm vm₁) _ X.here.top, [.int 4, .int 4096], rest, rfl, rfl, ?_⟩
    simp only [List.mapM_cons, List.mapM_nil, wp_bind', wp_pure']
    have eS : ((T.setTop (F0 m pc ls (.int 4096 :: .int 4 :: rest))).setVm vm₁).setTop (F0 m pc ls rest) = (T.setVm vm₁).setTop (F0 m pc ls rest) := by
      show ((T.setVm vm₁).setTop _).setTop _ = _
      rw [State.setTop_setTop]
    rw [eS]
    have hr1' : ((T.setVm vm₁).setTop (F0 m pc ls rest)).heap.size + 5 ≤ e.platform.maxCells := by
      show T.heap.size + 5 ≤ _
      omega
    have hr2' : ((T.setVm vm₁).setTop (F0 m pc ls rest)).slotsUsed + 16388 ≤ e.platform.maxSlots := by
      show T.slotsUsed + 16388 ≤ _
      omega
    refine gx_make (kA := kA1) (kC := kC1) (by show vm₁.classes[cA]? = _; exact hkA1) hkiA (by show vm₁.classes[comp2]? = _; exact hkC1) hkiC hlim hhp hr1' hr2' fun d' acts' => ?_
    simp only [wp_bind', _root_.Jvm.W.mark, _root_.Jvm.W.pushRef, gx_Ut]
    refine ⟨F0 m pc ls rest, State.topJava?_setTop' (s := gx_U (T.setVm vm₁) cA comp2 4) _ X2.here.top, fun acts9 => ?_⟩
    generalize gx_U (T.setVm vm₁) cA comp2 4 = S9 at a1 ⊢
    simp only [jvm, F0, State.setTop_setTop, State.modifyTopJava_setTop] at a1 ⊢
    exact a1
  intro T2 locs2 X2 hold hsz hl2
  refine kk T.heap.size T2.heap locs2 (hP.kept (fun k q9 hq9 => ?_)) ⟨Nat.le_trans hS.1 (by rw [← hT]; exact hsz), fun z z1 z2 => ?_, fun x hx9 => ?_⟩ T2 rfl X2
  · rw [hold _ (by rw [hT]; exact (hP k q9 hq9).lt), hT]
  · rw [hold z (by rw [hT]; exact Nat.lt_of_lt_of_le z1 hS.1), hT]
    exact hS.2.1 z z1 z2
  · rcases hl2 x hx9 with h | h
    · exact hS.2.2 x h
    · rw [h, hT]; exact hA _ hS.1
end GXM2

theorem kO_ints : Cond.arrayOver (.array .int) ∈ gx_all := gx_in 964 (by decide +kernel)
