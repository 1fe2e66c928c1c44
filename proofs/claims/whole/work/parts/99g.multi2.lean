/-! mergeDocs in the world: new int[4][4096] as five places of the list; the tables of nine array types -/
/-- the outer array and its four rows behind the world -/
def gx_w5 (cI cN : ClassId) (q0 q1 q2 q3 q4 : Nat) (ws : va_W) : va_W := ((((ws ++ [((q0, Sum.inl (cN, 4, Sum.inr (Sum.inr (Sum.inr (Sum.inr (va_up (va_up (va_up (va_up (fun _ => none) 0 (some q1)) 1 (some q2)) 2 (some q3)) 3 (some q4))))))) : Nat × va_E)]) ++ [((q1, Sum.inl (cI, 4096, Sum.inl (fun _ => 0))) : Nat × va_E)]) ++ [((q2, Sum.inl (cI, 4096, Sum.inl (fun _ => 0))) : Nat × va_E)]) ++ [((q3, Sum.inl (cI, 4096, Sum.inl (fun _ => 0))) : Nat × va_E)]) ++ [((q4, Sum.inl (cI, 4096, Sum.inl (fun _ => 0))) : Nat × va_E)]
theorem gx_O4 (cA : ClassId) (a : Nat) : gx_O cA a 4 = arrV cA 4 (fun j => va_rf (va_up (va_up (va_up (va_up (fun _ => none) 0 (some (a + 1))) 1 (some (a + 2))) 2 (some (a + 3))) 3 (some (a + 4)) j)) := by
  show ((((gx_O cA a 0).setSlot 0 (.ref (a + 1 + 0))).setSlot 1 (.ref (a + 1 + 1))).setSlot 2 (.ref (a + 1 + 2))).setSlot 3 (.ref (a + 1 + 3)) = _
  have h0 : gx_O cA a 0 = arrV cA 4 (fun _ => Value.null) := arrV_new cA 4 .null
  rw [h0, arrV_store, arrV_store, arrV_store, arrV_store]
  congr 1
  funext j
  by_cases j3 : j = 3
  · subst j3
    rfl
  · by_cases j2 : j = 2
    · subst j2
      rfl
    · by_cases j1 : j = 1
      · subst j1
        rfl
      · by_cases j0 : j = 0
        · subst j0
          rfl
        · simp [updV, va_up, j0, j1, j2, j3, va_rf]
theorem gx_Ur (S : State) (cA comp : ClassId) : ∀ i j, j < i → (gx_U S cA comp i).heap[S.heap.size + 1 + j]? = some { cls := comp, slots := Array.replicate 4096 (.int 0), vm := .none }
  | 0, j, h => absurd h (by omega)
  | i + 1, j, h => by
    obtain ⟨h1, -⟩ := gx_Uf S cA comp i
    show (((gx_U S cA comp i).heap.push _).setIfInBounds S.heap.size _)[S.heap.size + 1 + j]? = _
    rw [Array.getElem?_setIfInBounds_ne (by omega)]
    by_cases e : j = i
    · subst e
      rw [show S.heap.size + 1 + j = (gx_U S cA comp j).heap.size by omega, Array.getElem?_push_size]
    · rw [Array.getElem?_push_lt (by omega), ← Array.getElem?_eq_getElem]
      exact gx_Ur S cA comp i j (by omega)
theorem va_P1 {D : va_G} {cl : List vw_C} {q : Nat × va_E} {H : Heap} (h : va_at D cl q H) : va_P D cl [q] H := fun k x hx => by
  match k, hx with
  | 0, hx => cases hx; exact h
theorem va_Dp {A : Nat → Prop} {ws : va_W} {a : Nat} {x : va_E} (hD : va_D A ws) (hlt : ∀ (k : Nat) (x : Nat × va_E), ws[k]? = some x → x.1 < a) (hA : A a) : va_D A (ws ++ [(a, x)]) ∧ ∀ (k : Nat) (y : Nat × va_E), (ws ++ [(a, x)])[k]? = some y → y.1 < a + 1 := by
  have key : ∀ (k : Nat) (q : Nat × va_E), (ws ++ [(a, x)])[k]? = some q → (ws[k]? = some q ∧ q.1 < a) ∨ (k = ws.length ∧ q.1 = a) := by
    intro k q hk
    by_cases hl : k < ws.length
    · rw [List.getElem?_append_left hl] at hk
      exact Or.inl ⟨hk, hlt k q hk⟩
    · rw [List.getElem?_append_right (by omega)] at hk
      have hz : k - ws.length < 1 := (List.getElem?_eq_some_iff.mp hk).1
      rw [show k - ws.length = 0 by omega] at hk
      cases hk
      exact Or.inr ⟨by omega, rfl⟩
  refine ⟨⟨fun i j p q hi hj e => ?_, fun k q hk => ?_⟩, fun k y hk => ?_⟩
  · rcases key i p hi with ⟨h1, h2⟩ | ⟨h1, h2⟩
    · rcases key j q hj with ⟨h3, h4⟩ | ⟨h3, h4⟩
      · exact hD.1 i j p q h1 h3 e
      · omega
    · rcases key j q hj with ⟨h3, h4⟩ | ⟨h3, h4⟩
      · omega
      · omega
  · rcases key k q hk with ⟨h1, h2⟩ | ⟨h1, h2⟩
    · exact hD.2 k q h1
    · rw [h2]; exact hA
  · rcases key k y hk with ⟨h1, h2⟩ | ⟨h1, h2⟩ <;> omega
section GXM4
variable {p : Program} {l : Launch} {e : Env} {R : Room} {s : State} {m : MethodId} {args : Array Value} {below : List Frame} {meth : Method} {c : Code} {H : Heap} {locs : List Loc} {cells slots : Nat} {Q : State → Prop} {cc : ByteArray} {D : va_G} {cl : List vw_C} {ws : va_W} {A : Nat → Prop} {tys : List (ClassId × FieldType)} {cI cN : ClassId}
set_option maxHeartbeats 1000000 in
theorem gx_multi2 {own : String} {index pc : Nat} {ls : Array Slot} {rest : List Value} (hx : p.tables.exec = Jvm.exec) (hb : c.code = cc) (hown : s.vm.findClass own = some m.cls) (hts : ∀ w ∈ gx_all, w.before args s = true) (w1 : Cond.classLink own index "[[I" ∈ gx_all) (w2 : Cond.arrayOver (.array .int) ∈ gx_all) (w3 : Cond.arrayClass .int ∈ gx_all)
    (hK : va_K D cl tys s) (ht0 : tys[0]? = some ((cI, FieldType.int) : ClassId × FieldType)) (ht8 : tys[8]? = some ((cN, FieldType.array .int) : ClassId × FieldType)) (hP : va_P D cl ws H) (hD : va_D A ws) (hS : va_S A s.heap H locs) (hA : ∀ q : Nat, s.heap.size ≤ q → A q) (hd : decode cc pc = .ok (.multianewarray index 2, 4)) (hc5 : cells + 5 ≤ R.cells) (hs5 : slots + 16388 ≤ R.slots)
    (kk : ∀ (q0 q1 q2 q3 q4 : Nat) (H1 : Heap) (locs1 : List Loc), va_P D cl (gx_w5 cI cN q0 q1 q2 q3 q4 ws) H1 → va_D A (gx_w5 cI cN q0 q1 q2 q3 q4 ws) → va_S A s.heap H1 locs1 → W p l e R s m args below meth c H1 locs1 (cells + 5) (slots + 16388) Q (F0 m (pc + 4) ls (.ref q0 :: rest))) :
    W p l e R s m args below meth c H locs cells slots Q (F0 m pc ls (.int 4096 :: .int 4 :: rest)) := by
  intro T hT X
  subst hb
  have hpl : e.platform.magicAccessors = ({} : Platform).magicAccessors := by rw [X.admits.platform]
  obtain ⟨comp, cA, kA, hcomp, hkA, hkindA, hnameA⟩ := gx_over (hts _ w2)
  obtain ⟨comp2, kC, cc2, hcomp2, hkC, hkindC⟩ := Cond.arrayClass_spec (hts _ w3)
  have ecomp : comp2 = comp := Option.some.inj (hcomp2.symm.trans (show s.vm.findClass ("[" ++ FieldType.int.toString) = some comp from (show ("[" ++ FieldType.int.toString) = "[I" by decide +kernel) ▸ hcomp))
  subst ecomp
  obtain ⟨c0, hfc0, hcl⟩ := Cond.classLink_spec hown (hts _ w1) e.platform hpl
  cases hnameA.symm.trans hfc0
  have e8 : s.vm.findClass "[[I" = some cN := by
    have h8 : s.vm.findClass ("[" ++ (FieldType.array .int).toString) = some cN := (hK.2 8 _ ht8).2
    rw [show "[" ++ (FieldType.array .int).toString = "[[I" by decide +kernel] at h8
    exact h8
  have e0 : s.vm.findClass "[I" = some cI := by
    have h8 : s.vm.findClass ("[" ++ FieldType.int.toString) = some cI := (hK.2 0 _ ht0).2
    rw [show "[" ++ FieldType.int.toString = "[I" by decide +kernel] at h8
    exact h8
  have ecA : cA = cN := Option.some.inj (hnameA.symm.trans e8)
  have ecI : comp2 = cI := Option.some.inj (hcomp.symm.trans e0)
  have hG := resolveClass_links e.toSetting (X.warmed.classLinks hcl)
  obtain ⟨dk, _, _, _, hdk, _, _, _, _, _, _, hopen⟩ := hcl.here
  have hwarm := X.warmed.noted hdk hopen (State.rightAt_cls hcl)
  generalize T.vm.noted m.cls index (.cls cA) = vm₁ at hG hwarm
  obtain ⟨kA1, hkA1, heA⟩ := hwarm.alike.2.2 _ _ hkA
  obtain ⟨kC1, hkC1, heC⟩ := hwarm.alike.2.2 _ _ hkC
  have hkiA : kA1.kind = .array comp2 (.array .int) := by rw [heA]; exact hkindA
  have hkiC : kC1.kind = .array cc2 .int := by rw [heC]; exact hkindC
  have X₁ := X.noted hwarm
  obtain ⟨hr1, hr2⟩ := X.heapHas hc5 hs5
  have hlim : (4096 : Nat) ≤ e.platform.arrayLengthLimit := by rw [Launch.admits_arrayLengthLimit X.admits]; decide
  have hhp : (16384 : Nat) ≤ e.platform.maxHeapBytes := by rw [Launch.admits_maxHeapBytes X.admits]; decide
  -- the state behind
  suffices key : ∀ (T2 : State) (locs2 : List Loc), Stand p l e R s m args below meth c T2 locs2 (cells + 5) (slots + 16388) → (∀ z : Nat, z < T.heap.size → T2.heap[z]? = T.heap[z]?) → T2.heap.size = T.heap.size + 5 → T2.heap[T.heap.size]? = some (gx_O cA T.heap.size 4) → (∀ j : Nat, j < 4 → T2.heap[T.heap.size + 1 + j]? = some { cls := comp2, slots := Array.replicate 4096 (.int 0), vm := .none }) → (∀ x ∈ locs2, x ∈ locs ∨ x.base = T.heap.size) →
      ∃ t, Steps p.tables e below (T2.setTop (F0 m (pc + 4) ls (.ref T.heap.size :: rest))) t ∧ Q t by
    obtain ⟨locs2, X2, hl2⟩ := gx_US X₁ cA comp2 4
    obtain ⟨f1, f2, f3, f4, f5⟩ := gx_Uf (T.setVm vm₁) cA comp2 4
    have eN1 : slots + 4 + 4 * 4096 = slots + 16388 := by omega
    have eN2 : cells + 1 + 4 = cells + 5 := by omega
    rw [eN1, eN2] at X2
    obtain ⟨t, a1, b1⟩ := key _ locs2 X2 f5 (by rw [f1]; show T.heap.size + 1 + 4 = T.heap.size + 5; omega) f2 (gx_Ur (T.setVm vm₁) cA comp2 4) hl2
    refine ⟨t, ?_, b1⟩
    jvm_step X.here [hx, hd]
    simp only [multianewarray.sem, wp_bind', _root_.Jvm.W.resolveClassAt_links (State.method?_setTop (F0 m pc ls (.int 4096 :: .int 4 :: rest)) X.here.top) hG]
    rw [_root_.Jvm.W.popN, if_neg (by decide)]
    refine ⟨F0 m pc ls (.int 4096 :: .int 4 :: rest), State.topJava?_setTop' (s := T.setVm vm₁) _ X.here.top, [.int 4, .int 4096], rest, rfl, rfl, ?_⟩
    simp only [List.mapM_cons, List.mapM_nil, wp_bind', wp_pure']
    have eS : ((T.setTop (F0 m pc ls (.int 4096 :: .int 4 :: rest))).setVm vm₁).setTop (F0 m pc ls rest) = (T.setVm vm₁).setTop (F0 m pc ls rest) := by
      show ((T.setVm vm₁).setTop _).setTop _ = _
      rw [State.setTop_setTop]
    rw [eS]
    have hr1' : ((T.setVm vm₁).setTop (F0 m pc ls rest)).heap.size + 5 ≤ e.platform.maxCells := by
      show T.heap.size + 5 ≤ _
      omega
    have hr2' : ((T.setVm vm₁).setTop (F0 m pc ls rest)).slotsUsed + 16388 ≤ e.platform.maxSlots := by
      show T.slotsUsed + 16388 ≤ _
      omega
    refine gx_make (kA := kA1) (kC := kC1) (by show vm₁.classes[cA]? = _; exact hkA1) hkiA (by show vm₁.classes[comp2]? = _; exact hkC1) hkiC hlim hhp hr1' hr2' fun d' acts' => ?_
    simp only [wp_bind', _root_.Jvm.W.mark, _root_.Jvm.W.pushRef, gx_Ut]
    refine ⟨F0 m pc ls rest, State.topJava?_setTop' (s := gx_U (T.setVm vm₁) cA comp2 4) _ X2.here.top, fun acts9 => ?_⟩
    generalize gx_U (T.setVm vm₁) cA comp2 4 = S9 at a1 ⊢
    simp only [jvm, F0, State.setTop_setTop, State.modifyTopJava_setTop] at a1 ⊢
    exact a1
  intro T2 locs2 X2 hold hsz hout hrow hl2
  subst ecA
  subst ecI
  have hP1 : va_P D cl ws T2.heap := hP.kept (fun k q9 hq9 => by rw [hold _ (by rw [hT]; exact (hP k q9 hq9).lt), hT])
  have hlt : ∀ (k : Nat) (x : Nat × va_E), ws[k]? = some x → x.1 < T.heap.size := fun k x hx9 => by rw [hT]; exact (hP k x hx9).lt
  have hAq : ∀ j : Nat, A (T.heap.size + j) := fun j => hA _ (by rw [hT]; exact Nat.le_trans hS.1 (Nat.le_add_right _ _))
  refine kk T.heap.size (T.heap.size + 1) (T.heap.size + 2) (T.heap.size + 3) (T.heap.size + 4) T2.heap locs2 ?_ ?_ ⟨Nat.le_trans hS.1 (by rw [← hT, hsz]; omega), fun z z1 z2 => ?_, fun x hx9 => ?_⟩ T2 rfl X2
  · refine ((((hP1.app ?_).app ?_).app ?_).app ?_).app ?_
    · exact va_P1 (by
        show T2.heap[T.heap.size]? = some (vp_cell _ _)
        rw [hout, vp_cell_q, gx_O4])
    · exact va_P1 (by
        show T2.heap[T.heap.size + 1]? = some (vp_cell _ _)
        rw [show T.heap.size + 1 = T.heap.size + 1 + 0 from rfl, hrow 0 (by decide), vp_cell_i, arrV_new])
    · exact va_P1 (by
        show T2.heap[T.heap.size + 2]? = some (vp_cell _ _)
        rw [show T.heap.size + 2 = T.heap.size + 1 + 1 from rfl, hrow 1 (by decide), vp_cell_i, arrV_new])
    · exact va_P1 (by
        show T2.heap[T.heap.size + 3]? = some (vp_cell _ _)
        rw [show T.heap.size + 3 = T.heap.size + 1 + 2 from rfl, hrow 2 (by decide), vp_cell_i, arrV_new])
    · exact va_P1 (by
        show T2.heap[T.heap.size + 4]? = some (vp_cell _ _)
        rw [show T.heap.size + 4 = T.heap.size + 1 + 3 from rfl, hrow 3 (by decide), vp_cell_i, arrV_new])
  · have d0 := va_Dp hD hlt (x := Sum.inl (cA, 4, Sum.inr (Sum.inr (Sum.inr (Sum.inr (va_up (va_up (va_up (va_up (fun _ => none) 0 (some (T.heap.size + 1))) 1 (some (T.heap.size + 2))) 2 (some (T.heap.size + 3))) 3 (some (T.heap.size + 4)))))))) (hAq 0)
    have d1 := va_Dp d0.1 d0.2 (x := Sum.inl (comp2, 4096, Sum.inl (fun _ => 0))) (hAq 1)
    have d2 := va_Dp d1.1 d1.2 (x := Sum.inl (comp2, 4096, Sum.inl (fun _ => 0))) (hAq 2)
    have d3 := va_Dp d2.1 d2.2 (x := Sum.inl (comp2, 4096, Sum.inl (fun _ => 0))) (hAq 3)
    exact (va_Dp d3.1 d3.2 (x := Sum.inl (comp2, 4096, Sum.inl (fun _ => 0))) (hAq 4)).1
  · rw [hold z (by rw [hT]; exact Nat.lt_of_lt_of_le z1 hS.1), hT]
    exact hS.2.1 z z1 z2
  · rcases hl2 x hx9 with h | h
    · exact hS.2.2 x h
    · rw [h, hT]; exact hA _ hS.1
end GXM4
theorem gx_K1 {args : Array Value} {s : State} (hts : ∀ w ∈ gx_all, w.before args s = true) : ∃ (D : va_G) (cI cZ cF cM cR cV cJ cO cN : ClassId), va_K D classes [(cI, .int), (cZ, .boolean), (cF, .object "CommitLedger$LedgerFile"), (cM, .object "CommitLedger$Merge"), (cR, .object "CommitLedger$Reader"), (cV, .object "CommitLedgerModel$Version"), (cJ, .long), (cO, .object "java/lang/Object"), (cN, .array .int)] s ∧ gx_sT.eval args s none [] s = some (.ref (gx_av D)) ∧ gx_av D < s.heap.size := by
  obtain ⟨D, cI, cZ, cF, cM, cR, cV, cJ, cO, hK, h1, h2⟩ := gx_K0 hts
  obtain ⟨comp, cN, kN, f1, f2, f3, f4⟩ := gx_over (hts _ kO_ints)
  refine ⟨D, cI, cZ, cF, cM, cR, cV, cJ, cO, cN, ⟨hK.1, fun k q hk => ?_⟩, h1, h2⟩
  match k, hk with
  | 0, hk => exact hK.2 0 q hk
  | 1, hk => exact hK.2 1 q hk
  | 2, hk => exact hK.2 2 q hk
  | 3, hk => exact hK.2 3 q hk
  | 4, hk => exact hK.2 4 q hk
  | 5, hk => exact hK.2 5 q hk
  | 6, hk => exact hK.2 6 q hk
  | 7, hk => exact hK.2 7 q hk
  | 8, hk =>
    cases hk
    refine ⟨fun N z => ⟨(fun k h => by cases h), kN, f2, comp, f3⟩, ?_⟩
    show s.vm.findClass ("[" ++ (FieldType.array .int).toString) = some cN
    rw [show "[" ++ (FieldType.array .int).toString = "[[I" by decide +kernel]
    exact f4
  | k + 9, hk => simp at hk
