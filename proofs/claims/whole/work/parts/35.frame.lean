/-! OWN ROWS: a method's frame around a call; the world list read and written. -/
section GXF
variable {p : Program} {l : Launch} {e : Env} {R : Room} {s : State} {m : MethodId} {args : Array Value} {below : List Frame} {meth : Method} {c : Code} {H : Heap} {locs : List Loc} {cells slots : Nat} {Q : State → Prop} {cc : ByteArray}
variable {D : va_G} {cl : List vw_C} {tys : List (ClassId × FieldType)} {ws : va_W} {A : Nat → Prop} {z : Nat}
theorem gx_az (hD : va_D (fun q => z ≤ q) ws) (hz : z ≤ s.heap.size) : ∀ q : Nat, va_A ws s.heap.size q → z ≤ q := by
  intro q h
  rcases h with ⟨k, e9, h⟩ | h
  · exact hD.2 k _ h
  · exact Nat.le_trans hz h
theorem gx_pre (hz : z ≤ s.heap.size) (hP : va_P D cl ws H) (hK : va_K D cl tys s) (hD : va_D A ws) (hY : gx_Y z D s) (hS : va_S A s.heap H locs) (hAz : ∀ q : Nat, A q → z ≤ q) (av : List Value) :
    ∀ U : State, U.heap = H → s.WarmedH U.vm → gx_P z H.size D cl tys ws av av.toArray U := fun U hU hW =>
  ⟨rfl, by rw [hU], by rw [hU]; exact Nat.le_trans hz hS.1, by rw [hU]; exact hP, va_K.moved hW.alike hK, hD.weaken (fun _ _ _ h => hAz _ h),
    hY.moved hW (fun q hq => by rw [hU]; exact hS.2.1 q (Nat.lt_of_lt_of_le hq hz) (fun h => Nat.not_le_of_gt hq (hAz q h)))⟩
theorem gx_fr {av : Array Value} {post : Option Value ⊕ String → va_W → Prop} {o : Outcome} {st t : State} {L : List Loc} (h0 : st.heap = H) (hW : s.WarmedH t.vm) (hQ : gx_Q D cl tys (va_A ws H.size) post av st o t) (hL : ∀ q ∈ L, va_A ws H.size q.base) (hD : va_D A ws) (hS : va_S A s.heap H locs) (hA : ∀ q : Nat, s.heap.size ≤ q → A q) :
    ∃ (r : Option Value ⊕ String) (ws1 : va_W), gx_o r o t ∧ post r ws1 ∧ va_P D cl ws1 t.heap ∧ va_K D cl tys s ∧ va_D A ws1 ∧ va_S A s.heap t.heap (locs ++ L) := by
  obtain ⟨r, ws1, ho, hp, hP1, hK1, hD1, hF1, hF2⟩ := hQ
  have hfree : ∀ q : Nat, va_A ws H.size q → A q := by
    intro q h
    rcases h with ⟨k, e9, h⟩ | h
    · exact hD.2 k _ h
    · exact hA q (Nat.le_trans hS.1 h)
  rw [h0] at hF1 hF2
  refine ⟨r, ws1, ho, hp, hP1, va_K.moved hW.alike.symm hK1, hD1.weaken (fun _ _ _ h => hfree _ h), Nat.le_trans hS.1 hF1, fun q h1 h2 => ?_, fun q hq => ?_⟩
  · rw [hF2 q (Nat.lt_of_lt_of_le h1 hS.1) (fun h => h2 (hfree q h))]
    exact hS.2.1 q h1 h2
  · rcases List.mem_append.mp hq with h | h
    · exact hS.2.2 q h
    · exact hfree _ (hL q h)
theorem gx_back {av : Array Value} {post : Option Value ⊕ String → va_W → Prop} {v : Option Value} {st t : State} {L : List Loc} (h0 : st.heap = H) (hW : s.WarmedH t.vm) (hQ : gx_Q D cl tys (va_A ws H.size) post av st (.returned v) t) (hL : ∀ q ∈ L, va_A ws H.size q.base) (hD : va_D A ws) (hS : va_S A s.heap H locs) (hA : ∀ q : Nat, s.heap.size ≤ q → A q) :
    ∃ ws1 : va_W, post (.inl v) ws1 ∧ va_P D cl ws1 t.heap ∧ va_K D cl tys s ∧ va_D A ws1 ∧ va_S A s.heap t.heap (locs ++ L) := by
  obtain ⟨r, ws1, ho, hp, h1, h2, h3, h4⟩ := gx_fr h0 hW hQ hL hD hS hA
  cases r with
  | inl v9 =>
    have ho : Outcome.returned v = .returned v9 := ho
    cases ho
    exact ⟨ws1, hp, h1, h2, h3, h4⟩
  | inr E =>
    obtain ⟨x, ce, ho, -⟩ := ho
    cases ho
theorem gx_backT {av : Array Value} {post : Option Value ⊕ String → va_W → Prop} {x : Nat} {st t : State} {L : List Loc} (h0 : st.heap = H) (hW : s.WarmedH t.vm) (hQ : gx_Q D cl tys (va_A ws H.size) post av st (.threw x) t) (hL : ∀ q ∈ L, va_A ws H.size q.base) (hD : va_D A ws) (hS : va_S A s.heap H locs) (hA : ∀ q : Nat, s.heap.size ≤ q → A q) :
    ∃ (E : String) (ws1 : va_W) (ce : Cell), post (.inr E) ws1 ∧ (t.heap[x]? = some ce ∧ ce.vm = .none ∧ s.vm.findClass E = some ce.cls) ∧ va_P D cl ws1 t.heap ∧ va_K D cl tys s ∧ va_D A ws1 ∧ va_S A s.heap t.heap (locs ++ L) := by
  obtain ⟨r, ws1, ho, hp, h1, h2, h3, h4⟩ := gx_fr h0 hW hQ hL hD hS hA
  cases r with
  | inl v9 =>
    have ho : Outcome.threw x = .returned v9 := ho
    cases ho
  | inr E =>
    obtain ⟨x9, ce, ho, g1, g2, g3⟩ := ho
    cases ho
    exact ⟨E, ws1, ce, hp, ⟨g1, g2, by rw [← hW.alike.findClass]; exact g3⟩, h1, h2, h3, h4⟩
/-- an exception of a callee that no handler here takes -/
theorem gx_pass {post : Option Value ⊕ String → va_W → Prop} {pc x mc ms : Nat} {ls : Array Slot} {st : List Value} {E : String} {ce : Cell} (hne : c.exceptionTable.isEmpty = true) (hlocks : meth.locks = false) (hce : H[x]? = some ce ∧ ce.vm = .none ∧ s.vm.findClass E = some ce.cls) (hP : va_P D cl ws H) (hK : va_K D cl tys s) (hD : va_D A ws) (hS : va_S A s.heap H locs)
    (h1 : cells ≤ mc) (h2 : slots ≤ ms) (hpost : post (.inr E) ws) : gx_T p l e R s m args below meth c H locs cells slots (gx_MQ below (gx_Q D cl tys A post) args s mc ms A) (F0 m pc ls st) x :=
  gx_widenT h1 h2 (gx_leave (fun y hy => by rw [Array.isEmpty_iff.mp hne] at hy; cases hy) hlocks (fun t ht hW => ⟨.inr E, ws, ⟨x, ce, rfl, by rw [ht]; exact hce.1, hce.2.1, by rw [hW.alike.findClass]; exact hce.2.2⟩, hpost, by rw [ht]; exact hP, va_K.moved hW.alike hK, hD, hS.F ht⟩) hS.2.2)
/-- a return, by what the kit's rows for returns ask -/
theorem gx_post {post : Option Value ⊕ String → va_W → Prop} {v : Option Value} (hP : va_P D cl ws H) (hK : va_K D cl tys s) (hD : va_D A ws) (hS : va_S A s.heap H locs) (hpost : post (.inl v) ws) : ∀ t : State, t.heap = H → s.WarmedH t.vm → gx_Q D cl tys A post args s (.returned v) t :=
  fun t ht hW => ⟨.inl v, ws, rfl, hpost, by rw [ht]; exact hP, va_K.moved hW.alike hK, hD, hS.F ht⟩
theorem gx_topi {x y : Int32} {pc : Nat} {ls : Array Slot} {rest : List Value} (h : x = y) (k : W p l e R s m args below meth c H locs cells slots Q (F0 m pc ls (.int y :: rest))) : W p l e R s m args below meth c H locs cells slots Q (F0 m pc ls (.int x :: rest)) := by rw [h]; exact k
theorem gx_recv {a q0 ci : Nat} {q : vw_C} {fs : List Value} (hK : va_K D cl tys s) (hP : va_P D cl ws H) (hc : cl[ci]? = some q) (he : ws[q0]? = some (a, .inr (ci, fs))) : ∃ cell : Cell, H[a]? = some cell ∧ cell.vm.isStatics = false ∧ s.vm.findClass q.1 = some cell.cls := va_recv hK hP hc he
end GXF
theorem gs_self {ws : va_W} {k : Nat} {x y : Nat × va_E} (h : ws[k]? = some x) : (ws.set k y)[k]? = some y := by rw [List.getElem?_set_self (List.getElem?_eq_some_iff.mp h).1]
theorem gs_ne {ws : va_W} {k j : Nat} {x y : Nat × va_E} (hne : j ≠ k) (h : ws[k]? = some x) : (ws.set j y)[k]? = some x := by rw [List.getElem?_set_ne hne]; exact h
theorem gs_app {ws : va_W} {k : Nat} {x y : Nat × va_E} (h : ws[k]? = some x) : (ws ++ [y])[k]? = some x := by rw [List.getElem?_append_left (List.getElem?_eq_some_iff.mp h).1]; exact h
theorem gs_last {ws : va_W} {n : Nat} {y : Nat × va_E} (h : ws.length = n) : (ws ++ [y])[n]? = some y := by subst h; simp
theorem gs_len {ws : va_W} {n : Nat} {y : Nat × va_E} (h : ws.length = n) : (ws ++ [y]).length = n + 1 := by simp [h]
theorem gs_lens {ws : va_W} {n k : Nat} {y : Nat × va_E} (h : ws.length = n) : (ws.set k y).length = n := by simp [h]
/-- all places but those of ks are as they were -/
def gx_u (ws ws1 : va_W) (ks : List Nat) : Prop := ws1.length = ws.length ∧ ∀ k : Nat, k ∉ ks → ws1[k]? = ws[k]?
theorem gx_u.rf {ws : va_W} {ks : List Nat} : gx_u ws ws ks := ⟨rfl, fun _ _ => rfl⟩
theorem gx_u.put {ws ws1 : va_W} {ks : List Nat} {k : Nat} {x : Nat × va_E} (h : gx_u ws ws1 ks) (hk : k ∈ ks) : gx_u ws (ws1.set k x) ks :=
  ⟨by rw [List.length_set]; exact h.1, fun j hj => by
    have hne : k ≠ j := fun e => hj (by rw [← e]; exact hk)
    rw [List.getElem?_set_ne hne]; exact h.2 j hj⟩
theorem gx_u.call {ws ws1 ws2 : va_W} {ks ks1 : List Nat} (h : gx_u ws ws1 ks) (h1 : gx_u ws1 ws2 ks1) (hs : ∀ k ∈ ks1, k ∈ ks) : gx_u ws ws2 ks :=
  ⟨h1.1.trans h.1, fun j hj => (h1.2 j (fun e => hj (hs j e))).trans (h.2 j hj)⟩
