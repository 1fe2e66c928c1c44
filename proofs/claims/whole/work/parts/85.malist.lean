/-! ArrayList over maps: size, isEmpty, get, set, remove of the last; rows printed by own text programs, but for the first -/
theorem kW_FiObject : Cond.castable "CommitLedger$LedgerFile" "java/lang/Object" ∈ gx_all := gx_in 1319 (by decide +kernel)
theorem kW_mod : Cond.sameField "java/util/ArrayList" "java/util/AbstractList" "modCount" "I" ∈ gx_all := gx_in 84 (by decide +kernel)
theorem kW_FiFi : Cond.castable "CommitLedger$LedgerFile" "CommitLedger$LedgerFile" ∈ gx_all := gx_in 1307 (by decide +kernel)
section GZO
variable {p : Program} {l : Launch} {e : Env} {R : Room} {s : State} {m : MethodId} {args : Array Value} {below : List Frame} {meth : Method} {c : Code} {H : Heap} {locs : List Loc} {cells slots : Nat} {Q : State → Prop} {cc : ByteArray}
variable {D : va_G} {tys : List (ClassId × FieldType)} {h : gm_M} {A : Nat → Prop} {pc : Nat} {ls : Array Slot} {rest : List Value} {H0 : Heap} {a n0 : Nat}
/-- a file is stored in an array of objects -/
theorem gz_aastE (hx : p.tables.exec = Jvm.exec) (hb : c.code = cc) (hts : ∀ w ∈ gx_all, w.before args s = true) (hK : va_K D classes tys s) (Z : gz D A H0 h H locs) (t0 : Nat) {cA : ClassId} {n v : Nat} {vs : List Value} {f : Nat → Option Nat} (ha : h n0 = some (a, Sum.inl (cA, n, Sum.inr (Sum.inr (Sum.inr (Sum.inr f)))))) (ht : tys[t0]? = some (cA, FieldType.object "java/lang/Object")) {n1 : Nat} (hv : h n1 = some (v, Sum.inr (7, vs))) {i : Int32} {j : Nat} (hj : j < n) (hi : i = nI j) (hn : n < 2 ^ 31) (hdg : decode cc pc = .ok (.aastore, 1))
    (kk : ∀ (H1 : Heap) (locs1 : List Loc), gz D A H0 (gm_up h n0 (a, Sum.inl (cA, n, Sum.inr (Sum.inr (Sum.inr (Sum.inr (va_up f j (some v)))))))) H1 locs1 → W p l e R s m args below meth c H1 locs1 cells slots Q (F0 m (pc + 1) ls rest)) : W p l e R s m args below meth c H locs cells slots Q (F0 m pc ls (Value.ref v :: Value.int i :: Value.ref a :: rest)) := by
  subst hi
  obtain ⟨ws, h1, h2, h3, h4⟩ := Z
  obtain ⟨q0, hq⟩ := h1.1 _ _ ha
  obtain ⟨q1, hq1⟩ := h1.1 _ _ hv
  have ec : (nI j).toNatClampNeg = j := nI_clamp (by omega)
  exact va_astqO (r := ("CommitLedger$LedgerFile", F_Fi, 7)) hx hb hK h2 h3 h4 q0 t0 q1 7 hq ht (va_Nw.of rfl (hts _ kW_FiObject)) hq1 rfl (vp_in_nI hj hn) hdg (fun H1 locs1 a1 a2 a3 => by
    rw [ec] at a1 a2
    exact kk H1 locs1 ⟨_, h1.set ha hq, a1, a2, a3⟩)
theorem gz_aastN (hx : p.tables.exec = Jvm.exec) (hb : c.code = cc) (hK : va_K D classes tys s) (Z : gz D A H0 h H locs) (t0 : Nat) {cA : ClassId} {C : String} {n : Nat} {f : Nat → Option Nat} (ha : h n0 = some (a, Sum.inl (cA, n, Sum.inr (Sum.inr (Sum.inr (Sum.inr f)))))) (ht : tys[t0]? = some (cA, FieldType.object C)) {i : Int32} {j : Nat} (hj : j < n) (hi : i = nI j) (hn : n < 2 ^ 31) (hdg : decode cc pc = .ok (.aastore, 1))
    (kk : ∀ (H1 : Heap) (locs1 : List Loc), gz D A H0 (gm_up h n0 (a, Sum.inl (cA, n, Sum.inr (Sum.inr (Sum.inr (Sum.inr (va_up f j none))))))) H1 locs1 → W p l e R s m args below meth c H1 locs1 cells slots Q (F0 m (pc + 1) ls rest)) : W p l e R s m args below meth c H locs cells slots Q (F0 m pc ls (Value.null :: Value.int i :: Value.ref a :: rest)) := by
  subst hi
  obtain ⟨ws, h1, h2, h3, h4⟩ := Z
  obtain ⟨q0, hq⟩ := h1.1 _ _ ha
  have ec : (nI j).toNatClampNeg = j := nI_clamp (by omega)
  exact va_astqN hx hb hK h2 h3 h4 q0 t0 hq ht (vp_in_nI hj hn) hdg (fun H1 locs1 a1 a2 a3 => by
    rw [ec] at a1 a2
    exact kk H1 locs1 ⟨_, h1.set ha hq, a1, a2, a3⟩)
theorem gz_getR (hx : p.tables.exec = Jvm.exec) (hb : c.code = cc) {own ref C : String} {T : u_T} {N ci index : Nat} (hts : ∀ w ∈ gx_all, w.before args s = true) (hin : ∀ w ∈ u_ws C T N, w ∈ gx_all) (hown : s.vm.findClass own = some m.cls) (hK : va_K D classes tys s) (Z : gz D A H0 h H locs) {fs : List Value} (he : h n0 = some (a, Sum.inr (ci, fs))) (hc : classes[ci]? = some (C, T, N)) (k : Nat) (hk : k < N) (hlink : Cond.fieldLink own index ref (T k).2.1 (T k).2.2.1 ∈ gx_all) (hsf : Cond.sameField ref (T k).1 (T k).2.1 (T k).2.2.1 ∈ gx_all) {v : Value} (hv : fs[k]? = some v) (hdg : decode cc pc = .ok (.getfield index, 3))
    (kk : W p l e R s m args below meth c H locs cells slots Q (F0 m (pc + 3) ls (v :: rest))) : W p l e R s m args below meth c H locs cells slots Q (F0 m pc ls (Value.ref a :: rest)) := by
  obtain ⟨ws, h1, h2, h3, h4⟩ := Z
  obtain ⟨q0, hq⟩ := h1.1 _ _ he
  exact va_get hx hb hts hin hown hK h2 q0 hq hc k hk (hts _ hlink) (fun x h9 => u_same (hts _ hsf) x h9) hv hdg kk
theorem gz_putR (hx : p.tables.exec = Jvm.exec) (hb : c.code = cc) {own ref C : String} {T : u_T} {N ci index : Nat} (hts : ∀ w ∈ gx_all, w.before args s = true) (hin : ∀ w ∈ u_ws C T N, w ∈ gx_all) {ty0 : Nat → FieldType} (hty : ∀ k, k < N → parseFieldDescriptor (T k).2.2.1 = some (ty0 k)) (hnm : ∀ a, a < N → ∀ b, b < N → a ≠ b → (T a).2.1 ≠ (T b).2.1) (hown : s.vm.findClass own = some m.cls) (hK : va_K D classes tys s) (Z : gz D A H0 h H locs) {fs : List Value} (he : h n0 = some (a, Sum.inr (ci, fs))) (hc : classes[ci]? = some (C, T, N)) (k : Nat) (hk : k < N) (hlink : Cond.fieldLink own index ref (T k).2.1 (T k).2.2.1 ∈ gx_all) (hsf : Cond.sameField ref (T k).1 (T k).2.1 (T k).2.2.1 ∈ gx_all) (hfin : (T k).2.2.2 = false) {ty : FieldType} {v : Value} (hd : parseFieldDescriptor (T k).2.2.1 = some ty) (hn : narrow ty v = v) (hfit : fits ty v = true) (hl : k < fs.length) (hdg : decode cc pc = .ok (.putfield index, 3))
    (kk : ∀ (H1 : Heap) (locs1 : List Loc), gz D A H0 (gm_up h n0 (a, Sum.inr (ci, fs.set k v))) H1 locs1 → W p l e R s m args below meth c H1 locs1 cells slots Q (F0 m (pc + 3) ls rest)) : W p l e R s m args below meth c H locs cells slots Q (F0 m pc ls (v :: Value.ref a :: rest)) := by
  obtain ⟨ws, h1, h2, h3, h4⟩ := Z
  obtain ⟨q0, hq⟩ := h1.1 _ _ he
  exact va_put hx hb hts hin ty0 hty hnm hown hK h2 h3 h4 q0 hq hc k hk (hts _ hlink) (fun x h9 => u_same (hts _ hsf) x h9) hfin hd hn hfit hl hdg (fun H1 locs1 a1 a2 a3 => kk H1 locs1 ⟨_, h1.set he hq, a1, a2, a3⟩)
end GZO
set_option maxHeartbeats 4000000 in
set_option maxRecDepth 100000 in
theorem k_Preconditions_checkIndex (l : Launch) (htr : l.stackTraces = false) (D : va_G) (tys : List (ClassId × FieldType)) (z sz : Nat) (ws : va_W) (h : gm_M) (hM : gm_S h ws) (i0 : Nat) (c0 : Nat) (hi0 : i0 < c0) (hc0 : c0 < 2 ^ 31) : gx_Met l y_Preconditions_checkIndex [Cond.code y_Preconditions_checkIndex b_Preconditions_checkIndex 3 (some .int)] { frames := 1, cells := 0, slots := 0, locals := 12 } (gx_P z sz D classes tys ws [Value.int (nI i0), Value.int (nI c0), Value.null]) (gx_Q D classes tys (va_A ws sz) (gm_p (fun r h' => (r = Sum.inl (some (Value.int (nI i0))) ∧ h' = h)))) 0 0 (va_A ws sz) := by
  refine gx_ofW (cc := b_Preconditions_checkIndex) (maxL := 3) (ret := (some .int)) (by decide) rfl ?_
  intro p e s m args below meth c s₁ B hml hv
  obtain ⟨rfl, hsz, hz, hP, hK, hD0, hY⟩ := hv
  have hx := B.exec
  have hb := B.bytes
  have hr := B.returns
  have hts := hY.hts (#[Value.int (nI i0), Value.int (nI c0), Value.null] : Array Value)
  have hown : s.vm.findClass "jdk/internal/util/Preconditions" = some m.cls := findClass_of_methodNamed B.named
  have hlocks := B.notSynchronized
  have hne : c.exceptionTable.isEmpty = true := B.noHandlers (atoms_spec (ws := [Cond.code y_Preconditions_checkIndex b_Preconditions_checkIndex 3 (some .int)]) B.pre _ List.mem_cons_self)
  subst hsz
  have hAz := gx_az hD0 hz
  have hD := hD0.self (sz := s.heap.size)
  have hN := gx_ns hP
  have hA : ∀ q : Nat, s.heap.size ≤ q → va_A ws s.heap.size q := fun q h => Or.inr h
  generalize va_A ws s.heap.size = A at hD hN hA hAz ⊢
  generalize hPQ : (fun (r : Option Value ⊕ String) (h' : gm_M) => (r = Sum.inl (some (Value.int (nI i0))) ∧ h' = h)) = PQ
  have Z : gz D A s.heap h s.heap [] := ⟨ws, hM, hP, hD, va_S.rf⟩
  clear hP hD hM hD0
  have hU : gm_g h h [] := gm_g.rf
  have hl := lv_entry ([Value.int (nI i0), Value.int (nI c0), Value.null]) (n := 3) (Nat.le_of_ble_eq_true rfl)
  rw [lg_entry_eq]
  generalize (lg_sl ([Value.int (nI i0), Value.int (nI c0), Value.null]) ++ List.replicate (3 - (lg_sl ([Value.int (nI i0), Value.int (nI c0), Value.null])).length) Slot.unset).toArray = ls at hl ⊢
  have hl : lv_has ls 3 [(0, Value.int (nI i0)), (1, Value.int (nI c0)), (2, Value.null)] := hl
  refine lv_iload_n hx hb d_Preconditions_checkIndex_0 rfl (lv_at hl 0 rfl) ?_
  refine lv_if_lt (tgt := 9) hx hb d_Preconditions_checkIndex_1 (by decide) (fun c9 => absurd c9 (nI_pos (by omega))) (fun _ => ?_)
  refine lv_iload_n hx hb d_Preconditions_checkIndex_4 rfl (lv_at hl 0 rfl) ?_
  refine lv_iload_n hx hb d_Preconditions_checkIndex_5 rfl (lv_at hl 1 rfl) ?_
  refine lv_icmp_lt (tgt := 16) hx hb d_Preconditions_checkIndex_6 (by decide) (fun _ => ?_) (fun c9 => absurd (nI_lt hi0 (by omega)) c9)
  refine lv_iload_n hx hb d_Preconditions_checkIndex_16 rfl (lv_at hl 0 rfl) ?_
  exact gz_iret (v := nI i0) hx hb hr hlocks hK Z (by decide) (by decide) (by rw [← hPQ]; exact ⟨rfl, rfl⟩) d_Preconditions_checkIndex_17

set_option maxHeartbeats 4000000 in
set_option maxRecDepth 100000 in
theorem k_Objects_checkIndex (l : Launch) (htr : l.stackTraces = false) (D : va_G) (tys : List (ClassId × FieldType)) (z sz : Nat) (ws : va_W) (h : gm_M) (hM : gm_S h ws) (i0 : Nat) (c0 : Nat) (hi0 : i0 < c0) (hc0 : c0 < 2 ^ 31) : gx_Met l y_Objects_checkIndex [Cond.code y_Objects_checkIndex b_Objects_checkIndex 2 (some .int)] { frames := 2, cells := 0, slots := 0, locals := 34 } (gx_P z sz D classes tys ws [Value.int (nI i0), Value.int (nI c0)]) (gx_Q D classes tys (va_A ws sz) (gm_p (fun r h' => (r = Sum.inl (some (Value.int (nI i0))) ∧ h' = h)))) 0 0 (va_A ws sz) := by
  refine gx_ofW (cc := b_Objects_checkIndex) (maxL := 2) (ret := (some .int)) (by decide) rfl ?_
  intro p e s m args below meth c s₁ B hml hv
  obtain ⟨rfl, hsz, hz, hP, hK, hD0, hY⟩ := hv
  have hx := B.exec
  have hb := B.bytes
  have hr := B.returns
  have hts := hY.hts (#[Value.int (nI i0), Value.int (nI c0)] : Array Value)
  have hown : s.vm.findClass "java/util/Objects" = some m.cls := findClass_of_methodNamed B.named
  have hlocks := B.notSynchronized
  have hne : c.exceptionTable.isEmpty = true := B.noHandlers (atoms_spec (ws := [Cond.code y_Objects_checkIndex b_Objects_checkIndex 2 (some .int)]) B.pre _ List.mem_cons_self)
  subst hsz
  have hAz := gx_az hD0 hz
  have hD := hD0.self (sz := s.heap.size)
  have hN := gx_ns hP
  have hA : ∀ q : Nat, s.heap.size ≤ q → va_A ws s.heap.size q := fun q h => Or.inr h
  generalize va_A ws s.heap.size = A at hD hN hA hAz ⊢
  generalize hPQ : (fun (r : Option Value ⊕ String) (h' : gm_M) => (r = Sum.inl (some (Value.int (nI i0))) ∧ h' = h)) = PQ
  have Z : gz D A s.heap h s.heap [] := ⟨ws, hM, hP, hD, va_S.rf⟩
  clear hP hD hM hD0
  have hU : gm_g h h [] := gm_g.rf
  have hl := lv_entry ([Value.int (nI i0), Value.int (nI c0)]) (n := 2) (Nat.le_of_ble_eq_true rfl)
  rw [lg_entry_eq]
  generalize (lg_sl ([Value.int (nI i0), Value.int (nI c0)]) ++ List.replicate (2 - (lg_sl ([Value.int (nI i0), Value.int (nI c0)])).length) Slot.unset).toArray = ls at hl ⊢
  have hl : lv_has ls 2 [(0, Value.int (nI i0)), (1, Value.int (nI c0))] := hl
  refine lv_iload_n hx hb d_Objects_checkIndex_0 rfl (lv_at hl 0 rfl) ?_
  refine lv_iload_n hx hb d_Objects_checkIndex_1 rfl (lv_at hl 1 rfl) ?_
  refine lv_null hx hb d_Objects_checkIndex_2 ?_
  refine gz_call (ig := .invokestatic 105) (av := [Value.int (nI i0), Value.int (nI c0), Value.null]) Z (fun ws hM => k_Preconditions_checkIndex l htr D tys z _ ws h hM i0 c0 hi0 hc0) (gx_invS (As := [Value.int (nI i0), Value.int (nI c0), Value.null]) (rest := []) hx hb hown hts km_Objects_105 kS_Preconditions_checkIndex kN_Preconditions kc_Preconditions_checkIndex (by decide) (show (parseMethodDescriptor y_Preconditions_checkIndex.desc).map (fun d => d.parameters.length) = some 3 by decide +kernel) rfl rfl d_Objects_checkIndex_3) (gx_cw (z := 0) hts kc_Preconditions_checkIndex kN_Preconditions rfl rfl ⟨Nat.le_of_ble_eq_true rfl, Nat.le_of_ble_eq_true rfl⟩) hb hml hz hK hY hAz hA hl.1 (lv_room (Nat.le_of_ble_eq_true rfl)) d_Objects_checkIndex_3 ⟨Nat.le_of_ble_eq_true rfl, Nat.le_of_ble_eq_true rfl⟩ (fun v1 h2 H locs hp Z => ?_) (fun x1 E9 ce h2 H locs hp hce Z => ?_)
  · rcases hp with ⟨hv9, e_h2⟩
    cases hv9
    rw [e_h2] at Z
    refine W.eq (g2 := F0 m 6 ls [Value.int (nI i0)]) rfl ?_
    exact gz_iret (v := nI i0) hx hb hr hlocks hK Z (by decide) (by decide) (by rw [← hPQ]; exact ⟨rfl, rfl⟩) d_Objects_checkIndex_6
  · rcases hp with ⟨hv9, e_h2⟩
    cases hv9

set_option maxHeartbeats 4000000 in
set_option maxRecDepth 100000 in
theorem k_Al_size (l : Launch) (htr : l.stackTraces = false) (D : va_G) (tys : List (ClassId × FieldType)) (z sz : Nat) (ws : va_W) (h : gm_M) (hM : gm_S h ws) (n : Nat) (a : Nat) (c0 : Nat) (e0 : Value) (md : Int32) (f_n : h n = some ((a, Sum.inr (3, [e0, Value.int (nI c0), Value.int md])) : Nat × va_E)) : gx_Met l y_Al_size [Cond.code y_Al_size b_Al_size 1 (some .int)] { frames := 1, cells := 0, slots := 0, locals := 12 } (gx_P z sz D classes tys ws [Value.ref a]) (gx_Q D classes tys (va_A ws sz) (gm_p (fun r h' => (r = Sum.inl (some (Value.int (nI c0))) ∧ h' = h)))) 0 0 (va_A ws sz) := by
  refine gx_ofW (cc := b_Al_size) (maxL := 1) (ret := (some .int)) (by decide) rfl ?_
  intro p e s m args below meth c s₁ B hml hv
  obtain ⟨rfl, hsz, hz, hP, hK, hD0, hY⟩ := hv
  have hx := B.exec
  have hb := B.bytes
  have hr := B.returns
  have hts := hY.hts (#[Value.ref a] : Array Value)
  have hown : s.vm.findClass "java/util/ArrayList" = some m.cls := findClass_of_methodNamed B.named
  have hlocks := B.notSynchronized
  have hne : c.exceptionTable.isEmpty = true := B.noHandlers (atoms_spec (ws := [Cond.code y_Al_size b_Al_size 1 (some .int)]) B.pre _ List.mem_cons_self)
  subst hsz
  have hAz := gx_az hD0 hz
  have hD := hD0.self (sz := s.heap.size)
  have hN := gx_ns hP
  have hA : ∀ q : Nat, s.heap.size ≤ q → va_A ws s.heap.size q := fun q h => Or.inr h
  generalize va_A ws s.heap.size = A at hD hN hA hAz ⊢
  generalize hPQ : (fun (r : Option Value ⊕ String) (h' : gm_M) => (r = Sum.inl (some (Value.int (nI c0))) ∧ h' = h)) = PQ
  have Z : gz D A s.heap h s.heap [] := ⟨ws, hM, hP, hD, va_S.rf⟩
  clear hP hD hM hD0
  have hU : gm_g h h [] := gm_g.rf
  have hl := lv_entry ([Value.ref a]) (n := 1) (Nat.le_of_ble_eq_true rfl)
  rw [lg_entry_eq]
  generalize (lg_sl ([Value.ref a]) ++ List.replicate (1 - (lg_sl ([Value.ref a])).length) Slot.unset).toArray = ls at hl ⊢
  have hl : lv_has ls 1 [(0, Value.ref a)] := hl
  refine lv_aload_n hx hb d_Al_size_0 rfl (lv_at hl 0 rfl) ?_
  refine gz_get (ci := 3) (v := Value.int (nI c0)) (C := "java/util/ArrayList") (T := F_Al) (N := 3) hx hb hts i_Al hown hK Z f_n rfl 1 (by decide) kf_Al_48 rfl d_Al_size_1 ?_
  exact gz_iret (v := nI c0) hx hb hr hlocks hK Z (by decide) (by decide) (by rw [← hPQ]; exact ⟨rfl, rfl⟩) d_Al_size_4

set_option maxHeartbeats 4000000 in
set_option maxRecDepth 100000 in
theorem k_Al_isEmpty (l : Launch) (htr : l.stackTraces = false) (D : va_G) (tys : List (ClassId × FieldType)) (z sz : Nat) (ws : va_W) (h : gm_M) (hM : gm_S h ws) (n : Nat) (a : Nat) (c0 : Nat) (e0 : Value) (md : Int32) (f_n : h n = some ((a, Sum.inr (3, [e0, Value.int (nI c0), Value.int md])) : Nat × va_E)) : gx_Met l y_Al_isEmpty [Cond.code y_Al_isEmpty b_Al_isEmpty 1 (some .boolean)] { frames := 1, cells := 0, slots := 0, locals := 12 } (gx_P z sz D classes tys ws [Value.ref a]) (gx_Q D classes tys (va_A ws sz) (gm_p (fun r h' => (r = Sum.inl (some (Value.int 1)) ∧ h' = h ∧ (nI c0 = 0)) ∨ (r = Sum.inl (some (Value.int 0)) ∧ h' = h ∧ (¬ nI c0 = 0))))) 0 0 (va_A ws sz) := by
  refine gx_ofW (cc := b_Al_isEmpty) (maxL := 1) (ret := (some .boolean)) (by decide) rfl ?_
  intro p e s m args below meth c s₁ B hml hv
  obtain ⟨rfl, hsz, hz, hP, hK, hD0, hY⟩ := hv
  have hx := B.exec
  have hb := B.bytes
  have hr := B.returns
  have hts := hY.hts (#[Value.ref a] : Array Value)
  have hown : s.vm.findClass "java/util/ArrayList" = some m.cls := findClass_of_methodNamed B.named
  have hlocks := B.notSynchronized
  have hne : c.exceptionTable.isEmpty = true := B.noHandlers (atoms_spec (ws := [Cond.code y_Al_isEmpty b_Al_isEmpty 1 (some .boolean)]) B.pre _ List.mem_cons_self)
  subst hsz
  have hAz := gx_az hD0 hz
  have hD := hD0.self (sz := s.heap.size)
  have hN := gx_ns hP
  have hA : ∀ q : Nat, s.heap.size ≤ q → va_A ws s.heap.size q := fun q h => Or.inr h
  generalize va_A ws s.heap.size = A at hD hN hA hAz ⊢
  generalize hPQ : (fun (r : Option Value ⊕ String) (h' : gm_M) => (r = Sum.inl (some (Value.int 1)) ∧ h' = h ∧ (nI c0 = 0)) ∨ (r = Sum.inl (some (Value.int 0)) ∧ h' = h ∧ (¬ nI c0 = 0))) = PQ
  have Z : gz D A s.heap h s.heap [] := ⟨ws, hM, hP, hD, va_S.rf⟩
  clear hP hD hM hD0
  have hU : gm_g h h [] := gm_g.rf
  have hl := lv_entry ([Value.ref a]) (n := 1) (Nat.le_of_ble_eq_true rfl)
  rw [lg_entry_eq]
  generalize (lg_sl ([Value.ref a]) ++ List.replicate (1 - (lg_sl ([Value.ref a])).length) Slot.unset).toArray = ls at hl ⊢
  have hl : lv_has ls 1 [(0, Value.ref a)] := hl
  refine lv_aload_n hx hb d_Al_isEmpty_0 rfl (lv_at hl 0 rfl) ?_
  refine gz_get (ci := 3) (v := Value.int (nI c0)) (C := "java/util/ArrayList") (T := F_Al) (N := 3) hx hb hts i_Al hown hK Z f_n rfl 1 (by decide) kf_Al_48 rfl d_Al_isEmpty_1 ?_
  refine lv_if_ne (tgt := 11) hx hb d_Al_isEmpty_4 (by decide) (fun c4_1 => ?_) (fun c4_1 => ?_)
  · refine lv_iconst (v := 0) hx hb d_Al_isEmpty_11 (by decide) ?_
    exact gz_zret (v := 0) hx hb hr hlocks hK Z (by decide) (by decide) (rfl) (by rw [← hPQ]; exact Or.inr (⟨rfl, rfl, c4_1⟩)) d_Al_isEmpty_12
  · refine lv_iconst (v := 1) hx hb d_Al_isEmpty_7 (by decide) ?_
    refine lv_goto (tgt := 12) hx hb d_Al_isEmpty_8 (by decide) ?_
    exact gz_zret (v := 1) hx hb hr hlocks hK Z (by decide) (by decide) (rfl) (by rw [← hPQ]; exact Or.inl ⟨rfl, rfl, c4_1⟩) d_Al_isEmpty_12

set_option maxHeartbeats 4000000 in
set_option maxRecDepth 100000 in
theorem k_Al_elementData (l : Launch) (htr : l.stackTraces = false) (D : va_G) (tys : List (ClassId × FieldType)) (z sz : Nat) (ws : va_W) (h : gm_M) (hM : gm_S h ws) (cO : ClassId) (n : Nat) (a : Nat) (na : Nat) (b : Nat) (c0 : Nat) (cp : Nat) (md : Int32) (g : Nat → Option Nat) (i0 : Nat) (x : Nat) (P : Nat → Prop) (F : Nat → Nat → Nat) (f_n : h n = some ((a, Sum.inr (3, [Value.ref b, Value.int (nI c0), Value.int md])) : Nat × va_E)) (f_na : h na = some ((b, Sum.inl (cO, cp, Sum.inr (Sum.inr (Sum.inr (Sum.inr g))))) : Nat × va_E)) (ht7 : tys[7]? = some ((cO, FieldType.object "java/lang/Object") : ClassId × FieldType)) (fam : gf_F P F h) (hcp : cp ≤ 200000) (hcc : c0 ≤ cp) (hnn : n ≠ na) (hi0 : i0 < cp) (hgx : g i0 = some x) (hx9 : P x) : gx_Met l y_Al_elementData [Cond.code y_Al_elementData b_Al_elementData 2 (some (.object "java/lang/Object"))] { frames := 1, cells := 0, slots := 0, locals := 12 } (gx_P z sz D classes tys ws [Value.ref a, Value.int (nI i0)]) (gx_Q D classes tys (va_A ws sz) (gm_p (fun r h' => (r = Sum.inl (some (Value.ref x)) ∧ h' = h)))) 0 0 (va_A ws sz) := by
  refine gx_ofW (cc := b_Al_elementData) (maxL := 2) (ret := (some (.object "java/lang/Object"))) (by decide) rfl ?_
  intro p e s m args below meth c s₁ B hml hv
  obtain ⟨rfl, hsz, hz, hP, hK, hD0, hY⟩ := hv
  have hx := B.exec
  have hb := B.bytes
  have hr := B.returns
  have hts := hY.hts (#[Value.ref a, Value.int (nI i0)] : Array Value)
  have hown : s.vm.findClass "java/util/ArrayList" = some m.cls := findClass_of_methodNamed B.named
  have hlocks := B.notSynchronized
  have hne : c.exceptionTable.isEmpty = true := B.noHandlers (atoms_spec (ws := [Cond.code y_Al_elementData b_Al_elementData 2 (some (.object "java/lang/Object"))]) B.pre _ List.mem_cons_self)
  subst hsz
  have hAz := gx_az hD0 hz
  have hD := hD0.self (sz := s.heap.size)
  have hN := gx_ns hP
  have hA : ∀ q : Nat, s.heap.size ≤ q → va_A ws s.heap.size q := fun q h => Or.inr h
  generalize va_A ws s.heap.size = A at hD hN hA hAz ⊢
  generalize hPQ : (fun (r : Option Value ⊕ String) (h' : gm_M) => (r = Sum.inl (some (Value.ref x)) ∧ h' = h)) = PQ
  have Z : gz D A s.heap h s.heap [] := ⟨ws, hM, hP, hD, va_S.rf⟩
  clear hP hD hM hD0
  have hU : gm_g h h [] := gm_g.rf
  have hl := lv_entry ([Value.ref a, Value.int (nI i0)]) (n := 2) (Nat.le_of_ble_eq_true rfl)
  rw [lg_entry_eq]
  generalize (lg_sl ([Value.ref a, Value.int (nI i0)]) ++ List.replicate (2 - (lg_sl ([Value.ref a, Value.int (nI i0)])).length) Slot.unset).toArray = ls at hl ⊢
  have hl : lv_has ls 2 [(0, Value.ref a), (1, Value.int (nI i0))] := hl
  refine lv_aload_n hx hb d_Al_elementData_0 rfl (lv_at hl 0 rfl) ?_
  refine gz_get (ci := 3) (v := Value.ref b) (C := "java/util/ArrayList") (T := F_Al) (N := 3) hx hb hts i_Al hown hK Z f_n rfl 0 (by decide) kf_Al_9 rfl d_Al_elementData_1 ?_
  refine lv_iload_n hx hb d_Al_elementData_4 rfl (lv_at hl 1 rfl) ?_
  refine gz_aald (v := Value.ref x) (j := i0) hx hb hK Z 7 f_na ht7 (hi0) (rfl) (by omega) (by rw [hgx]; rfl) d_Al_elementData_5 ?_
  obtain ⟨ws9, hM9, hP9, hD9, hS9⟩ := Z
  exact gx_ret (W.aret (v := Value.ref x) hx hb hr (Or.inl ⟨_, rfl⟩) (Or.inr ⟨_, rfl⟩) (gx_post hP9 hK hD9 hS9 ⟨h, hM9, by rw [← hPQ]; exact ⟨rfl, rfl⟩⟩) hS9.2.2 d_Al_elementData_6)

set_option maxHeartbeats 4000000 in
set_option maxRecDepth 100000 in
theorem k_Al_get (l : Launch) (htr : l.stackTraces = false) (D : va_G) (tys : List (ClassId × FieldType)) (z sz : Nat) (ws : va_W) (h : gm_M) (hM : gm_S h ws) (cO : ClassId) (n : Nat) (a : Nat) (na : Nat) (b : Nat) (c0 : Nat) (cp : Nat) (md : Int32) (g : Nat → Option Nat) (i0 : Nat) (x : Nat) (P : Nat → Prop) (F : Nat → Nat → Nat) (f_n : h n = some ((a, Sum.inr (3, [Value.ref b, Value.int (nI c0), Value.int md])) : Nat × va_E)) (f_na : h na = some ((b, Sum.inl (cO, cp, Sum.inr (Sum.inr (Sum.inr (Sum.inr g))))) : Nat × va_E)) (ht7 : tys[7]? = some ((cO, FieldType.object "java/lang/Object") : ClassId × FieldType)) (fam : gf_F P F h) (hcp : cp ≤ 200000) (hcc : c0 ≤ cp) (hnn : n ≠ na) (hi0 : i0 < c0) (hgx : g i0 = some x) (hx9 : P x) : gx_Met l y_Al_get [Cond.code y_Al_get b_Al_get 2 (some (.object "java/lang/Object"))] { frames := 3, cells := 0, slots := 0, locals := 55 } (gx_P z sz D classes tys ws [Value.ref a, Value.int (nI i0)]) (gx_Q D classes tys (va_A ws sz) (gm_p (fun r h' => (r = Sum.inl (some (Value.ref x)) ∧ h' = h)))) 0 0 (va_A ws sz) := by
  refine gx_ofW (cc := b_Al_get) (maxL := 2) (ret := (some (.object "java/lang/Object"))) (by decide) rfl ?_
  intro p e s m args below meth c s₁ B hml hv
  obtain ⟨rfl, hsz, hz, hP, hK, hD0, hY⟩ := hv
  have hx := B.exec
  have hb := B.bytes
  have hr := B.returns
  have hts := hY.hts (#[Value.ref a, Value.int (nI i0)] : Array Value)
  have hown : s.vm.findClass "java/util/ArrayList" = some m.cls := findClass_of_methodNamed B.named
  have hlocks := B.notSynchronized
  have hne : c.exceptionTable.isEmpty = true := B.noHandlers (atoms_spec (ws := [Cond.code y_Al_get b_Al_get 2 (some (.object "java/lang/Object"))]) B.pre _ List.mem_cons_self)
  subst hsz
  have hAz := gx_az hD0 hz
  have hD := hD0.self (sz := s.heap.size)
  have hN := gx_ns hP
  have hA : ∀ q : Nat, s.heap.size ≤ q → va_A ws s.heap.size q := fun q h => Or.inr h
  generalize va_A ws s.heap.size = A at hD hN hA hAz ⊢
  generalize hPQ : (fun (r : Option Value ⊕ String) (h' : gm_M) => (r = Sum.inl (some (Value.ref x)) ∧ h' = h)) = PQ
  have Z : gz D A s.heap h s.heap [] := ⟨ws, hM, hP, hD, va_S.rf⟩
  clear hP hD hM hD0
  have hU : gm_g h h [] := gm_g.rf
  have hl := lv_entry ([Value.ref a, Value.int (nI i0)]) (n := 2) (Nat.le_of_ble_eq_true rfl)
  rw [lg_entry_eq]
  generalize (lg_sl ([Value.ref a, Value.int (nI i0)]) ++ List.replicate (2 - (lg_sl ([Value.ref a, Value.int (nI i0)])).length) Slot.unset).toArray = ls at hl ⊢
  have hl : lv_has ls 2 [(0, Value.ref a), (1, Value.int (nI i0))] := hl
  refine lv_iload_n hx hb d_Al_get_0 rfl (lv_at hl 1 rfl) ?_
  refine lv_aload_n hx hb d_Al_get_1 rfl (lv_at hl 0 rfl) ?_
  refine gz_get (ci := 3) (v := Value.int (nI c0)) (C := "java/util/ArrayList") (T := F_Al) (N := 3) hx hb hts i_Al hown hK Z f_n rfl 1 (by decide) kf_Al_48 rfl d_Al_get_2 ?_
  refine gz_call (ig := .invokestatic 118) (av := [Value.int (nI i0), Value.int (nI c0)]) Z (fun ws hM => k_Objects_checkIndex l htr D tys z _ ws h hM i0 c0 hi0 (by first | assumption | decide | omega)) (gx_invS (As := [Value.int (nI i0), Value.int (nI c0)]) (rest := []) hx hb hown hts km_Al_118 kS_Objects_checkIndex kN_Objects kc_Objects_checkIndex (by decide) (show (parseMethodDescriptor y_Objects_checkIndex.desc).map (fun d => d.parameters.length) = some 2 by decide +kernel) rfl rfl d_Al_get_5) (gx_cw (z := 0) hts kc_Objects_checkIndex kN_Objects rfl rfl ⟨Nat.le_of_ble_eq_true rfl, Nat.le_of_ble_eq_true rfl⟩) hb hml hz hK hY hAz hA hl.1 (lv_room (Nat.le_of_ble_eq_true rfl)) d_Al_get_5 ⟨Nat.le_of_ble_eq_true rfl, Nat.le_of_ble_eq_true rfl⟩ (fun v1 h2 H locs hp Z => ?_) (fun x1 E9 ce h2 H locs hp hce Z => ?_)
  · rcases hp with ⟨hv9, e_h2⟩
    cases hv9
    rw [e_h2] at Z
    refine W.eq (g2 := F0 m 8 ls [Value.int (nI i0)]) rfl ?_
    refine lv_pop hx hb d_Al_get_8 rfl ?_
    refine lv_aload_n hx hb d_Al_get_9 rfl (lv_at hl 0 rfl) ?_
    refine lv_iload_n hx hb d_Al_get_10 rfl (lv_at hl 1 rfl) ?_
    refine gz_call (ig := .invokevirtual 123) (av := [Value.ref a, Value.int (nI i0)]) Z (fun ws hM => k_Al_elementData l htr D tys z _ ws h hM cO n a na b c0 cp md g i0 x P F f_n f_na ht7 fam hcp hcc hnn (by first | assumption | decide | omega) hgx hx9) (gx_invV (As := [Value.int (nI i0)]) (rest := []) hx hb hown hts km_Al_123 kI_Al_elementData kV_Al_elementData kc_Al_elementData (by decide) (show (parseMethodDescriptor y_Al_elementData.desc).map (fun d => d.parameters.length) = some 1 by decide +kernel) (gz_recv (ci := 3) hK Z rfl f_n) rfl rfl d_Al_get_11) (gx_cw (z := 0) hts kc_Al_elementData kN_Al rfl rfl ⟨Nat.le_of_ble_eq_true rfl, Nat.le_of_ble_eq_true rfl⟩) hb hml hz hK hY hAz hA hl.1 (lv_room (Nat.le_of_ble_eq_true rfl)) d_Al_get_11 ⟨Nat.le_of_ble_eq_true rfl, Nat.le_of_ble_eq_true rfl⟩ (fun v3 h4 H locs hp Z => ?_) (fun x3 E9 ce h4 H locs hp hce Z => ?_)
    · rcases hp with ⟨hv9, e_h4⟩
      cases hv9
      rw [e_h4] at Z
      refine W.eq (g2 := F0 m 14 ls [Value.ref x]) rfl ?_
      obtain ⟨ws9, hM9, hP9, hD9, hS9⟩ := Z
      exact gx_ret (W.aret (v := Value.ref x) hx hb hr (Or.inl ⟨_, rfl⟩) (Or.inr ⟨_, rfl⟩) (gx_post hP9 hK hD9 hS9 ⟨h, hM9, by rw [← hPQ]; exact ⟨rfl, rfl⟩⟩) hS9.2.2 d_Al_get_14)
    · rcases hp with ⟨hv9, e_h4⟩
      cases hv9
  · rcases hp with ⟨hv9, e_h2⟩
    cases hv9

set_option maxHeartbeats 4000000 in
set_option maxRecDepth 100000 in
theorem k_Al_set (l : Launch) (htr : l.stackTraces = false) (D : va_G) (tys : List (ClassId × FieldType)) (z sz : Nat) (ws : va_W) (h : gm_M) (hM : gm_S h ws) (cO : ClassId) (n : Nat) (a : Nat) (na : Nat) (b : Nat) (c0 : Nat) (cp : Nat) (md : Int32) (g : Nat → Option Nat) (i0 : Nat) (x : Nat) (y : Nat) (P : Nat → Prop) (F : Nat → Nat → Nat) (f_n : h n = some ((a, Sum.inr (3, [Value.ref b, Value.int (nI c0), Value.int md])) : Nat × va_E)) (f_na : h na = some ((b, Sum.inl (cO, cp, Sum.inr (Sum.inr (Sum.inr (Sum.inr g))))) : Nat × va_E)) (ht7 : tys[7]? = some ((cO, FieldType.object "java/lang/Object") : ClassId × FieldType)) (fam : gf_F P F h) (hcp : cp ≤ 200000) (hcc : c0 ≤ cp) (hnn : n ≠ na) (hi0 : i0 < c0) (hna : na < 1000) (hgx : g i0 = some x) (hx9 : P x) (hy9 : P y) : gx_Met l y_Al_set [Cond.code y_Al_set b_Al_set 4 (some (.object "java/lang/Object"))] { frames := 3, cells := 0, slots := 0, locals := 55 } (gx_P z sz D classes tys ws [Value.ref a, Value.int (nI i0), Value.ref y]) (gx_Q D classes tys (va_A ws sz) (gm_p (fun r h' => (r = Sum.inl (some (Value.ref x)) ∧ gm_g h h' [na] ∧ h' na = some ((b, Sum.inl (cO, cp, Sum.inr (Sum.inr (Sum.inr (Sum.inr (va_up g i0 (some y))))))) : Nat × va_E))))) 0 0 (va_A ws sz) := by
  refine gx_ofW (cc := b_Al_set) (maxL := 4) (ret := (some (.object "java/lang/Object"))) (by decide) rfl ?_
  intro p e s m args below meth c s₁ B hml hv
  obtain ⟨rfl, hsz, hz, hP, hK, hD0, hY⟩ := hv
  have hx := B.exec
  have hb := B.bytes
  have hr := B.returns
  have hts := hY.hts (#[Value.ref a, Value.int (nI i0), Value.ref y] : Array Value)
  have hown : s.vm.findClass "java/util/ArrayList" = some m.cls := findClass_of_methodNamed B.named
  have hlocks := B.notSynchronized
  have hne : c.exceptionTable.isEmpty = true := B.noHandlers (atoms_spec (ws := [Cond.code y_Al_set b_Al_set 4 (some (.object "java/lang/Object"))]) B.pre _ List.mem_cons_self)
  subst hsz
  have hAz := gx_az hD0 hz
  have hD := hD0.self (sz := s.heap.size)
  have hN := gx_ns hP
  have hA : ∀ q : Nat, s.heap.size ≤ q → va_A ws s.heap.size q := fun q h => Or.inr h
  generalize va_A ws s.heap.size = A at hD hN hA hAz ⊢
  generalize hPQ : (fun (r : Option Value ⊕ String) (h' : gm_M) => (r = Sum.inl (some (Value.ref x)) ∧ gm_g h h' [na] ∧ h' na = some ((b, Sum.inl (cO, cp, Sum.inr (Sum.inr (Sum.inr (Sum.inr (va_up g i0 (some y))))))) : Nat × va_E))) = PQ
  have Z : gz D A s.heap h s.heap [] := ⟨ws, hM, hP, hD, va_S.rf⟩
  clear hP hD hM hD0
  have hU : gm_g h h [na] := gm_g.rf
  have hl := lv_entry ([Value.ref a, Value.int (nI i0), Value.ref y]) (n := 4) (Nat.le_of_ble_eq_true rfl)
  rw [lg_entry_eq]
  generalize (lg_sl ([Value.ref a, Value.int (nI i0), Value.ref y]) ++ List.replicate (4 - (lg_sl ([Value.ref a, Value.int (nI i0), Value.ref y])).length) Slot.unset).toArray = ls at hl ⊢
  have hl : lv_has ls 4 [(0, Value.ref a), (1, Value.int (nI i0)), (2, Value.ref y)] := hl
  refine lv_iload_n hx hb d_Al_set_0 rfl (lv_at hl 1 rfl) ?_
  refine lv_aload_n hx hb d_Al_set_1 rfl (lv_at hl 0 rfl) ?_
  refine gz_get (ci := 3) (v := Value.int (nI c0)) (C := "java/util/ArrayList") (T := F_Al) (N := 3) hx hb hts i_Al hown hK Z f_n rfl 1 (by decide) kf_Al_48 rfl d_Al_set_2 ?_
  refine gz_call (ig := .invokestatic 118) (av := [Value.int (nI i0), Value.int (nI c0)]) Z (fun ws hM => k_Objects_checkIndex l htr D tys z _ ws h hM i0 c0 hi0 (by first | assumption | decide | omega)) (gx_invS (As := [Value.int (nI i0), Value.int (nI c0)]) (rest := []) hx hb hown hts km_Al_118 kS_Objects_checkIndex kN_Objects kc_Objects_checkIndex (by decide) (show (parseMethodDescriptor y_Objects_checkIndex.desc).map (fun d => d.parameters.length) = some 2 by decide +kernel) rfl rfl d_Al_set_5) (gx_cw (z := 0) hts kc_Objects_checkIndex kN_Objects rfl rfl ⟨Nat.le_of_ble_eq_true rfl, Nat.le_of_ble_eq_true rfl⟩) hb hml hz hK hY hAz hA hl.1 (lv_room (Nat.le_of_ble_eq_true rfl)) d_Al_set_5 ⟨Nat.le_of_ble_eq_true rfl, Nat.le_of_ble_eq_true rfl⟩ (fun v1 h2 H locs hp Z => ?_) (fun x1 E9 ce h2 H locs hp hce Z => ?_)
  · rcases hp with ⟨hv9, e_h2⟩
    cases hv9
    rw [e_h2] at Z
    refine W.eq (g2 := F0 m 8 ls [Value.int (nI i0)]) rfl ?_
    refine lv_pop hx hb d_Al_set_8 rfl ?_
    refine lv_aload_n hx hb d_Al_set_9 rfl (lv_at hl 0 rfl) ?_
    refine lv_iload_n hx hb d_Al_set_10 rfl (lv_at hl 1 rfl) ?_
    refine gz_call (ig := .invokevirtual 123) (av := [Value.ref a, Value.int (nI i0)]) Z (fun ws hM => k_Al_elementData l htr D tys z _ ws h hM cO n a na b c0 cp md g i0 x P F f_n f_na ht7 fam hcp hcc hnn (by first | assumption | decide | omega) hgx hx9) (gx_invV (As := [Value.int (nI i0)]) (rest := []) hx hb hown hts km_Al_123 kI_Al_elementData kV_Al_elementData kc_Al_elementData (by decide) (show (parseMethodDescriptor y_Al_elementData.desc).map (fun d => d.parameters.length) = some 1 by decide +kernel) (gz_recv (ci := 3) hK Z rfl f_n) rfl rfl d_Al_set_11) (gx_cw (z := 0) hts kc_Al_elementData kN_Al rfl rfl ⟨Nat.le_of_ble_eq_true rfl, Nat.le_of_ble_eq_true rfl⟩) hb hml hz hK hY hAz hA hl.1 (lv_room (Nat.le_of_ble_eq_true rfl)) d_Al_set_11 ⟨Nat.le_of_ble_eq_true rfl, Nat.le_of_ble_eq_true rfl⟩ (fun v3 h4 H locs hp Z => ?_) (fun x3 E9 ce h4 H locs hp hce Z => ?_)
    · rcases hp with ⟨hv9, e_h4⟩
      cases hv9
      rw [e_h4] at Z
      refine W.eq (g2 := F0 m 14 ls [Value.ref x]) rfl ?_
      refine lv_astore_n (lv' := [(3, Value.ref x), (0, Value.ref a), (1, Value.int (nI i0)), (2, Value.ref y)]) hx hb d_Al_set_14 rfl hl (by decide) rfl (fun ls hl => ?_)
      refine lv_aload_n hx hb d_Al_set_15 rfl (lv_at hl 1 rfl) ?_
      refine gz_get (ci := 3) (v := Value.ref b) (C := "java/util/ArrayList") (T := F_Al) (N := 3) hx hb hts i_Al hown hK Z f_n rfl 0 (by decide) kf_Al_9 rfl d_Al_set_16 ?_
      refine lv_iload_n hx hb d_Al_set_19 rfl (lv_at hl 2 rfl) ?_
      refine lv_aload_n hx hb d_Al_set_20 rfl (lv_at hl 3 rfl) ?_
      refine gz_aastE (j := i0) hx hb hts hK Z 7 f_na ht7 (fam y hy9) (by omega) (rfl) (by omega) d_Al_set_21 (fun H locs Z => ?_)
      obtain ⟨h5, e_h5⟩ : ∃ z9 : gm_M, z9 = gm_up h na ((b, Sum.inl (cO, cp, Sum.inr (Sum.inr (Sum.inr (Sum.inr (va_up g i0 (some y))))))) : Nat × va_E) := ⟨_, rfl⟩
      replace Z : gz D A s.heap h5 H locs := by rw [e_h5]; exact Z
      have f_na_h5 : h5 na = some ((b, Sum.inl (cO, cp, Sum.inr (Sum.inr (Sum.inr (Sum.inr (va_up g i0 (some y))))))) : Nat × va_E) := by rw [e_h5]; exact gm_self
      replace hU : gm_g h h5 [na] := by rw [e_h5]; exact hU.put (by simp)
      refine lv_aload_n hx hb d_Al_set_22 rfl (lv_at hl 0 rfl) ?_
      obtain ⟨ws9, hM9, hP9, hD9, hS9⟩ := Z
      exact gx_ret (W.aret (v := Value.ref x) hx hb hr (Or.inl ⟨_, rfl⟩) (Or.inr ⟨_, rfl⟩) (gx_post hP9 hK hD9 hS9 ⟨h5, hM9, by rw [← hPQ]; exact ⟨rfl, hU, f_na_h5⟩⟩) hS9.2.2 d_Al_set_23)
    · rcases hp with ⟨hv9, e_h4⟩
      cases hv9
  · rcases hp with ⟨hv9, e_h2⟩
    cases hv9

set_option maxHeartbeats 4000000 in
set_option maxRecDepth 100000 in
theorem k_Al_fastRemove (l : Launch) (htr : l.stackTraces = false) (D : va_G) (tys : List (ClassId × FieldType)) (z sz : Nat) (ws : va_W) (h : gm_M) (hM : gm_S h ws) (cO : ClassId) (n : Nat) (a : Nat) (na : Nat) (b : Nat) (cp : Nat) (md : Int32) (g : Nat → Option Nat) (c1 : Nat) (f_n : h n = some ((a, Sum.inr (3, [Value.ref b, Value.int (nI (c1 + 1)), Value.int md])) : Nat × va_E)) (f_na : h na = some ((b, Sum.inl (cO, cp, Sum.inr (Sum.inr (Sum.inr (Sum.inr g))))) : Nat × va_E)) (ht7 : tys[7]? = some ((cO, FieldType.object "java/lang/Object") : ClassId × FieldType)) (hcp : cp ≤ 200000) (hcc : c1 < cp) (hnn : n ≠ na) : gx_Met l y_Al_fastRemove [Cond.code y_Al_fastRemove b_Al_fastRemove 4 none] { frames := 1, cells := 0, slots := 0, locals := 12 } (gx_P z sz D classes tys ws [Value.ref a, Value.ref b, Value.int (nI c1)]) (gx_Q D classes tys (va_A ws sz) (gm_p (fun r h' => (r = Sum.inl none ∧ gm_g h h' [n, na] ∧ h' n = some ((a, Sum.inr (3, [Value.ref b, Value.int (nI c1), Value.int (md + 1)])) : Nat × va_E) ∧ h' na = some ((b, Sum.inl (cO, cp, Sum.inr (Sum.inr (Sum.inr (Sum.inr (va_up g c1 none)))))) : Nat × va_E))))) 0 0 (va_A ws sz) := by
  refine gx_ofW (cc := b_Al_fastRemove) (maxL := 4) (ret := none) (by decide) rfl ?_
  intro p e s m args below meth c s₁ B hml hv
  obtain ⟨rfl, hsz, hz, hP, hK, hD0, hY⟩ := hv
  have hx := B.exec
  have hb := B.bytes
  have hr := B.returns
  have hts := hY.hts (#[Value.ref a, Value.ref b, Value.int (nI c1)] : Array Value)
  have hown : s.vm.findClass "java/util/ArrayList" = some m.cls := findClass_of_methodNamed B.named
  have hlocks := B.notSynchronized
  have hne : c.exceptionTable.isEmpty = true := B.noHandlers (atoms_spec (ws := [Cond.code y_Al_fastRemove b_Al_fastRemove 4 none]) B.pre _ List.mem_cons_self)
  subst hsz
  have hAz := gx_az hD0 hz
  have hD := hD0.self (sz := s.heap.size)
  have hN := gx_ns hP
  have hA : ∀ q : Nat, s.heap.size ≤ q → va_A ws s.heap.size q := fun q h => Or.inr h
  generalize va_A ws s.heap.size = A at hD hN hA hAz ⊢
  generalize hPQ : (fun (r : Option Value ⊕ String) (h' : gm_M) => (r = Sum.inl none ∧ gm_g h h' [n, na] ∧ h' n = some ((a, Sum.inr (3, [Value.ref b, Value.int (nI c1), Value.int (md + 1)])) : Nat × va_E) ∧ h' na = some ((b, Sum.inl (cO, cp, Sum.inr (Sum.inr (Sum.inr (Sum.inr (va_up g c1 none)))))) : Nat × va_E))) = PQ
  have Z : gz D A s.heap h s.heap [] := ⟨ws, hM, hP, hD, va_S.rf⟩
  clear hP hD hM hD0
  have hU : gm_g h h [n, na] := gm_g.rf
  have hl := lv_entry ([Value.ref a, Value.ref b, Value.int (nI c1)]) (n := 4) (Nat.le_of_ble_eq_true rfl)
  rw [lg_entry_eq]
  generalize (lg_sl ([Value.ref a, Value.ref b, Value.int (nI c1)]) ++ List.replicate (4 - (lg_sl ([Value.ref a, Value.ref b, Value.int (nI c1)])).length) Slot.unset).toArray = ls at hl ⊢
  have hl : lv_has ls 4 [(0, Value.ref a), (1, Value.ref b), (2, Value.int (nI c1))] := hl
  refine lv_aload_n hx hb d_Al_fastRemove_0 rfl (lv_at hl 0 rfl) ?_
  refine lv_dup hx hb d_Al_fastRemove_1 rfl ?_
  refine gz_getR (ci := 3) (v := Value.int md) (C := "java/util/ArrayList") (T := F_Al) (N := 3) hx hb hts i_Al hown hK Z f_n rfl 2 (by decide) kf_Al_63 kW_mod rfl d_Al_fastRemove_2 ?_
  refine lv_iconst (v := 1) hx hb d_Al_fastRemove_5 (by decide) ?_
  refine lv_iadd hx hb d_Al_fastRemove_6 ?_
  refine gz_putR (ci := 3) (v := Value.int (md + 1)) (ty := .int) (C := "java/util/ArrayList") (T := F_Al) (N := 3) hx hb hts i_Al t_Al_ok n_Al hown hK Z f_n rfl 2 (by decide) kf_Al_63 kW_mod rfl (by decide +kernel) rfl rfl (Nat.le_of_ble_eq_true rfl) d_Al_fastRemove_7 (fun H locs Z => ?_)
  obtain ⟨h1, e_h1⟩ : ∃ z9 : gm_M, z9 = gm_up h n ((a, Sum.inr (3, [Value.ref b, Value.int (nI (c1 + 1)), Value.int (md + 1)])) : Nat × va_E) := ⟨_, rfl⟩
  replace Z : gz D A s.heap h1 H locs := by rw [e_h1]; exact Z
  have f_n_h1 : h1 n = some ((a, Sum.inr (3, [Value.ref b, Value.int (nI (c1 + 1)), Value.int (md + 1)])) : Nat × va_E) := by rw [e_h1]; exact gm_self
  replace hU : gm_g h h1 [n, na] := by rw [e_h1]; exact hU.put (by simp)
  refine lv_aload_n hx hb d_Al_fastRemove_10 rfl (lv_at hl 0 rfl) ?_
  refine gz_get (ci := 3) (v := Value.int (nI (c1 + 1))) (C := "java/util/ArrayList") (T := F_Al) (N := 3) hx hb hts i_Al hown hK Z f_n_h1 rfl 1 (by decide) kf_Al_48 rfl d_Al_fastRemove_11 ?_
  refine lv_iconst (v := 1) hx hb d_Al_fastRemove_14 (by decide) ?_
  refine lv_isub hx hb d_Al_fastRemove_15 ?_
  refine gx_topi (y := nI ((c1 + 1) - 1)) (pk_sub (a := c1 + 1) (b := 1) (by omega)) ?_
  refine gx_topi (y := nI c1) (by rw [Nat.add_sub_cancel]) ?_
  refine lv_dup hx hb d_Al_fastRemove_16 rfl ?_
  refine lv_istore_n (lv' := [(3, Value.int (nI c1)), (0, Value.ref a), (1, Value.ref b), (2, Value.int (nI c1))]) hx hb d_Al_fastRemove_17 rfl hl (by decide) rfl (fun ls hl => ?_)
  refine lv_iload_n hx hb d_Al_fastRemove_18 rfl (lv_at hl 3 rfl) ?_
  refine lv_icmp_le (tgt := 34) hx hb d_Al_fastRemove_19 (by decide) (fun _ => ?_) (fun c9 => absurd (nI_le (Nat.le_refl _) (by omega)) c9)
  refine lv_aload_n hx hb d_Al_fastRemove_34 rfl (lv_at hl 2 rfl) ?_
  refine lv_aload_n hx hb d_Al_fastRemove_35 rfl (lv_at hl 1 rfl) ?_
  refine lv_iload_n hx hb d_Al_fastRemove_36 rfl (lv_at hl 0 rfl) ?_
  refine lv_dup_x1 hx hb d_Al_fastRemove_37 rfl rfl ?_
  refine gz_put (ci := 3) (v := Value.int (nI c1)) (ty := .int) (C := "java/util/ArrayList") (T := F_Al) (N := 3) hx hb hts i_Al t_Al_ok n_Al hown hK Z f_n_h1 rfl 1 (by decide) kf_Al_48 rfl (by decide +kernel) rfl rfl (Nat.le_of_ble_eq_true rfl) d_Al_fastRemove_38 (fun H locs Z => ?_)
  obtain ⟨h3, e_h3⟩ : ∃ z9 : gm_M, z9 = gm_up h1 n ((a, Sum.inr (3, [Value.ref b, Value.int (nI c1), Value.int (md + 1)])) : Nat × va_E) := ⟨_, rfl⟩
  replace Z : gz D A s.heap h3 H locs := by rw [e_h3]; exact Z
  have f_n_h3 : h3 n = some ((a, Sum.inr (3, [Value.ref b, Value.int (nI c1), Value.int (md + 1)])) : Nat × va_E) := by rw [e_h3]; exact gm_self
  replace hU : gm_g h h3 [n, na] := by rw [e_h3]; exact hU.put (by simp)
  refine lv_null hx hb d_Al_fastRemove_41 ?_
  have f_na_h1 : h1 na = some ((b, Sum.inl (cO, cp, Sum.inr (Sum.inr (Sum.inr (Sum.inr g))))) : Nat × va_E) := by rw [e_h1]; exact gm_at f_na (by omega)
  have f_na_h3 : h3 na = some ((b, Sum.inl (cO, cp, Sum.inr (Sum.inr (Sum.inr (Sum.inr g))))) : Nat × va_E) := by rw [e_h3]; exact gm_at f_na_h1 (by omega)
  refine gz_aastN (j := c1) hx hb hK Z 7 f_na_h3 ht7 (hcc) (rfl) (by omega) d_Al_fastRemove_42 (fun H locs Z => ?_)
  obtain ⟨h4, e_h4⟩ : ∃ z9 : gm_M, z9 = gm_up h3 na ((b, Sum.inl (cO, cp, Sum.inr (Sum.inr (Sum.inr (Sum.inr (va_up g c1 none)))))) : Nat × va_E) := ⟨_, rfl⟩
  replace Z : gz D A s.heap h4 H locs := by rw [e_h4]; exact Z
  have f_na_h4 : h4 na = some ((b, Sum.inl (cO, cp, Sum.inr (Sum.inr (Sum.inr (Sum.inr (va_up g c1 none)))))) : Nat × va_E) := by rw [e_h4]; exact gm_self
  replace hU : gm_g h h4 [n, na] := by rw [e_h4]; exact hU.put (by simp)
  have f_n_h4 : h4 n = some ((a, Sum.inr (3, [Value.ref b, Value.int (nI c1), Value.int (md + 1)])) : Nat × va_E) := by rw [e_h4]; exact gm_at f_n_h3 (by omega)
  exact gz_vret hx hb hr hlocks hK Z (by decide) (by decide) (by rw [← hPQ]; exact ⟨rfl, hU, f_n_h4, f_na_h4⟩) d_Al_fastRemove_43

set_option maxHeartbeats 4000000 in
set_option maxRecDepth 100000 in
theorem k_Al_remove (l : Launch) (htr : l.stackTraces = false) (D : va_G) (tys : List (ClassId × FieldType)) (z sz : Nat) (ws : va_W) (h : gm_M) (hM : gm_S h ws) (cO : ClassId) (n : Nat) (a : Nat) (na : Nat) (b : Nat) (cp : Nat) (md : Int32) (g : Nat → Option Nat) (c1 : Nat) (x : Nat) (P : Nat → Prop) (F : Nat → Nat → Nat) (f_n : h n = some ((a, Sum.inr (3, [Value.ref b, Value.int (nI (c1 + 1)), Value.int md])) : Nat × va_E)) (f_na : h na = some ((b, Sum.inl (cO, cp, Sum.inr (Sum.inr (Sum.inr (Sum.inr g))))) : Nat × va_E)) (ht7 : tys[7]? = some ((cO, FieldType.object "java/lang/Object") : ClassId × FieldType)) (fam : gf_F P F h) (hcp : cp ≤ 200000) (hcc : c1 < cp) (hnn : n ≠ na) (hna : na < 1000) (hgx : g c1 = some x) (hx9 : P x) : gx_Met l y_Al_remove [Cond.code y_Al_remove b_Al_remove 4 (some (.object "java/lang/Object"))] { frames := 3, cells := 0, slots := 0, locals := 55 } (gx_P z sz D classes tys ws [Value.ref a, Value.int (nI c1)]) (gx_Q D classes tys (va_A ws sz) (gm_p (fun r h' => (r = Sum.inl (some (Value.ref x)) ∧ gm_g h h' [n, na] ∧ h' n = some ((a, Sum.inr (3, [Value.ref b, Value.int (nI c1), Value.int (md + 1)])) : Nat × va_E) ∧ h' na = some ((b, Sum.inl (cO, cp, Sum.inr (Sum.inr (Sum.inr (Sum.inr (va_up g c1 none)))))) : Nat × va_E))))) 0 0 (va_A ws sz) := by
  refine gx_ofW (cc := b_Al_remove) (maxL := 4) (ret := (some (.object "java/lang/Object"))) (by decide) rfl ?_
  intro p e s m args below meth c s₁ B hml hv
  obtain ⟨rfl, hsz, hz, hP, hK, hD0, hY⟩ := hv
  have hx := B.exec
  have hb := B.bytes
  have hr := B.returns
  have hts := hY.hts (#[Value.ref a, Value.int (nI c1)] : Array Value)
  have hown : s.vm.findClass "java/util/ArrayList" = some m.cls := findClass_of_methodNamed B.named
  have hlocks := B.notSynchronized
  have hne : c.exceptionTable.isEmpty = true := B.noHandlers (atoms_spec (ws := [Cond.code y_Al_remove b_Al_remove 4 (some (.object "java/lang/Object"))]) B.pre _ List.mem_cons_self)
  subst hsz
  have hAz := gx_az hD0 hz
  have hD := hD0.self (sz := s.heap.size)
  have hN := gx_ns hP
  have hA : ∀ q : Nat, s.heap.size ≤ q → va_A ws s.heap.size q := fun q h => Or.inr h
  generalize va_A ws s.heap.size = A at hD hN hA hAz ⊢
  generalize hPQ : (fun (r : Option Value ⊕ String) (h' : gm_M) => (r = Sum.inl (some (Value.ref x)) ∧ gm_g h h' [n, na] ∧ h' n = some ((a, Sum.inr (3, [Value.ref b, Value.int (nI c1), Value.int (md + 1)])) : Nat × va_E) ∧ h' na = some ((b, Sum.inl (cO, cp, Sum.inr (Sum.inr (Sum.inr (Sum.inr (va_up g c1 none)))))) : Nat × va_E))) = PQ
  have Z : gz D A s.heap h s.heap [] := ⟨ws, hM, hP, hD, va_S.rf⟩
  clear hP hD hM hD0
  have hU : gm_g h h [n, na] := gm_g.rf
  have hl := lv_entry ([Value.ref a, Value.int (nI c1)]) (n := 4) (Nat.le_of_ble_eq_true rfl)
  rw [lg_entry_eq]
  generalize (lg_sl ([Value.ref a, Value.int (nI c1)]) ++ List.replicate (4 - (lg_sl ([Value.ref a, Value.int (nI c1)])).length) Slot.unset).toArray = ls at hl ⊢
  have hl : lv_has ls 4 [(0, Value.ref a), (1, Value.int (nI c1))] := hl
  refine lv_iload_n hx hb d_Al_remove_0 rfl (lv_at hl 1 rfl) ?_
  refine lv_aload_n hx hb d_Al_remove_1 rfl (lv_at hl 0 rfl) ?_
  refine gz_get (ci := 3) (v := Value.int (nI (c1 + 1))) (C := "java/util/ArrayList") (T := F_Al) (N := 3) hx hb hts i_Al hown hK Z f_n rfl 1 (by decide) kf_Al_48 rfl d_Al_remove_2 ?_
  refine gz_call (ig := .invokestatic 118) (av := [Value.int (nI c1), Value.int (nI (c1 + 1))]) Z (fun ws hM => k_Objects_checkIndex l htr D tys z _ ws h hM c1 (c1 + 1) (by first | assumption | decide | omega) (by first | assumption | decide | omega)) (gx_invS (As := [Value.int (nI c1), Value.int (nI (c1 + 1))]) (rest := []) hx hb hown hts km_Al_118 kS_Objects_checkIndex kN_Objects kc_Objects_checkIndex (by decide) (show (parseMethodDescriptor y_Objects_checkIndex.desc).map (fun d => d.parameters.length) = some 2 by decide +kernel) rfl rfl d_Al_remove_5) (gx_cw (z := 0) hts kc_Objects_checkIndex kN_Objects rfl rfl ⟨Nat.le_of_ble_eq_true rfl, Nat.le_of_ble_eq_true rfl⟩) hb hml hz hK hY hAz hA hl.1 (lv_room (Nat.le_of_ble_eq_true rfl)) d_Al_remove_5 ⟨Nat.le_of_ble_eq_true rfl, Nat.le_of_ble_eq_true rfl⟩ (fun v1 h2 H locs hp Z => ?_) (fun x1 E9 ce h2 H locs hp hce Z => ?_)
  · rcases hp with ⟨hv9, e_h2⟩
    cases hv9
    rw [e_h2] at Z
    refine W.eq (g2 := F0 m 8 ls [Value.int (nI c1)]) rfl ?_
    refine lv_pop hx hb d_Al_remove_8 rfl ?_
    refine lv_aload_n hx hb d_Al_remove_9 rfl (lv_at hl 0 rfl) ?_
    refine gz_get (ci := 3) (v := Value.ref b) (C := "java/util/ArrayList") (T := F_Al) (N := 3) hx hb hts i_Al hown hK Z f_n rfl 0 (by decide) kf_Al_9 rfl d_Al_remove_10 ?_
    refine lv_astore_n (lv' := [(2, Value.ref b), (0, Value.ref a), (1, Value.int (nI c1))]) hx hb d_Al_remove_13 rfl hl (by decide) rfl (fun ls hl => ?_)
    refine lv_aload_n hx hb d_Al_remove_14 rfl (lv_at hl 0 rfl) ?_
    refine lv_iload_n hx hb d_Al_remove_15 rfl (lv_at hl 2 rfl) ?_
    refine gz_aald (v := Value.ref x) (j := c1) hx hb hK Z 7 f_na ht7 (hcc) (rfl) (by omega) (by rw [hgx]; rfl) d_Al_remove_16 ?_
    refine lv_astore_n (lv' := [(3, Value.ref x), (2, Value.ref b), (0, Value.ref a), (1, Value.int (nI c1))]) hx hb d_Al_remove_17 rfl hl (by decide) rfl (fun ls hl => ?_)
    refine lv_aload_n hx hb d_Al_remove_18 rfl (lv_at hl 2 rfl) ?_
    refine lv_aload_n hx hb d_Al_remove_19 rfl (lv_at hl 1 rfl) ?_
    refine lv_iload_n hx hb d_Al_remove_20 rfl (lv_at hl 3 rfl) ?_
    refine gz_call (ig := .invokevirtual 144) (av := [Value.ref a, Value.ref b, Value.int (nI c1)]) Z (fun ws hM => k_Al_fastRemove l htr D tys z _ ws h hM cO n a na b cp md g c1 f_n f_na ht7 hcp hcc hnn) (gx_invV (As := [Value.ref b, Value.int (nI c1)]) (rest := []) hx hb hown hts km_Al_144 kI_Al_fastRemove kV_Al_fastRemove kc_Al_fastRemove (by decide) (show (parseMethodDescriptor y_Al_fastRemove.desc).map (fun d => d.parameters.length) = some 2 by decide +kernel) (gz_recv (ci := 3) hK Z rfl f_n) rfl rfl d_Al_remove_21) (gx_cw (z := 0) hts kc_Al_fastRemove kN_Al rfl rfl ⟨Nat.le_of_ble_eq_true rfl, Nat.le_of_ble_eq_true rfl⟩) hb hml hz hK hY hAz hA hl.1 (lv_room (Nat.le_of_ble_eq_true rfl)) d_Al_remove_21 ⟨Nat.le_of_ble_eq_true rfl, Nat.le_of_ble_eq_true rfl⟩ (fun v3 h4 H locs hp Z => ?_) (fun x3 E9 ce h4 H locs hp hce Z => ?_)
    · rcases hp with ⟨hv9, e_h4, f_n_h4, f_na_h4⟩
      cases hv9
      have f_n_h4 : h4 n = some ((a, Sum.inr (3, [Value.ref b, Value.int (nI c1), Value.int (md + 1)])) : Nat × va_E) := f_n_h4
      have f_na_h4 : h4 na = some ((b, Sum.inl (cO, cp, Sum.inr (Sum.inr (Sum.inr (Sum.inr (va_up g c1 none)))))) : Nat × va_E) := f_na_h4
      replace hU : gm_g h h4 [n, na] := hU.call e_h4 (by first | decide | (simp; done) | (simp; omega))
      refine W.eq (g2 := F0 m 24 ls []) rfl ?_
      refine lv_aload_n hx hb d_Al_remove_24 rfl (lv_at hl 0 rfl) ?_
      obtain ⟨ws9, hM9, hP9, hD9, hS9⟩ := Z
      exact gx_ret (W.aret (v := Value.ref x) hx hb hr (Or.inl ⟨_, rfl⟩) (Or.inr ⟨_, rfl⟩) (gx_post hP9 hK hD9 hS9 ⟨h4, hM9, by rw [← hPQ]; exact ⟨rfl, hU, f_n_h4, f_na_h4⟩⟩) hS9.2.2 d_Al_remove_25)
    · rcases hp with ⟨hv9, e_h4, f_n_h4, f_na_h4⟩
      cases hv9
  · rcases hp with ⟨hv9, e_h2⟩
    cases hv9
