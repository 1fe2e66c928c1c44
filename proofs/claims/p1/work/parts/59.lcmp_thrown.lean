/-! OWN ROWS: lcmp of two equal longs; the top of the stack as another term -/
section GXLC
variable {p : Program} {l : Launch} {e : Env} {R : Room} {s : State} {m : MethodId} {args : Array Value} {below : List Frame} {meth : Method} {c : Code} {H : Heap} {locs : List Loc} {cells slots : Nat} {Q : State → Prop} {cc : ByteArray} {pc : Nat} {ls : Array Slot} {rest : List Value}
theorem gx_lcmpE (hexec : p.tables.exec = Jvm.exec) (hb : c.code = cc) {x : Int64} (hdg : decode cc pc = .ok (.lcmp, 1))
    (k : W p l e R s m args below meth c H locs cells slots Q (F0 m (pc + 1) ls (.int 0 :: rest))) : W p l e R s m args below meth c H locs cells slots Q (F0 m pc ls (.long x :: .long x :: rest)) := by
  intro T hT X
  obtain ⟨t, a, b⟩ := k T hT X
  refine ⟨t, ?_, b⟩
  have h1 : ¬ x > x := fun h => by simp at h
  jvm_step X.here [X.here.top, hexec, hb, hdg, h1]
  exact a
theorem gx_topl {x y : Int64} (h : x = y) (k : W p l e R s m args below meth c H locs cells slots Q (F0 m pc ls (.long y :: rest))) : W p l e R s m args below meth c H locs cells slots Q (F0 m pc ls (.long x :: rest)) := by rw [h]; exact k
end GXLC
/-! CONTRACT of thrown() in any state -/
set_option maxHeartbeats 4000000 in
set_option maxRecDepth 100000 in
theorem c_Mo_thrown (l : Launch) (htr : l.stackTraces = false) (D : va_G) (tys : List (ClassId × FieldType)) (z sz : Nat) (ws : va_W) (a : Nat) (n : Nat) (e_error : Value) (x_thrown : Int32) (e_key : Value) (e_worth : Value) (e_docSerial : Value) (e_docs : Value) (e_fileNumber : Value) (e_synced : Value) (e_harmed : Value) (e_needed : Value) (e_filesThere : Value) (e_files : Value) (e_actions : Value) (e_power : Value) (e_lost : Value) (e_writer : Value) (e_committed : Value) (e_prepared : Value) (e_open : Value) (e_isPrepared : Value) (e_generation : Value) (e_buffer : Value) (e_bufferLive : Value) (e_buffered : Value) (e_limit : Value) (e_factor : Value) (e_mergeDocs : Value) (e_mergeMany : Value) (e_mergeNumber : Value) (e_mergeFile : Value) (e_merges : Value) (e_readers : Value) (e_opened : Value) (e_chosenMany : Value) (e_begun : Value) (f_n : ws[n]? = some (a, .inr (8, [e_error, .int x_thrown, e_key, e_worth, e_docSerial, e_docs, e_fileNumber, e_synced, e_harmed, e_needed, e_filesThere, e_files, e_actions, e_power, e_lost, e_writer, e_committed, e_prepared, e_open, e_isPrepared, e_generation, e_buffer, e_bufferLive, e_buffered, e_limit, e_factor, e_mergeDocs, e_mergeMany, e_mergeNumber, e_mergeFile, e_merges, e_readers, e_opened, e_chosenMany, e_begun]))) : gx_Met l y_Mo_thrown [Cond.code y_Mo_thrown b_Mo_thrown 1 (some .int)] { frames := 1, cells := 0, slots := 0, locals := 12 } (gx_P z sz D classes tys ws [.ref a]) (gx_Q D classes tys (va_A ws sz) (fun r ws' => (r = .inl (some (.int x_thrown)) ∧ ws' = ws))) 0 0 (va_A ws sz) := by
  refine gx_ofW (cc := b_Mo_thrown) (maxL := 1) (ret := (some .int)) (by decide) rfl ?_
  intro p e s m args below meth c s₁ B hml hv
  obtain ⟨rfl, hsz, hz, hP, hK, hD0, hY⟩ := hv
  have hx := B.exec
  have hb := B.bytes
  have hr := B.returns
  have hts := hY.hts (#[.ref a] : Array Value)
  have hown : s.vm.findClass "CommitLedgerModel" = some m.cls := findClass_of_methodNamed B.named
  have hlocks := B.notSynchronized
  have hne : c.exceptionTable.isEmpty = true := B.noHandlers (atoms_spec (ws := [Cond.code y_Mo_thrown b_Mo_thrown 1 (some .int)]) B.pre _ List.mem_cons_self)
  subst hsz
  have hAz := gx_az hD0 hz
  have hD := hD0.self (sz := s.heap.size)
  have hN := gx_ns hP
  have hA : ∀ q : Nat, s.heap.size ≤ q → va_A ws s.heap.size q := fun q h => Or.inr h
  generalize va_A ws s.heap.size = A at hD hN hA hAz ⊢
  generalize hPQ : (fun (r : Option Value ⊕ String) (ws' : va_W) => (r = .inl (some (.int x_thrown)) ∧ ws' = ws)) = PQ
  have hS : va_S A s.heap s.heap [] := va_S.rf
  have hU : gx_g ws ws 0 [] := gx_g.rf
  have hl := lv_entry ([.ref a]) (n := 1) (Nat.le_of_ble_eq_true rfl)
  rw [lg_entry_eq]
  generalize (lg_sl ([.ref a]) ++ List.replicate (1 - (lg_sl ([.ref a])).length) Slot.unset).toArray = ls at hl ⊢
  have hl : lv_has ls 1 [(0, .ref a)] := hl
  refine lv_aload_n hx hb d_Mo_thrown_0 rfl (lv_at hl 0 rfl) ?_
  refine va_get (D := D) (ci := 8) (v := .int x_thrown) (C := "CommitLedgerModel") (T := F_Mo) (N := 35) hx hb hts i_Mo hown hK hP n f_n rfl 1 (by decide) (hts _ kf_Mo_80) (fun _ h9 => h9) rfl d_Mo_thrown_1 ?_
  exact gx_ret (W.iret (v := x_thrown) hx hb hr (gx_post hP hK hD hS (by rw [← hPQ]; exact ⟨rfl, rfl⟩)) hS.2.2 d_Mo_thrown_4)
