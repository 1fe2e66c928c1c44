/-! CONTRACTS of small methods of CommitLedger, rows printed by an own text program -/
set_option maxHeartbeats 4000000 in
set_option maxRecDepth 100000 in
theorem c_Le_requireRange (l : Launch) (htr : l.stackTraces = false) (D : va_G) (tys : List (ClassId × FieldType)) (z sz : Nat) (ws : va_W) (a0 : Int32) (a1 : Int32) (a2 : Int32) : gx_Met l y_Le_requireRange [Cond.code y_Le_requireRange b_Le_requireRange 3 none] { frames := 6, cells := 1, slots := 6, locals := 82 } (gx_P z sz D classes tys ws [Value.int a0, Value.int a1, Value.int a2]) (gx_Q D classes tys (va_A ws sz) (fun r ws' => (r = Sum.inl none ∧ ws' = ws ∧ ¬ a0 < a1 ∧ a0 ≤ a2) ∨ (r = Sum.inr "java/lang/IllegalArgumentException" ∧ ws' = ws ∧ a0 < a1) ∨ (r = Sum.inr "java/lang/IllegalArgumentException" ∧ ws' = ws ∧ ¬ a0 < a1 ∧ ¬ a0 ≤ a2))) 1 6 (va_A ws sz) := by
  refine gx_ofW (cc := b_Le_requireRange) (maxL := 3) (ret := none) (by decide) rfl ?_
  intro p e s m args below meth c s₁ B hml hv
  obtain ⟨rfl, hsz, hz, hP, hK, hD0, hY⟩ := hv
  have hx := B.exec
  have hb := B.bytes
  have hr := B.returns
  have hts := hY.hts (#[Value.int a0, Value.int a1, Value.int a2] : Array Value)
  have hown : s.vm.findClass "CommitLedger" = some m.cls := findClass_of_methodNamed B.named
  have hlocks := B.notSynchronized
  have hne : c.exceptionTable.isEmpty = true := B.noHandlers (atoms_spec (ws := [Cond.code y_Le_requireRange b_Le_requireRange 3 none]) B.pre _ List.mem_cons_self)
  subst hsz
  have hAz := gx_az hD0 hz
  have hD := hD0.self (sz := s.heap.size)
  have hN := gx_ns hP
  have hA : ∀ q : Nat, s.heap.size ≤ q → va_A ws s.heap.size q := fun q h => Or.inr h
  generalize va_A ws s.heap.size = A at hD hN hA hAz ⊢
  generalize hPQ : (fun (r : Option Value ⊕ String) (ws' : va_W) => (r = Sum.inl none ∧ ws' = ws ∧ ¬ a0 < a1 ∧ a0 ≤ a2) ∨ (r = Sum.inr "java/lang/IllegalArgumentException" ∧ ws' = ws ∧ a0 < a1) ∨ (r = Sum.inr "java/lang/IllegalArgumentException" ∧ ws' = ws ∧ ¬ a0 < a1 ∧ ¬ a0 ≤ a2)) = PQ
  have hS : va_S A s.heap s.heap [] := va_S.rf
  have hU : gx_g ws ws 0 [] := gx_g.rf
  have hl := lv_entry ([Value.int a0, Value.int a1, Value.int a2]) (n := 3) (Nat.le_of_ble_eq_true rfl)
  rw [lg_entry_eq]
  generalize (lg_sl ([Value.int a0, Value.int a1, Value.int a2]) ++ List.replicate (3 - (lg_sl ([Value.int a0, Value.int a1, Value.int a2])).length) Slot.unset).toArray = ls at hl ⊢
  have hl : lv_has ls 3 [(0, Value.int a0), (1, Value.int a1), (2, Value.int a2)] := hl
  refine lv_iload_n hx hb d_Le_requireRange_0 rfl (lv_at hl 0 rfl) ?_
  refine lv_iload_n hx hb d_Le_requireRange_1 rfl (lv_at hl 1 rfl) ?_
  refine lv_icmp_lt (tgt := 10) hx hb d_Le_requireRange_2 (by decide) (fun c2_1 => ?_) (fun c2_1 => ?_)
  · exact gx_thr (D := D) (cl := classes) (tys := tys) (ws := ws) (i1 := 7) (b1 := prog_15_method_2_code) hx hb htr (hml.trans hl.1.symm) hown hts hne hlocks hP hK hD hS hA hN kk_Le_191 kX_IllegalArgumentException kN_IllegalArgumentException ks_Le_193 kT_Le_195 (by decide) (by decide +kernel) (by decide +kernel) (by decide +kernel) (by decide +kernel) d_Le_requireRange_10 d_Le_requireRange_13 d_Le_requireRange_14 d_Le_requireRange_16 d_Le_requireRange_19 (Nat.le_of_ble_eq_true rfl) (Nat.le_of_ble_eq_true rfl) (Nat.le_of_ble_eq_true rfl) (Nat.le_of_ble_eq_true rfl) (by decide) (by decide) (by rw [← hPQ]; exact Or.inr (Or.inl ⟨rfl, rfl, c2_1⟩))
  · refine lv_iload_n hx hb d_Le_requireRange_5 rfl (lv_at hl 0 rfl) ?_
    refine lv_iload_n hx hb d_Le_requireRange_6 rfl (lv_at hl 2 rfl) ?_
    refine lv_icmp_le (tgt := 20) hx hb d_Le_requireRange_7 (by decide) (fun c7_2 => ?_) (fun c7_2 => ?_)
    · refine W.widen (k := 1) (n := 6) (by decide) (by decide) ?_
      exact gx_ret (W.vret hx hb hr (gx_post hP hK hD hS (by rw [← hPQ]; exact Or.inl ⟨rfl, rfl, c2_1, c7_2⟩)) hS.2.2 d_Le_requireRange_20)
    · exact gx_thr (D := D) (cl := classes) (tys := tys) (ws := ws) (i1 := 7) (b1 := prog_15_method_2_code) hx hb htr (hml.trans hl.1.symm) hown hts hne hlocks hP hK hD hS hA hN kk_Le_191 kX_IllegalArgumentException kN_IllegalArgumentException ks_Le_193 kT_Le_195 (by decide) (by decide +kernel) (by decide +kernel) (by decide +kernel) (by decide +kernel) d_Le_requireRange_10 d_Le_requireRange_13 d_Le_requireRange_14 d_Le_requireRange_16 d_Le_requireRange_19 (Nat.le_of_ble_eq_true rfl) (Nat.le_of_ble_eq_true rfl) (Nat.le_of_ble_eq_true rfl) (Nat.le_of_ble_eq_true rfl) (by decide) (by decide) (by rw [← hPQ]; exact Or.inr (Or.inr (⟨rfl, rfl, c2_1, c7_2⟩)))

set_option maxHeartbeats 4000000 in
set_option maxRecDepth 100000 in
theorem c_Le_requireWriter (l : Launch) (htr : l.stackTraces = false) (D : va_G) (tys : List (ClassId × FieldType)) (z sz : Nat) (ws : va_W) (a : Nat) (e0 : Value) (e1 : Value) (e2 : Value) (e3 : Value) (e4 : Value) (e5 : Value) (e6 : Value) (wo : Int32) (e8 : Value) (e9 : Value) (e10 : Value) (e11 : Value) (e12 : Value) (e13 : Value) (e14 : Value) (e15 : Value) (e16 : Value) (e17 : Value) (f_0 : ws[0]? = some ((a, Sum.inr (0, [e0, e1, e2, e3, e4, e5, e6, Value.int wo, e8, e9, e10, e11, e12, e13, e14, e15, e16, e17])) : Nat × va_E)) : gx_Met l y_Le_requireWriter [Cond.code y_Le_requireWriter b_Le_requireWriter 1 none] { frames := 6, cells := 1, slots := 6, locals := 82 } (gx_P z sz D classes tys ws [Value.ref a]) (gx_Q D classes tys (va_A ws sz) (fun r ws' => (r = Sum.inl none ∧ ws' = ws ∧ ¬ wo = 0) ∨ (r = Sum.inr "java/lang/IllegalStateException" ∧ ws' = ws ∧ wo = 0))) 1 6 (va_A ws sz) := by
  refine gx_ofW (cc := b_Le_requireWriter) (maxL := 1) (ret := none) (by decide) rfl ?_
  intro p e s m args below meth c s₁ B hml hv
  obtain ⟨rfl, hsz, hz, hP, hK, hD0, hY⟩ := hv
  have hx := B.exec
  have hb := B.bytes
  have hr := B.returns
  have hts := hY.hts (#[Value.ref a] : Array Value)
  have hown : s.vm.findClass "CommitLedger" = some m.cls := findClass_of_methodNamed B.named
  have hlocks := B.notSynchronized
  have hne : c.exceptionTable.isEmpty = true := B.noHandlers (atoms_spec (ws := [Cond.code y_Le_requireWriter b_Le_requireWriter 1 none]) B.pre _ List.mem_cons_self)
  subst hsz
  have hAz := gx_az hD0 hz
  have hD := hD0.self (sz := s.heap.size)
  have hN := gx_ns hP
  have hA : ∀ q : Nat, s.heap.size ≤ q → va_A ws s.heap.size q := fun q h => Or.inr h
  generalize va_A ws s.heap.size = A at hD hN hA hAz ⊢
  generalize hPQ : (fun (r : Option Value ⊕ String) (ws' : va_W) => (r = Sum.inl none ∧ ws' = ws ∧ ¬ wo = 0) ∨ (r = Sum.inr "java/lang/IllegalStateException" ∧ ws' = ws ∧ wo = 0)) = PQ
  have hS : va_S A s.heap s.heap [] := va_S.rf
  have hU : gx_g ws ws 0 [] := gx_g.rf
  have hl := lv_entry ([Value.ref a]) (n := 1) (Nat.le_of_ble_eq_true rfl)
  rw [lg_entry_eq]
  generalize (lg_sl ([Value.ref a]) ++ List.replicate (1 - (lg_sl ([Value.ref a])).length) Slot.unset).toArray = ls at hl ⊢
  have hl : lv_has ls 1 [(0, Value.ref a)] := hl
  refine lv_aload_n hx hb d_Le_requireWriter_0 rfl (lv_at hl 0 rfl) ?_
  refine va_get (D := D) (ci := 0) (v := Value.int wo) (C := "CommitLedger") (T := F_Le) (N := 18) hx hb hts i_Le hown hK hP 0 f_0 rfl 7 (by decide) (hts _ kf_Le_64) (fun _ h9 => h9) rfl d_Le_requireWriter_1 ?_
  refine lv_if_ne (tgt := 18) hx hb d_Le_requireWriter_4 (by decide) (fun c4_1 => ?_) (fun c4_1 => ?_)
  · refine W.widen (k := 1) (n := 6) (by decide) (by decide) ?_
    exact gx_ret (W.vret hx hb hr (gx_post hP hK hD hS (by rw [← hPQ]; exact Or.inl ⟨rfl, rfl, c4_1⟩)) hS.2.2 d_Le_requireWriter_18)
  · exact gx_thrw (D := D) (cl := classes) (tys := tys) (ws := ws) (i1 := 7) (b1 := prog_16_method_2_code) hx hb htr (hml.trans hl.1.symm) hown hts hne hlocks hP hK hD hS hA hN kk_Le_68 kX_IllegalStateException kN_IllegalStateException ks_Le_288 kT_Le_72 (by decide) (by decide +kernel) (by decide +kernel) (by decide +kernel) (by decide +kernel) d_Le_requireWriter_7 d_Le_requireWriter_10 d_Le_requireWriter_11 d_Le_requireWriter_14 d_Le_requireWriter_17 (Nat.le_of_ble_eq_true rfl) (Nat.le_of_ble_eq_true rfl) (Nat.le_of_ble_eq_true rfl) (Nat.le_of_ble_eq_true rfl) (by decide) (by decide) (by rw [← hPQ]; exact Or.inr (⟨rfl, rfl, c4_1⟩))

set_option maxHeartbeats 4000000 in
set_option maxRecDepth 100000 in
theorem c_Le_requireNothingPrepared (l : Launch) (htr : l.stackTraces = false) (D : va_G) (tys : List (ClassId × FieldType)) (z sz : Nat) (ws : va_W) (a : Nat) (e0 : Value) (e1 : Value) (e2 : Value) (e3 : Value) (e4 : Value) (e5 : Value) (e6 : Value) (e7 : Value) (ip : Int32) (e9 : Value) (e10 : Value) (e11 : Value) (e12 : Value) (e13 : Value) (e14 : Value) (e15 : Value) (e16 : Value) (e17 : Value) (f_0 : ws[0]? = some ((a, Sum.inr (0, [e0, e1, e2, e3, e4, e5, e6, e7, Value.int ip, e9, e10, e11, e12, e13, e14, e15, e16, e17])) : Nat × va_E)) : gx_Met l y_Le_requireNothingPrepared [Cond.code y_Le_requireNothingPrepared b_Le_requireNothingPrepared 1 none] { frames := 6, cells := 1, slots := 6, locals := 82 } (gx_P z sz D classes tys ws [Value.ref a]) (gx_Q D classes tys (va_A ws sz) (fun r ws' => (r = Sum.inl none ∧ ws' = ws ∧ ip = 0) ∨ (r = Sum.inr "java/lang/IllegalStateException" ∧ ws' = ws ∧ ¬ ip = 0))) 1 6 (va_A ws sz) := by
  refine gx_ofW (cc := b_Le_requireNothingPrepared) (maxL := 1) (ret := none) (by decide) rfl ?_
  intro p e s m args below meth c s₁ B hml hv
  obtain ⟨rfl, hsz, hz, hP, hK, hD0, hY⟩ := hv
  have hx := B.exec
  have hb := B.bytes
  have hr := B.returns
  have hts := hY.hts (#[Value.ref a] : Array Value)
  have hown : s.vm.findClass "CommitLedger" = some m.cls := findClass_of_methodNamed B.named
  have hlocks := B.notSynchronized
  have hne : c.exceptionTable.isEmpty = true := B.noHandlers (atoms_spec (ws := [Cond.code y_Le_requireNothingPrepared b_Le_requireNothingPrepared 1 none]) B.pre _ List.mem_cons_self)
  subst hsz
  have hAz := gx_az hD0 hz
  have hD := hD0.self (sz := s.heap.size)
  have hN := gx_ns hP
  have hA : ∀ q : Nat, s.heap.size ≤ q → va_A ws s.heap.size q := fun q h => Or.inr h
  generalize va_A ws s.heap.size = A at hD hN hA hAz ⊢
  generalize hPQ : (fun (r : Option Value ⊕ String) (ws' : va_W) => (r = Sum.inl none ∧ ws' = ws ∧ ip = 0) ∨ (r = Sum.inr "java/lang/IllegalStateException" ∧ ws' = ws ∧ ¬ ip = 0)) = PQ
  have hS : va_S A s.heap s.heap [] := va_S.rf
  have hU : gx_g ws ws 0 [] := gx_g.rf
  have hl := lv_entry ([Value.ref a]) (n := 1) (Nat.le_of_ble_eq_true rfl)
  rw [lg_entry_eq]
  generalize (lg_sl ([Value.ref a]) ++ List.replicate (1 - (lg_sl ([Value.ref a])).length) Slot.unset).toArray = ls at hl ⊢
  have hl : lv_has ls 1 [(0, Value.ref a)] := hl
  refine lv_aload_n hx hb d_Le_requireNothingPrepared_0 rfl (lv_at hl 0 rfl) ?_
  refine va_get (D := D) (ci := 0) (v := Value.int ip) (C := "CommitLedger") (T := F_Le) (N := 18) hx hb hts i_Le hown hK hP 0 f_0 rfl 8 (by decide) (hts _ kf_Le_178) (fun _ h9 => h9) rfl d_Le_requireNothingPrepared_1 ?_
  refine lv_if_eq (tgt := 18) hx hb d_Le_requireNothingPrepared_4 (by decide) (fun c4_1 => ?_) (fun c4_1 => ?_)
  · refine W.widen (k := 1) (n := 6) (by decide) (by decide) ?_
    exact gx_ret (W.vret hx hb hr (gx_post hP hK hD hS (by rw [← hPQ]; exact Or.inl ⟨rfl, rfl, c4_1⟩)) hS.2.2 d_Le_requireNothingPrepared_18)
  · exact gx_thrw (D := D) (cl := classes) (tys := tys) (ws := ws) (i1 := 7) (b1 := prog_16_method_2_code) hx hb htr (hml.trans hl.1.symm) hown hts hne hlocks hP hK hD hS hA hN kk_Le_68 kX_IllegalStateException kN_IllegalStateException ks_Le_290 kT_Le_72 (by decide) (by decide +kernel) (by decide +kernel) (by decide +kernel) (by decide +kernel) d_Le_requireNothingPrepared_7 d_Le_requireNothingPrepared_10 d_Le_requireNothingPrepared_11 d_Le_requireNothingPrepared_14 d_Le_requireNothingPrepared_17 (Nat.le_of_ble_eq_true rfl) (Nat.le_of_ble_eq_true rfl) (Nat.le_of_ble_eq_true rfl) (Nat.le_of_ble_eq_true rfl) (by decide) (by decide) (by rw [← hPQ]; exact Or.inr (⟨rfl, rfl, c4_1⟩))

set_option maxHeartbeats 4000000 in
set_option maxRecDepth 100000 in
theorem c_Le_forgetWriter (l : Launch) (htr : l.stackTraces = false) (D : va_G) (tys : List (ClassId × FieldType)) (z sz : Nat) (ws : va_W) (a : Nat) (e0 : Value) (e1 : Value) (e2 : Value) (e3 : Value) (e4 : Value) (e5 : Value) (e6 : Value) (wo : Int32) (ip : Int32) (e9 : Value) (e10 : Value) (e11 : Value) (rn : Int32) (e13 : Value) (e14 : Value) (e15 : Value) (e16 : Value) (e17 : Value) (f_0 : ws[0]? = some ((a, Sum.inr (0, [e0, e1, e2, e3, e4, e5, e6, Value.int wo, Value.int ip, e9, e10, e11, Value.int rn, e13, e14, e15, e16, e17])) : Nat × va_E)) : gx_Met l y_Le_forgetWriter [Cond.code y_Le_forgetWriter b_Le_forgetWriter 1 none] { frames := 1, cells := 0, slots := 0, locals := 12 } (gx_P z sz D classes tys ws [Value.ref a]) (gx_Q D classes tys (va_A ws sz) (fun r ws' => (r = Sum.inl none ∧ gx_g ws ws' 0 [0] ∧ ws'[0]? = some ((a, Sum.inr (0, [e0, e1, e2, e3, e4, e5, e6, Value.int 0, Value.int 0, e9, e10, e11, Value.int 0, e13, e14, e15, e16, e17])) : Nat × va_E)))) 0 0 (va_A ws sz) := by
  refine gx_ofW (cc := b_Le_forgetWriter) (maxL := 1) (ret := none) (by decide) rfl ?_
  intro p e s m args below meth c s₁ B hml hv
  obtain ⟨rfl, hsz, hz, hP, hK, hD0, hY⟩ := hv
  have hx := B.exec
  have hb := B.bytes
  have hr := B.returns
  have hts := hY.hts (#[Value.ref a] : Array Value)
  have hown : s.vm.findClass "CommitLedger" = some m.cls := findClass_of_methodNamed B.named
  have hlocks := B.notSynchronized
  have hne : c.exceptionTable.isEmpty = true := B.noHandlers (atoms_spec (ws := [Cond.code y_Le_forgetWriter b_Le_forgetWriter 1 none]) B.pre _ List.mem_cons_self)
  subst hsz
  have hAz := gx_az hD0 hz
  have hD := hD0.self (sz := s.heap.size)
  have hN := gx_ns hP
  have hA : ∀ q : Nat, s.heap.size ≤ q → va_A ws s.heap.size q := fun q h => Or.inr h
  generalize va_A ws s.heap.size = A at hD hN hA hAz ⊢
  generalize hPQ : (fun (r : Option Value ⊕ String) (ws' : va_W) => (r = Sum.inl none ∧ gx_g ws ws' 0 [0] ∧ ws'[0]? = some ((a, Sum.inr (0, [e0, e1, e2, e3, e4, e5, e6, Value.int 0, Value.int 0, e9, e10, e11, Value.int 0, e13, e14, e15, e16, e17])) : Nat × va_E))) = PQ
  have hS : va_S A s.heap s.heap [] := va_S.rf
  have hU : gx_g ws ws 0 [0] := gx_g.rf
  have hl := lv_entry ([Value.ref a]) (n := 1) (Nat.le_of_ble_eq_true rfl)
  rw [lg_entry_eq]
  generalize (lg_sl ([Value.ref a]) ++ List.replicate (1 - (lg_sl ([Value.ref a])).length) Slot.unset).toArray = ls at hl ⊢
  have hl : lv_has ls 1 [(0, Value.ref a)] := hl
  refine lv_aload_n hx hb d_Le_forgetWriter_0 rfl (lv_at hl 0 rfl) ?_
  refine lv_iconst (v := 0) hx hb d_Le_forgetWriter_1 (by decide) ?_
  refine va_put (D := D) (ci := 0) (v := Value.int 0) (ty := .boolean) (C := "CommitLedger") (T := F_Le) (N := 18) hx hb hts i_Le t_Le t_Le_ok n_Le hown hK hP hD hS 0 f_0 rfl 7 (by decide) (hts _ kf_Le_64) (fun _ h9 => h9) rfl (by decide +kernel) rfl rfl (Nat.le_of_ble_eq_true rfl) d_Le_forgetWriter_2 (fun H locs hP9 hD9 hS9 => ?_)
  obtain ⟨ws1, e_ws1⟩ : ∃ x : va_W, x = ws.set 0 ((a, Sum.inr (0, [e0, e1, e2, e3, e4, e5, e6, Value.int 0, Value.int ip, e9, e10, e11, Value.int rn, e13, e14, e15, e16, e17])) : Nat × va_E) := ⟨_, rfl⟩
  replace hP : va_P D classes ws1 H := by rw [e_ws1]; exact hP9
  replace hD : va_D A ws1 := by rw [e_ws1]; exact hD9
  replace hS := hS9
  clear hP9 hD9 hS9
  have f_0_ws1 : ws1[0]? = some ((a, Sum.inr (0, [e0, e1, e2, e3, e4, e5, e6, Value.int 0, Value.int ip, e9, e10, e11, Value.int rn, e13, e14, e15, e16, e17])) : Nat × va_E) := by rw [e_ws1]; exact gs_self f_0
  replace hU : gx_g ws ws1 0 [0] := by rw [e_ws1]; exact hU.put (Or.inl (by simp))
  refine lv_aload_n hx hb d_Le_forgetWriter_5 rfl (lv_at hl 0 rfl) ?_
  refine lv_iconst (v := 0) hx hb d_Le_forgetWriter_6 (by decide) ?_
  refine va_put (D := D) (ci := 0) (v := Value.int 0) (ty := .boolean) (C := "CommitLedger") (T := F_Le) (N := 18) hx hb hts i_Le t_Le t_Le_ok n_Le hown hK hP hD hS 0 f_0_ws1 rfl 8 (by decide) (hts _ kf_Le_178) (fun _ h9 => h9) rfl (by decide +kernel) rfl rfl (Nat.le_of_ble_eq_true rfl) d_Le_forgetWriter_7 (fun H locs hP9 hD9 hS9 => ?_)
  obtain ⟨ws2, e_ws2⟩ : ∃ x : va_W, x = ws1.set 0 ((a, Sum.inr (0, [e0, e1, e2, e3, e4, e5, e6, Value.int 0, Value.int 0, e9, e10, e11, Value.int rn, e13, e14, e15, e16, e17])) : Nat × va_E) := ⟨_, rfl⟩
  replace hP : va_P D classes ws2 H := by rw [e_ws2]; exact hP9
  replace hD : va_D A ws2 := by rw [e_ws2]; exact hD9
  replace hS := hS9
  clear hP9 hD9 hS9
  have f_0_ws2 : ws2[0]? = some ((a, Sum.inr (0, [e0, e1, e2, e3, e4, e5, e6, Value.int 0, Value.int 0, e9, e10, e11, Value.int rn, e13, e14, e15, e16, e17])) : Nat × va_E) := by rw [e_ws2]; exact gs_self f_0_ws1
  replace hU : gx_g ws ws2 0 [0] := by rw [e_ws2]; exact hU.put (Or.inl (by simp))
  refine lv_aload_n hx hb d_Le_forgetWriter_10 rfl (lv_at hl 0 rfl) ?_
  refine lv_iconst (v := 0) hx hb d_Le_forgetWriter_11 (by decide) ?_
  refine va_put (D := D) (ci := 0) (v := Value.int 0) (ty := .int) (C := "CommitLedger") (T := F_Le) (N := 18) hx hb hts i_Le t_Le t_Le_ok n_Le hown hK hP hD hS 0 f_0_ws2 rfl 12 (by decide) (hts _ kf_Le_142) (fun _ h9 => h9) rfl (by decide +kernel) rfl rfl (Nat.le_of_ble_eq_true rfl) d_Le_forgetWriter_12 (fun H locs hP9 hD9 hS9 => ?_)
  obtain ⟨ws3, e_ws3⟩ : ∃ x : va_W, x = ws2.set 0 ((a, Sum.inr (0, [e0, e1, e2, e3, e4, e5, e6, Value.int 0, Value.int 0, e9, e10, e11, Value.int 0, e13, e14, e15, e16, e17])) : Nat × va_E) := ⟨_, rfl⟩
  replace hP : va_P D classes ws3 H := by rw [e_ws3]; exact hP9
  replace hD : va_D A ws3 := by rw [e_ws3]; exact hD9
  replace hS := hS9
  clear hP9 hD9 hS9
  have f_0_ws3 : ws3[0]? = some ((a, Sum.inr (0, [e0, e1, e2, e3, e4, e5, e6, Value.int 0, Value.int 0, e9, e10, e11, Value.int 0, e13, e14, e15, e16, e17])) : Nat × va_E) := by rw [e_ws3]; exact gs_self f_0_ws2
  replace hU : gx_g ws ws3 0 [0] := by rw [e_ws3]; exact hU.put (Or.inl (by simp))
  exact gx_ret (W.vret hx hb hr (gx_post hP hK hD hS (by rw [← hPQ]; exact ⟨rfl, hU, f_0_ws3⟩)) hS.2.2 d_Le_forgetWriter_15)

set_option maxHeartbeats 4000000 in
set_option maxRecDepth 100000 in
theorem c_Le_buffered (l : Launch) (htr : l.stackTraces = false) (D : va_G) (tys : List (ClassId × FieldType)) (z sz : Nat) (ws : va_W) (a : Nat) (ae : Nat) (e1 : Value) (e2 : Value) (e3 : Value) (e4 : Value) (e5 : Value) (e6 : Value) (e7 : Value) (e8 : Value) (bs : Int32) (e10 : Value) (e11 : Value) (e12 : Value) (e13 : Value) (e14 : Value) (e15 : Value) (e16 : Value) (e17 : Value) (u0 : Value) (u1 : Value) (u2 : Value) (ad : Int32) (f_0 : ws[0]? = some ((a, Sum.inr (0, [Value.ref ae, e1, e2, e3, e4, e5, e6, e7, e8, Value.int bs, e10, e11, e12, e13, e14, e15, e16, e17])) : Nat × va_E)) (f_1 : ws[1]? = some ((ae, Sum.inr (1, [u0, u1, u2, Value.int ad])) : Nat × va_E)) : gx_Met l y_Le_buffered [Cond.code y_Le_buffered b_Le_buffered 1 (some .int)] { frames := 1, cells := 0, slots := 0, locals := 12 } (gx_P z sz D classes tys ws [Value.ref a]) (gx_Q D classes tys (va_A ws sz) (fun r ws' => (r = Sum.inl (some (Value.int (ad - bs))) ∧ ws' = ws))) 0 0 (va_A ws sz) := by
  refine gx_ofW (cc := b_Le_buffered) (maxL := 1) (ret := (some .int)) (by decide) rfl ?_
  intro p e s m args below meth c s₁ B hml hv
  obtain ⟨rfl, hsz, hz, hP, hK, hD0, hY⟩ := hv
  have hx := B.exec
  have hb := B.bytes
  have hr := B.returns
  have hts := hY.hts (#[Value.ref a] : Array Value)
  have hown : s.vm.findClass "CommitLedger" = some m.cls := findClass_of_methodNamed B.named
  have hlocks := B.notSynchronized
  have hne : c.exceptionTable.isEmpty = true := B.noHandlers (atoms_spec (ws := [Cond.code y_Le_buffered b_Le_buffered 1 (some .int)]) B.pre _ List.mem_cons_self)
  subst hsz
  have hAz := gx_az hD0 hz
  have hD := hD0.self (sz := s.heap.size)
  have hN := gx_ns hP
  have hA : ∀ q : Nat, s.heap.size ≤ q → va_A ws s.heap.size q := fun q h => Or.inr h
  generalize va_A ws s.heap.size = A at hD hN hA hAz ⊢
  generalize hPQ : (fun (r : Option Value ⊕ String) (ws' : va_W) => (r = Sum.inl (some (Value.int (ad - bs))) ∧ ws' = ws)) = PQ
  have hS : va_S A s.heap s.heap [] := va_S.rf
  have hU : gx_g ws ws 0 [] := gx_g.rf
  have hl := lv_entry ([Value.ref a]) (n := 1) (Nat.le_of_ble_eq_true rfl)
  rw [lg_entry_eq]
  generalize (lg_sl ([Value.ref a]) ++ List.replicate (1 - (lg_sl ([Value.ref a])).length) Slot.unset).toArray = ls at hl ⊢
  have hl : lv_has ls 1 [(0, Value.ref a)] := hl
  refine lv_aload_n hx hb d_Le_buffered_0 rfl (lv_at hl 0 rfl) ?_
  refine va_get (D := D) (ci := 0) (v := Value.ref ae) (C := "CommitLedger") (T := F_Le) (N := 18) hx hb hts i_Le hown hK hP 0 f_0 rfl 0 (by decide) (hts _ kf_Le_10) (fun _ h9 => h9) rfl d_Le_buffered_1 ?_
  refine va_get (D := D) (ci := 1) (v := Value.int ad) (C := "CommitLedger$Entries") (T := F_En) (N := 4) hx hb hts i_En hown hK hP 1 f_1 rfl 3 (by decide) (hts _ kf_Le_94) (fun _ h9 => h9) rfl d_Le_buffered_4 ?_
  refine lv_aload_n hx hb d_Le_buffered_7 rfl (lv_at hl 0 rfl) ?_
  refine va_get (D := D) (ci := 0) (v := Value.int bs) (C := "CommitLedger") (T := F_Le) (N := 18) hx hb hts i_Le hown hK hP 0 f_0 rfl 9 (by decide) (hts _ kf_Le_97) (fun _ h9 => h9) rfl d_Le_buffered_8 ?_
  refine lv_isub hx hb d_Le_buffered_11 ?_
  exact gx_ret (W.iret (v := ad - bs) hx hb hr (gx_post hP hK hD hS (by rw [← hPQ]; exact ⟨rfl, rfl⟩)) hS.2.2 d_Le_buffered_12)

set_option maxHeartbeats 4000000 in
set_option maxRecDepth 100000 in
theorem c_Le_limits (l : Launch) (htr : l.stackTraces = false) (D : va_G) (tys : List (ClassId × FieldType)) (z sz : Nat) (ws : va_W) (a : Nat) (e0 : Value) (e1 : Value) (e2 : Value) (e3 : Value) (e4 : Value) (e5 : Value) (e6 : Value) (e7 : Value) (e8 : Value) (e9 : Value) (bl : Int32) (fa : Int32) (e12 : Value) (e13 : Value) (e14 : Value) (e15 : Value) (e16 : Value) (e17 : Value) (p1 : Int32) (p2 : Int32) (f_0 : ws[0]? = some ((a, Sum.inr (0, [e0, e1, e2, e3, e4, e5, e6, e7, e8, e9, Value.int bl, Value.int fa, e12, e13, e14, e15, e16, e17])) : Nat × va_E)) : gx_Met l y_Le_limits [Cond.code y_Le_limits b_Le_limits 3 none] { frames := 7, cells := 2, slots := 12, locals := 104 } (gx_P z sz D classes tys ws [Value.ref a, Value.int p1, Value.int p2]) (gx_Q D classes tys (va_A ws sz) (fun r ws' => (r = Sum.inl none ∧ gx_g ws ws' 0 [0] ∧ ws'[0]? = some ((a, Sum.inr (0, [e0, e1, e2, e3, e4, e5, e6, e7, e8, e9, Value.int p1, Value.int p2, e12, e13, e14, e15, e16, e17])) : Nat × va_E) ∧ ¬ p1 < 1 ∧ p1 ≤ 10000 ∧ ¬ p2 < 2 ∧ p2 ≤ 64) ∨ (r = Sum.inr "java/lang/IllegalArgumentException" ∧ ws' = ws ∧ p1 < 1) ∨ (r = Sum.inr "java/lang/IllegalArgumentException" ∧ ws' = ws ∧ ¬ p1 < 1 ∧ ¬ p1 ≤ 10000) ∨ (r = Sum.inr "java/lang/IllegalArgumentException" ∧ ws' = ws ∧ ¬ p1 < 1 ∧ p1 ≤ 10000 ∧ p2 < 2) ∨ (r = Sum.inr "java/lang/IllegalArgumentException" ∧ ws' = ws ∧ ¬ p1 < 1 ∧ p1 ≤ 10000 ∧ ¬ p2 < 2 ∧ ¬ p2 ≤ 64))) 2 12 (va_A ws sz) := by
  refine gx_ofW (cc := b_Le_limits) (maxL := 3) (ret := none) (by decide) rfl ?_
  intro p e s m args below meth c s₁ B hml hv
  obtain ⟨rfl, hsz, hz, hP, hK, hD0, hY⟩ := hv
  have hx := B.exec
  have hb := B.bytes
  have hr := B.returns
  have hts := hY.hts (#[Value.ref a, Value.int p1, Value.int p2] : Array Value)
  have hown : s.vm.findClass "CommitLedger" = some m.cls := findClass_of_methodNamed B.named
  have hlocks := B.notSynchronized
  have hne : c.exceptionTable.isEmpty = true := B.noHandlers (atoms_spec (ws := [Cond.code y_Le_limits b_Le_limits 3 none]) B.pre _ List.mem_cons_self)
  subst hsz
  have hAz := gx_az hD0 hz
  have hD := hD0.self (sz := s.heap.size)
  have hN := gx_ns hP
  have hA : ∀ q : Nat, s.heap.size ≤ q → va_A ws s.heap.size q := fun q h => Or.inr h
  generalize va_A ws s.heap.size = A at hD hN hA hAz ⊢
  generalize hPQ : (fun (r : Option Value ⊕ String) (ws' : va_W) => (r = Sum.inl none ∧ gx_g ws ws' 0 [0] ∧ ws'[0]? = some ((a, Sum.inr (0, [e0, e1, e2, e3, e4, e5, e6, e7, e8, e9, Value.int p1, Value.int p2, e12, e13, e14, e15, e16, e17])) : Nat × va_E) ∧ ¬ p1 < 1 ∧ p1 ≤ 10000 ∧ ¬ p2 < 2 ∧ p2 ≤ 64) ∨ (r = Sum.inr "java/lang/IllegalArgumentException" ∧ ws' = ws ∧ p1 < 1) ∨ (r = Sum.inr "java/lang/IllegalArgumentException" ∧ ws' = ws ∧ ¬ p1 < 1 ∧ ¬ p1 ≤ 10000) ∨ (r = Sum.inr "java/lang/IllegalArgumentException" ∧ ws' = ws ∧ ¬ p1 < 1 ∧ p1 ≤ 10000 ∧ p2 < 2) ∨ (r = Sum.inr "java/lang/IllegalArgumentException" ∧ ws' = ws ∧ ¬ p1 < 1 ∧ p1 ≤ 10000 ∧ ¬ p2 < 2 ∧ ¬ p2 ≤ 64)) = PQ
  have hS : va_S A s.heap s.heap [] := va_S.rf
  have hU : gx_g ws ws 0 [0] := gx_g.rf
  have hl := lv_entry ([Value.ref a, Value.int p1, Value.int p2]) (n := 3) (Nat.le_of_ble_eq_true rfl)
  rw [lg_entry_eq]
  generalize (lg_sl ([Value.ref a, Value.int p1, Value.int p2]) ++ List.replicate (3 - (lg_sl ([Value.ref a, Value.int p1, Value.int p2])).length) Slot.unset).toArray = ls at hl ⊢
  have hl : lv_has ls 3 [(0, Value.ref a), (1, Value.int p1), (2, Value.int p2)] := hl
  refine lv_iload_n hx hb d_Le_limits_0 rfl (lv_at hl 1 rfl) ?_
  refine lv_iconst (v := 1) hx hb d_Le_limits_1 (by decide) ?_
  refine lv_sipush (v := 10000) hx hb d_Le_limits_2 (by decide) ?_
  refine gx_call (ig := .invokestatic 60) (c_Le_requireRange l htr D tys z _ ws p1 1 10000) (gx_invS (As := [Value.int p1, Value.int 1, Value.int 10000]) (rest := []) hx hb hown hts km_Le_60 kS_Le_requireRange kN_Le kc_Le_requireRange (by decide) (show (parseMethodDescriptor y_Le_requireRange.desc).map (fun d => d.parameters.length) = some 3 by decide +kernel) rfl rfl d_Le_limits_5) (gx_cw (z := 0) hts kc_Le_requireRange kN_Le rfl rfl ⟨Nat.le_of_ble_eq_true rfl, Nat.le_of_ble_eq_true rfl⟩) hb hml gx_blind (gx_pre hz hP hK hD hY hS hAz [Value.int p1, Value.int 1, Value.int 10000]) rfl hl.1 (lv_room (Nat.le_of_ble_eq_true rfl)) d_Le_limits_5 ⟨Nat.le_of_ble_eq_true rfl, Nat.le_of_ble_eq_true rfl⟩ (fun v1 st1 t1 L1 h0_1 hW_1 hQ_1 hL_1 => ?_) (fun v1 st1 t1 L1 h0_1 hW_1 hQ_1 hL_1 => ?_)
  · obtain ⟨ws2, hp, hP9, -, hD9, hS9⟩ := gx_back h0_1 hW_1 hQ_1 hL_1 hD hS hA
    clear hQ_1 h0_1 hL_1 hW_1 hP hD hS
    have hP := hP9
    have hD := hD9
    have hS := hS9
    clear hP9 hD9 hS9
    rcases hp with ⟨hv9, e_ws2, g1_0, g1_1⟩ | ⟨hv9, e_ws2, g1_0⟩ | ⟨hv9, e_ws2, g1_0, g1_1⟩
    · cases hv9
      rw [e_ws2] at hP hD
      refine W.eq (g2 := F0 m 8 ls []) rfl ?_
      refine W.widen (k := 1) (n := 6) (by decide) (by decide) ?_
      generalize t1.heap = H at hP hS ⊢
      generalize [] ++ L1 = locs at hS ⊢
      refine lv_iload_n hx hb d_Le_limits_8 rfl (lv_at hl 2 rfl) ?_
      refine lv_iconst (v := 2) hx hb d_Le_limits_9 (by decide) ?_
      refine lv_bipush (v := 64) hx hb d_Le_limits_10 (by decide) ?_
      refine gx_call (ig := .invokestatic 60) (c_Le_requireRange l htr D tys z _ ws p2 2 64) (gx_invS (As := [Value.int p2, Value.int 2, Value.int 64]) (rest := []) hx hb hown hts km_Le_60 kS_Le_requireRange kN_Le kc_Le_requireRange (by decide) (show (parseMethodDescriptor y_Le_requireRange.desc).map (fun d => d.parameters.length) = some 3 by decide +kernel) rfl rfl d_Le_limits_12) (gx_cw (z := 0) hts kc_Le_requireRange kN_Le rfl rfl ⟨Nat.le_of_ble_eq_true rfl, Nat.le_of_ble_eq_true rfl⟩) hb hml gx_blind (gx_pre hz hP hK hD hY hS hAz [Value.int p2, Value.int 2, Value.int 64]) rfl hl.1 (lv_room (Nat.le_of_ble_eq_true rfl)) d_Le_limits_12 ⟨Nat.le_of_ble_eq_true rfl, Nat.le_of_ble_eq_true rfl⟩ (fun v3 st3 t3 L3 h0_3 hW_3 hQ_3 hL_3 => ?_) (fun v3 st3 t3 L3 h0_3 hW_3 hQ_3 hL_3 => ?_)
      · obtain ⟨ws4, hp, hP9, -, hD9, hS9⟩ := gx_back h0_3 hW_3 hQ_3 hL_3 hD hS hA
        clear hQ_3 h0_3 hL_3 hW_3 hP hD hS
        have hP := hP9
        have hD := hD9
        have hS := hS9
        clear hP9 hD9 hS9
        rcases hp with ⟨hv9, e_ws4, g3_0, g3_1⟩ | ⟨hv9, e_ws4, g3_0⟩ | ⟨hv9, e_ws4, g3_0, g3_1⟩
        · cases hv9
          rw [e_ws4] at hP hD
          refine W.eq (g2 := F0 m 15 ls []) rfl ?_
          refine W.widen (k := 2) (n := 12) (by decide) (by decide) ?_
          generalize t3.heap = H at hP hS ⊢
          generalize locs ++ L3 = locs at hS ⊢
          refine lv_aload_n hx hb d_Le_limits_15 rfl (lv_at hl 0 rfl) ?_
          refine lv_iload_n hx hb d_Le_limits_16 rfl (lv_at hl 1 rfl) ?_
          refine va_put (D := D) (ci := 0) (v := Value.int p1) (ty := .int) (C := "CommitLedger") (T := F_Le) (N := 18) hx hb hts i_Le t_Le t_Le_ok n_Le hown hK hP hD hS 0 f_0 rfl 10 (by decide) (hts _ kf_Le_50) (fun _ h9 => h9) rfl (by decide +kernel) rfl rfl (Nat.le_of_ble_eq_true rfl) d_Le_limits_17 (fun H locs hP9 hD9 hS9 => ?_)
          obtain ⟨ws5, e_ws5⟩ : ∃ x : va_W, x = ws.set 0 ((a, Sum.inr (0, [e0, e1, e2, e3, e4, e5, e6, e7, e8, e9, Value.int p1, Value.int fa, e12, e13, e14, e15, e16, e17])) : Nat × va_E) := ⟨_, rfl⟩
          replace hP : va_P D classes ws5 H := by rw [e_ws5]; exact hP9
          replace hD : va_D A ws5 := by rw [e_ws5]; exact hD9
          replace hS := hS9
          clear hP9 hD9 hS9
          have f_0_ws5 : ws5[0]? = some ((a, Sum.inr (0, [e0, e1, e2, e3, e4, e5, e6, e7, e8, e9, Value.int p1, Value.int fa, e12, e13, e14, e15, e16, e17])) : Nat × va_E) := by rw [e_ws5]; exact gs_self f_0
          replace hU : gx_g ws ws5 0 [0] := by rw [e_ws5]; exact hU.put (Or.inl (by simp))
          refine lv_aload_n hx hb d_Le_limits_20 rfl (lv_at hl 0 rfl) ?_
          refine lv_iload_n hx hb d_Le_limits_21 rfl (lv_at hl 2 rfl) ?_
          refine va_put (D := D) (ci := 0) (v := Value.int p2) (ty := .int) (C := "CommitLedger") (T := F_Le) (N := 18) hx hb hts i_Le t_Le t_Le_ok n_Le hown hK hP hD hS 0 f_0_ws5 rfl 11 (by decide) (hts _ kf_Le_54) (fun _ h9 => h9) rfl (by decide +kernel) rfl rfl (Nat.le_of_ble_eq_true rfl) d_Le_limits_22 (fun H locs hP9 hD9 hS9 => ?_)
          obtain ⟨ws6, e_ws6⟩ : ∃ x : va_W, x = ws5.set 0 ((a, Sum.inr (0, [e0, e1, e2, e3, e4, e5, e6, e7, e8, e9, Value.int p1, Value.int p2, e12, e13, e14, e15, e16, e17])) : Nat × va_E) := ⟨_, rfl⟩
          replace hP : va_P D classes ws6 H := by rw [e_ws6]; exact hP9
          replace hD : va_D A ws6 := by rw [e_ws6]; exact hD9
          replace hS := hS9
          clear hP9 hD9 hS9
          have f_0_ws6 : ws6[0]? = some ((a, Sum.inr (0, [e0, e1, e2, e3, e4, e5, e6, e7, e8, e9, Value.int p1, Value.int p2, e12, e13, e14, e15, e16, e17])) : Nat × va_E) := by rw [e_ws6]; exact gs_self f_0_ws5
          replace hU : gx_g ws ws6 0 [0] := by rw [e_ws6]; exact hU.put (Or.inl (by simp))
          exact gx_ret (W.vret hx hb hr (gx_post hP hK hD hS (by rw [← hPQ]; exact Or.inl ⟨rfl, hU, f_0_ws6, g1_0, g1_1, g3_0, g3_1⟩)) hS.2.2 d_Le_limits_25)
        · cases hv9
        · cases hv9
      · obtain ⟨E9, ws7, ce, hp, hce, hP9, -, hD9, hS9⟩ := gx_backT h0_3 hW_3 hQ_3 hL_3 hD hS hA
        clear hQ_3 h0_3 hL_3 hW_3 hP hD hS
        have hP := hP9
        have hD := hD9
        have hS := hS9
        clear hP9 hD9 hS9
        rcases hp with ⟨hv9, e_ws7, g3_0, g3_1⟩ | ⟨hv9, e_ws7, g3_0⟩ | ⟨hv9, e_ws7, g3_0, g3_1⟩
        · cases hv9
        · cases hv9
          rw [e_ws7] at hP hD
          exact gx_pass hne hlocks hce hP hK hD hS (by decide) (by decide) (by rw [← hPQ]; exact Or.inr (Or.inr (Or.inr (Or.inl ⟨rfl, rfl, g1_0, g1_1, g3_0⟩))))
        · cases hv9
          rw [e_ws7] at hP hD
          exact gx_pass hne hlocks hce hP hK hD hS (by decide) (by decide) (by rw [← hPQ]; exact Or.inr (Or.inr (Or.inr (Or.inr (⟨rfl, rfl, g1_0, g1_1, g3_0, g3_1⟩)))))
    · cases hv9
    · cases hv9
  · obtain ⟨E9, ws8, ce, hp, hce, hP9, -, hD9, hS9⟩ := gx_backT h0_1 hW_1 hQ_1 hL_1 hD hS hA
    clear hQ_1 h0_1 hL_1 hW_1 hP hD hS
    have hP := hP9
    have hD := hD9
    have hS := hS9
    clear hP9 hD9 hS9
    rcases hp with ⟨hv9, e_ws8, g1_0, g1_1⟩ | ⟨hv9, e_ws8, g1_0⟩ | ⟨hv9, e_ws8, g1_0, g1_1⟩
    · cases hv9
    · cases hv9
      rw [e_ws8] at hP hD
      exact gx_pass hne hlocks hce hP hK hD hS (by decide) (by decide) (by rw [← hPQ]; exact Or.inr (Or.inl ⟨rfl, rfl, g1_0⟩))
    · cases hv9
      rw [e_ws8] at hP hD
      exact gx_pass hne hlocks hce hP hK hD hS (by decide) (by decide) (by rw [← hPQ]; exact Or.inr (Or.inr (Or.inl ⟨rfl, rfl, g1_0, g1_1⟩)))

set_option maxHeartbeats 4000000 in
set_option maxRecDepth 100000 in
theorem c_Le_power (l : Launch) (htr : l.stackTraces = false) (D : va_G) (tys : List (ClassId × FieldType)) (z sz : Nat) (ws : va_W) (a : Nat) (e0 : Value) (e1 : Value) (e2 : Value) (e3 : Value) (e4 : Value) (e5 : Value) (e6 : Value) (e7 : Value) (e8 : Value) (e9 : Value) (e10 : Value) (e11 : Value) (e12 : Value) (e13 : Value) (e14 : Value) (e15 : Value) (e16 : Value) (al : Int32) (p1 : Int32) (f_0 : ws[0]? = some ((a, Sum.inr (0, [e0, e1, e2, e3, e4, e5, e6, e7, e8, e9, e10, e11, e12, e13, e14, e15, e16, Value.int al])) : Nat × va_E)) : gx_Met l y_Le_power [Cond.code y_Le_power b_Le_power 2 none] { frames := 7, cells := 1, slots := 6, locals := 104 } (gx_P z sz D classes tys ws [Value.ref a, Value.int p1]) (gx_Q D classes tys (va_A ws sz) (fun r ws' => (r = Sum.inl none ∧ gx_g ws ws' 0 [0] ∧ ws'[0]? = some ((a, Sum.inr (0, [e0, e1, e2, e3, e4, e5, e6, e7, e8, e9, e10, e11, e12, e13, e14, e15, e16, Value.int p1])) : Nat × va_E) ∧ ¬ p1 < (-1) ∧ p1 ≤ 1000000) ∨ (r = Sum.inr "java/lang/IllegalArgumentException" ∧ ws' = ws ∧ p1 < (-1)) ∨ (r = Sum.inr "java/lang/IllegalArgumentException" ∧ ws' = ws ∧ ¬ p1 < (-1) ∧ ¬ p1 ≤ 1000000))) 1 6 (va_A ws sz) := by
  refine gx_ofW (cc := b_Le_power) (maxL := 2) (ret := none) (by decide) rfl ?_
  intro p e s m args below meth c s₁ B hml hv
  obtain ⟨rfl, hsz, hz, hP, hK, hD0, hY⟩ := hv
  have hx := B.exec
  have hb := B.bytes
  have hr := B.returns
  have hts := hY.hts (#[Value.ref a, Value.int p1] : Array Value)
  have hown : s.vm.findClass "CommitLedger" = some m.cls := findClass_of_methodNamed B.named
  have hlocks := B.notSynchronized
  have hne : c.exceptionTable.isEmpty = true := B.noHandlers (atoms_spec (ws := [Cond.code y_Le_power b_Le_power 2 none]) B.pre _ List.mem_cons_self)
  subst hsz
  have hAz := gx_az hD0 hz
  have hD := hD0.self (sz := s.heap.size)
  have hN := gx_ns hP
  have hA : ∀ q : Nat, s.heap.size ≤ q → va_A ws s.heap.size q := fun q h => Or.inr h
  generalize va_A ws s.heap.size = A at hD hN hA hAz ⊢
  generalize hPQ : (fun (r : Option Value ⊕ String) (ws' : va_W) => (r = Sum.inl none ∧ gx_g ws ws' 0 [0] ∧ ws'[0]? = some ((a, Sum.inr (0, [e0, e1, e2, e3, e4, e5, e6, e7, e8, e9, e10, e11, e12, e13, e14, e15, e16, Value.int p1])) : Nat × va_E) ∧ ¬ p1 < (-1) ∧ p1 ≤ 1000000) ∨ (r = Sum.inr "java/lang/IllegalArgumentException" ∧ ws' = ws ∧ p1 < (-1)) ∨ (r = Sum.inr "java/lang/IllegalArgumentException" ∧ ws' = ws ∧ ¬ p1 < (-1) ∧ ¬ p1 ≤ 1000000)) = PQ
  have hS : va_S A s.heap s.heap [] := va_S.rf
  have hU : gx_g ws ws 0 [0] := gx_g.rf
  have hl := lv_entry ([Value.ref a, Value.int p1]) (n := 2) (Nat.le_of_ble_eq_true rfl)
  rw [lg_entry_eq]
  generalize (lg_sl ([Value.ref a, Value.int p1]) ++ List.replicate (2 - (lg_sl ([Value.ref a, Value.int p1])).length) Slot.unset).toArray = ls at hl ⊢
  have hl : lv_has ls 2 [(0, Value.ref a), (1, Value.int p1)] := hl
  refine lv_iload_n hx hb d_Le_power_0 rfl (lv_at hl 1 rfl) ?_
  refine lv_iconst (v := (-1)) hx hb d_Le_power_1 (by decide) ?_
  refine lv_ldc (v := 1000000) hx hb hown (hts _ ki_Le_187) d_Le_power_2 ?_
  refine gx_call (ig := .invokestatic 60) (c_Le_requireRange l htr D tys z _ ws p1 (-1) 1000000) (gx_invS (As := [Value.int p1, Value.int (-1), Value.int 1000000]) (rest := []) hx hb hown hts km_Le_60 kS_Le_requireRange kN_Le kc_Le_requireRange (by decide) (show (parseMethodDescriptor y_Le_requireRange.desc).map (fun d => d.parameters.length) = some 3 by decide +kernel) rfl rfl d_Le_power_4) (gx_cw (z := 0) hts kc_Le_requireRange kN_Le rfl rfl ⟨Nat.le_of_ble_eq_true rfl, Nat.le_of_ble_eq_true rfl⟩) hb hml gx_blind (gx_pre hz hP hK hD hY hS hAz [Value.int p1, Value.int (-1), Value.int 1000000]) rfl hl.1 (lv_room (Nat.le_of_ble_eq_true rfl)) d_Le_power_4 ⟨Nat.le_of_ble_eq_true rfl, Nat.le_of_ble_eq_true rfl⟩ (fun v1 st1 t1 L1 h0_1 hW_1 hQ_1 hL_1 => ?_) (fun v1 st1 t1 L1 h0_1 hW_1 hQ_1 hL_1 => ?_)
  · obtain ⟨ws2, hp, hP9, -, hD9, hS9⟩ := gx_back h0_1 hW_1 hQ_1 hL_1 hD hS hA
    clear hQ_1 h0_1 hL_1 hW_1 hP hD hS
    have hP := hP9
    have hD := hD9
    have hS := hS9
    clear hP9 hD9 hS9
    rcases hp with ⟨hv9, e_ws2, g1_0, g1_1⟩ | ⟨hv9, e_ws2, g1_0⟩ | ⟨hv9, e_ws2, g1_0, g1_1⟩
    · cases hv9
      rw [e_ws2] at hP hD
      refine W.eq (g2 := F0 m 7 ls []) rfl ?_
      refine W.widen (k := 1) (n := 6) (by decide) (by decide) ?_
      generalize t1.heap = H at hP hS ⊢
      generalize [] ++ L1 = locs at hS ⊢
      refine lv_aload_n hx hb d_Le_power_7 rfl (lv_at hl 0 rfl) ?_
      refine lv_iload_n hx hb d_Le_power_8 rfl (lv_at hl 1 rfl) ?_
      refine va_put (D := D) (ci := 0) (v := Value.int p1) (ty := .int) (C := "CommitLedger") (T := F_Le) (N := 18) hx hb hts i_Le t_Le t_Le_ok n_Le hown hK hP hD hS 0 f_0 rfl 17 (by decide) (hts _ kf_Le_57) (fun _ h9 => h9) rfl (by decide +kernel) rfl rfl (Nat.le_of_ble_eq_true rfl) d_Le_power_9 (fun H locs hP9 hD9 hS9 => ?_)
      obtain ⟨ws3, e_ws3⟩ : ∃ x : va_W, x = ws.set 0 ((a, Sum.inr (0, [e0, e1, e2, e3, e4, e5, e6, e7, e8, e9, e10, e11, e12, e13, e14, e15, e16, Value.int p1])) : Nat × va_E) := ⟨_, rfl⟩
      replace hP : va_P D classes ws3 H := by rw [e_ws3]; exact hP9
      replace hD : va_D A ws3 := by rw [e_ws3]; exact hD9
      replace hS := hS9
      clear hP9 hD9 hS9
      have f_0_ws3 : ws3[0]? = some ((a, Sum.inr (0, [e0, e1, e2, e3, e4, e5, e6, e7, e8, e9, e10, e11, e12, e13, e14, e15, e16, Value.int p1])) : Nat × va_E) := by rw [e_ws3]; exact gs_self f_0
      replace hU : gx_g ws ws3 0 [0] := by rw [e_ws3]; exact hU.put (Or.inl (by simp))
      exact gx_ret (W.vret hx hb hr (gx_post hP hK hD hS (by rw [← hPQ]; exact Or.inl ⟨rfl, hU, f_0_ws3, g1_0, g1_1⟩)) hS.2.2 d_Le_power_12)
    · cases hv9
    · cases hv9
  · obtain ⟨E9, ws4, ce, hp, hce, hP9, -, hD9, hS9⟩ := gx_backT h0_1 hW_1 hQ_1 hL_1 hD hS hA
    clear hQ_1 h0_1 hL_1 hW_1 hP hD hS
    have hP := hP9
    have hD := hD9
    have hS := hS9
    clear hP9 hD9 hS9
    rcases hp with ⟨hv9, e_ws4, g1_0, g1_1⟩ | ⟨hv9, e_ws4, g1_0⟩ | ⟨hv9, e_ws4, g1_0, g1_1⟩
    · cases hv9
    · cases hv9
      rw [e_ws4] at hP hD
      exact gx_pass hne hlocks hce hP hK hD hS (by decide) (by decide) (by rw [← hPQ]; exact Or.inr (Or.inl ⟨rfl, rfl, g1_0⟩))
    · cases hv9
      rw [e_ws4] at hP hD
      exact gx_pass hne hlocks hce hP hK hD hS (by decide) (by decide) (by rw [← hPQ]; exact Or.inr (Or.inr (⟨rfl, rfl, g1_0, g1_1⟩)))
