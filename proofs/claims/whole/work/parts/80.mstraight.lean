/-! STRAIGHT METHODS over maps, their roads found by walking; rows printed by an own text program -/
set_option maxHeartbeats 4000000 in
set_option maxRecDepth 100000 in
theorem k_Le_requireRange (l : Launch) (htr : l.stackTraces = false) (D : va_G) (tys : List (ClassId × FieldType)) (z sz : Nat) (ws : va_W) (h : gm_M) (hM : gm_S h ws) (p1 : Int32) (p2 : Int32) (p3 : Int32) : gx_Met l y_Le_requireRange [Cond.code y_Le_requireRange b_Le_requireRange 3 none] { frames := 6, cells := 1, slots := 6, locals := 82 } (gx_P z sz D classes tys ws [Value.int p1, Value.int p2, Value.int p3]) (gx_Q D classes tys (va_A ws sz) (gm_p (fun r h' => (r = Sum.inr "java/lang/IllegalArgumentException" ∧ h' = h ∧ (p1 < p2)) ∨ (r = Sum.inl none ∧ h' = h ∧ (¬ p1 < p2) ∧ (p1 ≤ p3)) ∨ (r = Sum.inr "java/lang/IllegalArgumentException" ∧ h' = h ∧ (¬ p1 < p2) ∧ (¬ p1 ≤ p3))))) 1 6 (va_A ws sz) := by
  refine gx_ofW (cc := b_Le_requireRange) (maxL := 3) (ret := none) (by decide) rfl ?_
  intro p e s m args below meth c s₁ B hml hv
  obtain ⟨rfl, hsz, hz, hP, hK, hD0, hY⟩ := hv
  have hx := B.exec
  have hb := B.bytes
  have hr := B.returns
  have hts := hY.hts (#[Value.int p1, Value.int p2, Value.int p3] : Array Value)
  have hown : s.vm.findClass "CommitLedger" = some m.cls := findClass_of_methodNamed B.named
  have hlocks := B.notSynchronized
  have hne : c.exceptionTable.isEmpty = true := B.noHandlers (atoms_spec (ws := [Cond.code y_Le_requireRange b_Le_requireRange 3 none]) B.pre _ List.mem_cons_self)
  subst hsz
  have hAz := gx_az hD0 hz
  have hD := hD0.self (sz := s.heap.size)
  have hN := gx_ns hP
  have hA : ∀ q : Nat, s.heap.size ≤ q → va_A ws s.heap.size q := fun q h => Or.inr h
  generalize va_A ws s.heap.size = A at hD hN hA hAz ⊢
  generalize hPQ : (fun (r : Option Value ⊕ String) (h' : gm_M) => (r = Sum.inr "java/lang/IllegalArgumentException" ∧ h' = h ∧ (p1 < p2)) ∨ (r = Sum.inl none ∧ h' = h ∧ (¬ p1 < p2) ∧ (p1 ≤ p3)) ∨ (r = Sum.inr "java/lang/IllegalArgumentException" ∧ h' = h ∧ (¬ p1 < p2) ∧ (¬ p1 ≤ p3))) = PQ
  have Z : gz D A s.heap h s.heap [] := ⟨ws, hM, hP, hD, va_S.rf⟩
  clear hP hD hM hD0
  have hU : gm_g h h [] := gm_g.rf
  have hl := lv_entry ([Value.int p1, Value.int p2, Value.int p3]) (n := 3) (Nat.le_of_ble_eq_true rfl)
  rw [lg_entry_eq]
  generalize (lg_sl ([Value.int p1, Value.int p2, Value.int p3]) ++ List.replicate (3 - (lg_sl ([Value.int p1, Value.int p2, Value.int p3])).length) Slot.unset).toArray = ls at hl ⊢
  have hl : lv_has ls 3 [(0, Value.int p1), (1, Value.int p2), (2, Value.int p3)] := hl
  refine lv_iload_n hx hb d_Le_requireRange_0 rfl (lv_at hl 0 rfl) ?_
  refine lv_iload_n hx hb d_Le_requireRange_1 rfl (lv_at hl 1 rfl) ?_
  refine lv_icmp_lt (tgt := 10) hx hb d_Le_requireRange_2 (by decide) (fun c2_1 => ?_) (fun c2_1 => ?_)
  · obtain ⟨ws9, hM9, hP9, hD9, hS9⟩ := Z
    exact gx_thr (D := D) (cl := classes) (tys := tys) (ws := ws9) (i1 := 7) (b1 := prog_15_method_2_code) hx hb htr (hml.trans hl.1.symm) hown hts hne hlocks hP9 hK hD9 hS9 hA hN kk_Le_191 kX_IllegalArgumentException kN_IllegalArgumentException ks_Le_193 kT_Le_195 (by decide) (by decide +kernel) (by decide +kernel) (by decide +kernel) (by decide +kernel) d_Le_requireRange_10 d_Le_requireRange_13 d_Le_requireRange_14 d_Le_requireRange_16 d_Le_requireRange_19 (Nat.le_of_ble_eq_true rfl) (Nat.le_of_ble_eq_true rfl) (Nat.le_of_ble_eq_true rfl) (Nat.le_of_ble_eq_true rfl) (by decide) (by decide) ⟨h, hM9, by rw [← hPQ]; exact Or.inl ⟨rfl, rfl, c2_1⟩⟩
  · refine lv_iload_n hx hb d_Le_requireRange_5 rfl (lv_at hl 0 rfl) ?_
    refine lv_iload_n hx hb d_Le_requireRange_6 rfl (lv_at hl 2 rfl) ?_
    refine lv_icmp_le (tgt := 20) hx hb d_Le_requireRange_7 (by decide) (fun c7_2 => ?_) (fun c7_2 => ?_)
    · exact gz_vret hx hb hr hlocks hK Z (by decide) (by decide) (by rw [← hPQ]; exact Or.inr (Or.inl ⟨rfl, rfl, c2_1, c7_2⟩)) d_Le_requireRange_20
    · obtain ⟨ws9, hM9, hP9, hD9, hS9⟩ := Z
      exact gx_thr (D := D) (cl := classes) (tys := tys) (ws := ws9) (i1 := 7) (b1 := prog_15_method_2_code) hx hb htr (hml.trans hl.1.symm) hown hts hne hlocks hP9 hK hD9 hS9 hA hN kk_Le_191 kX_IllegalArgumentException kN_IllegalArgumentException ks_Le_193 kT_Le_195 (by decide) (by decide +kernel) (by decide +kernel) (by decide +kernel) (by decide +kernel) d_Le_requireRange_10 d_Le_requireRange_13 d_Le_requireRange_14 d_Le_requireRange_16 d_Le_requireRange_19 (Nat.le_of_ble_eq_true rfl) (Nat.le_of_ble_eq_true rfl) (Nat.le_of_ble_eq_true rfl) (Nat.le_of_ble_eq_true rfl) (by decide) (by decide) ⟨h, hM9, by rw [← hPQ]; exact Or.inr (Or.inr (⟨rfl, rfl, c2_1, c7_2⟩))⟩

set_option maxHeartbeats 4000000 in
set_option maxRecDepth 100000 in
theorem k_Le_requireWriter (l : Launch) (htr : l.stackTraces = false) (D : va_G) (tys : List (ClassId × FieldType)) (z sz : Nat) (ws : va_W) (h : gm_M) (hM : gm_S h ws) (q0 : Nat) (q1 : Nat) (q5 : Nat) (q8 : Nat) (q20 : Nat) (q25 : Nat) (ec : Value) (ep : Value) (l7 : Int32) (l8 : Int32) (l9 : Int32) (l10 : Int32) (l11 : Int32) (l12 : Int32) (l13 : Int32) (l14 : Int32) (l15 : Int32) (l16 : Int32) (l17 : Int32) (f_0 : h 0 = some ((q0, Sum.inr (0, [Value.ref q1, Value.ref q5, Value.ref q8, Value.ref q20, Value.ref q25, ec, ep, Value.int l7, Value.int l8, Value.int l9, Value.int l10, Value.int l11, Value.int l12, Value.int l13, Value.int l14, Value.int l15, Value.int l16, Value.int l17])) : Nat × va_E)) : gx_Met l y_Le_requireWriter [Cond.code y_Le_requireWriter b_Le_requireWriter 1 none] { frames := 6, cells := 1, slots := 6, locals := 82 } (gx_P z sz D classes tys ws [Value.ref q0]) (gx_Q D classes tys (va_A ws sz) (gm_p (fun r h' => (r = Sum.inl none ∧ h' = h ∧ (¬ l7 = 0)) ∨ (r = Sum.inr "java/lang/IllegalStateException" ∧ h' = h ∧ (l7 = 0))))) 1 6 (va_A ws sz) := by
  refine gx_ofW (cc := b_Le_requireWriter) (maxL := 1) (ret := none) (by decide) rfl ?_
  intro p e s m args below meth c s₁ B hml hv
  obtain ⟨rfl, hsz, hz, hP, hK, hD0, hY⟩ := hv
  have hx := B.exec
  have hb := B.bytes
  have hr := B.returns
  have hts := hY.hts (#[Value.ref q0] : Array Value)
  have hown : s.vm.findClass "CommitLedger" = some m.cls := findClass_of_methodNamed B.named
  have hlocks := B.notSynchronized
  have hne : c.exceptionTable.isEmpty = true := B.noHandlers (atoms_spec (ws := [Cond.code y_Le_requireWriter b_Le_requireWriter 1 none]) B.pre _ List.mem_cons_self)
  subst hsz
  have hAz := gx_az hD0 hz
  have hD := hD0.self (sz := s.heap.size)
  have hN := gx_ns hP
  have hA : ∀ q : Nat, s.heap.size ≤ q → va_A ws s.heap.size q := fun q h => Or.inr h
  generalize va_A ws s.heap.size = A at hD hN hA hAz ⊢
  generalize hPQ : (fun (r : Option Value ⊕ String) (h' : gm_M) => (r = Sum.inl none ∧ h' = h ∧ (¬ l7 = 0)) ∨ (r = Sum.inr "java/lang/IllegalStateException" ∧ h' = h ∧ (l7 = 0))) = PQ
  have Z : gz D A s.heap h s.heap [] := ⟨ws, hM, hP, hD, va_S.rf⟩
  clear hP hD hM hD0
  have hU : gm_g h h [] := gm_g.rf
  have hl := lv_entry ([Value.ref q0]) (n := 1) (Nat.le_of_ble_eq_true rfl)
  rw [lg_entry_eq]
  generalize (lg_sl ([Value.ref q0]) ++ List.replicate (1 - (lg_sl ([Value.ref q0])).length) Slot.unset).toArray = ls at hl ⊢
  have hl : lv_has ls 1 [(0, Value.ref q0)] := hl
  refine lv_aload_n hx hb d_Le_requireWriter_0 rfl (lv_at hl 0 rfl) ?_
  refine gz_get (ci := 0) (v := Value.int l7) (C := "CommitLedger") (T := F_Le) (N := 18) hx hb hts i_Le hown hK Z f_0 rfl 7 (by decide) kf_Le_64 rfl d_Le_requireWriter_1 ?_
  refine lv_if_ne (tgt := 18) hx hb d_Le_requireWriter_4 (by decide) (fun c4_1 => ?_) (fun c4_1 => ?_)
  · exact gz_vret hx hb hr hlocks hK Z (by decide) (by decide) (by rw [← hPQ]; exact Or.inl ⟨rfl, rfl, c4_1⟩) d_Le_requireWriter_18
  · obtain ⟨ws9, hM9, hP9, hD9, hS9⟩ := Z
    exact gx_thrw (D := D) (cl := classes) (tys := tys) (ws := ws9) (i1 := 7) (b1 := prog_16_method_2_code) hx hb htr (hml.trans hl.1.symm) hown hts hne hlocks hP9 hK hD9 hS9 hA hN kk_Le_68 kX_IllegalStateException kN_IllegalStateException ks_Le_288 kT_Le_72 (by decide) (by decide +kernel) (by decide +kernel) (by decide +kernel) (by decide +kernel) d_Le_requireWriter_7 d_Le_requireWriter_10 d_Le_requireWriter_11 d_Le_requireWriter_14 d_Le_requireWriter_17 (Nat.le_of_ble_eq_true rfl) (Nat.le_of_ble_eq_true rfl) (Nat.le_of_ble_eq_true rfl) (Nat.le_of_ble_eq_true rfl) (by decide) (by decide) ⟨h, hM9, by rw [← hPQ]; exact Or.inr (⟨rfl, rfl, c4_1⟩)⟩

set_option maxHeartbeats 4000000 in
set_option maxRecDepth 100000 in
theorem k_Le_requireNothingPrepared (l : Launch) (htr : l.stackTraces = false) (D : va_G) (tys : List (ClassId × FieldType)) (z sz : Nat) (ws : va_W) (h : gm_M) (hM : gm_S h ws) (q0 : Nat) (q1 : Nat) (q5 : Nat) (q8 : Nat) (q20 : Nat) (q25 : Nat) (ec : Value) (ep : Value) (l7 : Int32) (l8 : Int32) (l9 : Int32) (l10 : Int32) (l11 : Int32) (l12 : Int32) (l13 : Int32) (l14 : Int32) (l15 : Int32) (l16 : Int32) (l17 : Int32) (f_0 : h 0 = some ((q0, Sum.inr (0, [Value.ref q1, Value.ref q5, Value.ref q8, Value.ref q20, Value.ref q25, ec, ep, Value.int l7, Value.int l8, Value.int l9, Value.int l10, Value.int l11, Value.int l12, Value.int l13, Value.int l14, Value.int l15, Value.int l16, Value.int l17])) : Nat × va_E)) : gx_Met l y_Le_requireNothingPrepared [Cond.code y_Le_requireNothingPrepared b_Le_requireNothingPrepared 1 none] { frames := 6, cells := 1, slots := 6, locals := 82 } (gx_P z sz D classes tys ws [Value.ref q0]) (gx_Q D classes tys (va_A ws sz) (gm_p (fun r h' => (r = Sum.inl none ∧ h' = h ∧ (l8 = 0)) ∨ (r = Sum.inr "java/lang/IllegalStateException" ∧ h' = h ∧ (¬ l8 = 0))))) 1 6 (va_A ws sz) := by
  refine gx_ofW (cc := b_Le_requireNothingPrepared) (maxL := 1) (ret := none) (by decide) rfl ?_
  intro p e s m args below meth c s₁ B hml hv
  obtain ⟨rfl, hsz, hz, hP, hK, hD0, hY⟩ := hv
  have hx := B.exec
  have hb := B.bytes
  have hr := B.returns
  have hts := hY.hts (#[Value.ref q0] : Array Value)
  have hown : s.vm.findClass "CommitLedger" = some m.cls := findClass_of_methodNamed B.named
  have hlocks := B.notSynchronized
  have hne : c.exceptionTable.isEmpty = true := B.noHandlers (atoms_spec (ws := [Cond.code y_Le_requireNothingPrepared b_Le_requireNothingPrepared 1 none]) B.pre _ List.mem_cons_self)
  subst hsz
  have hAz := gx_az hD0 hz
  have hD := hD0.self (sz := s.heap.size)
  have hN := gx_ns hP
  have hA : ∀ q : Nat, s.heap.size ≤ q → va_A ws s.heap.size q := fun q h => Or.inr h
  generalize va_A ws s.heap.size = A at hD hN hA hAz ⊢
  generalize hPQ : (fun (r : Option Value ⊕ String) (h' : gm_M) => (r = Sum.inl none ∧ h' = h ∧ (l8 = 0)) ∨ (r = Sum.inr "java/lang/IllegalStateException" ∧ h' = h ∧ (¬ l8 = 0))) = PQ
  have Z : gz D A s.heap h s.heap [] := ⟨ws, hM, hP, hD, va_S.rf⟩
  clear hP hD hM hD0
  have hU : gm_g h h [] := gm_g.rf
  have hl := lv_entry ([Value.ref q0]) (n := 1) (Nat.le_of_ble_eq_true rfl)
  rw [lg_entry_eq]
  generalize (lg_sl ([Value.ref q0]) ++ List.replicate (1 - (lg_sl ([Value.ref q0])).length) Slot.unset).toArray = ls at hl ⊢
  have hl : lv_has ls 1 [(0, Value.ref q0)] := hl
  refine lv_aload_n hx hb d_Le_requireNothingPrepared_0 rfl (lv_at hl 0 rfl) ?_
  refine gz_get (ci := 0) (v := Value.int l8) (C := "CommitLedger") (T := F_Le) (N := 18) hx hb hts i_Le hown hK Z f_0 rfl 8 (by decide) kf_Le_178 rfl d_Le_requireNothingPrepared_1 ?_
  refine lv_if_eq (tgt := 18) hx hb d_Le_requireNothingPrepared_4 (by decide) (fun c4_1 => ?_) (fun c4_1 => ?_)
  · exact gz_vret hx hb hr hlocks hK Z (by decide) (by decide) (by rw [← hPQ]; exact Or.inl ⟨rfl, rfl, c4_1⟩) d_Le_requireNothingPrepared_18
  · obtain ⟨ws9, hM9, hP9, hD9, hS9⟩ := Z
    exact gx_thrw (D := D) (cl := classes) (tys := tys) (ws := ws9) (i1 := 7) (b1 := prog_16_method_2_code) hx hb htr (hml.trans hl.1.symm) hown hts hne hlocks hP9 hK hD9 hS9 hA hN kk_Le_68 kX_IllegalStateException kN_IllegalStateException ks_Le_290 kT_Le_72 (by decide) (by decide +kernel) (by decide +kernel) (by decide +kernel) (by decide +kernel) d_Le_requireNothingPrepared_7 d_Le_requireNothingPrepared_10 d_Le_requireNothingPrepared_11 d_Le_requireNothingPrepared_14 d_Le_requireNothingPrepared_17 (Nat.le_of_ble_eq_true rfl) (Nat.le_of_ble_eq_true rfl) (Nat.le_of_ble_eq_true rfl) (Nat.le_of_ble_eq_true rfl) (by decide) (by decide) ⟨h, hM9, by rw [← hPQ]; exact Or.inr (⟨rfl, rfl, c4_1⟩)⟩

set_option maxHeartbeats 4000000 in
set_option maxRecDepth 100000 in
theorem k_Le_forgetWriter (l : Launch) (htr : l.stackTraces = false) (D : va_G) (tys : List (ClassId × FieldType)) (z sz : Nat) (ws : va_W) (h : gm_M) (hM : gm_S h ws) (q0 : Nat) (q1 : Nat) (q5 : Nat) (q8 : Nat) (q20 : Nat) (q25 : Nat) (ec : Value) (ep : Value) (l7 : Int32) (l8 : Int32) (l9 : Int32) (l10 : Int32) (l11 : Int32) (l12 : Int32) (l13 : Int32) (l14 : Int32) (l15 : Int32) (l16 : Int32) (l17 : Int32) (f_0 : h 0 = some ((q0, Sum.inr (0, [Value.ref q1, Value.ref q5, Value.ref q8, Value.ref q20, Value.ref q25, ec, ep, Value.int l7, Value.int l8, Value.int l9, Value.int l10, Value.int l11, Value.int l12, Value.int l13, Value.int l14, Value.int l15, Value.int l16, Value.int l17])) : Nat × va_E)) : gx_Met l y_Le_forgetWriter [Cond.code y_Le_forgetWriter b_Le_forgetWriter 1 none] { frames := 1, cells := 0, slots := 0, locals := 12 } (gx_P z sz D classes tys ws [Value.ref q0]) (gx_Q D classes tys (va_A ws sz) (gm_p (fun r h' => (r = Sum.inl none ∧ gm_g h h' [0] ∧ h' 0 = some ((q0, Sum.inr (0, [Value.ref q1, Value.ref q5, Value.ref q8, Value.ref q20, Value.ref q25, ec, ep, Value.int 0, Value.int 0, Value.int l9, Value.int l10, Value.int l11, Value.int 0, Value.int l13, Value.int l14, Value.int l15, Value.int l16, Value.int l17])) : Nat × va_E))))) 0 0 (va_A ws sz) := by
  refine gx_ofW (cc := b_Le_forgetWriter) (maxL := 1) (ret := none) (by decide) rfl ?_
  intro p e s m args below meth c s₁ B hml hv
  obtain ⟨rfl, hsz, hz, hP, hK, hD0, hY⟩ := hv
  have hx := B.exec
  have hb := B.bytes
  have hr := B.returns
  have hts := hY.hts (#[Value.ref q0] : Array Value)
  have hown : s.vm.findClass "CommitLedger" = some m.cls := findClass_of_methodNamed B.named
  have hlocks := B.notSynchronized
  have hne : c.exceptionTable.isEmpty = true := B.noHandlers (atoms_spec (ws := [Cond.code y_Le_forgetWriter b_Le_forgetWriter 1 none]) B.pre _ List.mem_cons_self)
  subst hsz
  have hAz := gx_az hD0 hz
  have hD := hD0.self (sz := s.heap.size)
  have hN := gx_ns hP
  have hA : ∀ q : Nat, s.heap.size ≤ q → va_A ws s.heap.size q := fun q h => Or.inr h
  generalize va_A ws s.heap.size = A at hD hN hA hAz ⊢
  generalize hPQ : (fun (r : Option Value ⊕ String) (h' : gm_M) => (r = Sum.inl none ∧ gm_g h h' [0] ∧ h' 0 = some ((q0, Sum.inr (0, [Value.ref q1, Value.ref q5, Value.ref q8, Value.ref q20, Value.ref q25, ec, ep, Value.int 0, Value.int 0, Value.int l9, Value.int l10, Value.int l11, Value.int 0, Value.int l13, Value.int l14, Value.int l15, Value.int l16, Value.int l17])) : Nat × va_E))) = PQ
  have Z : gz D A s.heap h s.heap [] := ⟨ws, hM, hP, hD, va_S.rf⟩
  clear hP hD hM hD0
  have hU : gm_g h h [0] := gm_g.rf
  have hl := lv_entry ([Value.ref q0]) (n := 1) (Nat.le_of_ble_eq_true rfl)
  rw [lg_entry_eq]
  generalize (lg_sl ([Value.ref q0]) ++ List.replicate (1 - (lg_sl ([Value.ref q0])).length) Slot.unset).toArray = ls at hl ⊢
  have hl : lv_has ls 1 [(0, Value.ref q0)] := hl
  refine lv_aload_n hx hb d_Le_forgetWriter_0 rfl (lv_at hl 0 rfl) ?_
  refine lv_iconst (v := 0) hx hb d_Le_forgetWriter_1 (by decide) ?_
  refine gz_put (ci := 0) (v := Value.int 0) (ty := .boolean) (C := "CommitLedger") (T := F_Le) (N := 18) hx hb hts i_Le t_Le_ok n_Le hown hK Z f_0 rfl 7 (by decide) kf_Le_64 rfl (by decide +kernel) rfl rfl (Nat.le_of_ble_eq_true rfl) d_Le_forgetWriter_2 (fun H locs Z => ?_)
  obtain ⟨h1, e_h1⟩ : ∃ z9 : gm_M, z9 = gm_up h 0 ((q0, Sum.inr (0, [Value.ref q1, Value.ref q5, Value.ref q8, Value.ref q20, Value.ref q25, ec, ep, Value.int 0, Value.int l8, Value.int l9, Value.int l10, Value.int l11, Value.int l12, Value.int l13, Value.int l14, Value.int l15, Value.int l16, Value.int l17])) : Nat × va_E) := ⟨_, rfl⟩
  replace Z : gz D A s.heap h1 H locs := by rw [e_h1]; exact Z
  have f_0_h1 : h1 0 = some ((q0, Sum.inr (0, [Value.ref q1, Value.ref q5, Value.ref q8, Value.ref q20, Value.ref q25, ec, ep, Value.int 0, Value.int l8, Value.int l9, Value.int l10, Value.int l11, Value.int l12, Value.int l13, Value.int l14, Value.int l15, Value.int l16, Value.int l17])) : Nat × va_E) := by rw [e_h1]; exact gm_self
  replace hU : gm_g h h1 [0] := by rw [e_h1]; exact hU.put (by simp)
  refine lv_aload_n hx hb d_Le_forgetWriter_5 rfl (lv_at hl 0 rfl) ?_
  refine lv_iconst (v := 0) hx hb d_Le_forgetWriter_6 (by decide) ?_
  refine gz_put (ci := 0) (v := Value.int 0) (ty := .boolean) (C := "CommitLedger") (T := F_Le) (N := 18) hx hb hts i_Le t_Le_ok n_Le hown hK Z f_0_h1 rfl 8 (by decide) kf_Le_178 rfl (by decide +kernel) rfl rfl (Nat.le_of_ble_eq_true rfl) d_Le_forgetWriter_7 (fun H locs Z => ?_)
  obtain ⟨h2, e_h2⟩ : ∃ z9 : gm_M, z9 = gm_up h1 0 ((q0, Sum.inr (0, [Value.ref q1, Value.ref q5, Value.ref q8, Value.ref q20, Value.ref q25, ec, ep, Value.int 0, Value.int 0, Value.int l9, Value.int l10, Value.int l11, Value.int l12, Value.int l13, Value.int l14, Value.int l15, Value.int l16, Value.int l17])) : Nat × va_E) := ⟨_, rfl⟩
  replace Z : gz D A s.heap h2 H locs := by rw [e_h2]; exact Z
  have f_0_h2 : h2 0 = some ((q0, Sum.inr (0, [Value.ref q1, Value.ref q5, Value.ref q8, Value.ref q20, Value.ref q25, ec, ep, Value.int 0, Value.int 0, Value.int l9, Value.int l10, Value.int l11, Value.int l12, Value.int l13, Value.int l14, Value.int l15, Value.int l16, Value.int l17])) : Nat × va_E) := by rw [e_h2]; exact gm_self
  replace hU : gm_g h h2 [0] := by rw [e_h2]; exact hU.put (by simp)
  refine lv_aload_n hx hb d_Le_forgetWriter_10 rfl (lv_at hl 0 rfl) ?_
  refine lv_iconst (v := 0) hx hb d_Le_forgetWriter_11 (by decide) ?_
  refine gz_put (ci := 0) (v := Value.int 0) (ty := .int) (C := "CommitLedger") (T := F_Le) (N := 18) hx hb hts i_Le t_Le_ok n_Le hown hK Z f_0_h2 rfl 12 (by decide) kf_Le_142 rfl (by decide +kernel) rfl rfl (Nat.le_of_ble_eq_true rfl) d_Le_forgetWriter_12 (fun H locs Z => ?_)
  obtain ⟨h3, e_h3⟩ : ∃ z9 : gm_M, z9 = gm_up h2 0 ((q0, Sum.inr (0, [Value.ref q1, Value.ref q5, Value.ref q8, Value.ref q20, Value.ref q25, ec, ep, Value.int 0, Value.int 0, Value.int l9, Value.int l10, Value.int l11, Value.int 0, Value.int l13, Value.int l14, Value.int l15, Value.int l16, Value.int l17])) : Nat × va_E) := ⟨_, rfl⟩
  replace Z : gz D A s.heap h3 H locs := by rw [e_h3]; exact Z
  have f_0_h3 : h3 0 = some ((q0, Sum.inr (0, [Value.ref q1, Value.ref q5, Value.ref q8, Value.ref q20, Value.ref q25, ec, ep, Value.int 0, Value.int 0, Value.int l9, Value.int l10, Value.int l11, Value.int 0, Value.int l13, Value.int l14, Value.int l15, Value.int l16, Value.int l17])) : Nat × va_E) := by rw [e_h3]; exact gm_self
  replace hU : gm_g h h3 [0] := by rw [e_h3]; exact hU.put (by simp)
  exact gz_vret hx hb hr hlocks hK Z (by decide) (by decide) (by rw [← hPQ]; exact ⟨rfl, hU, f_0_h3⟩) d_Le_forgetWriter_15

set_option maxHeartbeats 4000000 in
set_option maxRecDepth 100000 in
theorem k_Le_openReaders (l : Launch) (htr : l.stackTraces = false) (D : va_G) (tys : List (ClassId × FieldType)) (z sz : Nat) (ws : va_W) (h : gm_M) (hM : gm_S h ws) (cR : ClassId) (q0 : Nat) (q1 : Nat) (q5 : Nat) (q8 : Nat) (q20 : Nat) (q25 : Nat) (ec : Value) (ep : Value) (l7 : Int32) (l8 : Int32) (l9 : Int32) (l10 : Int32) (l11 : Int32) (l12 : Int32) (l13 : Int32) (l14 : Int32) (l15 : Int32) (l16 : Int32) (l17 : Int32) (q26 : Nat) (q27 : Nat) (q31 : Nat) (q32 : Nat) (q36 : Nat) (q37 : Nat) (q41 : Nat) (q42 : Nat) (rn26 : Int32) (ro26 : Int32) (rn31 : Int32) (ro31 : Int32) (rn36 : Int32) (ro36 : Int32) (rn41 : Int32) (ro41 : Int32) (f_0 : h 0 = some ((q0, Sum.inr (0, [Value.ref q1, Value.ref q5, Value.ref q8, Value.ref q20, Value.ref q25, ec, ep, Value.int l7, Value.int l8, Value.int l9, Value.int l10, Value.int l11, Value.int l12, Value.int l13, Value.int l14, Value.int l15, Value.int l16, Value.int l17])) : Nat × va_E)) (f_25 : h 25 = some ((q25, Sum.inl (cR, 4, Sum.inr (Sum.inr (Sum.inr (Sum.inr (va_up (va_up (va_up (va_up (fun _ => none) 0 (some q26)) 1 (some q31)) 2 (some q36)) 3 (some q41))))))) : Nat × va_E)) (f_26 : h 26 = some ((q26, Sum.inr (6, [Value.ref q27, Value.int rn26, Value.int ro26])) : Nat × va_E)) (f_31 : h 31 = some ((q31, Sum.inr (6, [Value.ref q32, Value.int rn31, Value.int ro31])) : Nat × va_E)) (f_36 : h 36 = some ((q36, Sum.inr (6, [Value.ref q37, Value.int rn36, Value.int ro36])) : Nat × va_E)) (f_41 : h 41 = some ((q41, Sum.inr (6, [Value.ref q42, Value.int rn41, Value.int ro41])) : Nat × va_E)) (ht4 : tys[4]? = some ((cR, FieldType.object "CommitLedger$Reader") : ClassId × FieldType)) : gx_Met l y_Le_openReaders [Cond.code y_Le_openReaders b_Le_openReaders 3 (some .int)] { frames := 1, cells := 0, slots := 0, locals := 12 } (gx_P z sz D classes tys ws [Value.ref q0]) (gx_Q D classes tys (va_A ws sz) (gm_p (fun r h' => (r = Sum.inl (some (Value.int 0)) ∧ h' = h ∧ (ro26 = 0) ∧ (ro31 = 0) ∧ (ro36 = 0) ∧ (ro41 = 0)) ∨ (r = Sum.inl (some (Value.int 1)) ∧ h' = h ∧ (ro26 = 0) ∧ (ro31 = 0) ∧ (ro36 = 0) ∧ (¬ ro41 = 0)) ∨ (r = Sum.inl (some (Value.int 1)) ∧ h' = h ∧ (ro26 = 0) ∧ (ro31 = 0) ∧ (¬ ro36 = 0) ∧ (ro41 = 0)) ∨ (r = Sum.inl (some (Value.int 2)) ∧ h' = h ∧ (ro26 = 0) ∧ (ro31 = 0) ∧ (¬ ro36 = 0) ∧ (¬ ro41 = 0)) ∨ (r = Sum.inl (some (Value.int 1)) ∧ h' = h ∧ (ro26 = 0) ∧ (¬ ro31 = 0) ∧ (ro36 = 0) ∧ (ro41 = 0)) ∨ (r = Sum.inl (some (Value.int 2)) ∧ h' = h ∧ (ro26 = 0) ∧ (¬ ro31 = 0) ∧ (ro36 = 0) ∧ (¬ ro41 = 0)) ∨ (r = Sum.inl (some (Value.int 2)) ∧ h' = h ∧ (ro26 = 0) ∧ (¬ ro31 = 0) ∧ (¬ ro36 = 0) ∧ (ro41 = 0)) ∨ (r = Sum.inl (some (Value.int 3)) ∧ h' = h ∧ (ro26 = 0) ∧ (¬ ro31 = 0) ∧ (¬ ro36 = 0) ∧ (¬ ro41 = 0)) ∨ (r = Sum.inl (some (Value.int 1)) ∧ h' = h ∧ (¬ ro26 = 0) ∧ (ro31 = 0) ∧ (ro36 = 0) ∧ (ro41 = 0)) ∨ (r = Sum.inl (some (Value.int 2)) ∧ h' = h ∧ (¬ ro26 = 0) ∧ (ro31 = 0) ∧ (ro36 = 0) ∧ (¬ ro41 = 0)) ∨ (r = Sum.inl (some (Value.int 2)) ∧ h' = h ∧ (¬ ro26 = 0) ∧ (ro31 = 0) ∧ (¬ ro36 = 0) ∧ (ro41 = 0)) ∨ (r = Sum.inl (some (Value.int 3)) ∧ h' = h ∧ (¬ ro26 = 0) ∧ (ro31 = 0) ∧ (¬ ro36 = 0) ∧ (¬ ro41 = 0)) ∨ (r = Sum.inl (some (Value.int 2)) ∧ h' = h ∧ (¬ ro26 = 0) ∧ (¬ ro31 = 0) ∧ (ro36 = 0) ∧ (ro41 = 0)) ∨ (r = Sum.inl (some (Value.int 3)) ∧ h' = h ∧ (¬ ro26 = 0) ∧ (¬ ro31 = 0) ∧ (ro36 = 0) ∧ (¬ ro41 = 0)) ∨ (r = Sum.inl (some (Value.int 3)) ∧ h' = h ∧ (¬ ro26 = 0) ∧ (¬ ro31 = 0) ∧ (¬ ro36 = 0) ∧ (ro41 = 0)) ∨ (r = Sum.inl (some (Value.int 4)) ∧ h' = h ∧ (¬ ro26 = 0) ∧ (¬ ro31 = 0) ∧ (¬ ro36 = 0) ∧ (¬ ro41 = 0))))) 0 0 (va_A ws sz) := by
  refine gx_ofW (cc := b_Le_openReaders) (maxL := 3) (ret := (some .int)) (by decide) rfl ?_
  intro p e s m args below meth c s₁ B hml hv
  obtain ⟨rfl, hsz, hz, hP, hK, hD0, hY⟩ := hv
  have hx := B.exec
  have hb := B.bytes
  have hr := B.returns
  have hts := hY.hts (#[Value.ref q0] : Array Value)
  have hown : s.vm.findClass "CommitLedger" = some m.cls := findClass_of_methodNamed B.named
  have hlocks := B.notSynchronized
  have hne : c.exceptionTable.isEmpty = true := B.noHandlers (atoms_spec (ws := [Cond.code y_Le_openReaders b_Le_openReaders 3 (some .int)]) B.pre _ List.mem_cons_self)
  subst hsz
  have hAz := gx_az hD0 hz
  have hD := hD0.self (sz := s.heap.size)
  have hN := gx_ns hP
  have hA : ∀ q : Nat, s.heap.size ≤ q → va_A ws s.heap.size q := fun q h => Or.inr h
  generalize va_A ws s.heap.size = A at hD hN hA hAz ⊢
  generalize hPQ : (fun (r : Option Value ⊕ String) (h' : gm_M) => (r = Sum.inl (some (Value.int 0)) ∧ h' = h ∧ (ro26 = 0) ∧ (ro31 = 0) ∧ (ro36 = 0) ∧ (ro41 = 0)) ∨ (r = Sum.inl (some (Value.int 1)) ∧ h' = h ∧ (ro26 = 0) ∧ (ro31 = 0) ∧ (ro36 = 0) ∧ (¬ ro41 = 0)) ∨ (r = Sum.inl (some (Value.int 1)) ∧ h' = h ∧ (ro26 = 0) ∧ (ro31 = 0) ∧ (¬ ro36 = 0) ∧ (ro41 = 0)) ∨ (r = Sum.inl (some (Value.int 2)) ∧ h' = h ∧ (ro26 = 0) ∧ (ro31 = 0) ∧ (¬ ro36 = 0) ∧ (¬ ro41 = 0)) ∨ (r = Sum.inl (some (Value.int 1)) ∧ h' = h ∧ (ro26 = 0) ∧ (¬ ro31 = 0) ∧ (ro36 = 0) ∧ (ro41 = 0)) ∨ (r = Sum.inl (some (Value.int 2)) ∧ h' = h ∧ (ro26 = 0) ∧ (¬ ro31 = 0) ∧ (ro36 = 0) ∧ (¬ ro41 = 0)) ∨ (r = Sum.inl (some (Value.int 2)) ∧ h' = h ∧ (ro26 = 0) ∧ (¬ ro31 = 0) ∧ (¬ ro36 = 0) ∧ (ro41 = 0)) ∨ (r = Sum.inl (some (Value.int 3)) ∧ h' = h ∧ (ro26 = 0) ∧ (¬ ro31 = 0) ∧ (¬ ro36 = 0) ∧ (¬ ro41 = 0)) ∨ (r = Sum.inl (some (Value.int 1)) ∧ h' = h ∧ (¬ ro26 = 0) ∧ (ro31 = 0) ∧ (ro36 = 0) ∧ (ro41 = 0)) ∨ (r = Sum.inl (some (Value.int 2)) ∧ h' = h ∧ (¬ ro26 = 0) ∧ (ro31 = 0) ∧ (ro36 = 0) ∧ (¬ ro41 = 0)) ∨ (r = Sum.inl (some (Value.int 2)) ∧ h' = h ∧ (¬ ro26 = 0) ∧ (ro31 = 0) ∧ (¬ ro36 = 0) ∧ (ro41 = 0)) ∨ (r = Sum.inl (some (Value.int 3)) ∧ h' = h ∧ (¬ ro26 = 0) ∧ (ro31 = 0) ∧ (¬ ro36 = 0) ∧ (¬ ro41 = 0)) ∨ (r = Sum.inl (some (Value.int 2)) ∧ h' = h ∧ (¬ ro26 = 0) ∧ (¬ ro31 = 0) ∧ (ro36 = 0) ∧ (ro41 = 0)) ∨ (r = Sum.inl (some (Value.int 3)) ∧ h' = h ∧ (¬ ro26 = 0) ∧ (¬ ro31 = 0) ∧ (ro36 = 0) ∧ (¬ ro41 = 0)) ∨ (r = Sum.inl (some (Value.int 3)) ∧ h' = h ∧ (¬ ro26 = 0) ∧ (¬ ro31 = 0) ∧ (¬ ro36 = 0) ∧ (ro41 = 0)) ∨ (r = Sum.inl (some (Value.int 4)) ∧ h' = h ∧ (¬ ro26 = 0) ∧ (¬ ro31 = 0) ∧ (¬ ro36 = 0) ∧ (¬ ro41 = 0))) = PQ
  have Z : gz D A s.heap h s.heap [] := ⟨ws, hM, hP, hD, va_S.rf⟩
  clear hP hD hM hD0
  have hU : gm_g h h [] := gm_g.rf
  have hl := lv_entry ([Value.ref q0]) (n := 3) (Nat.le_of_ble_eq_true rfl)
  rw [lg_entry_eq]
  generalize (lg_sl ([Value.ref q0]) ++ List.replicate (3 - (lg_sl ([Value.ref q0])).length) Slot.unset).toArray = ls at hl ⊢
  have hl : lv_has ls 3 [(0, Value.ref q0)] := hl
  refine lv_iconst (v := 0) hx hb d_Le_openReaders_0 (by decide) ?_
  refine lv_istore_n (lv' := [(1, Value.int 0), (0, Value.ref q0)]) hx hb d_Le_openReaders_1 rfl hl (by decide) rfl (fun ls hl => ?_)
  refine lv_iconst (v := 0) hx hb d_Le_openReaders_2 (by decide) ?_
  refine lv_istore_n (lv' := [(2, Value.int 0), (1, Value.int 0), (0, Value.ref q0)]) hx hb d_Le_openReaders_3 rfl hl (by decide) rfl (fun ls hl => ?_)
  refine lv_iload_n hx hb d_Le_openReaders_4 rfl (lv_at hl 0 rfl) ?_
  refine lv_iconst (v := 4) hx hb d_Le_openReaders_5 (by decide) ?_
  refine lv_icmp_ge (tgt := 30) hx hb d_Le_openReaders_6 (by decide) (fun c9 => absurd c9 (by decide)) (fun _ => ?_)
  refine lv_aload_n hx hb d_Le_openReaders_9 rfl (lv_at hl 2 rfl) ?_
  refine gz_get (ci := 0) (v := Value.ref q25) (C := "CommitLedger") (T := F_Le) (N := 18) hx hb hts i_Le hown hK Z f_0 rfl 4 (by decide) kf_Le_45 rfl d_Le_openReaders_10 ?_
  refine lv_iload_n hx hb d_Le_openReaders_13 rfl (lv_at hl 0 rfl) ?_
  refine gz_aald (v := Value.ref q26) (j := 0) hx hb hK Z 4 f_25 ht4 (by decide) (by decide) (by decide) (rfl) d_Le_openReaders_14 ?_
  refine gz_get (ci := 6) (v := Value.int ro26) (C := "CommitLedger$Reader") (T := F_Re) (N := 3) hx hb hts i_Re hown hK Z f_26 rfl 2 (by decide) kf_Le_230 rfl d_Le_openReaders_15 ?_
  refine lv_if_eq (tgt := 24) hx hb d_Le_openReaders_18 (by decide) (fun c18_1 => ?_) (fun c18_1 => ?_)
  · refine lv_iinc (v := 1) (lv' := [(2, Value.int 1), (1, Value.int 0), (0, Value.ref q0)]) hx hb d_Le_openReaders_24 hl (k := 0) rfl (by decide) (by decide) rfl (fun ls hl => ?_)
    refine lv_goto (tgt := 4) hx hb d_Le_openReaders_27 (by decide) ?_
    refine lv_iload_n hx hb d_Le_openReaders_4 rfl (lv_at hl 0 rfl) ?_
    refine lv_iconst (v := 4) hx hb d_Le_openReaders_5 (by decide) ?_
    refine lv_icmp_ge (tgt := 30) hx hb d_Le_openReaders_6 (by decide) (fun c9 => absurd c9 (by decide)) (fun _ => ?_)
    refine lv_aload_n hx hb d_Le_openReaders_9 rfl (lv_at hl 2 rfl) ?_
    refine gz_get (ci := 0) (v := Value.ref q25) (C := "CommitLedger") (T := F_Le) (N := 18) hx hb hts i_Le hown hK Z f_0 rfl 4 (by decide) kf_Le_45 rfl d_Le_openReaders_10 ?_
    refine lv_iload_n hx hb d_Le_openReaders_13 rfl (lv_at hl 0 rfl) ?_
    refine gz_aald (v := Value.ref q31) (j := 1) hx hb hK Z 4 f_25 ht4 (by decide) (by decide) (by decide) (rfl) d_Le_openReaders_14 ?_
    refine gz_get (ci := 6) (v := Value.int ro31) (C := "CommitLedger$Reader") (T := F_Re) (N := 3) hx hb hts i_Re hown hK Z f_31 rfl 2 (by decide) kf_Le_230 rfl d_Le_openReaders_15 ?_
    refine lv_if_eq (tgt := 24) hx hb d_Le_openReaders_18 (by decide) (fun c18_2 => ?_) (fun c18_2 => ?_)
    · refine lv_iinc (v := 2) (lv' := [(2, Value.int 2), (1, Value.int 0), (0, Value.ref q0)]) hx hb d_Le_openReaders_24 hl (k := 0) rfl (by decide) (by decide) rfl (fun ls hl => ?_)
      refine lv_goto (tgt := 4) hx hb d_Le_openReaders_27 (by decide) ?_
      refine lv_iload_n hx hb d_Le_openReaders_4 rfl (lv_at hl 0 rfl) ?_
      refine lv_iconst (v := 4) hx hb d_Le_openReaders_5 (by decide) ?_
      refine lv_icmp_ge (tgt := 30) hx hb d_Le_openReaders_6 (by decide) (fun c9 => absurd c9 (by decide)) (fun _ => ?_)
      refine lv_aload_n hx hb d_Le_openReaders_9 rfl (lv_at hl 2 rfl) ?_
      refine gz_get (ci := 0) (v := Value.ref q25) (C := "CommitLedger") (T := F_Le) (N := 18) hx hb hts i_Le hown hK Z f_0 rfl 4 (by decide) kf_Le_45 rfl d_Le_openReaders_10 ?_
      refine lv_iload_n hx hb d_Le_openReaders_13 rfl (lv_at hl 0 rfl) ?_
      refine gz_aald (v := Value.ref q36) (j := 2) hx hb hK Z 4 f_25 ht4 (by decide) (by decide) (by decide) (rfl) d_Le_openReaders_14 ?_
      refine gz_get (ci := 6) (v := Value.int ro36) (C := "CommitLedger$Reader") (T := F_Re) (N := 3) hx hb hts i_Re hown hK Z f_36 rfl 2 (by decide) kf_Le_230 rfl d_Le_openReaders_15 ?_
      refine lv_if_eq (tgt := 24) hx hb d_Le_openReaders_18 (by decide) (fun c18_3 => ?_) (fun c18_3 => ?_)
      · refine lv_iinc (v := 3) (lv' := [(2, Value.int 3), (1, Value.int 0), (0, Value.ref q0)]) hx hb d_Le_openReaders_24 hl (k := 0) rfl (by decide) (by decide) rfl (fun ls hl => ?_)
        refine lv_goto (tgt := 4) hx hb d_Le_openReaders_27 (by decide) ?_
        refine lv_iload_n hx hb d_Le_openReaders_4 rfl (lv_at hl 0 rfl) ?_
        refine lv_iconst (v := 4) hx hb d_Le_openReaders_5 (by decide) ?_
        refine lv_icmp_ge (tgt := 30) hx hb d_Le_openReaders_6 (by decide) (fun c9 => absurd c9 (by decide)) (fun _ => ?_)
        refine lv_aload_n hx hb d_Le_openReaders_9 rfl (lv_at hl 2 rfl) ?_
        refine gz_get (ci := 0) (v := Value.ref q25) (C := "CommitLedger") (T := F_Le) (N := 18) hx hb hts i_Le hown hK Z f_0 rfl 4 (by decide) kf_Le_45 rfl d_Le_openReaders_10 ?_
        refine lv_iload_n hx hb d_Le_openReaders_13 rfl (lv_at hl 0 rfl) ?_
        refine gz_aald (v := Value.ref q41) (j := 3) hx hb hK Z 4 f_25 ht4 (by decide) (by decide) (by decide) (rfl) d_Le_openReaders_14 ?_
        refine gz_get (ci := 6) (v := Value.int ro41) (C := "CommitLedger$Reader") (T := F_Re) (N := 3) hx hb hts i_Re hown hK Z f_41 rfl 2 (by decide) kf_Le_230 rfl d_Le_openReaders_15 ?_
        refine lv_if_eq (tgt := 24) hx hb d_Le_openReaders_18 (by decide) (fun c18_4 => ?_) (fun c18_4 => ?_)
        · refine lv_iinc (v := 4) (lv' := [(2, Value.int 4), (1, Value.int 0), (0, Value.ref q0)]) hx hb d_Le_openReaders_24 hl (k := 0) rfl (by decide) (by decide) rfl (fun ls hl => ?_)
          refine lv_goto (tgt := 4) hx hb d_Le_openReaders_27 (by decide) ?_
          refine lv_iload_n hx hb d_Le_openReaders_4 rfl (lv_at hl 0 rfl) ?_
          refine lv_iconst (v := 4) hx hb d_Le_openReaders_5 (by decide) ?_
          refine lv_icmp_ge (tgt := 30) hx hb d_Le_openReaders_6 (by decide) (fun _ => ?_) (fun c9 => absurd (by decide) c9)
          refine lv_iload_n hx hb d_Le_openReaders_30 rfl (lv_at hl 1 rfl) ?_
          exact gz_iret (v := 0) hx hb hr hlocks hK Z (by decide) (by decide) (by rw [← hPQ]; exact Or.inl ⟨rfl, rfl, c18_1, c18_2, c18_3, c18_4⟩) d_Le_openReaders_31
        · refine lv_iinc (v := 1) (lv' := [(1, Value.int 1), (2, Value.int 3), (0, Value.ref q0)]) hx hb d_Le_openReaders_21 hl (k := 1) rfl (by decide) (by decide) rfl (fun ls hl => ?_)
          refine lv_iinc (v := 4) (lv' := [(2, Value.int 4), (1, Value.int 1), (0, Value.ref q0)]) hx hb d_Le_openReaders_24 hl (k := 1) rfl (by decide) (by decide) rfl (fun ls hl => ?_)
          refine lv_goto (tgt := 4) hx hb d_Le_openReaders_27 (by decide) ?_
          refine lv_iload_n hx hb d_Le_openReaders_4 rfl (lv_at hl 0 rfl) ?_
          refine lv_iconst (v := 4) hx hb d_Le_openReaders_5 (by decide) ?_
          refine lv_icmp_ge (tgt := 30) hx hb d_Le_openReaders_6 (by decide) (fun _ => ?_) (fun c9 => absurd (by decide) c9)
          refine lv_iload_n hx hb d_Le_openReaders_30 rfl (lv_at hl 1 rfl) ?_
          exact gz_iret (v := 1) hx hb hr hlocks hK Z (by decide) (by decide) (by rw [← hPQ]; exact Or.inr (Or.inl ⟨rfl, rfl, c18_1, c18_2, c18_3, c18_4⟩)) d_Le_openReaders_31
      · refine lv_iinc (v := 1) (lv' := [(1, Value.int 1), (2, Value.int 2), (0, Value.ref q0)]) hx hb d_Le_openReaders_21 hl (k := 1) rfl (by decide) (by decide) rfl (fun ls hl => ?_)
        refine lv_iinc (v := 3) (lv' := [(2, Value.int 3), (1, Value.int 1), (0, Value.ref q0)]) hx hb d_Le_openReaders_24 hl (k := 1) rfl (by decide) (by decide) rfl (fun ls hl => ?_)
        refine lv_goto (tgt := 4) hx hb d_Le_openReaders_27 (by decide) ?_
        refine lv_iload_n hx hb d_Le_openReaders_4 rfl (lv_at hl 0 rfl) ?_
        refine lv_iconst (v := 4) hx hb d_Le_openReaders_5 (by decide) ?_
        refine lv_icmp_ge (tgt := 30) hx hb d_Le_openReaders_6 (by decide) (fun c9 => absurd c9 (by decide)) (fun _ => ?_)
        refine lv_aload_n hx hb d_Le_openReaders_9 rfl (lv_at hl 2 rfl) ?_
        refine gz_get (ci := 0) (v := Value.ref q25) (C := "CommitLedger") (T := F_Le) (N := 18) hx hb hts i_Le hown hK Z f_0 rfl 4 (by decide) kf_Le_45 rfl d_Le_openReaders_10 ?_
        refine lv_iload_n hx hb d_Le_openReaders_13 rfl (lv_at hl 0 rfl) ?_
        refine gz_aald (v := Value.ref q41) (j := 3) hx hb hK Z 4 f_25 ht4 (by decide) (by decide) (by decide) (rfl) d_Le_openReaders_14 ?_
        refine gz_get (ci := 6) (v := Value.int ro41) (C := "CommitLedger$Reader") (T := F_Re) (N := 3) hx hb hts i_Re hown hK Z f_41 rfl 2 (by decide) kf_Le_230 rfl d_Le_openReaders_15 ?_
        refine lv_if_eq (tgt := 24) hx hb d_Le_openReaders_18 (by decide) (fun c18_5 => ?_) (fun c18_5 => ?_)
        · refine lv_iinc (v := 4) (lv' := [(2, Value.int 4), (1, Value.int 1), (0, Value.ref q0)]) hx hb d_Le_openReaders_24 hl (k := 0) rfl (by decide) (by decide) rfl (fun ls hl => ?_)
          refine lv_goto (tgt := 4) hx hb d_Le_openReaders_27 (by decide) ?_
          refine lv_iload_n hx hb d_Le_openReaders_4 rfl (lv_at hl 0 rfl) ?_
          refine lv_iconst (v := 4) hx hb d_Le_openReaders_5 (by decide) ?_
          refine lv_icmp_ge (tgt := 30) hx hb d_Le_openReaders_6 (by decide) (fun _ => ?_) (fun c9 => absurd (by decide) c9)
          refine lv_iload_n hx hb d_Le_openReaders_30 rfl (lv_at hl 1 rfl) ?_
          exact gz_iret (v := 1) hx hb hr hlocks hK Z (by decide) (by decide) (by rw [← hPQ]; exact Or.inr (Or.inr (Or.inl ⟨rfl, rfl, c18_1, c18_2, c18_3, c18_5⟩))) d_Le_openReaders_31
        · refine lv_iinc (v := 2) (lv' := [(1, Value.int 2), (2, Value.int 3), (0, Value.ref q0)]) hx hb d_Le_openReaders_21 hl (k := 1) rfl (by decide) (by decide) rfl (fun ls hl => ?_)
          refine lv_iinc (v := 4) (lv' := [(2, Value.int 4), (1, Value.int 2), (0, Value.ref q0)]) hx hb d_Le_openReaders_24 hl (k := 1) rfl (by decide) (by decide) rfl (fun ls hl => ?_)
          refine lv_goto (tgt := 4) hx hb d_Le_openReaders_27 (by decide) ?_
          refine lv_iload_n hx hb d_Le_openReaders_4 rfl (lv_at hl 0 rfl) ?_
          refine lv_iconst (v := 4) hx hb d_Le_openReaders_5 (by decide) ?_
          refine lv_icmp_ge (tgt := 30) hx hb d_Le_openReaders_6 (by decide) (fun _ => ?_) (fun c9 => absurd (by decide) c9)
          refine lv_iload_n hx hb d_Le_openReaders_30 rfl (lv_at hl 1 rfl) ?_
          exact gz_iret (v := 2) hx hb hr hlocks hK Z (by decide) (by decide) (by rw [← hPQ]; exact Or.inr (Or.inr (Or.inr (Or.inl ⟨rfl, rfl, c18_1, c18_2, c18_3, c18_5⟩)))) d_Le_openReaders_31
    · refine lv_iinc (v := 1) (lv' := [(1, Value.int 1), (2, Value.int 1), (0, Value.ref q0)]) hx hb d_Le_openReaders_21 hl (k := 1) rfl (by decide) (by decide) rfl (fun ls hl => ?_)
      refine lv_iinc (v := 2) (lv' := [(2, Value.int 2), (1, Value.int 1), (0, Value.ref q0)]) hx hb d_Le_openReaders_24 hl (k := 1) rfl (by decide) (by decide) rfl (fun ls hl => ?_)
      refine lv_goto (tgt := 4) hx hb d_Le_openReaders_27 (by decide) ?_
      refine lv_iload_n hx hb d_Le_openReaders_4 rfl (lv_at hl 0 rfl) ?_
      refine lv_iconst (v := 4) hx hb d_Le_openReaders_5 (by decide) ?_
      refine lv_icmp_ge (tgt := 30) hx hb d_Le_openReaders_6 (by decide) (fun c9 => absurd c9 (by decide)) (fun _ => ?_)
      refine lv_aload_n hx hb d_Le_openReaders_9 rfl (lv_at hl 2 rfl) ?_
      refine gz_get (ci := 0) (v := Value.ref q25) (C := "CommitLedger") (T := F_Le) (N := 18) hx hb hts i_Le hown hK Z f_0 rfl 4 (by decide) kf_Le_45 rfl d_Le_openReaders_10 ?_
      refine lv_iload_n hx hb d_Le_openReaders_13 rfl (lv_at hl 0 rfl) ?_
      refine gz_aald (v := Value.ref q36) (j := 2) hx hb hK Z 4 f_25 ht4 (by decide) (by decide) (by decide) (rfl) d_Le_openReaders_14 ?_
      refine gz_get (ci := 6) (v := Value.int ro36) (C := "CommitLedger$Reader") (T := F_Re) (N := 3) hx hb hts i_Re hown hK Z f_36 rfl 2 (by decide) kf_Le_230 rfl d_Le_openReaders_15 ?_
      refine lv_if_eq (tgt := 24) hx hb d_Le_openReaders_18 (by decide) (fun c18_6 => ?_) (fun c18_6 => ?_)
      · refine lv_iinc (v := 3) (lv' := [(2, Value.int 3), (1, Value.int 1), (0, Value.ref q0)]) hx hb d_Le_openReaders_24 hl (k := 0) rfl (by decide) (by decide) rfl (fun ls hl => ?_)
        refine lv_goto (tgt := 4) hx hb d_Le_openReaders_27 (by decide) ?_
        refine lv_iload_n hx hb d_Le_openReaders_4 rfl (lv_at hl 0 rfl) ?_
        refine lv_iconst (v := 4) hx hb d_Le_openReaders_5 (by decide) ?_
        refine lv_icmp_ge (tgt := 30) hx hb d_Le_openReaders_6 (by decide) (fun c9 => absurd c9 (by decide)) (fun _ => ?_)
        refine lv_aload_n hx hb d_Le_openReaders_9 rfl (lv_at hl 2 rfl) ?_
        refine gz_get (ci := 0) (v := Value.ref q25) (C := "CommitLedger") (T := F_Le) (N := 18) hx hb hts i_Le hown hK Z f_0 rfl 4 (by decide) kf_Le_45 rfl d_Le_openReaders_10 ?_
        refine lv_iload_n hx hb d_Le_openReaders_13 rfl (lv_at hl 0 rfl) ?_
        refine gz_aald (v := Value.ref q41) (j := 3) hx hb hK Z 4 f_25 ht4 (by decide) (by decide) (by decide) (rfl) d_Le_openReaders_14 ?_
        refine gz_get (ci := 6) (v := Value.int ro41) (C := "CommitLedger$Reader") (T := F_Re) (N := 3) hx hb hts i_Re hown hK Z f_41 rfl 2 (by decide) kf_Le_230 rfl d_Le_openReaders_15 ?_
        refine lv_if_eq (tgt := 24) hx hb d_Le_openReaders_18 (by decide) (fun c18_7 => ?_) (fun c18_7 => ?_)
        · refine lv_iinc (v := 4) (lv' := [(2, Value.int 4), (1, Value.int 1), (0, Value.ref q0)]) hx hb d_Le_openReaders_24 hl (k := 0) rfl (by decide) (by decide) rfl (fun ls hl => ?_)
          refine lv_goto (tgt := 4) hx hb d_Le_openReaders_27 (by decide) ?_
          refine lv_iload_n hx hb d_Le_openReaders_4 rfl (lv_at hl 0 rfl) ?_
          refine lv_iconst (v := 4) hx hb d_Le_openReaders_5 (by decide) ?_
          refine lv_icmp_ge (tgt := 30) hx hb d_Le_openReaders_6 (by decide) (fun _ => ?_) (fun c9 => absurd (by decide) c9)
          refine lv_iload_n hx hb d_Le_openReaders_30 rfl (lv_at hl 1 rfl) ?_
          exact gz_iret (v := 1) hx hb hr hlocks hK Z (by decide) (by decide) (by rw [← hPQ]; exact Or.inr (Or.inr (Or.inr (Or.inr (Or.inl ⟨rfl, rfl, c18_1, c18_2, c18_6, c18_7⟩))))) d_Le_openReaders_31
        · refine lv_iinc (v := 2) (lv' := [(1, Value.int 2), (2, Value.int 3), (0, Value.ref q0)]) hx hb d_Le_openReaders_21 hl (k := 1) rfl (by decide) (by decide) rfl (fun ls hl => ?_)
          refine lv_iinc (v := 4) (lv' := [(2, Value.int 4), (1, Value.int 2), (0, Value.ref q0)]) hx hb d_Le_openReaders_24 hl (k := 1) rfl (by decide) (by decide) rfl (fun ls hl => ?_)
          refine lv_goto (tgt := 4) hx hb d_Le_openReaders_27 (by decide) ?_
          refine lv_iload_n hx hb d_Le_openReaders_4 rfl (lv_at hl 0 rfl) ?_
          refine lv_iconst (v := 4) hx hb d_Le_openReaders_5 (by decide) ?_
          refine lv_icmp_ge (tgt := 30) hx hb d_Le_openReaders_6 (by decide) (fun _ => ?_) (fun c9 => absurd (by decide) c9)
          refine lv_iload_n hx hb d_Le_openReaders_30 rfl (lv_at hl 1 rfl) ?_
          exact gz_iret (v := 2) hx hb hr hlocks hK Z (by decide) (by decide) (by rw [← hPQ]; exact Or.inr (Or.inr (Or.inr (Or.inr (Or.inr (Or.inl ⟨rfl, rfl, c18_1, c18_2, c18_6, c18_7⟩)))))) d_Le_openReaders_31
      · refine lv_iinc (v := 2) (lv' := [(1, Value.int 2), (2, Value.int 2), (0, Value.ref q0)]) hx hb d_Le_openReaders_21 hl (k := 1) rfl (by decide) (by decide) rfl (fun ls hl => ?_)
        refine lv_iinc (v := 3) (lv' := [(2, Value.int 3), (1, Value.int 2), (0, Value.ref q0)]) hx hb d_Le_openReaders_24 hl (k := 1) rfl (by decide) (by decide) rfl (fun ls hl => ?_)
        refine lv_goto (tgt := 4) hx hb d_Le_openReaders_27 (by decide) ?_
        refine lv_iload_n hx hb d_Le_openReaders_4 rfl (lv_at hl 0 rfl) ?_
        refine lv_iconst (v := 4) hx hb d_Le_openReaders_5 (by decide) ?_
        refine lv_icmp_ge (tgt := 30) hx hb d_Le_openReaders_6 (by decide) (fun c9 => absurd c9 (by decide)) (fun _ => ?_)
        refine lv_aload_n hx hb d_Le_openReaders_9 rfl (lv_at hl 2 rfl) ?_
        refine gz_get (ci := 0) (v := Value.ref q25) (C := "CommitLedger") (T := F_Le) (N := 18) hx hb hts i_Le hown hK Z f_0 rfl 4 (by decide) kf_Le_45 rfl d_Le_openReaders_10 ?_
        refine lv_iload_n hx hb d_Le_openReaders_13 rfl (lv_at hl 0 rfl) ?_
        refine gz_aald (v := Value.ref q41) (j := 3) hx hb hK Z 4 f_25 ht4 (by decide) (by decide) (by decide) (rfl) d_Le_openReaders_14 ?_
        refine gz_get (ci := 6) (v := Value.int ro41) (C := "CommitLedger$Reader") (T := F_Re) (N := 3) hx hb hts i_Re hown hK Z f_41 rfl 2 (by decide) kf_Le_230 rfl d_Le_openReaders_15 ?_
        refine lv_if_eq (tgt := 24) hx hb d_Le_openReaders_18 (by decide) (fun c18_8 => ?_) (fun c18_8 => ?_)
        · refine lv_iinc (v := 4) (lv' := [(2, Value.int 4), (1, Value.int 2), (0, Value.ref q0)]) hx hb d_Le_openReaders_24 hl (k := 0) rfl (by decide) (by decide) rfl (fun ls hl => ?_)
          refine lv_goto (tgt := 4) hx hb d_Le_openReaders_27 (by decide) ?_
          refine lv_iload_n hx hb d_Le_openReaders_4 rfl (lv_at hl 0 rfl) ?_
          refine lv_iconst (v := 4) hx hb d_Le_openReaders_5 (by decide) ?_
          refine lv_icmp_ge (tgt := 30) hx hb d_Le_openReaders_6 (by decide) (fun _ => ?_) (fun c9 => absurd (by decide) c9)
          refine lv_iload_n hx hb d_Le_openReaders_30 rfl (lv_at hl 1 rfl) ?_
          exact gz_iret (v := 2) hx hb hr hlocks hK Z (by decide) (by decide) (by rw [← hPQ]; exact Or.inr (Or.inr (Or.inr (Or.inr (Or.inr (Or.inr (Or.inl ⟨rfl, rfl, c18_1, c18_2, c18_6, c18_8⟩))))))) d_Le_openReaders_31
        · refine lv_iinc (v := 3) (lv' := [(1, Value.int 3), (2, Value.int 3), (0, Value.ref q0)]) hx hb d_Le_openReaders_21 hl (k := 1) rfl (by decide) (by decide) rfl (fun ls hl => ?_)
          refine lv_iinc (v := 4) (lv' := [(2, Value.int 4), (1, Value.int 3), (0, Value.ref q0)]) hx hb d_Le_openReaders_24 hl (k := 1) rfl (by decide) (by decide) rfl (fun ls hl => ?_)
          refine lv_goto (tgt := 4) hx hb d_Le_openReaders_27 (by decide) ?_
          refine lv_iload_n hx hb d_Le_openReaders_4 rfl (lv_at hl 0 rfl) ?_
          refine lv_iconst (v := 4) hx hb d_Le_openReaders_5 (by decide) ?_
          refine lv_icmp_ge (tgt := 30) hx hb d_Le_openReaders_6 (by decide) (fun _ => ?_) (fun c9 => absurd (by decide) c9)
          refine lv_iload_n hx hb d_Le_openReaders_30 rfl (lv_at hl 1 rfl) ?_
          exact gz_iret (v := 3) hx hb hr hlocks hK Z (by decide) (by decide) (by rw [← hPQ]; exact Or.inr (Or.inr (Or.inr (Or.inr (Or.inr (Or.inr (Or.inr (Or.inl ⟨rfl, rfl, c18_1, c18_2, c18_6, c18_8⟩)))))))) d_Le_openReaders_31
  · refine lv_iinc (v := 1) (lv' := [(1, Value.int 1), (2, Value.int 0), (0, Value.ref q0)]) hx hb d_Le_openReaders_21 hl (k := 1) rfl (by decide) (by decide) rfl (fun ls hl => ?_)
    refine lv_iinc (v := 1) (lv' := [(2, Value.int 1), (1, Value.int 1), (0, Value.ref q0)]) hx hb d_Le_openReaders_24 hl (k := 1) rfl (by decide) (by decide) rfl (fun ls hl => ?_)
    refine lv_goto (tgt := 4) hx hb d_Le_openReaders_27 (by decide) ?_
    refine lv_iload_n hx hb d_Le_openReaders_4 rfl (lv_at hl 0 rfl) ?_
    refine lv_iconst (v := 4) hx hb d_Le_openReaders_5 (by decide) ?_
    refine lv_icmp_ge (tgt := 30) hx hb d_Le_openReaders_6 (by decide) (fun c9 => absurd c9 (by decide)) (fun _ => ?_)
    refine lv_aload_n hx hb d_Le_openReaders_9 rfl (lv_at hl 2 rfl) ?_
    refine gz_get (ci := 0) (v := Value.ref q25) (C := "CommitLedger") (T := F_Le) (N := 18) hx hb hts i_Le hown hK Z f_0 rfl 4 (by decide) kf_Le_45 rfl d_Le_openReaders_10 ?_
    refine lv_iload_n hx hb d_Le_openReaders_13 rfl (lv_at hl 0 rfl) ?_
    refine gz_aald (v := Value.ref q31) (j := 1) hx hb hK Z 4 f_25 ht4 (by decide) (by decide) (by decide) (rfl) d_Le_openReaders_14 ?_
    refine gz_get (ci := 6) (v := Value.int ro31) (C := "CommitLedger$Reader") (T := F_Re) (N := 3) hx hb hts i_Re hown hK Z f_31 rfl 2 (by decide) kf_Le_230 rfl d_Le_openReaders_15 ?_
    refine lv_if_eq (tgt := 24) hx hb d_Le_openReaders_18 (by decide) (fun c18_9 => ?_) (fun c18_9 => ?_)
    · refine lv_iinc (v := 2) (lv' := [(2, Value.int 2), (1, Value.int 1), (0, Value.ref q0)]) hx hb d_Le_openReaders_24 hl (k := 0) rfl (by decide) (by decide) rfl (fun ls hl => ?_)
      refine lv_goto (tgt := 4) hx hb d_Le_openReaders_27 (by decide) ?_
      refine lv_iload_n hx hb d_Le_openReaders_4 rfl (lv_at hl 0 rfl) ?_
      refine lv_iconst (v := 4) hx hb d_Le_openReaders_5 (by decide) ?_
      refine lv_icmp_ge (tgt := 30) hx hb d_Le_openReaders_6 (by decide) (fun c9 => absurd c9 (by decide)) (fun _ => ?_)
      refine lv_aload_n hx hb d_Le_openReaders_9 rfl (lv_at hl 2 rfl) ?_
      refine gz_get (ci := 0) (v := Value.ref q25) (C := "CommitLedger") (T := F_Le) (N := 18) hx hb hts i_Le hown hK Z f_0 rfl 4 (by decide) kf_Le_45 rfl d_Le_openReaders_10 ?_
      refine lv_iload_n hx hb d_Le_openReaders_13 rfl (lv_at hl 0 rfl) ?_
      refine gz_aald (v := Value.ref q36) (j := 2) hx hb hK Z 4 f_25 ht4 (by decide) (by decide) (by decide) (rfl) d_Le_openReaders_14 ?_
      refine gz_get (ci := 6) (v := Value.int ro36) (C := "CommitLedger$Reader") (T := F_Re) (N := 3) hx hb hts i_Re hown hK Z f_36 rfl 2 (by decide) kf_Le_230 rfl d_Le_openReaders_15 ?_
      refine lv_if_eq (tgt := 24) hx hb d_Le_openReaders_18 (by decide) (fun c18_10 => ?_) (fun c18_10 => ?_)
      · refine lv_iinc (v := 3) (lv' := [(2, Value.int 3), (1, Value.int 1), (0, Value.ref q0)]) hx hb d_Le_openReaders_24 hl (k := 0) rfl (by decide) (by decide) rfl (fun ls hl => ?_)
        refine lv_goto (tgt := 4) hx hb d_Le_openReaders_27 (by decide) ?_
        refine lv_iload_n hx hb d_Le_openReaders_4 rfl (lv_at hl 0 rfl) ?_
        refine lv_iconst (v := 4) hx hb d_Le_openReaders_5 (by decide) ?_
        refine lv_icmp_ge (tgt := 30) hx hb d_Le_openReaders_6 (by decide) (fun c9 => absurd c9 (by decide)) (fun _ => ?_)
        refine lv_aload_n hx hb d_Le_openReaders_9 rfl (lv_at hl 2 rfl) ?_
        refine gz_get (ci := 0) (v := Value.ref q25) (C := "CommitLedger") (T := F_Le) (N := 18) hx hb hts i_Le hown hK Z f_0 rfl 4 (by decide) kf_Le_45 rfl d_Le_openReaders_10 ?_
        refine lv_iload_n hx hb d_Le_openReaders_13 rfl (lv_at hl 0 rfl) ?_
        refine gz_aald (v := Value.ref q41) (j := 3) hx hb hK Z 4 f_25 ht4 (by decide) (by decide) (by decide) (rfl) d_Le_openReaders_14 ?_
        refine gz_get (ci := 6) (v := Value.int ro41) (C := "CommitLedger$Reader") (T := F_Re) (N := 3) hx hb hts i_Re hown hK Z f_41 rfl 2 (by decide) kf_Le_230 rfl d_Le_openReaders_15 ?_
        refine lv_if_eq (tgt := 24) hx hb d_Le_openReaders_18 (by decide) (fun c18_11 => ?_) (fun c18_11 => ?_)
        · refine lv_iinc (v := 4) (lv' := [(2, Value.int 4), (1, Value.int 1), (0, Value.ref q0)]) hx hb d_Le_openReaders_24 hl (k := 0) rfl (by decide) (by decide) rfl (fun ls hl => ?_)
          refine lv_goto (tgt := 4) hx hb d_Le_openReaders_27 (by decide) ?_
          refine lv_iload_n hx hb d_Le_openReaders_4 rfl (lv_at hl 0 rfl) ?_
          refine lv_iconst (v := 4) hx hb d_Le_openReaders_5 (by decide) ?_
          refine lv_icmp_ge (tgt := 30) hx hb d_Le_openReaders_6 (by decide) (fun _ => ?_) (fun c9 => absurd (by decide) c9)
          refine lv_iload_n hx hb d_Le_openReaders_30 rfl (lv_at hl 1 rfl) ?_
          exact gz_iret (v := 1) hx hb hr hlocks hK Z (by decide) (by decide) (by rw [← hPQ]; exact Or.inr (Or.inr (Or.inr (Or.inr (Or.inr (Or.inr (Or.inr (Or.inr (Or.inl ⟨rfl, rfl, c18_1, c18_9, c18_10, c18_11⟩))))))))) d_Le_openReaders_31
        · refine lv_iinc (v := 2) (lv' := [(1, Value.int 2), (2, Value.int 3), (0, Value.ref q0)]) hx hb d_Le_openReaders_21 hl (k := 1) rfl (by decide) (by decide) rfl (fun ls hl => ?_)
          refine lv_iinc (v := 4) (lv' := [(2, Value.int 4), (1, Value.int 2), (0, Value.ref q0)]) hx hb d_Le_openReaders_24 hl (k := 1) rfl (by decide) (by decide) rfl (fun ls hl => ?_)
          refine lv_goto (tgt := 4) hx hb d_Le_openReaders_27 (by decide) ?_
          refine lv_iload_n hx hb d_Le_openReaders_4 rfl (lv_at hl 0 rfl) ?_
          refine lv_iconst (v := 4) hx hb d_Le_openReaders_5 (by decide) ?_
          refine lv_icmp_ge (tgt := 30) hx hb d_Le_openReaders_6 (by decide) (fun _ => ?_) (fun c9 => absurd (by decide) c9)
          refine lv_iload_n hx hb d_Le_openReaders_30 rfl (lv_at hl 1 rfl) ?_
          exact gz_iret (v := 2) hx hb hr hlocks hK Z (by decide) (by decide) (by rw [← hPQ]; exact Or.inr (Or.inr (Or.inr (Or.inr (Or.inr (Or.inr (Or.inr (Or.inr (Or.inr (Or.inl ⟨rfl, rfl, c18_1, c18_9, c18_10, c18_11⟩)))))))))) d_Le_openReaders_31
      · refine lv_iinc (v := 2) (lv' := [(1, Value.int 2), (2, Value.int 2), (0, Value.ref q0)]) hx hb d_Le_openReaders_21 hl (k := 1) rfl (by decide) (by decide) rfl (fun ls hl => ?_)
        refine lv_iinc (v := 3) (lv' := [(2, Value.int 3), (1, Value.int 2), (0, Value.ref q0)]) hx hb d_Le_openReaders_24 hl (k := 1) rfl (by decide) (by decide) rfl (fun ls hl => ?_)
        refine lv_goto (tgt := 4) hx hb d_Le_openReaders_27 (by decide) ?_
        refine lv_iload_n hx hb d_Le_openReaders_4 rfl (lv_at hl 0 rfl) ?_
        refine lv_iconst (v := 4) hx hb d_Le_openReaders_5 (by decide) ?_
        refine lv_icmp_ge (tgt := 30) hx hb d_Le_openReaders_6 (by decide) (fun c9 => absurd c9 (by decide)) (fun _ => ?_)
        refine lv_aload_n hx hb d_Le_openReaders_9 rfl (lv_at hl 2 rfl) ?_
        refine gz_get (ci := 0) (v := Value.ref q25) (C := "CommitLedger") (T := F_Le) (N := 18) hx hb hts i_Le hown hK Z f_0 rfl 4 (by decide) kf_Le_45 rfl d_Le_openReaders_10 ?_
        refine lv_iload_n hx hb d_Le_openReaders_13 rfl (lv_at hl 0 rfl) ?_
        refine gz_aald (v := Value.ref q41) (j := 3) hx hb hK Z 4 f_25 ht4 (by decide) (by decide) (by decide) (rfl) d_Le_openReaders_14 ?_
        refine gz_get (ci := 6) (v := Value.int ro41) (C := "CommitLedger$Reader") (T := F_Re) (N := 3) hx hb hts i_Re hown hK Z f_41 rfl 2 (by decide) kf_Le_230 rfl d_Le_openReaders_15 ?_
        refine lv_if_eq (tgt := 24) hx hb d_Le_openReaders_18 (by decide) (fun c18_12 => ?_) (fun c18_12 => ?_)
        · refine lv_iinc (v := 4) (lv' := [(2, Value.int 4), (1, Value.int 2), (0, Value.ref q0)]) hx hb d_Le_openReaders_24 hl (k := 0) rfl (by decide) (by decide) rfl (fun ls hl => ?_)
          refine lv_goto (tgt := 4) hx hb d_Le_openReaders_27 (by decide) ?_
          refine lv_iload_n hx hb d_Le_openReaders_4 rfl (lv_at hl 0 rfl) ?_
          refine lv_iconst (v := 4) hx hb d_Le_openReaders_5 (by decide) ?_
          refine lv_icmp_ge (tgt := 30) hx hb d_Le_openReaders_6 (by decide) (fun _ => ?_) (fun c9 => absurd (by decide) c9)
          refine lv_iload_n hx hb d_Le_openReaders_30 rfl (lv_at hl 1 rfl) ?_
          exact gz_iret (v := 2) hx hb hr hlocks hK Z (by decide) (by decide) (by rw [← hPQ]; exact Or.inr (Or.inr (Or.inr (Or.inr (Or.inr (Or.inr (Or.inr (Or.inr (Or.inr (Or.inr (Or.inl ⟨rfl, rfl, c18_1, c18_9, c18_10, c18_12⟩))))))))))) d_Le_openReaders_31
        · refine lv_iinc (v := 3) (lv' := [(1, Value.int 3), (2, Value.int 3), (0, Value.ref q0)]) hx hb d_Le_openReaders_21 hl (k := 1) rfl (by decide) (by decide) rfl (fun ls hl => ?_)
          refine lv_iinc (v := 4) (lv' := [(2, Value.int 4), (1, Value.int 3), (0, Value.ref q0)]) hx hb d_Le_openReaders_24 hl (k := 1) rfl (by decide) (by decide) rfl (fun ls hl => ?_)
          refine lv_goto (tgt := 4) hx hb d_Le_openReaders_27 (by decide) ?_
          refine lv_iload_n hx hb d_Le_openReaders_4 rfl (lv_at hl 0 rfl) ?_
          refine lv_iconst (v := 4) hx hb d_Le_openReaders_5 (by decide) ?_
          refine lv_icmp_ge (tgt := 30) hx hb d_Le_openReaders_6 (by decide) (fun _ => ?_) (fun c9 => absurd (by decide) c9)
          refine lv_iload_n hx hb d_Le_openReaders_30 rfl (lv_at hl 1 rfl) ?_
          exact gz_iret (v := 3) hx hb hr hlocks hK Z (by decide) (by decide) (by rw [← hPQ]; exact Or.inr (Or.inr (Or.inr (Or.inr (Or.inr (Or.inr (Or.inr (Or.inr (Or.inr (Or.inr (Or.inr (Or.inl ⟨rfl, rfl, c18_1, c18_9, c18_10, c18_12⟩)))))))))))) d_Le_openReaders_31
    · refine lv_iinc (v := 2) (lv' := [(1, Value.int 2), (2, Value.int 1), (0, Value.ref q0)]) hx hb d_Le_openReaders_21 hl (k := 1) rfl (by decide) (by decide) rfl (fun ls hl => ?_)
      refine lv_iinc (v := 2) (lv' := [(2, Value.int 2), (1, Value.int 2), (0, Value.ref q0)]) hx hb d_Le_openReaders_24 hl (k := 1) rfl (by decide) (by decide) rfl (fun ls hl => ?_)
      refine lv_goto (tgt := 4) hx hb d_Le_openReaders_27 (by decide) ?_
      refine lv_iload_n hx hb d_Le_openReaders_4 rfl (lv_at hl 0 rfl) ?_
      refine lv_iconst (v := 4) hx hb d_Le_openReaders_5 (by decide) ?_
      refine lv_icmp_ge (tgt := 30) hx hb d_Le_openReaders_6 (by decide) (fun c9 => absurd c9 (by decide)) (fun _ => ?_)
      refine lv_aload_n hx hb d_Le_openReaders_9 rfl (lv_at hl 2 rfl) ?_
      refine gz_get (ci := 0) (v := Value.ref q25) (C := "CommitLedger") (T := F_Le) (N := 18) hx hb hts i_Le hown hK Z f_0 rfl 4 (by decide) kf_Le_45 rfl d_Le_openReaders_10 ?_
      refine lv_iload_n hx hb d_Le_openReaders_13 rfl (lv_at hl 0 rfl) ?_
      refine gz_aald (v := Value.ref q36) (j := 2) hx hb hK Z 4 f_25 ht4 (by decide) (by decide) (by decide) (rfl) d_Le_openReaders_14 ?_
      refine gz_get (ci := 6) (v := Value.int ro36) (C := "CommitLedger$Reader") (T := F_Re) (N := 3) hx hb hts i_Re hown hK Z f_36 rfl 2 (by decide) kf_Le_230 rfl d_Le_openReaders_15 ?_
      refine lv_if_eq (tgt := 24) hx hb d_Le_openReaders_18 (by decide) (fun c18_13 => ?_) (fun c18_13 => ?_)
      · refine lv_iinc (v := 3) (lv' := [(2, Value.int 3), (1, Value.int 2), (0, Value.ref q0)]) hx hb d_Le_openReaders_24 hl (k := 0) rfl (by decide) (by decide) rfl (fun ls hl => ?_)
        refine lv_goto (tgt := 4) hx hb d_Le_openReaders_27 (by decide) ?_
        refine lv_iload_n hx hb d_Le_openReaders_4 rfl (lv_at hl 0 rfl) ?_
        refine lv_iconst (v := 4) hx hb d_Le_openReaders_5 (by decide) ?_
        refine lv_icmp_ge (tgt := 30) hx hb d_Le_openReaders_6 (by decide) (fun c9 => absurd c9 (by decide)) (fun _ => ?_)
        refine lv_aload_n hx hb d_Le_openReaders_9 rfl (lv_at hl 2 rfl) ?_
        refine gz_get (ci := 0) (v := Value.ref q25) (C := "CommitLedger") (T := F_Le) (N := 18) hx hb hts i_Le hown hK Z f_0 rfl 4 (by decide) kf_Le_45 rfl d_Le_openReaders_10 ?_
        refine lv_iload_n hx hb d_Le_openReaders_13 rfl (lv_at hl 0 rfl) ?_
        refine gz_aald (v := Value.ref q41) (j := 3) hx hb hK Z 4 f_25 ht4 (by decide) (by decide) (by decide) (rfl) d_Le_openReaders_14 ?_
        refine gz_get (ci := 6) (v := Value.int ro41) (C := "CommitLedger$Reader") (T := F_Re) (N := 3) hx hb hts i_Re hown hK Z f_41 rfl 2 (by decide) kf_Le_230 rfl d_Le_openReaders_15 ?_
        refine lv_if_eq (tgt := 24) hx hb d_Le_openReaders_18 (by decide) (fun c18_14 => ?_) (fun c18_14 => ?_)
        · refine lv_iinc (v := 4) (lv' := [(2, Value.int 4), (1, Value.int 2), (0, Value.ref q0)]) hx hb d_Le_openReaders_24 hl (k := 0) rfl (by decide) (by decide) rfl (fun ls hl => ?_)
          refine lv_goto (tgt := 4) hx hb d_Le_openReaders_27 (by decide) ?_
          refine lv_iload_n hx hb d_Le_openReaders_4 rfl (lv_at hl 0 rfl) ?_
          refine lv_iconst (v := 4) hx hb d_Le_openReaders_5 (by decide) ?_
          refine lv_icmp_ge (tgt := 30) hx hb d_Le_openReaders_6 (by decide) (fun _ => ?_) (fun c9 => absurd (by decide) c9)
          refine lv_iload_n hx hb d_Le_openReaders_30 rfl (lv_at hl 1 rfl) ?_
          exact gz_iret (v := 2) hx hb hr hlocks hK Z (by decide) (by decide) (by rw [← hPQ]; exact Or.inr (Or.inr (Or.inr (Or.inr (Or.inr (Or.inr (Or.inr (Or.inr (Or.inr (Or.inr (Or.inr (Or.inr (Or.inl ⟨rfl, rfl, c18_1, c18_9, c18_13, c18_14⟩))))))))))))) d_Le_openReaders_31
        · refine lv_iinc (v := 3) (lv' := [(1, Value.int 3), (2, Value.int 3), (0, Value.ref q0)]) hx hb d_Le_openReaders_21 hl (k := 1) rfl (by decide) (by decide) rfl (fun ls hl => ?_)
          refine lv_iinc (v := 4) (lv' := [(2, Value.int 4), (1, Value.int 3), (0, Value.ref q0)]) hx hb d_Le_openReaders_24 hl (k := 1) rfl (by decide) (by decide) rfl (fun ls hl => ?_)
          refine lv_goto (tgt := 4) hx hb d_Le_openReaders_27 (by decide) ?_
          refine lv_iload_n hx hb d_Le_openReaders_4 rfl (lv_at hl 0 rfl) ?_
          refine lv_iconst (v := 4) hx hb d_Le_openReaders_5 (by decide) ?_
          refine lv_icmp_ge (tgt := 30) hx hb d_Le_openReaders_6 (by decide) (fun _ => ?_) (fun c9 => absurd (by decide) c9)
          refine lv_iload_n hx hb d_Le_openReaders_30 rfl (lv_at hl 1 rfl) ?_
          exact gz_iret (v := 3) hx hb hr hlocks hK Z (by decide) (by decide) (by rw [← hPQ]; exact Or.inr (Or.inr (Or.inr (Or.inr (Or.inr (Or.inr (Or.inr (Or.inr (Or.inr (Or.inr (Or.inr (Or.inr (Or.inr (Or.inl ⟨rfl, rfl, c18_1, c18_9, c18_13, c18_14⟩)))))))))))))) d_Le_openReaders_31
      · refine lv_iinc (v := 3) (lv' := [(1, Value.int 3), (2, Value.int 2), (0, Value.ref q0)]) hx hb d_Le_openReaders_21 hl (k := 1) rfl (by decide) (by decide) rfl (fun ls hl => ?_)
        refine lv_iinc (v := 3) (lv' := [(2, Value.int 3), (1, Value.int 3), (0, Value.ref q0)]) hx hb d_Le_openReaders_24 hl (k := 1) rfl (by decide) (by decide) rfl (fun ls hl => ?_)
        refine lv_goto (tgt := 4) hx hb d_Le_openReaders_27 (by decide) ?_
        refine lv_iload_n hx hb d_Le_openReaders_4 rfl (lv_at hl 0 rfl) ?_
        refine lv_iconst (v := 4) hx hb d_Le_openReaders_5 (by decide) ?_
        refine lv_icmp_ge (tgt := 30) hx hb d_Le_openReaders_6 (by decide) (fun c9 => absurd c9 (by decide)) (fun _ => ?_)
        refine lv_aload_n hx hb d_Le_openReaders_9 rfl (lv_at hl 2 rfl) ?_
        refine gz_get (ci := 0) (v := Value.ref q25) (C := "CommitLedger") (T := F_Le) (N := 18) hx hb hts i_Le hown hK Z f_0 rfl 4 (by decide) kf_Le_45 rfl d_Le_openReaders_10 ?_
        refine lv_iload_n hx hb d_Le_openReaders_13 rfl (lv_at hl 0 rfl) ?_
        refine gz_aald (v := Value.ref q41) (j := 3) hx hb hK Z 4 f_25 ht4 (by decide) (by decide) (by decide) (rfl) d_Le_openReaders_14 ?_
        refine gz_get (ci := 6) (v := Value.int ro41) (C := "CommitLedger$Reader") (T := F_Re) (N := 3) hx hb hts i_Re hown hK Z f_41 rfl 2 (by decide) kf_Le_230 rfl d_Le_openReaders_15 ?_
        refine lv_if_eq (tgt := 24) hx hb d_Le_openReaders_18 (by decide) (fun c18_15 => ?_) (fun c18_15 => ?_)
        · refine lv_iinc (v := 4) (lv' := [(2, Value.int 4), (1, Value.int 3), (0, Value.ref q0)]) hx hb d_Le_openReaders_24 hl (k := 0) rfl (by decide) (by decide) rfl (fun ls hl => ?_)
          refine lv_goto (tgt := 4) hx hb d_Le_openReaders_27 (by decide) ?_
          refine lv_iload_n hx hb d_Le_openReaders_4 rfl (lv_at hl 0 rfl) ?_
          refine lv_iconst (v := 4) hx hb d_Le_openReaders_5 (by decide) ?_
          refine lv_icmp_ge (tgt := 30) hx hb d_Le_openReaders_6 (by decide) (fun _ => ?_) (fun c9 => absurd (by decide) c9)
          refine lv_iload_n hx hb d_Le_openReaders_30 rfl (lv_at hl 1 rfl) ?_
          exact gz_iret (v := 3) hx hb hr hlocks hK Z (by decide) (by decide) (by rw [← hPQ]; exact Or.inr (Or.inr (Or.inr (Or.inr (Or.inr (Or.inr (Or.inr (Or.inr (Or.inr (Or.inr (Or.inr (Or.inr (Or.inr (Or.inr (Or.inl ⟨rfl, rfl, c18_1, c18_9, c18_13, c18_15⟩))))))))))))))) d_Le_openReaders_31
        · refine lv_iinc (v := 4) (lv' := [(1, Value.int 4), (2, Value.int 3), (0, Value.ref q0)]) hx hb d_Le_openReaders_21 hl (k := 1) rfl (by decide) (by decide) rfl (fun ls hl => ?_)
          refine lv_iinc (v := 4) (lv' := [(2, Value.int 4), (1, Value.int 4), (0, Value.ref q0)]) hx hb d_Le_openReaders_24 hl (k := 1) rfl (by decide) (by decide) rfl (fun ls hl => ?_)
          refine lv_goto (tgt := 4) hx hb d_Le_openReaders_27 (by decide) ?_
          refine lv_iload_n hx hb d_Le_openReaders_4 rfl (lv_at hl 0 rfl) ?_
          refine lv_iconst (v := 4) hx hb d_Le_openReaders_5 (by decide) ?_
          refine lv_icmp_ge (tgt := 30) hx hb d_Le_openReaders_6 (by decide) (fun _ => ?_) (fun c9 => absurd (by decide) c9)
          refine lv_iload_n hx hb d_Le_openReaders_30 rfl (lv_at hl 1 rfl) ?_
          exact gz_iret (v := 4) hx hb hr hlocks hK Z (by decide) (by decide) (by rw [← hPQ]; exact Or.inr (Or.inr (Or.inr (Or.inr (Or.inr (Or.inr (Or.inr (Or.inr (Or.inr (Or.inr (Or.inr (Or.inr (Or.inr (Or.inr (Or.inr (⟨rfl, rfl, c18_1, c18_9, c18_13, c18_15⟩)))))))))))))))) d_Le_openReaders_31

set_option maxHeartbeats 4000000 in
set_option maxRecDepth 100000 in
theorem k_Mo_wrong (l : Launch) (htr : l.stackTraces = false) (D : va_G) (tys : List (ClassId × FieldType)) (z sz : Nat) (ws : va_W) (h : gm_M) (hM : gm_S h ws) (q46 : Nat) (q47 : Nat) (q48 : Nat) (q49 : Nat) (q50 : Nat) (q51 : Nat) (q52 : Nat) (q53 : Nat) (q54 : Nat) (q62 : Nat) (q70 : Nat) (q78 : Nat) (q79 : Nat) (q80 : Nat) (q81 : Nat) (q82 : Nat) (q83 : Nat) (um : Value) (m_error : Int32) (m_thrown : Int32) (m_docs : Int32) (m_filesThere : Int32) (m_files : Int32) (m_actions : Int32) (m_power : Int32) (m_lost : Int32) (m_open : Int32) (m_isPrepared : Int32) (m_generation : Int32) (m_buffered : Int32) (m_limit : Int32) (m_factor : Int32) (m_merges : Int32) (m_opened : Int32) (m_chosenMany : Int32) (m_begun : Int32) (p1 : Int32) (p2 : Int32) (f_46 : h 46 = some ((q46, Sum.inr (8, [Value.int m_error, Value.int m_thrown, Value.ref q47, Value.ref q48, Value.ref q49, Value.int m_docs, Value.ref q50, Value.ref q51, Value.ref q52, Value.ref q53, Value.int m_filesThere, Value.int m_files, Value.int m_actions, Value.int m_power, Value.int m_lost, Value.ref q54, Value.ref q62, Value.ref q70, Value.int m_open, Value.int m_isPrepared, Value.int m_generation, Value.ref q78, Value.ref q79, Value.int m_buffered, Value.int m_limit, Value.int m_factor, um, Value.ref q80, Value.ref q81, Value.ref q82, Value.int m_merges, Value.ref q83, Value.int m_opened, Value.int m_chosenMany, Value.int m_begun])) : Nat × va_E)) : gx_Met l y_Mo_wrong [Cond.code y_Mo_wrong b_Mo_wrong 3 (some .boolean)] { frames := 1, cells := 0, slots := 0, locals := 12 } (gx_P z sz D classes tys ws [Value.ref q46, Value.int p1, Value.int p2]) (gx_Q D classes tys (va_A ws sz) (gm_p (fun r h' => (r = Sum.inl (some (Value.int 0)) ∧ gm_g h h' [46] ∧ h' 46 = some ((q46, Sum.inr (8, [Value.int m_error, Value.int m_thrown, Value.ref q47, Value.ref q48, Value.ref q49, Value.int m_docs, Value.ref q50, Value.ref q51, Value.ref q52, Value.ref q53, Value.int m_filesThere, Value.int m_files, Value.int m_actions, Value.int m_power, Value.int m_lost, Value.ref q54, Value.ref q62, Value.ref q70, Value.int m_open, Value.int m_isPrepared, Value.int m_generation, Value.ref q78, Value.ref q79, Value.int m_buffered, Value.int m_limit, Value.int m_factor, um, Value.ref q80, Value.ref q81, Value.ref q82, Value.int m_merges, Value.ref q83, Value.int m_opened, Value.int m_chosenMany, Value.int m_begun])) : Nat × va_E) ∧ (p1 = 0) ∧ (m_error = 0)) ∨ (r = Sum.inl (some (Value.int 1)) ∧ gm_g h h' [46] ∧ h' 46 = some ((q46, Sum.inr (8, [Value.int m_error, Value.int m_thrown, Value.ref q47, Value.ref q48, Value.ref q49, Value.int m_docs, Value.ref q50, Value.ref q51, Value.ref q52, Value.ref q53, Value.int m_filesThere, Value.int m_files, Value.int m_actions, Value.int m_power, Value.int m_lost, Value.ref q54, Value.ref q62, Value.ref q70, Value.int m_open, Value.int m_isPrepared, Value.int m_generation, Value.ref q78, Value.ref q79, Value.int m_buffered, Value.int m_limit, Value.int m_factor, um, Value.ref q80, Value.ref q81, Value.ref q82, Value.int m_merges, Value.ref q83, Value.int m_opened, Value.int m_chosenMany, Value.int m_begun])) : Nat × va_E) ∧ (p1 = 0) ∧ (¬ m_error = 0)) ∨ (r = Sum.inl (some (Value.int 1)) ∧ gm_g h h' [46] ∧ h' 46 = some ((q46, Sum.inr (8, [Value.int m_error, Value.int m_thrown, Value.ref q47, Value.ref q48, Value.ref q49, Value.int m_docs, Value.ref q50, Value.ref q51, Value.ref q52, Value.ref q53, Value.int m_filesThere, Value.int m_files, Value.int m_actions, Value.int m_power, Value.int m_lost, Value.ref q54, Value.ref q62, Value.ref q70, Value.int m_open, Value.int m_isPrepared, Value.int m_generation, Value.ref q78, Value.ref q79, Value.int m_buffered, Value.int m_limit, Value.int m_factor, um, Value.ref q80, Value.ref q81, Value.ref q82, Value.int m_merges, Value.ref q83, Value.int m_opened, Value.int m_chosenMany, Value.int m_begun])) : Nat × va_E) ∧ (¬ p1 = 0) ∧ (¬ m_error = 0)) ∨ (r = Sum.inl (some (Value.int 0)) ∧ gm_g h h' [46] ∧ h' 46 = some ((q46, Sum.inr (8, [Value.int p2, Value.int m_thrown, Value.ref q47, Value.ref q48, Value.ref q49, Value.int m_docs, Value.ref q50, Value.ref q51, Value.ref q52, Value.ref q53, Value.int m_filesThere, Value.int m_files, Value.int m_actions, Value.int m_power, Value.int m_lost, Value.ref q54, Value.ref q62, Value.ref q70, Value.int m_open, Value.int m_isPrepared, Value.int m_generation, Value.ref q78, Value.ref q79, Value.int m_buffered, Value.int m_limit, Value.int m_factor, um, Value.ref q80, Value.ref q81, Value.ref q82, Value.int m_merges, Value.ref q83, Value.int m_opened, Value.int m_chosenMany, Value.int m_begun])) : Nat × va_E) ∧ (¬ p1 = 0) ∧ (m_error = 0) ∧ (p2 = 0)) ∨ (r = Sum.inl (some (Value.int 1)) ∧ gm_g h h' [46] ∧ h' 46 = some ((q46, Sum.inr (8, [Value.int p2, Value.int m_thrown, Value.ref q47, Value.ref q48, Value.ref q49, Value.int m_docs, Value.ref q50, Value.ref q51, Value.ref q52, Value.ref q53, Value.int m_filesThere, Value.int m_files, Value.int m_actions, Value.int m_power, Value.int m_lost, Value.ref q54, Value.ref q62, Value.ref q70, Value.int m_open, Value.int m_isPrepared, Value.int m_generation, Value.ref q78, Value.ref q79, Value.int m_buffered, Value.int m_limit, Value.int m_factor, um, Value.ref q80, Value.ref q81, Value.ref q82, Value.int m_merges, Value.ref q83, Value.int m_opened, Value.int m_chosenMany, Value.int m_begun])) : Nat × va_E) ∧ (¬ p1 = 0) ∧ (m_error = 0) ∧ (¬ p2 = 0))))) 0 0 (va_A ws sz) := by
  refine gx_ofW (cc := b_Mo_wrong) (maxL := 3) (ret := (some .boolean)) (by decide) rfl ?_
  intro p e s m args below meth c s₁ B hml hv
  obtain ⟨rfl, hsz, hz, hP, hK, hD0, hY⟩ := hv
  have hx := B.exec
  have hb := B.bytes
  have hr := B.returns
  have hts := hY.hts (#[Value.ref q46, Value.int p1, Value.int p2] : Array Value)
  have hown : s.vm.findClass "CommitLedgerModel" = some m.cls := findClass_of_methodNamed B.named
  have hlocks := B.notSynchronized
  have hne : c.exceptionTable.isEmpty = true := B.noHandlers (atoms_spec (ws := [Cond.code y_Mo_wrong b_Mo_wrong 3 (some .boolean)]) B.pre _ List.mem_cons_self)
  subst hsz
  have hAz := gx_az hD0 hz
  have hD := hD0.self (sz := s.heap.size)
  have hN := gx_ns hP
  have hA : ∀ q : Nat, s.heap.size ≤ q → va_A ws s.heap.size q := fun q h => Or.inr h
  generalize va_A ws s.heap.size = A at hD hN hA hAz ⊢
  generalize hPQ : (fun (r : Option Value ⊕ String) (h' : gm_M) => (r = Sum.inl (some (Value.int 0)) ∧ gm_g h h' [46] ∧ h' 46 = some ((q46, Sum.inr (8, [Value.int m_error, Value.int m_thrown, Value.ref q47, Value.ref q48, Value.ref q49, Value.int m_docs, Value.ref q50, Value.ref q51, Value.ref q52, Value.ref q53, Value.int m_filesThere, Value.int m_files, Value.int m_actions, Value.int m_power, Value.int m_lost, Value.ref q54, Value.ref q62, Value.ref q70, Value.int m_open, Value.int m_isPrepared, Value.int m_generation, Value.ref q78, Value.ref q79, Value.int m_buffered, Value.int m_limit, Value.int m_factor, um, Value.ref q80, Value.ref q81, Value.ref q82, Value.int m_merges, Value.ref q83, Value.int m_opened, Value.int m_chosenMany, Value.int m_begun])) : Nat × va_E) ∧ (p1 = 0) ∧ (m_error = 0)) ∨ (r = Sum.inl (some (Value.int 1)) ∧ gm_g h h' [46] ∧ h' 46 = some ((q46, Sum.inr (8, [Value.int m_error, Value.int m_thrown, Value.ref q47, Value.ref q48, Value.ref q49, Value.int m_docs, Value.ref q50, Value.ref q51, Value.ref q52, Value.ref q53, Value.int m_filesThere, Value.int m_files, Value.int m_actions, Value.int m_power, Value.int m_lost, Value.ref q54, Value.ref q62, Value.ref q70, Value.int m_open, Value.int m_isPrepared, Value.int m_generation, Value.ref q78, Value.ref q79, Value.int m_buffered, Value.int m_limit, Value.int m_factor, um, Value.ref q80, Value.ref q81, Value.ref q82, Value.int m_merges, Value.ref q83, Value.int m_opened, Value.int m_chosenMany, Value.int m_begun])) : Nat × va_E) ∧ (p1 = 0) ∧ (¬ m_error = 0)) ∨ (r = Sum.inl (some (Value.int 1)) ∧ gm_g h h' [46] ∧ h' 46 = some ((q46, Sum.inr (8, [Value.int m_error, Value.int m_thrown, Value.ref q47, Value.ref q48, Value.ref q49, Value.int m_docs, Value.ref q50, Value.ref q51, Value.ref q52, Value.ref q53, Value.int m_filesThere, Value.int m_files, Value.int m_actions, Value.int m_power, Value.int m_lost, Value.ref q54, Value.ref q62, Value.ref q70, Value.int m_open, Value.int m_isPrepared, Value.int m_generation, Value.ref q78, Value.ref q79, Value.int m_buffered, Value.int m_limit, Value.int m_factor, um, Value.ref q80, Value.ref q81, Value.ref q82, Value.int m_merges, Value.ref q83, Value.int m_opened, Value.int m_chosenMany, Value.int m_begun])) : Nat × va_E) ∧ (¬ p1 = 0) ∧ (¬ m_error = 0)) ∨ (r = Sum.inl (some (Value.int 0)) ∧ gm_g h h' [46] ∧ h' 46 = some ((q46, Sum.inr (8, [Value.int p2, Value.int m_thrown, Value.ref q47, Value.ref q48, Value.ref q49, Value.int m_docs, Value.ref q50, Value.ref q51, Value.ref q52, Value.ref q53, Value.int m_filesThere, Value.int m_files, Value.int m_actions, Value.int m_power, Value.int m_lost, Value.ref q54, Value.ref q62, Value.ref q70, Value.int m_open, Value.int m_isPrepared, Value.int m_generation, Value.ref q78, Value.ref q79, Value.int m_buffered, Value.int m_limit, Value.int m_factor, um, Value.ref q80, Value.ref q81, Value.ref q82, Value.int m_merges, Value.ref q83, Value.int m_opened, Value.int m_chosenMany, Value.int m_begun])) : Nat × va_E) ∧ (¬ p1 = 0) ∧ (m_error = 0) ∧ (p2 = 0)) ∨ (r = Sum.inl (some (Value.int 1)) ∧ gm_g h h' [46] ∧ h' 46 = some ((q46, Sum.inr (8, [Value.int p2, Value.int m_thrown, Value.ref q47, Value.ref q48, Value.ref q49, Value.int m_docs, Value.ref q50, Value.ref q51, Value.ref q52, Value.ref q53, Value.int m_filesThere, Value.int m_files, Value.int m_actions, Value.int m_power, Value.int m_lost, Value.ref q54, Value.ref q62, Value.ref q70, Value.int m_open, Value.int m_isPrepared, Value.int m_generation, Value.ref q78, Value.ref q79, Value.int m_buffered, Value.int m_limit, Value.int m_factor, um, Value.ref q80, Value.ref q81, Value.ref q82, Value.int m_merges, Value.ref q83, Value.int m_opened, Value.int m_chosenMany, Value.int m_begun])) : Nat × va_E) ∧ (¬ p1 = 0) ∧ (m_error = 0) ∧ (¬ p2 = 0))) = PQ
  have Z : gz D A s.heap h s.heap [] := ⟨ws, hM, hP, hD, va_S.rf⟩
  clear hP hD hM hD0
  have hU : gm_g h h [46] := gm_g.rf
  have hl := lv_entry ([Value.ref q46, Value.int p1, Value.int p2]) (n := 3) (Nat.le_of_ble_eq_true rfl)
  rw [lg_entry_eq]
  generalize (lg_sl ([Value.ref q46, Value.int p1, Value.int p2]) ++ List.replicate (3 - (lg_sl ([Value.ref q46, Value.int p1, Value.int p2])).length) Slot.unset).toArray = ls at hl ⊢
  have hl : lv_has ls 3 [(0, Value.ref q46), (1, Value.int p1), (2, Value.int p2)] := hl
  refine lv_iload_n hx hb d_Mo_wrong_0 rfl (lv_at hl 1 rfl) ?_
  refine lv_if_eq (tgt := 16) hx hb d_Mo_wrong_1 (by decide) (fun c1_1 => ?_) (fun c1_1 => ?_)
  · refine lv_aload_n hx hb d_Mo_wrong_16 rfl (lv_at hl 0 rfl) ?_
    refine gz_get (ci := 8) (v := Value.int m_error) (C := "CommitLedgerModel") (T := F_Mo) (N := 35) hx hb hts i_Mo hown hK Z f_46 rfl 0 (by decide) kf_Mo_84 rfl d_Mo_wrong_17 ?_
    refine lv_if_eq (tgt := 27) hx hb d_Mo_wrong_20 (by decide) (fun c20_2 => ?_) (fun c20_2 => ?_)
    · refine lv_iconst (v := 0) hx hb d_Mo_wrong_27 (by decide) ?_
      exact gz_zret (v := 0) hx hb hr hlocks hK Z (by decide) (by decide) (rfl) (by rw [← hPQ]; exact Or.inl ⟨rfl, hU, f_46, c1_1, c20_2⟩) d_Mo_wrong_28
    · refine lv_iconst (v := 1) hx hb d_Mo_wrong_23 (by decide) ?_
      refine lv_goto (tgt := 28) hx hb d_Mo_wrong_24 (by decide) ?_
      exact gz_zret (v := 1) hx hb hr hlocks hK Z (by decide) (by decide) (rfl) (by rw [← hPQ]; exact Or.inr (Or.inl ⟨rfl, hU, f_46, c1_1, c20_2⟩)) d_Mo_wrong_28
  · refine lv_aload_n hx hb d_Mo_wrong_4 rfl (lv_at hl 0 rfl) ?_
    refine gz_get (ci := 8) (v := Value.int m_error) (C := "CommitLedgerModel") (T := F_Mo) (N := 35) hx hb hts i_Mo hown hK Z f_46 rfl 0 (by decide) kf_Mo_84 rfl d_Mo_wrong_5 ?_
    refine lv_if_ne (tgt := 16) hx hb d_Mo_wrong_8 (by decide) (fun c8_3 => ?_) (fun c8_3 => ?_)
    · refine lv_aload_n hx hb d_Mo_wrong_16 rfl (lv_at hl 0 rfl) ?_
      refine gz_get (ci := 8) (v := Value.int m_error) (C := "CommitLedgerModel") (T := F_Mo) (N := 35) hx hb hts i_Mo hown hK Z f_46 rfl 0 (by decide) kf_Mo_84 rfl d_Mo_wrong_17 ?_
      refine lv_if_eq (tgt := 27) hx hb d_Mo_wrong_20 (by decide) (fun c9 => absurd c9 c8_3) (fun _ => ?_)
      refine lv_iconst (v := 1) hx hb d_Mo_wrong_23 (by decide) ?_
      refine lv_goto (tgt := 28) hx hb d_Mo_wrong_24 (by decide) ?_
      exact gz_zret (v := 1) hx hb hr hlocks hK Z (by decide) (by decide) (rfl) (by rw [← hPQ]; exact Or.inr (Or.inr (Or.inl ⟨rfl, hU, f_46, c1_1, c8_3⟩))) d_Mo_wrong_28
    · refine lv_aload_n hx hb d_Mo_wrong_11 rfl (lv_at hl 0 rfl) ?_
      refine lv_iload_n hx hb d_Mo_wrong_12 rfl (lv_at hl 2 rfl) ?_
      refine gz_put (ci := 8) (v := Value.int p2) (ty := .int) (C := "CommitLedgerModel") (T := F_Mo) (N := 35) hx hb hts i_Mo t_Mo_ok n_Mo hown hK Z f_46 rfl 0 (by decide) kf_Mo_84 rfl (by decide +kernel) rfl rfl (Nat.le_of_ble_eq_true rfl) d_Mo_wrong_13 (fun H locs Z => ?_)
      obtain ⟨h5, e_h5⟩ : ∃ z9 : gm_M, z9 = gm_up h 46 ((q46, Sum.inr (8, [Value.int p2, Value.int m_thrown, Value.ref q47, Value.ref q48, Value.ref q49, Value.int m_docs, Value.ref q50, Value.ref q51, Value.ref q52, Value.ref q53, Value.int m_filesThere, Value.int m_files, Value.int m_actions, Value.int m_power, Value.int m_lost, Value.ref q54, Value.ref q62, Value.ref q70, Value.int m_open, Value.int m_isPrepared, Value.int m_generation, Value.ref q78, Value.ref q79, Value.int m_buffered, Value.int m_limit, Value.int m_factor, um, Value.ref q80, Value.ref q81, Value.ref q82, Value.int m_merges, Value.ref q83, Value.int m_opened, Value.int m_chosenMany, Value.int m_begun])) : Nat × va_E) := ⟨_, rfl⟩
      replace Z : gz D A s.heap h5 H locs := by rw [e_h5]; exact Z
      have f_46_h5 : h5 46 = some ((q46, Sum.inr (8, [Value.int p2, Value.int m_thrown, Value.ref q47, Value.ref q48, Value.ref q49, Value.int m_docs, Value.ref q50, Value.ref q51, Value.ref q52, Value.ref q53, Value.int m_filesThere, Value.int m_files, Value.int m_actions, Value.int m_power, Value.int m_lost, Value.ref q54, Value.ref q62, Value.ref q70, Value.int m_open, Value.int m_isPrepared, Value.int m_generation, Value.ref q78, Value.ref q79, Value.int m_buffered, Value.int m_limit, Value.int m_factor, um, Value.ref q80, Value.ref q81, Value.ref q82, Value.int m_merges, Value.ref q83, Value.int m_opened, Value.int m_chosenMany, Value.int m_begun])) : Nat × va_E) := by rw [e_h5]; exact gm_self
      replace hU : gm_g h h5 [46] := by rw [e_h5]; exact hU.put (by simp)
      refine lv_aload_n hx hb d_Mo_wrong_16 rfl (lv_at hl 0 rfl) ?_
      refine gz_get (ci := 8) (v := Value.int p2) (C := "CommitLedgerModel") (T := F_Mo) (N := 35) hx hb hts i_Mo hown hK Z f_46_h5 rfl 0 (by decide) kf_Mo_84 rfl d_Mo_wrong_17 ?_
      refine lv_if_eq (tgt := 27) hx hb d_Mo_wrong_20 (by decide) (fun c20_6 => ?_) (fun c20_6 => ?_)
      · refine lv_iconst (v := 0) hx hb d_Mo_wrong_27 (by decide) ?_
        exact gz_zret (v := 0) hx hb hr hlocks hK Z (by decide) (by decide) (rfl) (by rw [← hPQ]; exact Or.inr (Or.inr (Or.inr (Or.inl ⟨rfl, hU, f_46_h5, c1_1, c8_3, c20_6⟩)))) d_Mo_wrong_28
      · refine lv_iconst (v := 1) hx hb d_Mo_wrong_23 (by decide) ?_
        refine lv_goto (tgt := 28) hx hb d_Mo_wrong_24 (by decide) ?_
        exact gz_zret (v := 1) hx hb hr hlocks hK Z (by decide) (by decide) (rfl) (by rw [← hPQ]; exact Or.inr (Or.inr (Or.inr (Or.inr (⟨rfl, hU, f_46_h5, c1_1, c8_3, c20_6⟩))))) d_Mo_wrong_28
