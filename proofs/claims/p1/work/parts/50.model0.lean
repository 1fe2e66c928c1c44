/-! CONTRACTS of the reference on a new object, rows printed by an own text program -/
theorem gx_no01 {x : Int32} (h1 : ¬ x < 0) (h2 : x ≤ 1) (h3 : ¬ x = 0) (h4 : ¬ x = 1) : False := by
  rw [Int32.lt_iff_toInt_lt] at h1
  rw [Int32.le_iff_toInt_le] at h2
  rw [← Int32.toInt_inj] at h3 h4
  have e0 : (0 : Int32).toInt = 0 := by decide
  have e1 : (1 : Int32).toInt = 1 := by decide
  omega
theorem gx_no01n {x : Int32} (h1 : ¬ x < 0) (h2 : ¬ 1 < x) (h3 : ¬ x = 0) (h4 : ¬ x = 1) : False := by
  rw [Int32.lt_iff_toInt_lt] at h1 h2
  rw [← Int32.toInt_inj] at h3 h4
  have e0 : (0 : Int32).toInt = 0 := by decide
  have e1 : (1 : Int32).toInt = 1 := by decide
  omega
set_option maxHeartbeats 4000000 in
set_option maxRecDepth 100000 in
theorem c_Mo_wrong_v1 (l : Launch) (htr : l.stackTraces = false) (D : va_G) (tys : List (ClassId × FieldType)) (z sz : Nat) (ws : va_W) (A46 : Nat) (A47 : Nat) (A48 : Nat) (A49 : Nat) (A50 : Nat) (A51 : Nat) (A52 : Nat) (A53 : Nat) (A54 : Nat) (A62 : Nat) (A70 : Nat) (A78 : Nat) (A79 : Nat) (u0 : Value) (A80 : Nat) (A81 : Nat) (A82 : Nat) (A83 : Nat) (f_46 : ws[46]? = some ((A46, Sum.inr (8, [Value.int 0, Value.int 0, Value.ref A47, Value.ref A48, Value.ref A49, Value.int 0, Value.ref A50, Value.ref A51, Value.ref A52, Value.ref A53, Value.int 0, Value.int 0, Value.int 0, Value.int (-1), Value.int 0, Value.ref A54, Value.ref A62, Value.ref A70, Value.int 0, Value.int 0, Value.int 0, Value.ref A78, Value.ref A79, Value.int 0, Value.int 16, Value.int 4, u0, Value.ref A80, Value.ref A81, Value.ref A82, Value.int 0, Value.ref A83, Value.int 0, Value.int 0, Value.int 0])) : Nat × va_E)) : gx_Met l y_Mo_wrong [Cond.code y_Mo_wrong b_Mo_wrong 3 (some .boolean)] { frames := 1, cells := 0, slots := 0, locals := 12 } (gx_P z sz D classes tys ws [Value.ref A46, Value.int 1, Value.int 1]) (gx_Q D classes tys (va_A ws sz) (fun r ws' => (r = Sum.inl (some (Value.int 1)) ∧ gx_g ws ws' 0 [46] ∧ ws'[46]? = some ((A46, Sum.inr (8, [Value.int 1, Value.int 0, Value.ref A47, Value.ref A48, Value.ref A49, Value.int 0, Value.ref A50, Value.ref A51, Value.ref A52, Value.ref A53, Value.int 0, Value.int 0, Value.int 0, Value.int (-1), Value.int 0, Value.ref A54, Value.ref A62, Value.ref A70, Value.int 0, Value.int 0, Value.int 0, Value.ref A78, Value.ref A79, Value.int 0, Value.int 16, Value.int 4, u0, Value.ref A80, Value.ref A81, Value.ref A82, Value.int 0, Value.ref A83, Value.int 0, Value.int 0, Value.int 0])) : Nat × va_E)))) 0 0 (va_A ws sz) := by
  refine gx_ofW (cc := b_Mo_wrong) (maxL := 3) (ret := (some .boolean)) (by decide) rfl ?_
  intro p e s m args below meth c s₁ B hml hv
  obtain ⟨rfl, hsz, hz, hP, hK, hD0, hY⟩ := hv
  have hx := B.exec
  have hb := B.bytes
  have hr := B.returns
  have hts := hY.hts (#[Value.ref A46, Value.int 1, Value.int 1] : Array Value)
  have hown : s.vm.findClass "CommitLedgerModel" = some m.cls := findClass_of_methodNamed B.named
  have hlocks := B.notSynchronized
  have hne : c.exceptionTable.isEmpty = true := B.noHandlers (atoms_spec (ws := [Cond.code y_Mo_wrong b_Mo_wrong 3 (some .boolean)]) B.pre _ List.mem_cons_self)
  subst hsz
  have hAz := gx_az hD0 hz
  have hD := hD0.self (sz := s.heap.size)
  have hN := gx_ns hP
  have hA : ∀ q : Nat, s.heap.size ≤ q → va_A ws s.heap.size q := fun q h => Or.inr h
  generalize va_A ws s.heap.size = A at hD hN hA hAz ⊢
  generalize hPQ : (fun (r : Option Value ⊕ String) (ws' : va_W) => (r = Sum.inl (some (Value.int 1)) ∧ gx_g ws ws' 0 [46] ∧ ws'[46]? = some ((A46, Sum.inr (8, [Value.int 1, Value.int 0, Value.ref A47, Value.ref A48, Value.ref A49, Value.int 0, Value.ref A50, Value.ref A51, Value.ref A52, Value.ref A53, Value.int 0, Value.int 0, Value.int 0, Value.int (-1), Value.int 0, Value.ref A54, Value.ref A62, Value.ref A70, Value.int 0, Value.int 0, Value.int 0, Value.ref A78, Value.ref A79, Value.int 0, Value.int 16, Value.int 4, u0, Value.ref A80, Value.ref A81, Value.ref A82, Value.int 0, Value.ref A83, Value.int 0, Value.int 0, Value.int 0])) : Nat × va_E))) = PQ
  have hS : va_S A s.heap s.heap [] := va_S.rf
  have hU : gx_g ws ws 0 [46] := gx_g.rf
  have hl := lv_entry ([Value.ref A46, Value.int 1, Value.int 1]) (n := 3) (Nat.le_of_ble_eq_true rfl)
  rw [lg_entry_eq]
  generalize (lg_sl ([Value.ref A46, Value.int 1, Value.int 1]) ++ List.replicate (3 - (lg_sl ([Value.ref A46, Value.int 1, Value.int 1])).length) Slot.unset).toArray = ls at hl ⊢
  have hl : lv_has ls 3 [(0, Value.ref A46), (1, Value.int 1), (2, Value.int 1)] := hl
  refine lv_iload_n hx hb d_Mo_wrong_0 rfl (lv_at hl 1 rfl) ?_
  refine lv_if_eq (tgt := 16) hx hb d_Mo_wrong_1 (by decide) (fun c9 => absurd c9 (by decide)) (fun _ => ?_)
  refine lv_aload_n hx hb d_Mo_wrong_4 rfl (lv_at hl 0 rfl) ?_
  refine va_get (D := D) (ci := 8) (v := Value.int 0) (C := "CommitLedgerModel") (T := F_Mo) (N := 35) hx hb hts i_Mo hown hK hP 46 f_46 rfl 0 (by decide) (hts _ kf_Mo_84) (fun _ h9 => h9) rfl d_Mo_wrong_5 ?_
  refine lv_if_ne (tgt := 16) hx hb d_Mo_wrong_8 (by decide) (fun c9 => absurd (by decide) c9) (fun _ => ?_)
  refine lv_aload_n hx hb d_Mo_wrong_11 rfl (lv_at hl 0 rfl) ?_
  refine lv_iload_n hx hb d_Mo_wrong_12 rfl (lv_at hl 2 rfl) ?_
  refine va_put (D := D) (ci := 8) (v := Value.int 1) (ty := .int) (C := "CommitLedgerModel") (T := F_Mo) (N := 35) hx hb hts i_Mo t_Mo t_Mo_ok n_Mo hown hK hP hD hS 46 f_46 rfl 0 (by decide) (hts _ kf_Mo_84) (fun _ h9 => h9) rfl (by decide +kernel) rfl rfl (Nat.le_of_ble_eq_true rfl) d_Mo_wrong_13 (fun H locs hP9 hD9 hS9 => ?_)
  obtain ⟨ws1, e_ws1⟩ : ∃ x : va_W, x = ws.set 46 ((A46, Sum.inr (8, [Value.int 1, Value.int 0, Value.ref A47, Value.ref A48, Value.ref A49, Value.int 0, Value.ref A50, Value.ref A51, Value.ref A52, Value.ref A53, Value.int 0, Value.int 0, Value.int 0, Value.int (-1), Value.int 0, Value.ref A54, Value.ref A62, Value.ref A70, Value.int 0, Value.int 0, Value.int 0, Value.ref A78, Value.ref A79, Value.int 0, Value.int 16, Value.int 4, u0, Value.ref A80, Value.ref A81, Value.ref A82, Value.int 0, Value.ref A83, Value.int 0, Value.int 0, Value.int 0])) : Nat × va_E) := ⟨_, rfl⟩
  replace hP : va_P D classes ws1 H := by rw [e_ws1]; exact hP9
  replace hD : va_D A ws1 := by rw [e_ws1]; exact hD9
  replace hS := hS9
  clear hP9 hD9 hS9
  have f_46_ws1 : ws1[46]? = some ((A46, Sum.inr (8, [Value.int 1, Value.int 0, Value.ref A47, Value.ref A48, Value.ref A49, Value.int 0, Value.ref A50, Value.ref A51, Value.ref A52, Value.ref A53, Value.int 0, Value.int 0, Value.int 0, Value.int (-1), Value.int 0, Value.ref A54, Value.ref A62, Value.ref A70, Value.int 0, Value.int 0, Value.int 0, Value.ref A78, Value.ref A79, Value.int 0, Value.int 16, Value.int 4, u0, Value.ref A80, Value.ref A81, Value.ref A82, Value.int 0, Value.ref A83, Value.int 0, Value.int 0, Value.int 0])) : Nat × va_E) := by rw [e_ws1]; exact gs_self f_46
  replace hU : gx_g ws ws1 0 [46] := by rw [e_ws1]; exact hU.put (Or.inl (by simp))
  refine lv_aload_n hx hb d_Mo_wrong_16 rfl (lv_at hl 0 rfl) ?_
  refine va_get (D := D) (ci := 8) (v := Value.int 1) (C := "CommitLedgerModel") (T := F_Mo) (N := 35) hx hb hts i_Mo hown hK hP 46 f_46_ws1 rfl 0 (by decide) (hts _ kf_Mo_84) (fun _ h9 => h9) rfl d_Mo_wrong_17 ?_
  refine lv_if_eq (tgt := 27) hx hb d_Mo_wrong_20 (by decide) (fun c9 => absurd c9 (by decide)) (fun _ => ?_)
  refine lv_iconst (v := 1) hx hb d_Mo_wrong_23 (by decide) ?_
  refine lv_goto (tgt := 28) hx hb d_Mo_wrong_24 (by decide) ?_
  exact gx_ret (W.zret (v := 1) (ty := .boolean) hx hb hr (rfl) (gx_post hP hK hD hS (by rw [← hPQ]; exact ⟨rfl, hU, f_46_ws1⟩)) hS.2.2 d_Mo_wrong_28)

set_option maxHeartbeats 4000000 in
set_option maxRecDepth 100000 in
theorem c_Mo_done_v1 (l : Launch) (htr : l.stackTraces = false) (D : va_G) (tys : List (ClassId × FieldType)) (z sz : Nat) (ws : va_W) (A46 : Nat) (A47 : Nat) (A48 : Nat) (A49 : Nat) (A50 : Nat) (A51 : Nat) (A52 : Nat) (A53 : Nat) (A54 : Nat) (A62 : Nat) (A70 : Nat) (A78 : Nat) (A79 : Nat) (u0 : Value) (A80 : Nat) (A81 : Nat) (A82 : Nat) (A83 : Nat) (f_46 : ws[46]? = some ((A46, Sum.inr (8, [Value.int 1, Value.int 0, Value.ref A47, Value.ref A48, Value.ref A49, Value.int 0, Value.ref A50, Value.ref A51, Value.ref A52, Value.ref A53, Value.int 0, Value.int 0, Value.int 0, Value.int (-1), Value.int 0, Value.ref A54, Value.ref A62, Value.ref A70, Value.int 0, Value.int 0, Value.int 0, Value.ref A78, Value.ref A79, Value.int 0, Value.int 16, Value.int 4, u0, Value.ref A80, Value.ref A81, Value.ref A82, Value.int 0, Value.ref A83, Value.int 0, Value.int 0, Value.int 0])) : Nat × va_E)) : gx_Met l y_Mo_done [Cond.code y_Mo_done b_Mo_done 6 (some .int)] { frames := 1, cells := 0, slots := 0, locals := 12 } (gx_P z sz D classes tys ws [Value.ref A46, Value.int 0, Value.int 1]) (gx_Q D classes tys (va_A ws sz) (fun r ws' => (r = Sum.inl (some (Value.int 0)) ∧ gx_g ws ws' 0 [46] ∧ ws'[46]? = some ((A46, Sum.inr (8, [Value.int 0, Value.int 1, Value.ref A47, Value.ref A48, Value.ref A49, Value.int 0, Value.ref A50, Value.ref A51, Value.ref A52, Value.ref A53, Value.int 0, Value.int 0, Value.int 0, Value.int (-1), Value.int 0, Value.ref A54, Value.ref A62, Value.ref A70, Value.int 0, Value.int 0, Value.int 0, Value.ref A78, Value.ref A79, Value.int 0, Value.int 16, Value.int 4, u0, Value.ref A80, Value.ref A81, Value.ref A82, Value.int 0, Value.ref A83, Value.int 0, Value.int 0, Value.int 0])) : Nat × va_E)))) 0 0 (va_A ws sz) := by
  refine gx_ofW (cc := b_Mo_done) (maxL := 6) (ret := (some .int)) (by decide) rfl ?_
  intro p e s m args below meth c s₁ B hml hv
  obtain ⟨rfl, hsz, hz, hP, hK, hD0, hY⟩ := hv
  have hx := B.exec
  have hb := B.bytes
  have hr := B.returns
  have hts := hY.hts (#[Value.ref A46, Value.int 0, Value.int 1] : Array Value)
  have hown : s.vm.findClass "CommitLedgerModel" = some m.cls := findClass_of_methodNamed B.named
  have hlocks := B.notSynchronized
  have hne : c.exceptionTable.isEmpty = true := B.noHandlers (atoms_spec (ws := [Cond.code y_Mo_done b_Mo_done 6 (some .int)]) B.pre _ List.mem_cons_self)
  subst hsz
  have hAz := gx_az hD0 hz
  have hD := hD0.self (sz := s.heap.size)
  have hN := gx_ns hP
  have hA : ∀ q : Nat, s.heap.size ≤ q → va_A ws s.heap.size q := fun q h => Or.inr h
  generalize va_A ws s.heap.size = A at hD hN hA hAz ⊢
  generalize hPQ : (fun (r : Option Value ⊕ String) (ws' : va_W) => (r = Sum.inl (some (Value.int 0)) ∧ gx_g ws ws' 0 [46] ∧ ws'[46]? = some ((A46, Sum.inr (8, [Value.int 0, Value.int 1, Value.ref A47, Value.ref A48, Value.ref A49, Value.int 0, Value.ref A50, Value.ref A51, Value.ref A52, Value.ref A53, Value.int 0, Value.int 0, Value.int 0, Value.int (-1), Value.int 0, Value.ref A54, Value.ref A62, Value.ref A70, Value.int 0, Value.int 0, Value.int 0, Value.ref A78, Value.ref A79, Value.int 0, Value.int 16, Value.int 4, u0, Value.ref A80, Value.ref A81, Value.ref A82, Value.int 0, Value.ref A83, Value.int 0, Value.int 0, Value.int 0])) : Nat × va_E))) = PQ
  have hS : va_S A s.heap s.heap [] := va_S.rf
  have hU : gx_g ws ws 0 [46] := gx_g.rf
  have hl := lv_entry ([Value.ref A46, Value.int 0, Value.int 1]) (n := 6) (Nat.le_of_ble_eq_true rfl)
  rw [lg_entry_eq]
  generalize (lg_sl ([Value.ref A46, Value.int 0, Value.int 1]) ++ List.replicate (6 - (lg_sl ([Value.ref A46, Value.int 0, Value.int 1])).length) Slot.unset).toArray = ls at hl ⊢
  have hl : lv_has ls 6 [(0, Value.ref A46), (1, Value.int 0), (2, Value.int 1)] := hl
  refine lv_aload_n hx hb d_Mo_done_0 rfl (lv_at hl 0 rfl) ?_
  refine lv_iconst (v := 0) hx hb d_Mo_done_1 (by decide) ?_
  refine va_put (D := D) (ci := 8) (v := Value.int 0) (ty := .int) (C := "CommitLedgerModel") (T := F_Mo) (N := 35) hx hb hts i_Mo t_Mo t_Mo_ok n_Mo hown hK hP hD hS 46 f_46 rfl 1 (by decide) (hts _ kf_Mo_80) (fun _ h9 => h9) rfl (by decide +kernel) rfl rfl (Nat.le_of_ble_eq_true rfl) d_Mo_done_2 (fun H locs hP9 hD9 hS9 => ?_)
  obtain ⟨ws1, e_ws1⟩ : ∃ x : va_W, x = ws.set 46 ((A46, Sum.inr (8, [Value.int 1, Value.int 0, Value.ref A47, Value.ref A48, Value.ref A49, Value.int 0, Value.ref A50, Value.ref A51, Value.ref A52, Value.ref A53, Value.int 0, Value.int 0, Value.int 0, Value.int (-1), Value.int 0, Value.ref A54, Value.ref A62, Value.ref A70, Value.int 0, Value.int 0, Value.int 0, Value.ref A78, Value.ref A79, Value.int 0, Value.int 16, Value.int 4, u0, Value.ref A80, Value.ref A81, Value.ref A82, Value.int 0, Value.ref A83, Value.int 0, Value.int 0, Value.int 0])) : Nat × va_E) := ⟨_, rfl⟩
  replace hP : va_P D classes ws1 H := by rw [e_ws1]; exact hP9
  replace hD : va_D A ws1 := by rw [e_ws1]; exact hD9
  replace hS := hS9
  clear hP9 hD9 hS9
  have f_46_ws1 : ws1[46]? = some ((A46, Sum.inr (8, [Value.int 1, Value.int 0, Value.ref A47, Value.ref A48, Value.ref A49, Value.int 0, Value.ref A50, Value.ref A51, Value.ref A52, Value.ref A53, Value.int 0, Value.int 0, Value.int 0, Value.int (-1), Value.int 0, Value.ref A54, Value.ref A62, Value.ref A70, Value.int 0, Value.int 0, Value.int 0, Value.ref A78, Value.ref A79, Value.int 0, Value.int 16, Value.int 4, u0, Value.ref A80, Value.ref A81, Value.ref A82, Value.int 0, Value.ref A83, Value.int 0, Value.int 0, Value.int 0])) : Nat × va_E) := by rw [e_ws1]; exact gs_self f_46
  replace hU : gx_g ws ws1 0 [46] := by rw [e_ws1]; exact hU.put (Or.inl (by simp))
  refine lv_iconst (v := 0) hx hb d_Mo_done_5 (by decide) ?_
  refine lv_istore_n (lv' := [(3, Value.int 0), (0, Value.ref A46), (1, Value.int 0), (2, Value.int 1)]) hx hb d_Mo_done_6 rfl hl (by decide) rfl (fun ls hl => ?_)
  refine lv_ldc (v := 100000) hx hb hown (hts _ ki_Mo_83) d_Mo_done_7 ?_
  refine lv_istore (lv' := [(4, Value.int 100000), (3, Value.int 0), (0, Value.ref A46), (1, Value.int 0), (2, Value.int 1)]) hx hb d_Mo_done_9 hl (by decide) rfl (fun ls hl => ?_)
  refine lv_iload hx hb d_Mo_done_11 (lv_at hl 0 rfl) ?_
  refine lv_if_le (tgt := 60) hx hb d_Mo_done_13 (by decide) (fun c9 => absurd c9 (by decide)) (fun _ => ?_)
  refine lv_iload_n hx hb d_Mo_done_16 rfl (lv_at hl 4 rfl) ?_
  refine lv_iload hx hb d_Mo_done_17 (lv_at hl 0 rfl) ?_
  refine lv_idiv hx hb d_Mo_done_19 (by decide) ?_
  refine gx_topi (y := 0) (by decide) ?_
  refine lv_bipush (v := 10) hx hb d_Mo_done_20 (by decide) ?_
  refine lv_irem hx hb d_Mo_done_22 (by decide) ?_
  refine gx_topi (y := 0) (by decide) ?_
  refine lv_istore (lv' := [(5, Value.int 0), (4, Value.int 100000), (3, Value.int 0), (0, Value.ref A46), (1, Value.int 0), (2, Value.int 1)]) hx hb d_Mo_done_23 hl (by decide) rfl (fun ls hl => ?_)
  refine lv_iload hx hb d_Mo_done_25 (lv_at hl 0 rfl) ?_
  refine lv_if_ne (tgt := 33) hx hb d_Mo_done_27 (by decide) (fun c9 => absurd (by decide) c9) (fun _ => ?_)
  refine lv_goto (tgt := 50) hx hb d_Mo_done_30 (by decide) ?_
  refine lv_iload hx hb d_Mo_done_50 (lv_at hl 1 rfl) ?_
  refine lv_bipush (v := 10) hx hb d_Mo_done_52 (by decide) ?_
  refine lv_idiv hx hb d_Mo_done_54 (by decide) ?_
  refine gx_topi (y := 10000) (by decide) ?_
  refine lv_istore (lv' := [(4, Value.int 10000), (5, Value.int 0), (3, Value.int 0), (0, Value.ref A46), (1, Value.int 0), (2, Value.int 1)]) hx hb d_Mo_done_55 hl (by decide) rfl (fun ls hl => ?_)
  refine lv_goto (tgt := 11) hx hb d_Mo_done_57 (by decide) ?_
  refine lv_iload hx hb d_Mo_done_11 (lv_at hl 0 rfl) ?_
  refine lv_if_le (tgt := 60) hx hb d_Mo_done_13 (by decide) (fun c9 => absurd c9 (by decide)) (fun _ => ?_)
  refine lv_iload_n hx hb d_Mo_done_16 rfl (lv_at hl 5 rfl) ?_
  refine lv_iload hx hb d_Mo_done_17 (lv_at hl 0 rfl) ?_
  refine lv_idiv hx hb d_Mo_done_19 (by decide) ?_
  refine gx_topi (y := 0) (by decide) ?_
  refine lv_bipush (v := 10) hx hb d_Mo_done_20 (by decide) ?_
  refine lv_irem hx hb d_Mo_done_22 (by decide) ?_
  refine gx_topi (y := 0) (by decide) ?_
  refine lv_istore (lv' := [(5, Value.int 0), (4, Value.int 10000), (3, Value.int 0), (0, Value.ref A46), (1, Value.int 0), (2, Value.int 1)]) hx hb d_Mo_done_23 hl (by decide) rfl (fun ls hl => ?_)
  refine lv_iload hx hb d_Mo_done_25 (lv_at hl 0 rfl) ?_
  refine lv_if_ne (tgt := 33) hx hb d_Mo_done_27 (by decide) (fun c9 => absurd (by decide) c9) (fun _ => ?_)
  refine lv_goto (tgt := 50) hx hb d_Mo_done_30 (by decide) ?_
  refine lv_iload hx hb d_Mo_done_50 (lv_at hl 1 rfl) ?_
  refine lv_bipush (v := 10) hx hb d_Mo_done_52 (by decide) ?_
  refine lv_idiv hx hb d_Mo_done_54 (by decide) ?_
  refine gx_topi (y := 1000) (by decide) ?_
  refine lv_istore (lv' := [(4, Value.int 1000), (5, Value.int 0), (3, Value.int 0), (0, Value.ref A46), (1, Value.int 0), (2, Value.int 1)]) hx hb d_Mo_done_55 hl (by decide) rfl (fun ls hl => ?_)
  refine lv_goto (tgt := 11) hx hb d_Mo_done_57 (by decide) ?_
  refine lv_iload hx hb d_Mo_done_11 (lv_at hl 0 rfl) ?_
  refine lv_if_le (tgt := 60) hx hb d_Mo_done_13 (by decide) (fun c9 => absurd c9 (by decide)) (fun _ => ?_)
  refine lv_iload_n hx hb d_Mo_done_16 rfl (lv_at hl 5 rfl) ?_
  refine lv_iload hx hb d_Mo_done_17 (lv_at hl 0 rfl) ?_
  refine lv_idiv hx hb d_Mo_done_19 (by decide) ?_
  refine gx_topi (y := 0) (by decide) ?_
  refine lv_bipush (v := 10) hx hb d_Mo_done_20 (by decide) ?_
  refine lv_irem hx hb d_Mo_done_22 (by decide) ?_
  refine gx_topi (y := 0) (by decide) ?_
  refine lv_istore (lv' := [(5, Value.int 0), (4, Value.int 1000), (3, Value.int 0), (0, Value.ref A46), (1, Value.int 0), (2, Value.int 1)]) hx hb d_Mo_done_23 hl (by decide) rfl (fun ls hl => ?_)
  refine lv_iload hx hb d_Mo_done_25 (lv_at hl 0 rfl) ?_
  refine lv_if_ne (tgt := 33) hx hb d_Mo_done_27 (by decide) (fun c9 => absurd (by decide) c9) (fun _ => ?_)
  refine lv_goto (tgt := 50) hx hb d_Mo_done_30 (by decide) ?_
  refine lv_iload hx hb d_Mo_done_50 (lv_at hl 1 rfl) ?_
  refine lv_bipush (v := 10) hx hb d_Mo_done_52 (by decide) ?_
  refine lv_idiv hx hb d_Mo_done_54 (by decide) ?_
  refine gx_topi (y := 100) (by decide) ?_
  refine lv_istore (lv' := [(4, Value.int 100), (5, Value.int 0), (3, Value.int 0), (0, Value.ref A46), (1, Value.int 0), (2, Value.int 1)]) hx hb d_Mo_done_55 hl (by decide) rfl (fun ls hl => ?_)
  refine lv_goto (tgt := 11) hx hb d_Mo_done_57 (by decide) ?_
  refine lv_iload hx hb d_Mo_done_11 (lv_at hl 0 rfl) ?_
  refine lv_if_le (tgt := 60) hx hb d_Mo_done_13 (by decide) (fun c9 => absurd c9 (by decide)) (fun _ => ?_)
  refine lv_iload_n hx hb d_Mo_done_16 rfl (lv_at hl 5 rfl) ?_
  refine lv_iload hx hb d_Mo_done_17 (lv_at hl 0 rfl) ?_
  refine lv_idiv hx hb d_Mo_done_19 (by decide) ?_
  refine gx_topi (y := 0) (by decide) ?_
  refine lv_bipush (v := 10) hx hb d_Mo_done_20 (by decide) ?_
  refine lv_irem hx hb d_Mo_done_22 (by decide) ?_
  refine gx_topi (y := 0) (by decide) ?_
  refine lv_istore (lv' := [(5, Value.int 0), (4, Value.int 100), (3, Value.int 0), (0, Value.ref A46), (1, Value.int 0), (2, Value.int 1)]) hx hb d_Mo_done_23 hl (by decide) rfl (fun ls hl => ?_)
  refine lv_iload hx hb d_Mo_done_25 (lv_at hl 0 rfl) ?_
  refine lv_if_ne (tgt := 33) hx hb d_Mo_done_27 (by decide) (fun c9 => absurd (by decide) c9) (fun _ => ?_)
  refine lv_goto (tgt := 50) hx hb d_Mo_done_30 (by decide) ?_
  refine lv_iload hx hb d_Mo_done_50 (lv_at hl 1 rfl) ?_
  refine lv_bipush (v := 10) hx hb d_Mo_done_52 (by decide) ?_
  refine lv_idiv hx hb d_Mo_done_54 (by decide) ?_
  refine gx_topi (y := 10) (by decide) ?_
  refine lv_istore (lv' := [(4, Value.int 10), (5, Value.int 0), (3, Value.int 0), (0, Value.ref A46), (1, Value.int 0), (2, Value.int 1)]) hx hb d_Mo_done_55 hl (by decide) rfl (fun ls hl => ?_)
  refine lv_goto (tgt := 11) hx hb d_Mo_done_57 (by decide) ?_
  refine lv_iload hx hb d_Mo_done_11 (lv_at hl 0 rfl) ?_
  refine lv_if_le (tgt := 60) hx hb d_Mo_done_13 (by decide) (fun c9 => absurd c9 (by decide)) (fun _ => ?_)
  refine lv_iload_n hx hb d_Mo_done_16 rfl (lv_at hl 5 rfl) ?_
  refine lv_iload hx hb d_Mo_done_17 (lv_at hl 0 rfl) ?_
  refine lv_idiv hx hb d_Mo_done_19 (by decide) ?_
  refine gx_topi (y := 0) (by decide) ?_
  refine lv_bipush (v := 10) hx hb d_Mo_done_20 (by decide) ?_
  refine lv_irem hx hb d_Mo_done_22 (by decide) ?_
  refine gx_topi (y := 0) (by decide) ?_
  refine lv_istore (lv' := [(5, Value.int 0), (4, Value.int 10), (3, Value.int 0), (0, Value.ref A46), (1, Value.int 0), (2, Value.int 1)]) hx hb d_Mo_done_23 hl (by decide) rfl (fun ls hl => ?_)
  refine lv_iload hx hb d_Mo_done_25 (lv_at hl 0 rfl) ?_
  refine lv_if_ne (tgt := 33) hx hb d_Mo_done_27 (by decide) (fun c9 => absurd (by decide) c9) (fun _ => ?_)
  refine lv_goto (tgt := 50) hx hb d_Mo_done_30 (by decide) ?_
  refine lv_iload hx hb d_Mo_done_50 (lv_at hl 1 rfl) ?_
  refine lv_bipush (v := 10) hx hb d_Mo_done_52 (by decide) ?_
  refine lv_idiv hx hb d_Mo_done_54 (by decide) ?_
  refine gx_topi (y := 1) (by decide) ?_
  refine lv_istore (lv' := [(4, Value.int 1), (5, Value.int 0), (3, Value.int 0), (0, Value.ref A46), (1, Value.int 0), (2, Value.int 1)]) hx hb d_Mo_done_55 hl (by decide) rfl (fun ls hl => ?_)
  refine lv_goto (tgt := 11) hx hb d_Mo_done_57 (by decide) ?_
  refine lv_iload hx hb d_Mo_done_11 (lv_at hl 0 rfl) ?_
  refine lv_if_le (tgt := 60) hx hb d_Mo_done_13 (by decide) (fun c9 => absurd c9 (by decide)) (fun _ => ?_)
  refine lv_iload_n hx hb d_Mo_done_16 rfl (lv_at hl 5 rfl) ?_
  refine lv_iload hx hb d_Mo_done_17 (lv_at hl 0 rfl) ?_
  refine lv_idiv hx hb d_Mo_done_19 (by decide) ?_
  refine gx_topi (y := 1) (by decide) ?_
  refine lv_bipush (v := 10) hx hb d_Mo_done_20 (by decide) ?_
  refine lv_irem hx hb d_Mo_done_22 (by decide) ?_
  refine gx_topi (y := 1) (by decide) ?_
  refine lv_istore (lv' := [(5, Value.int 1), (4, Value.int 1), (3, Value.int 0), (0, Value.ref A46), (1, Value.int 0), (2, Value.int 1)]) hx hb d_Mo_done_23 hl (by decide) rfl (fun ls hl => ?_)
  refine lv_iload hx hb d_Mo_done_25 (lv_at hl 0 rfl) ?_
  refine lv_if_ne (tgt := 33) hx hb d_Mo_done_27 (by decide) (fun _ => ?_) (fun c9 => absurd c9 (by decide))
  refine lv_iinc (v := 1) (lv' := [(3, Value.int 1), (5, Value.int 1), (4, Value.int 1), (0, Value.ref A46), (1, Value.int 0), (2, Value.int 1)]) hx hb d_Mo_done_33 hl (k := 2) rfl (by decide) (by decide) rfl (fun ls hl => ?_)
  refine lv_iload hx hb d_Mo_done_36 (lv_at hl 1 rfl) ?_
  refine lv_aload_n hx hb d_Mo_done_38 rfl (lv_at hl 3 rfl) ?_
  refine va_get (D := D) (ci := 8) (v := Value.int 1) (C := "CommitLedgerModel") (T := F_Mo) (N := 35) hx hb hts i_Mo hown hK hP 46 f_46_ws1 rfl 0 (by decide) (hts _ kf_Mo_84) (fun _ h9 => h9) rfl d_Mo_done_39 ?_
  refine lv_icmp_ne (tgt := 50) hx hb d_Mo_done_42 (by decide) (fun c9 => absurd (by decide) c9) (fun _ => ?_)
  refine lv_aload_n hx hb d_Mo_done_45 rfl (lv_at hl 3 rfl) ?_
  refine lv_iload_n hx hb d_Mo_done_46 rfl (lv_at hl 0 rfl) ?_
  refine va_put (D := D) (ci := 8) (v := Value.int 1) (ty := .int) (C := "CommitLedgerModel") (T := F_Mo) (N := 35) hx hb hts i_Mo t_Mo t_Mo_ok n_Mo hown hK hP hD hS 46 f_46_ws1 rfl 1 (by decide) (hts _ kf_Mo_80) (fun _ h9 => h9) rfl (by decide +kernel) rfl rfl (Nat.le_of_ble_eq_true rfl) d_Mo_done_47 (fun H locs hP9 hD9 hS9 => ?_)
  obtain ⟨ws2, e_ws2⟩ : ∃ x : va_W, x = ws1.set 46 ((A46, Sum.inr (8, [Value.int 1, Value.int 1, Value.ref A47, Value.ref A48, Value.ref A49, Value.int 0, Value.ref A50, Value.ref A51, Value.ref A52, Value.ref A53, Value.int 0, Value.int 0, Value.int 0, Value.int (-1), Value.int 0, Value.ref A54, Value.ref A62, Value.ref A70, Value.int 0, Value.int 0, Value.int 0, Value.ref A78, Value.ref A79, Value.int 0, Value.int 16, Value.int 4, u0, Value.ref A80, Value.ref A81, Value.ref A82, Value.int 0, Value.ref A83, Value.int 0, Value.int 0, Value.int 0])) : Nat × va_E) := ⟨_, rfl⟩
  replace hP : va_P D classes ws2 H := by rw [e_ws2]; exact hP9
  replace hD : va_D A ws2 := by rw [e_ws2]; exact hD9
  replace hS := hS9
  clear hP9 hD9 hS9
  have f_46_ws2 : ws2[46]? = some ((A46, Sum.inr (8, [Value.int 1, Value.int 1, Value.ref A47, Value.ref A48, Value.ref A49, Value.int 0, Value.ref A50, Value.ref A51, Value.ref A52, Value.ref A53, Value.int 0, Value.int 0, Value.int 0, Value.int (-1), Value.int 0, Value.ref A54, Value.ref A62, Value.ref A70, Value.int 0, Value.int 0, Value.int 0, Value.ref A78, Value.ref A79, Value.int 0, Value.int 16, Value.int 4, u0, Value.ref A80, Value.ref A81, Value.ref A82, Value.int 0, Value.ref A83, Value.int 0, Value.int 0, Value.int 0])) : Nat × va_E) := by rw [e_ws2]; exact gs_self f_46_ws1
  replace hU : gx_g ws ws2 0 [46] := by rw [e_ws2]; exact hU.put (Or.inl (by simp))
  refine lv_iload hx hb d_Mo_done_50 (lv_at hl 2 rfl) ?_
  refine lv_bipush (v := 10) hx hb d_Mo_done_52 (by decide) ?_
  refine lv_idiv hx hb d_Mo_done_54 (by decide) ?_
  refine gx_topi (y := 0) (by decide) ?_
  refine lv_istore (lv' := [(4, Value.int 0), (3, Value.int 1), (5, Value.int 1), (0, Value.ref A46), (1, Value.int 0), (2, Value.int 1)]) hx hb d_Mo_done_55 hl (by decide) rfl (fun ls hl => ?_)
  refine lv_goto (tgt := 11) hx hb d_Mo_done_57 (by decide) ?_
  refine lv_iload hx hb d_Mo_done_11 (lv_at hl 0 rfl) ?_
  refine lv_if_le (tgt := 60) hx hb d_Mo_done_13 (by decide) (fun _ => ?_) (fun c9 => absurd (by decide) c9)
  refine lv_aload_n hx hb d_Mo_done_60 rfl (lv_at hl 3 rfl) ?_
  refine lv_iconst (v := 0) hx hb d_Mo_done_61 (by decide) ?_
  refine va_put (D := D) (ci := 8) (v := Value.int 0) (ty := .int) (C := "CommitLedgerModel") (T := F_Mo) (N := 35) hx hb hts i_Mo t_Mo t_Mo_ok n_Mo hown hK hP hD hS 46 f_46_ws2 rfl 0 (by decide) (hts _ kf_Mo_84) (fun _ h9 => h9) rfl (by decide +kernel) rfl rfl (Nat.le_of_ble_eq_true rfl) d_Mo_done_62 (fun H locs hP9 hD9 hS9 => ?_)
  obtain ⟨ws3, e_ws3⟩ : ∃ x : va_W, x = ws2.set 46 ((A46, Sum.inr (8, [Value.int 0, Value.int 1, Value.ref A47, Value.ref A48, Value.ref A49, Value.int 0, Value.ref A50, Value.ref A51, Value.ref A52, Value.ref A53, Value.int 0, Value.int 0, Value.int 0, Value.int (-1), Value.int 0, Value.ref A54, Value.ref A62, Value.ref A70, Value.int 0, Value.int 0, Value.int 0, Value.ref A78, Value.ref A79, Value.int 0, Value.int 16, Value.int 4, u0, Value.ref A80, Value.ref A81, Value.ref A82, Value.int 0, Value.ref A83, Value.int 0, Value.int 0, Value.int 0])) : Nat × va_E) := ⟨_, rfl⟩
  replace hP : va_P D classes ws3 H := by rw [e_ws3]; exact hP9
  replace hD : va_D A ws3 := by rw [e_ws3]; exact hD9
  replace hS := hS9
  clear hP9 hD9 hS9
  have f_46_ws3 : ws3[46]? = some ((A46, Sum.inr (8, [Value.int 0, Value.int 1, Value.ref A47, Value.ref A48, Value.ref A49, Value.int 0, Value.ref A50, Value.ref A51, Value.ref A52, Value.ref A53, Value.int 0, Value.int 0, Value.int 0, Value.int (-1), Value.int 0, Value.ref A54, Value.ref A62, Value.ref A70, Value.int 0, Value.int 0, Value.int 0, Value.ref A78, Value.ref A79, Value.int 0, Value.int 16, Value.int 4, u0, Value.ref A80, Value.ref A81, Value.ref A82, Value.int 0, Value.ref A83, Value.int 0, Value.int 0, Value.int 0])) : Nat × va_E) := by rw [e_ws3]; exact gs_self f_46_ws2
  replace hU : gx_g ws ws3 0 [46] := by rw [e_ws3]; exact hU.put (Or.inl (by simp))
  refine lv_aload_n hx hb d_Mo_done_65 rfl (lv_at hl 3 rfl) ?_
  refine va_get (D := D) (ci := 8) (v := Value.int 1) (C := "CommitLedgerModel") (T := F_Mo) (N := 35) hx hb hts i_Mo hown hK hP 46 f_46_ws3 rfl 1 (by decide) (hts _ kf_Mo_80) (fun _ h9 => h9) rfl d_Mo_done_66 ?_
  refine lv_if_le (tgt := 76) hx hb d_Mo_done_69 (by decide) (fun c9 => absurd c9 (by decide)) (fun _ => ?_)
  refine lv_iconst (v := 0) hx hb d_Mo_done_72 (by decide) ?_
  refine lv_goto (tgt := 77) hx hb d_Mo_done_73 (by decide) ?_
  exact gx_ret (W.iret (v := 0) hx hb hr (gx_post hP hK hD hS (by rw [← hPQ]; exact ⟨rfl, hU, f_46_ws3⟩)) hS.2.2 d_Mo_done_77)

set_option maxHeartbeats 4000000 in
set_option maxRecDepth 100000 in
theorem c_Mo_wrong_v2 (l : Launch) (htr : l.stackTraces = false) (D : va_G) (tys : List (ClassId × FieldType)) (z sz : Nat) (ws : va_W) (A46 : Nat) (A47 : Nat) (A48 : Nat) (A49 : Nat) (A50 : Nat) (A51 : Nat) (A52 : Nat) (A53 : Nat) (A54 : Nat) (A62 : Nat) (A70 : Nat) (A78 : Nat) (A79 : Nat) (u0 : Value) (A80 : Nat) (A81 : Nat) (A82 : Nat) (A83 : Nat) (f_46 : ws[46]? = some ((A46, Sum.inr (8, [Value.int 0, Value.int 0, Value.ref A47, Value.ref A48, Value.ref A49, Value.int 0, Value.ref A50, Value.ref A51, Value.ref A52, Value.ref A53, Value.int 0, Value.int 0, Value.int 0, Value.int (-1), Value.int 0, Value.ref A54, Value.ref A62, Value.ref A70, Value.int 0, Value.int 0, Value.int 0, Value.ref A78, Value.ref A79, Value.int 0, Value.int 16, Value.int 4, u0, Value.ref A80, Value.ref A81, Value.ref A82, Value.int 0, Value.ref A83, Value.int 0, Value.int 0, Value.int 0])) : Nat × va_E)) : gx_Met l y_Mo_wrong [Cond.code y_Mo_wrong b_Mo_wrong 3 (some .boolean)] { frames := 1, cells := 0, slots := 0, locals := 12 } (gx_P z sz D classes tys ws [Value.ref A46, Value.int 0, Value.int 1]) (gx_Q D classes tys (va_A ws sz) (fun r ws' => (r = Sum.inl (some (Value.int 0)) ∧ ws' = ws))) 0 0 (va_A ws sz) := by
  refine gx_ofW (cc := b_Mo_wrong) (maxL := 3) (ret := (some .boolean)) (by decide) rfl ?_
  intro p e s m args below meth c s₁ B hml hv
  obtain ⟨rfl, hsz, hz, hP, hK, hD0, hY⟩ := hv
  have hx := B.exec
  have hb := B.bytes
  have hr := B.returns
  have hts := hY.hts (#[Value.ref A46, Value.int 0, Value.int 1] : Array Value)
  have hown : s.vm.findClass "CommitLedgerModel" = some m.cls := findClass_of_methodNamed B.named
  have hlocks := B.notSynchronized
  have hne : c.exceptionTable.isEmpty = true := B.noHandlers (atoms_spec (ws := [Cond.code y_Mo_wrong b_Mo_wrong 3 (some .boolean)]) B.pre _ List.mem_cons_self)
  subst hsz
  have hAz := gx_az hD0 hz
  have hD := hD0.self (sz := s.heap.size)
  have hN := gx_ns hP
  have hA : ∀ q : Nat, s.heap.size ≤ q → va_A ws s.heap.size q := fun q h => Or.inr h
  generalize va_A ws s.heap.size = A at hD hN hA hAz ⊢
  generalize hPQ : (fun (r : Option Value ⊕ String) (ws' : va_W) => (r = Sum.inl (some (Value.int 0)) ∧ ws' = ws)) = PQ
  have hS : va_S A s.heap s.heap [] := va_S.rf
  have hU : gx_g ws ws 0 [] := gx_g.rf
  have hl := lv_entry ([Value.ref A46, Value.int 0, Value.int 1]) (n := 3) (Nat.le_of_ble_eq_true rfl)
  rw [lg_entry_eq]
  generalize (lg_sl ([Value.ref A46, Value.int 0, Value.int 1]) ++ List.replicate (3 - (lg_sl ([Value.ref A46, Value.int 0, Value.int 1])).length) Slot.unset).toArray = ls at hl ⊢
  have hl : lv_has ls 3 [(0, Value.ref A46), (1, Value.int 0), (2, Value.int 1)] := hl
  refine lv_iload_n hx hb d_Mo_wrong_0 rfl (lv_at hl 1 rfl) ?_
  refine lv_if_eq (tgt := 16) hx hb d_Mo_wrong_1 (by decide) (fun _ => ?_) (fun c9 => absurd (by decide) c9)
  refine lv_aload_n hx hb d_Mo_wrong_16 rfl (lv_at hl 0 rfl) ?_
  refine va_get (D := D) (ci := 8) (v := Value.int 0) (C := "CommitLedgerModel") (T := F_Mo) (N := 35) hx hb hts i_Mo hown hK hP 46 f_46 rfl 0 (by decide) (hts _ kf_Mo_84) (fun _ h9 => h9) rfl d_Mo_wrong_17 ?_
  refine lv_if_eq (tgt := 27) hx hb d_Mo_wrong_20 (by decide) (fun _ => ?_) (fun c9 => absurd (by decide) c9)
  refine lv_iconst (v := 0) hx hb d_Mo_wrong_27 (by decide) ?_
  exact gx_ret (W.zret (v := 0) (ty := .boolean) hx hb hr (rfl) (gx_post hP hK hD hS (by rw [← hPQ]; exact ⟨rfl, rfl⟩)) hS.2.2 d_Mo_wrong_28)

set_option maxHeartbeats 4000000 in
set_option maxRecDepth 100000 in
theorem c_Mo_done_v2 (l : Launch) (htr : l.stackTraces = false) (D : va_G) (tys : List (ClassId × FieldType)) (z sz : Nat) (ws : va_W) (A46 : Nat) (A47 : Nat) (A48 : Nat) (A49 : Nat) (A50 : Nat) (A51 : Nat) (A52 : Nat) (A53 : Nat) (A54 : Nat) (A62 : Nat) (A70 : Nat) (A78 : Nat) (A79 : Nat) (p0 : Int32) (p1 : Int32) (u0 : Value) (A80 : Nat) (A81 : Nat) (A82 : Nat) (A83 : Nat) (f_46 : ws[46]? = some ((A46, Sum.inr (8, [Value.int 0, Value.int 0, Value.ref A47, Value.ref A48, Value.ref A49, Value.int 0, Value.ref A50, Value.ref A51, Value.ref A52, Value.ref A53, Value.int 0, Value.int 0, Value.int 0, Value.int (-1), Value.int 0, Value.ref A54, Value.ref A62, Value.ref A70, Value.int 0, Value.int 0, Value.int 0, Value.ref A78, Value.ref A79, Value.int 0, Value.int p0, Value.int p1, u0, Value.ref A80, Value.ref A81, Value.ref A82, Value.int 0, Value.ref A83, Value.int 0, Value.int 0, Value.int 0])) : Nat × va_E)) : gx_Met l y_Mo_done [Cond.code y_Mo_done b_Mo_done 6 (some .int)] { frames := 1, cells := 0, slots := 0, locals := 12 } (gx_P z sz D classes tys ws [Value.ref A46, Value.int 0, Value.int 1]) (gx_Q D classes tys (va_A ws sz) (fun r ws' => (r = Sum.inl (some (Value.int 0)) ∧ gx_g ws ws' 0 [46] ∧ ws'[46]? = some ((A46, Sum.inr (8, [Value.int 0, Value.int 0, Value.ref A47, Value.ref A48, Value.ref A49, Value.int 0, Value.ref A50, Value.ref A51, Value.ref A52, Value.ref A53, Value.int 0, Value.int 0, Value.int 0, Value.int (-1), Value.int 0, Value.ref A54, Value.ref A62, Value.ref A70, Value.int 0, Value.int 0, Value.int 0, Value.ref A78, Value.ref A79, Value.int 0, Value.int p0, Value.int p1, u0, Value.ref A80, Value.ref A81, Value.ref A82, Value.int 0, Value.ref A83, Value.int 0, Value.int 0, Value.int 0])) : Nat × va_E)))) 0 0 (va_A ws sz) := by
  refine gx_ofW (cc := b_Mo_done) (maxL := 6) (ret := (some .int)) (by decide) rfl ?_
  intro p e s m args below meth c s₁ B hml hv
  obtain ⟨rfl, hsz, hz, hP, hK, hD0, hY⟩ := hv
  have hx := B.exec
  have hb := B.bytes
  have hr := B.returns
  have hts := hY.hts (#[Value.ref A46, Value.int 0, Value.int 1] : Array Value)
  have hown : s.vm.findClass "CommitLedgerModel" = some m.cls := findClass_of_methodNamed B.named
  have hlocks := B.notSynchronized
  have hne : c.exceptionTable.isEmpty = true := B.noHandlers (atoms_spec (ws := [Cond.code y_Mo_done b_Mo_done 6 (some .int)]) B.pre _ List.mem_cons_self)
  subst hsz
  have hAz := gx_az hD0 hz
  have hD := hD0.self (sz := s.heap.size)
  have hN := gx_ns hP
  have hA : ∀ q : Nat, s.heap.size ≤ q → va_A ws s.heap.size q := fun q h => Or.inr h
  generalize va_A ws s.heap.size = A at hD hN hA hAz ⊢
  generalize hPQ : (fun (r : Option Value ⊕ String) (ws' : va_W) => (r = Sum.inl (some (Value.int 0)) ∧ gx_g ws ws' 0 [46] ∧ ws'[46]? = some ((A46, Sum.inr (8, [Value.int 0, Value.int 0, Value.ref A47, Value.ref A48, Value.ref A49, Value.int 0, Value.ref A50, Value.ref A51, Value.ref A52, Value.ref A53, Value.int 0, Value.int 0, Value.int 0, Value.int (-1), Value.int 0, Value.ref A54, Value.ref A62, Value.ref A70, Value.int 0, Value.int 0, Value.int 0, Value.ref A78, Value.ref A79, Value.int 0, Value.int p0, Value.int p1, u0, Value.ref A80, Value.ref A81, Value.ref A82, Value.int 0, Value.ref A83, Value.int 0, Value.int 0, Value.int 0])) : Nat × va_E))) = PQ
  have hS : va_S A s.heap s.heap [] := va_S.rf
  have hU : gx_g ws ws 0 [46] := gx_g.rf
  have hl := lv_entry ([Value.ref A46, Value.int 0, Value.int 1]) (n := 6) (Nat.le_of_ble_eq_true rfl)
  rw [lg_entry_eq]
  generalize (lg_sl ([Value.ref A46, Value.int 0, Value.int 1]) ++ List.replicate (6 - (lg_sl ([Value.ref A46, Value.int 0, Value.int 1])).length) Slot.unset).toArray = ls at hl ⊢
  have hl : lv_has ls 6 [(0, Value.ref A46), (1, Value.int 0), (2, Value.int 1)] := hl
  refine lv_aload_n hx hb d_Mo_done_0 rfl (lv_at hl 0 rfl) ?_
  refine lv_iconst (v := 0) hx hb d_Mo_done_1 (by decide) ?_
  refine va_put (D := D) (ci := 8) (v := Value.int 0) (ty := .int) (C := "CommitLedgerModel") (T := F_Mo) (N := 35) hx hb hts i_Mo t_Mo t_Mo_ok n_Mo hown hK hP hD hS 46 f_46 rfl 1 (by decide) (hts _ kf_Mo_80) (fun _ h9 => h9) rfl (by decide +kernel) rfl rfl (Nat.le_of_ble_eq_true rfl) d_Mo_done_2 (fun H locs hP9 hD9 hS9 => ?_)
  obtain ⟨ws1, e_ws1⟩ : ∃ x : va_W, x = ws.set 46 ((A46, Sum.inr (8, [Value.int 0, Value.int 0, Value.ref A47, Value.ref A48, Value.ref A49, Value.int 0, Value.ref A50, Value.ref A51, Value.ref A52, Value.ref A53, Value.int 0, Value.int 0, Value.int 0, Value.int (-1), Value.int 0, Value.ref A54, Value.ref A62, Value.ref A70, Value.int 0, Value.int 0, Value.int 0, Value.ref A78, Value.ref A79, Value.int 0, Value.int p0, Value.int p1, u0, Value.ref A80, Value.ref A81, Value.ref A82, Value.int 0, Value.ref A83, Value.int 0, Value.int 0, Value.int 0])) : Nat × va_E) := ⟨_, rfl⟩
  replace hP : va_P D classes ws1 H := by rw [e_ws1]; exact hP9
  replace hD : va_D A ws1 := by rw [e_ws1]; exact hD9
  replace hS := hS9
  clear hP9 hD9 hS9
  have f_46_ws1 : ws1[46]? = some ((A46, Sum.inr (8, [Value.int 0, Value.int 0, Value.ref A47, Value.ref A48, Value.ref A49, Value.int 0, Value.ref A50, Value.ref A51, Value.ref A52, Value.ref A53, Value.int 0, Value.int 0, Value.int 0, Value.int (-1), Value.int 0, Value.ref A54, Value.ref A62, Value.ref A70, Value.int 0, Value.int 0, Value.int 0, Value.ref A78, Value.ref A79, Value.int 0, Value.int p0, Value.int p1, u0, Value.ref A80, Value.ref A81, Value.ref A82, Value.int 0, Value.ref A83, Value.int 0, Value.int 0, Value.int 0])) : Nat × va_E) := by rw [e_ws1]; exact gs_self f_46
  replace hU : gx_g ws ws1 0 [46] := by rw [e_ws1]; exact hU.put (Or.inl (by simp))
  refine lv_iconst (v := 0) hx hb d_Mo_done_5 (by decide) ?_
  refine lv_istore_n (lv' := [(3, Value.int 0), (0, Value.ref A46), (1, Value.int 0), (2, Value.int 1)]) hx hb d_Mo_done_6 rfl hl (by decide) rfl (fun ls hl => ?_)
  refine lv_ldc (v := 100000) hx hb hown (hts _ ki_Mo_83) d_Mo_done_7 ?_
  refine lv_istore (lv' := [(4, Value.int 100000), (3, Value.int 0), (0, Value.ref A46), (1, Value.int 0), (2, Value.int 1)]) hx hb d_Mo_done_9 hl (by decide) rfl (fun ls hl => ?_)
  refine lv_iload hx hb d_Mo_done_11 (lv_at hl 0 rfl) ?_
  refine lv_if_le (tgt := 60) hx hb d_Mo_done_13 (by decide) (fun c9 => absurd c9 (by decide)) (fun _ => ?_)
  refine lv_iload_n hx hb d_Mo_done_16 rfl (lv_at hl 4 rfl) ?_
  refine lv_iload hx hb d_Mo_done_17 (lv_at hl 0 rfl) ?_
  refine lv_idiv hx hb d_Mo_done_19 (by decide) ?_
  refine gx_topi (y := 0) (by decide) ?_
  refine lv_bipush (v := 10) hx hb d_Mo_done_20 (by decide) ?_
  refine lv_irem hx hb d_Mo_done_22 (by decide) ?_
  refine gx_topi (y := 0) (by decide) ?_
  refine lv_istore (lv' := [(5, Value.int 0), (4, Value.int 100000), (3, Value.int 0), (0, Value.ref A46), (1, Value.int 0), (2, Value.int 1)]) hx hb d_Mo_done_23 hl (by decide) rfl (fun ls hl => ?_)
  refine lv_iload hx hb d_Mo_done_25 (lv_at hl 0 rfl) ?_
  refine lv_if_ne (tgt := 33) hx hb d_Mo_done_27 (by decide) (fun c9 => absurd (by decide) c9) (fun _ => ?_)
  refine lv_goto (tgt := 50) hx hb d_Mo_done_30 (by decide) ?_
  refine lv_iload hx hb d_Mo_done_50 (lv_at hl 1 rfl) ?_
  refine lv_bipush (v := 10) hx hb d_Mo_done_52 (by decide) ?_
  refine lv_idiv hx hb d_Mo_done_54 (by decide) ?_
  refine gx_topi (y := 10000) (by decide) ?_
  refine lv_istore (lv' := [(4, Value.int 10000), (5, Value.int 0), (3, Value.int 0), (0, Value.ref A46), (1, Value.int 0), (2, Value.int 1)]) hx hb d_Mo_done_55 hl (by decide) rfl (fun ls hl => ?_)
  refine lv_goto (tgt := 11) hx hb d_Mo_done_57 (by decide) ?_
  refine lv_iload hx hb d_Mo_done_11 (lv_at hl 0 rfl) ?_
  refine lv_if_le (tgt := 60) hx hb d_Mo_done_13 (by decide) (fun c9 => absurd c9 (by decide)) (fun _ => ?_)
  refine lv_iload_n hx hb d_Mo_done_16 rfl (lv_at hl 5 rfl) ?_
  refine lv_iload hx hb d_Mo_done_17 (lv_at hl 0 rfl) ?_
  refine lv_idiv hx hb d_Mo_done_19 (by decide) ?_
  refine gx_topi (y := 0) (by decide) ?_
  refine lv_bipush (v := 10) hx hb d_Mo_done_20 (by decide) ?_
  refine lv_irem hx hb d_Mo_done_22 (by decide) ?_
  refine gx_topi (y := 0) (by decide) ?_
  refine lv_istore (lv' := [(5, Value.int 0), (4, Value.int 10000), (3, Value.int 0), (0, Value.ref A46), (1, Value.int 0), (2, Value.int 1)]) hx hb d_Mo_done_23 hl (by decide) rfl (fun ls hl => ?_)
  refine lv_iload hx hb d_Mo_done_25 (lv_at hl 0 rfl) ?_
  refine lv_if_ne (tgt := 33) hx hb d_Mo_done_27 (by decide) (fun c9 => absurd (by decide) c9) (fun _ => ?_)
  refine lv_goto (tgt := 50) hx hb d_Mo_done_30 (by decide) ?_
  refine lv_iload hx hb d_Mo_done_50 (lv_at hl 1 rfl) ?_
  refine lv_bipush (v := 10) hx hb d_Mo_done_52 (by decide) ?_
  refine lv_idiv hx hb d_Mo_done_54 (by decide) ?_
  refine gx_topi (y := 1000) (by decide) ?_
  refine lv_istore (lv' := [(4, Value.int 1000), (5, Value.int 0), (3, Value.int 0), (0, Value.ref A46), (1, Value.int 0), (2, Value.int 1)]) hx hb d_Mo_done_55 hl (by decide) rfl (fun ls hl => ?_)
  refine lv_goto (tgt := 11) hx hb d_Mo_done_57 (by decide) ?_
  refine lv_iload hx hb d_Mo_done_11 (lv_at hl 0 rfl) ?_
  refine lv_if_le (tgt := 60) hx hb d_Mo_done_13 (by decide) (fun c9 => absurd c9 (by decide)) (fun _ => ?_)
  refine lv_iload_n hx hb d_Mo_done_16 rfl (lv_at hl 5 rfl) ?_
  refine lv_iload hx hb d_Mo_done_17 (lv_at hl 0 rfl) ?_
  refine lv_idiv hx hb d_Mo_done_19 (by decide) ?_
  refine gx_topi (y := 0) (by decide) ?_
  refine lv_bipush (v := 10) hx hb d_Mo_done_20 (by decide) ?_
  refine lv_irem hx hb d_Mo_done_22 (by decide) ?_
  refine gx_topi (y := 0) (by decide) ?_
  refine lv_istore (lv' := [(5, Value.int 0), (4, Value.int 1000), (3, Value.int 0), (0, Value.ref A46), (1, Value.int 0), (2, Value.int 1)]) hx hb d_Mo_done_23 hl (by decide) rfl (fun ls hl => ?_)
  refine lv_iload hx hb d_Mo_done_25 (lv_at hl 0 rfl) ?_
  refine lv_if_ne (tgt := 33) hx hb d_Mo_done_27 (by decide) (fun c9 => absurd (by decide) c9) (fun _ => ?_)
  refine lv_goto (tgt := 50) hx hb d_Mo_done_30 (by decide) ?_
  refine lv_iload hx hb d_Mo_done_50 (lv_at hl 1 rfl) ?_
  refine lv_bipush (v := 10) hx hb d_Mo_done_52 (by decide) ?_
  refine lv_idiv hx hb d_Mo_done_54 (by decide) ?_
  refine gx_topi (y := 100) (by decide) ?_
  refine lv_istore (lv' := [(4, Value.int 100), (5, Value.int 0), (3, Value.int 0), (0, Value.ref A46), (1, Value.int 0), (2, Value.int 1)]) hx hb d_Mo_done_55 hl (by decide) rfl (fun ls hl => ?_)
  refine lv_goto (tgt := 11) hx hb d_Mo_done_57 (by decide) ?_
  refine lv_iload hx hb d_Mo_done_11 (lv_at hl 0 rfl) ?_
  refine lv_if_le (tgt := 60) hx hb d_Mo_done_13 (by decide) (fun c9 => absurd c9 (by decide)) (fun _ => ?_)
  refine lv_iload_n hx hb d_Mo_done_16 rfl (lv_at hl 5 rfl) ?_
  refine lv_iload hx hb d_Mo_done_17 (lv_at hl 0 rfl) ?_
  refine lv_idiv hx hb d_Mo_done_19 (by decide) ?_
  refine gx_topi (y := 0) (by decide) ?_
  refine lv_bipush (v := 10) hx hb d_Mo_done_20 (by decide) ?_
  refine lv_irem hx hb d_Mo_done_22 (by decide) ?_
  refine gx_topi (y := 0) (by decide) ?_
  refine lv_istore (lv' := [(5, Value.int 0), (4, Value.int 100), (3, Value.int 0), (0, Value.ref A46), (1, Value.int 0), (2, Value.int 1)]) hx hb d_Mo_done_23 hl (by decide) rfl (fun ls hl => ?_)
  refine lv_iload hx hb d_Mo_done_25 (lv_at hl 0 rfl) ?_
  refine lv_if_ne (tgt := 33) hx hb d_Mo_done_27 (by decide) (fun c9 => absurd (by decide) c9) (fun _ => ?_)
  refine lv_goto (tgt := 50) hx hb d_Mo_done_30 (by decide) ?_
  refine lv_iload hx hb d_Mo_done_50 (lv_at hl 1 rfl) ?_
  refine lv_bipush (v := 10) hx hb d_Mo_done_52 (by decide) ?_
  refine lv_idiv hx hb d_Mo_done_54 (by decide) ?_
  refine gx_topi (y := 10) (by decide) ?_
  refine lv_istore (lv' := [(4, Value.int 10), (5, Value.int 0), (3, Value.int 0), (0, Value.ref A46), (1, Value.int 0), (2, Value.int 1)]) hx hb d_Mo_done_55 hl (by decide) rfl (fun ls hl => ?_)
  refine lv_goto (tgt := 11) hx hb d_Mo_done_57 (by decide) ?_
  refine lv_iload hx hb d_Mo_done_11 (lv_at hl 0 rfl) ?_
  refine lv_if_le (tgt := 60) hx hb d_Mo_done_13 (by decide) (fun c9 => absurd c9 (by decide)) (fun _ => ?_)
  refine lv_iload_n hx hb d_Mo_done_16 rfl (lv_at hl 5 rfl) ?_
  refine lv_iload hx hb d_Mo_done_17 (lv_at hl 0 rfl) ?_
  refine lv_idiv hx hb d_Mo_done_19 (by decide) ?_
  refine gx_topi (y := 0) (by decide) ?_
  refine lv_bipush (v := 10) hx hb d_Mo_done_20 (by decide) ?_
  refine lv_irem hx hb d_Mo_done_22 (by decide) ?_
  refine gx_topi (y := 0) (by decide) ?_
  refine lv_istore (lv' := [(5, Value.int 0), (4, Value.int 10), (3, Value.int 0), (0, Value.ref A46), (1, Value.int 0), (2, Value.int 1)]) hx hb d_Mo_done_23 hl (by decide) rfl (fun ls hl => ?_)
  refine lv_iload hx hb d_Mo_done_25 (lv_at hl 0 rfl) ?_
  refine lv_if_ne (tgt := 33) hx hb d_Mo_done_27 (by decide) (fun c9 => absurd (by decide) c9) (fun _ => ?_)
  refine lv_goto (tgt := 50) hx hb d_Mo_done_30 (by decide) ?_
  refine lv_iload hx hb d_Mo_done_50 (lv_at hl 1 rfl) ?_
  refine lv_bipush (v := 10) hx hb d_Mo_done_52 (by decide) ?_
  refine lv_idiv hx hb d_Mo_done_54 (by decide) ?_
  refine gx_topi (y := 1) (by decide) ?_
  refine lv_istore (lv' := [(4, Value.int 1), (5, Value.int 0), (3, Value.int 0), (0, Value.ref A46), (1, Value.int 0), (2, Value.int 1)]) hx hb d_Mo_done_55 hl (by decide) rfl (fun ls hl => ?_)
  refine lv_goto (tgt := 11) hx hb d_Mo_done_57 (by decide) ?_
  refine lv_iload hx hb d_Mo_done_11 (lv_at hl 0 rfl) ?_
  refine lv_if_le (tgt := 60) hx hb d_Mo_done_13 (by decide) (fun c9 => absurd c9 (by decide)) (fun _ => ?_)
  refine lv_iload_n hx hb d_Mo_done_16 rfl (lv_at hl 5 rfl) ?_
  refine lv_iload hx hb d_Mo_done_17 (lv_at hl 0 rfl) ?_
  refine lv_idiv hx hb d_Mo_done_19 (by decide) ?_
  refine gx_topi (y := 1) (by decide) ?_
  refine lv_bipush (v := 10) hx hb d_Mo_done_20 (by decide) ?_
  refine lv_irem hx hb d_Mo_done_22 (by decide) ?_
  refine gx_topi (y := 1) (by decide) ?_
  refine lv_istore (lv' := [(5, Value.int 1), (4, Value.int 1), (3, Value.int 0), (0, Value.ref A46), (1, Value.int 0), (2, Value.int 1)]) hx hb d_Mo_done_23 hl (by decide) rfl (fun ls hl => ?_)
  refine lv_iload hx hb d_Mo_done_25 (lv_at hl 0 rfl) ?_
  refine lv_if_ne (tgt := 33) hx hb d_Mo_done_27 (by decide) (fun _ => ?_) (fun c9 => absurd c9 (by decide))
  refine lv_iinc (v := 1) (lv' := [(3, Value.int 1), (5, Value.int 1), (4, Value.int 1), (0, Value.ref A46), (1, Value.int 0), (2, Value.int 1)]) hx hb d_Mo_done_33 hl (k := 2) rfl (by decide) (by decide) rfl (fun ls hl => ?_)
  refine lv_iload hx hb d_Mo_done_36 (lv_at hl 1 rfl) ?_
  refine lv_aload_n hx hb d_Mo_done_38 rfl (lv_at hl 3 rfl) ?_
  refine va_get (D := D) (ci := 8) (v := Value.int 0) (C := "CommitLedgerModel") (T := F_Mo) (N := 35) hx hb hts i_Mo hown hK hP 46 f_46_ws1 rfl 0 (by decide) (hts _ kf_Mo_84) (fun _ h9 => h9) rfl d_Mo_done_39 ?_
  refine lv_icmp_ne (tgt := 50) hx hb d_Mo_done_42 (by decide) (fun _ => ?_) (fun c9 => absurd c9 (by decide))
  refine lv_iload hx hb d_Mo_done_50 (lv_at hl 2 rfl) ?_
  refine lv_bipush (v := 10) hx hb d_Mo_done_52 (by decide) ?_
  refine lv_idiv hx hb d_Mo_done_54 (by decide) ?_
  refine gx_topi (y := 0) (by decide) ?_
  refine lv_istore (lv' := [(4, Value.int 0), (3, Value.int 1), (5, Value.int 1), (0, Value.ref A46), (1, Value.int 0), (2, Value.int 1)]) hx hb d_Mo_done_55 hl (by decide) rfl (fun ls hl => ?_)
  refine lv_goto (tgt := 11) hx hb d_Mo_done_57 (by decide) ?_
  refine lv_iload hx hb d_Mo_done_11 (lv_at hl 0 rfl) ?_
  refine lv_if_le (tgt := 60) hx hb d_Mo_done_13 (by decide) (fun _ => ?_) (fun c9 => absurd (by decide) c9)
  refine lv_aload_n hx hb d_Mo_done_60 rfl (lv_at hl 3 rfl) ?_
  refine lv_iconst (v := 0) hx hb d_Mo_done_61 (by decide) ?_
  refine va_put (D := D) (ci := 8) (v := Value.int 0) (ty := .int) (C := "CommitLedgerModel") (T := F_Mo) (N := 35) hx hb hts i_Mo t_Mo t_Mo_ok n_Mo hown hK hP hD hS 46 f_46_ws1 rfl 0 (by decide) (hts _ kf_Mo_84) (fun _ h9 => h9) rfl (by decide +kernel) rfl rfl (Nat.le_of_ble_eq_true rfl) d_Mo_done_62 (fun H locs hP9 hD9 hS9 => ?_)
  obtain ⟨ws2, e_ws2⟩ : ∃ x : va_W, x = ws1.set 46 ((A46, Sum.inr (8, [Value.int 0, Value.int 0, Value.ref A47, Value.ref A48, Value.ref A49, Value.int 0, Value.ref A50, Value.ref A51, Value.ref A52, Value.ref A53, Value.int 0, Value.int 0, Value.int 0, Value.int (-1), Value.int 0, Value.ref A54, Value.ref A62, Value.ref A70, Value.int 0, Value.int 0, Value.int 0, Value.ref A78, Value.ref A79, Value.int 0, Value.int p0, Value.int p1, u0, Value.ref A80, Value.ref A81, Value.ref A82, Value.int 0, Value.ref A83, Value.int 0, Value.int 0, Value.int 0])) : Nat × va_E) := ⟨_, rfl⟩
  replace hP : va_P D classes ws2 H := by rw [e_ws2]; exact hP9
  replace hD : va_D A ws2 := by rw [e_ws2]; exact hD9
  replace hS := hS9
  clear hP9 hD9 hS9
  have f_46_ws2 : ws2[46]? = some ((A46, Sum.inr (8, [Value.int 0, Value.int 0, Value.ref A47, Value.ref A48, Value.ref A49, Value.int 0, Value.ref A50, Value.ref A51, Value.ref A52, Value.ref A53, Value.int 0, Value.int 0, Value.int 0, Value.int (-1), Value.int 0, Value.ref A54, Value.ref A62, Value.ref A70, Value.int 0, Value.int 0, Value.int 0, Value.ref A78, Value.ref A79, Value.int 0, Value.int p0, Value.int p1, u0, Value.ref A80, Value.ref A81, Value.ref A82, Value.int 0, Value.ref A83, Value.int 0, Value.int 0, Value.int 0])) : Nat × va_E) := by rw [e_ws2]; exact gs_self f_46_ws1
  replace hU : gx_g ws ws2 0 [46] := by rw [e_ws2]; exact hU.put (Or.inl (by simp))
  refine lv_aload_n hx hb d_Mo_done_65 rfl (lv_at hl 3 rfl) ?_
  refine va_get (D := D) (ci := 8) (v := Value.int 0) (C := "CommitLedgerModel") (T := F_Mo) (N := 35) hx hb hts i_Mo hown hK hP 46 f_46_ws2 rfl 1 (by decide) (hts _ kf_Mo_80) (fun _ h9 => h9) rfl d_Mo_done_66 ?_
  refine lv_if_le (tgt := 76) hx hb d_Mo_done_69 (by decide) (fun _ => ?_) (fun c9 => absurd (by decide) c9)
  refine lv_iload_n hx hb d_Mo_done_76 rfl (lv_at hl 4 rfl) ?_
  exact gx_ret (W.iret (v := 0) hx hb hr (gx_post hP hK hD hS (by rw [← hPQ]; exact ⟨rfl, hU, f_46_ws2⟩)) hS.2.2 d_Mo_done_77)

set_option maxHeartbeats 4000000 in
set_option maxRecDepth 100000 in
theorem c_Mo_limits_v1 (l : Launch) (htr : l.stackTraces = false) (D : va_G) (tys : List (ClassId × FieldType)) (z sz : Nat) (ws : va_W) (A46 : Nat) (p0 : Int32) (p1 : Int32) (A47 : Nat) (A48 : Nat) (A49 : Nat) (A50 : Nat) (A51 : Nat) (A52 : Nat) (A53 : Nat) (A54 : Nat) (A62 : Nat) (A70 : Nat) (A78 : Nat) (A79 : Nat) (u0 : Value) (A80 : Nat) (A81 : Nat) (A82 : Nat) (A83 : Nat) (f_46 : ws[46]? = some ((A46, Sum.inr (8, [Value.int 0, Value.int 0, Value.ref A47, Value.ref A48, Value.ref A49, Value.int 0, Value.ref A50, Value.ref A51, Value.ref A52, Value.ref A53, Value.int 0, Value.int 0, Value.int 0, Value.int (-1), Value.int 0, Value.ref A54, Value.ref A62, Value.ref A70, Value.int 0, Value.int 0, Value.int 0, Value.ref A78, Value.ref A79, Value.int 0, Value.int 16, Value.int 4, u0, Value.ref A80, Value.ref A81, Value.ref A82, Value.int 0, Value.ref A83, Value.int 0, Value.int 0, Value.int 0])) : Nat × va_E)) : gx_Met l y_Mo_limits [Cond.code y_Mo_limits b_Mo_limits 4 none] { frames := 2, cells := 0, slots := 0, locals := 37 } (gx_P z sz D classes tys ws [Value.ref A46, Value.int p0, Value.int p1]) (gx_Q D classes tys (va_A ws sz) (fun r ws' => (r = Sum.inl none ∧ gx_g ws ws' 0 [46] ∧ ws'[46]? = some ((A46, Sum.inr (8, [Value.int 0, Value.int 1, Value.ref A47, Value.ref A48, Value.ref A49, Value.int 0, Value.ref A50, Value.ref A51, Value.ref A52, Value.ref A53, Value.int 0, Value.int 0, Value.int 0, Value.int (-1), Value.int 0, Value.ref A54, Value.ref A62, Value.ref A70, Value.int 0, Value.int 0, Value.int 0, Value.ref A78, Value.ref A79, Value.int 0, Value.int 16, Value.int 4, u0, Value.ref A80, Value.ref A81, Value.ref A82, Value.int 0, Value.ref A83, Value.int 0, Value.int 0, Value.int 0])) : Nat × va_E) ∧ p0 < 1) ∨ (r = Sum.inl none ∧ gx_g ws ws' 0 [46] ∧ ws'[46]? = some ((A46, Sum.inr (8, [Value.int 0, Value.int 1, Value.ref A47, Value.ref A48, Value.ref A49, Value.int 0, Value.ref A50, Value.ref A51, Value.ref A52, Value.ref A53, Value.int 0, Value.int 0, Value.int 0, Value.int (-1), Value.int 0, Value.ref A54, Value.ref A62, Value.ref A70, Value.int 0, Value.int 0, Value.int 0, Value.ref A78, Value.ref A79, Value.int 0, Value.int 16, Value.int 4, u0, Value.ref A80, Value.ref A81, Value.ref A82, Value.int 0, Value.ref A83, Value.int 0, Value.int 0, Value.int 0])) : Nat × va_E) ∧ ¬ p0 < 1 ∧ 10000 < p0) ∨ (r = Sum.inl none ∧ gx_g ws ws' 0 [46] ∧ ws'[46]? = some ((A46, Sum.inr (8, [Value.int 0, Value.int 1, Value.ref A47, Value.ref A48, Value.ref A49, Value.int 0, Value.ref A50, Value.ref A51, Value.ref A52, Value.ref A53, Value.int 0, Value.int 0, Value.int 0, Value.int (-1), Value.int 0, Value.ref A54, Value.ref A62, Value.ref A70, Value.int 0, Value.int 0, Value.int 0, Value.ref A78, Value.ref A79, Value.int 0, Value.int 16, Value.int 4, u0, Value.ref A80, Value.ref A81, Value.ref A82, Value.int 0, Value.ref A83, Value.int 0, Value.int 0, Value.int 0])) : Nat × va_E) ∧ ¬ p0 < 1 ∧ ¬ 10000 < p0 ∧ p1 < 2) ∨ (r = Sum.inl none ∧ gx_g ws ws' 0 [46] ∧ ws'[46]? = some ((A46, Sum.inr (8, [Value.int 0, Value.int 0, Value.ref A47, Value.ref A48, Value.ref A49, Value.int 0, Value.ref A50, Value.ref A51, Value.ref A52, Value.ref A53, Value.int 0, Value.int 0, Value.int 0, Value.int (-1), Value.int 0, Value.ref A54, Value.ref A62, Value.ref A70, Value.int 0, Value.int 0, Value.int 0, Value.ref A78, Value.ref A79, Value.int 0, Value.int p0, Value.int p1, u0, Value.ref A80, Value.ref A81, Value.ref A82, Value.int 0, Value.ref A83, Value.int 0, Value.int 0, Value.int 0])) : Nat × va_E) ∧ ¬ p0 < 1 ∧ ¬ 10000 < p0 ∧ ¬ p1 < 2 ∧ p1 ≤ 64) ∨ (r = Sum.inl none ∧ gx_g ws ws' 0 [46] ∧ ws'[46]? = some ((A46, Sum.inr (8, [Value.int 0, Value.int 1, Value.ref A47, Value.ref A48, Value.ref A49, Value.int 0, Value.ref A50, Value.ref A51, Value.ref A52, Value.ref A53, Value.int 0, Value.int 0, Value.int 0, Value.int (-1), Value.int 0, Value.ref A54, Value.ref A62, Value.ref A70, Value.int 0, Value.int 0, Value.int 0, Value.ref A78, Value.ref A79, Value.int 0, Value.int 16, Value.int 4, u0, Value.ref A80, Value.ref A81, Value.ref A82, Value.int 0, Value.ref A83, Value.int 0, Value.int 0, Value.int 0])) : Nat × va_E) ∧ ¬ p0 < 1 ∧ ¬ 10000 < p0 ∧ ¬ p1 < 2 ∧ ¬ p1 ≤ 64))) 0 0 (va_A ws sz) := by
  refine gx_ofW (cc := b_Mo_limits) (maxL := 4) (ret := none) (by decide) rfl ?_
  intro p e s m args below meth c s₁ B hml hv
  obtain ⟨rfl, hsz, hz, hP, hK, hD0, hY⟩ := hv
  have hx := B.exec
  have hb := B.bytes
  have hr := B.returns
  have hts := hY.hts (#[Value.ref A46, Value.int p0, Value.int p1] : Array Value)
  have hown : s.vm.findClass "CommitLedgerModel" = some m.cls := findClass_of_methodNamed B.named
  have hlocks := B.notSynchronized
  have hne : c.exceptionTable.isEmpty = true := B.noHandlers (atoms_spec (ws := [Cond.code y_Mo_limits b_Mo_limits 4 none]) B.pre _ List.mem_cons_self)
  subst hsz
  have hAz := gx_az hD0 hz
  have hD := hD0.self (sz := s.heap.size)
  have hN := gx_ns hP
  have hA : ∀ q : Nat, s.heap.size ≤ q → va_A ws s.heap.size q := fun q h => Or.inr h
  generalize va_A ws s.heap.size = A at hD hN hA hAz ⊢
  generalize hPQ : (fun (r : Option Value ⊕ String) (ws' : va_W) => (r = Sum.inl none ∧ gx_g ws ws' 0 [46] ∧ ws'[46]? = some ((A46, Sum.inr (8, [Value.int 0, Value.int 1, Value.ref A47, Value.ref A48, Value.ref A49, Value.int 0, Value.ref A50, Value.ref A51, Value.ref A52, Value.ref A53, Value.int 0, Value.int 0, Value.int 0, Value.int (-1), Value.int 0, Value.ref A54, Value.ref A62, Value.ref A70, Value.int 0, Value.int 0, Value.int 0, Value.ref A78, Value.ref A79, Value.int 0, Value.int 16, Value.int 4, u0, Value.ref A80, Value.ref A81, Value.ref A82, Value.int 0, Value.ref A83, Value.int 0, Value.int 0, Value.int 0])) : Nat × va_E) ∧ p0 < 1) ∨ (r = Sum.inl none ∧ gx_g ws ws' 0 [46] ∧ ws'[46]? = some ((A46, Sum.inr (8, [Value.int 0, Value.int 1, Value.ref A47, Value.ref A48, Value.ref A49, Value.int 0, Value.ref A50, Value.ref A51, Value.ref A52, Value.ref A53, Value.int 0, Value.int 0, Value.int 0, Value.int (-1), Value.int 0, Value.ref A54, Value.ref A62, Value.ref A70, Value.int 0, Value.int 0, Value.int 0, Value.ref A78, Value.ref A79, Value.int 0, Value.int 16, Value.int 4, u0, Value.ref A80, Value.ref A81, Value.ref A82, Value.int 0, Value.ref A83, Value.int 0, Value.int 0, Value.int 0])) : Nat × va_E) ∧ ¬ p0 < 1 ∧ 10000 < p0) ∨ (r = Sum.inl none ∧ gx_g ws ws' 0 [46] ∧ ws'[46]? = some ((A46, Sum.inr (8, [Value.int 0, Value.int 1, Value.ref A47, Value.ref A48, Value.ref A49, Value.int 0, Value.ref A50, Value.ref A51, Value.ref A52, Value.ref A53, Value.int 0, Value.int 0, Value.int 0, Value.int (-1), Value.int 0, Value.ref A54, Value.ref A62, Value.ref A70, Value.int 0, Value.int 0, Value.int 0, Value.ref A78, Value.ref A79, Value.int 0, Value.int 16, Value.int 4, u0, Value.ref A80, Value.ref A81, Value.ref A82, Value.int 0, Value.ref A83, Value.int 0, Value.int 0, Value.int 0])) : Nat × va_E) ∧ ¬ p0 < 1 ∧ ¬ 10000 < p0 ∧ p1 < 2) ∨ (r = Sum.inl none ∧ gx_g ws ws' 0 [46] ∧ ws'[46]? = some ((A46, Sum.inr (8, [Value.int 0, Value.int 0, Value.ref A47, Value.ref A48, Value.ref A49, Value.int 0, Value.ref A50, Value.ref A51, Value.ref A52, Value.ref A53, Value.int 0, Value.int 0, Value.int 0, Value.int (-1), Value.int 0, Value.ref A54, Value.ref A62, Value.ref A70, Value.int 0, Value.int 0, Value.int 0, Value.ref A78, Value.ref A79, Value.int 0, Value.int p0, Value.int p1, u0, Value.ref A80, Value.ref A81, Value.ref A82, Value.int 0, Value.ref A83, Value.int 0, Value.int 0, Value.int 0])) : Nat × va_E) ∧ ¬ p0 < 1 ∧ ¬ 10000 < p0 ∧ ¬ p1 < 2 ∧ p1 ≤ 64) ∨ (r = Sum.inl none ∧ gx_g ws ws' 0 [46] ∧ ws'[46]? = some ((A46, Sum.inr (8, [Value.int 0, Value.int 1, Value.ref A47, Value.ref A48, Value.ref A49, Value.int 0, Value.ref A50, Value.ref A51, Value.ref A52, Value.ref A53, Value.int 0, Value.int 0, Value.int 0, Value.int (-1), Value.int 0, Value.ref A54, Value.ref A62, Value.ref A70, Value.int 0, Value.int 0, Value.int 0, Value.ref A78, Value.ref A79, Value.int 0, Value.int 16, Value.int 4, u0, Value.ref A80, Value.ref A81, Value.ref A82, Value.int 0, Value.ref A83, Value.int 0, Value.int 0, Value.int 0])) : Nat × va_E) ∧ ¬ p0 < 1 ∧ ¬ 10000 < p0 ∧ ¬ p1 < 2 ∧ ¬ p1 ≤ 64)) = PQ
  have hS : va_S A s.heap s.heap [] := va_S.rf
  have hU : gx_g ws ws 0 [46] := gx_g.rf
  have hl := lv_entry ([Value.ref A46, Value.int p0, Value.int p1]) (n := 4) (Nat.le_of_ble_eq_true rfl)
  rw [lg_entry_eq]
  generalize (lg_sl ([Value.ref A46, Value.int p0, Value.int p1]) ++ List.replicate (4 - (lg_sl ([Value.ref A46, Value.int p0, Value.int p1])).length) Slot.unset).toArray = ls at hl ⊢
  have hl : lv_has ls 4 [(0, Value.ref A46), (1, Value.int p0), (2, Value.int p1)] := hl
  refine lv_aload_n hx hb d_Mo_limits_0 rfl (lv_at hl 0 rfl) ?_
  refine lv_iload_n hx hb d_Mo_limits_1 rfl (lv_at hl 1 rfl) ?_
  refine lv_iconst (v := 1) hx hb d_Mo_limits_2 (by decide) ?_
  refine lv_icmp_lt (tgt := 24) hx hb d_Mo_limits_3 (by decide) (fun c3_1 => ?_) (fun c3_1 => ?_)
  · refine lv_iconst (v := 1) hx hb d_Mo_limits_24 (by decide) ?_
    refine lv_goto (tgt := 29) hx hb d_Mo_limits_25 (by decide) ?_
    refine lv_iconst (v := 1) hx hb d_Mo_limits_29 (by decide) ?_
    refine gx_call (ig := .invokevirtual 152) (c_Mo_wrong_v1 l htr D tys z _ ws A46 A47 A48 A49 A50 A51 A52 A53 A54 A62 A70 A78 A79 (u0) A80 A81 A82 A83 f_46) (gx_invV (As := [Value.int 1, Value.int 1]) (rest := []) hx hb hown hts km_Mo_152 kI_Mo_wrong kV_Mo_wrong kc_Mo_wrong (by decide) (show (parseMethodDescriptor y_Mo_wrong.desc).map (fun d => d.parameters.length) = some 2 by decide +kernel) (gx_recv (ci := 8) hK hP rfl f_46) rfl rfl d_Mo_limits_30) (gx_cw (z := 0) hts kc_Mo_wrong kN_Mo rfl rfl ⟨Nat.le_of_ble_eq_true rfl, Nat.le_of_ble_eq_true rfl⟩) hb hml gx_blind (gx_pre hz hP hK hD hY hS hAz [Value.ref A46, Value.int 1, Value.int 1]) rfl hl.1 (lv_room (Nat.le_of_ble_eq_true rfl)) d_Mo_limits_30 ⟨Nat.le_of_ble_eq_true rfl, Nat.le_of_ble_eq_true rfl⟩ (fun v2 st2 t2 L2 h0_2 hW_2 hQ_2 hL_2 => ?_) (fun v2 st2 t2 L2 h0_2 hW_2 hQ_2 hL_2 => ?_)
    · obtain ⟨ws3, hp, hP9, -, hD9, hS9⟩ := gx_back h0_2 hW_2 hQ_2 hL_2 hD hS hA
      clear hQ_2 h0_2 hL_2 hW_2 hP hD hS
      have hP := hP9
      have hD := hD9
      have hS := hS9
      clear hP9 hD9 hS9
      rcases hp with ⟨hv9, e_ws3, f_46_ws3⟩
      cases hv9
      have f_46_ws3 : ws3[46]? = some ((A46, Sum.inr (8, [Value.int 1, Value.int 0, Value.ref A47, Value.ref A48, Value.ref A49, Value.int 0, Value.ref A50, Value.ref A51, Value.ref A52, Value.ref A53, Value.int 0, Value.int 0, Value.int 0, Value.int (-1), Value.int 0, Value.ref A54, Value.ref A62, Value.ref A70, Value.int 0, Value.int 0, Value.int 0, Value.ref A78, Value.ref A79, Value.int 0, Value.int 16, Value.int 4, u0, Value.ref A80, Value.ref A81, Value.ref A82, Value.int 0, Value.ref A83, Value.int 0, Value.int 0, Value.int 0])) : Nat × va_E) := f_46_ws3
      replace hU : gx_g ws ws3 0 [46] := hU.call e_ws3 (by simp; first | done | omega)
      refine W.eq (g2 := F0 m 33 ls [Value.int 1]) rfl ?_
      generalize t2.heap = H at hP hS ⊢
      generalize [] ++ L2 = locs at hS ⊢
      refine lv_if_ne (tgt := 46) hx hb d_Mo_limits_33 (by decide) (fun _ => ?_) (fun c9 => absurd c9 (by decide))
      refine lv_aload_n hx hb d_Mo_limits_46 rfl (lv_at hl 0 rfl) ?_
      refine lv_iconst (v := 0) hx hb d_Mo_limits_47 (by decide) ?_
      refine lv_iconst (v := 1) hx hb d_Mo_limits_48 (by decide) ?_
      refine gx_call (ig := .invokevirtual 148) (c_Mo_done_v1 l htr D tys z _ ws3 A46 A47 A48 A49 A50 A51 A52 A53 A54 A62 A70 A78 A79 (u0) A80 A81 A82 A83 f_46_ws3) (gx_invV (As := [Value.int 0, Value.int 1]) (rest := []) hx hb hown hts km_Mo_148 kI_Mo_done kV_Mo_done kc_Mo_done (by decide) (show (parseMethodDescriptor y_Mo_done.desc).map (fun d => d.parameters.length) = some 2 by decide +kernel) (gx_recv (ci := 8) hK hP rfl f_46_ws3) rfl rfl d_Mo_limits_49) (gx_cw (z := 0) hts kc_Mo_done kN_Mo rfl rfl ⟨Nat.le_of_ble_eq_true rfl, Nat.le_of_ble_eq_true rfl⟩) hb hml gx_blind (gx_pre hz hP hK hD hY hS hAz [Value.ref A46, Value.int 0, Value.int 1]) rfl hl.1 (lv_room (Nat.le_of_ble_eq_true rfl)) d_Mo_limits_49 ⟨Nat.le_of_ble_eq_true rfl, Nat.le_of_ble_eq_true rfl⟩ (fun v4 st4 t4 L4 h0_4 hW_4 hQ_4 hL_4 => ?_) (fun v4 st4 t4 L4 h0_4 hW_4 hQ_4 hL_4 => ?_)
      · obtain ⟨ws5, hp, hP9, -, hD9, hS9⟩ := gx_back h0_4 hW_4 hQ_4 hL_4 hD hS hA
        clear hQ_4 h0_4 hL_4 hW_4 hP hD hS
        have hP := hP9
        have hD := hD9
        have hS := hS9
        clear hP9 hD9 hS9
        rcases hp with ⟨hv9, e_ws5, f_46_ws5⟩
        cases hv9
        have f_46_ws5 : ws5[46]? = some ((A46, Sum.inr (8, [Value.int 0, Value.int 1, Value.ref A47, Value.ref A48, Value.ref A49, Value.int 0, Value.ref A50, Value.ref A51, Value.ref A52, Value.ref A53, Value.int 0, Value.int 0, Value.int 0, Value.int (-1), Value.int 0, Value.ref A54, Value.ref A62, Value.ref A70, Value.int 0, Value.int 0, Value.int 0, Value.ref A78, Value.ref A79, Value.int 0, Value.int 16, Value.int 4, u0, Value.ref A80, Value.ref A81, Value.ref A82, Value.int 0, Value.ref A83, Value.int 0, Value.int 0, Value.int 0])) : Nat × va_E) := f_46_ws5
        replace hU : gx_g ws ws5 0 [46] := hU.call e_ws5 (by simp; first | done | omega)
        refine W.eq (g2 := F0 m 52 ls [Value.int 0]) rfl ?_
        generalize t4.heap = H at hP hS ⊢
        generalize locs ++ L4 = locs at hS ⊢
        refine lv_istore_n (lv' := [(3, Value.int 0), (0, Value.ref A46), (1, Value.int p0), (2, Value.int p1)]) hx hb d_Mo_limits_52 rfl hl (by decide) rfl (fun ls hl => ?_)
        exact gx_ret (W.vret hx hb hr (gx_post hP hK hD hS (by rw [← hPQ]; exact Or.inl ⟨rfl, hU, f_46_ws5, c3_1⟩)) hS.2.2 d_Mo_limits_53)
      · obtain ⟨E9, ws6, ce, hp, hce, hP9, -, hD9, hS9⟩ := gx_backT h0_4 hW_4 hQ_4 hL_4 hD hS hA
        clear hQ_4 h0_4 hL_4 hW_4 hP hD hS
        have hP := hP9
        have hD := hD9
        have hS := hS9
        clear hP9 hD9 hS9
        rcases hp with ⟨hv9, e_ws6, f_46_ws6⟩
        cases hv9
    · obtain ⟨E9, ws7, ce, hp, hce, hP9, -, hD9, hS9⟩ := gx_backT h0_2 hW_2 hQ_2 hL_2 hD hS hA
      clear hQ_2 h0_2 hL_2 hW_2 hP hD hS
      have hP := hP9
      have hD := hD9
      have hS := hS9
      clear hP9 hD9 hS9
      rcases hp with ⟨hv9, e_ws7, f_46_ws7⟩
      cases hv9
  · refine lv_iload_n hx hb d_Mo_limits_6 rfl (lv_at hl 1 rfl) ?_
    refine lv_sipush (v := 10000) hx hb d_Mo_limits_7 (by decide) ?_
    refine lv_icmp_gt (tgt := 24) hx hb d_Mo_limits_10 (by decide) (fun c10_8 => ?_) (fun c10_8 => ?_)
    · refine lv_iconst (v := 1) hx hb d_Mo_limits_24 (by decide) ?_
      refine lv_goto (tgt := 29) hx hb d_Mo_limits_25 (by decide) ?_
      refine lv_iconst (v := 1) hx hb d_Mo_limits_29 (by decide) ?_
      refine gx_call (ig := .invokevirtual 152) (c_Mo_wrong_v1 l htr D tys z _ ws A46 A47 A48 A49 A50 A51 A52 A53 A54 A62 A70 A78 A79 (u0) A80 A81 A82 A83 f_46) (gx_invV (As := [Value.int 1, Value.int 1]) (rest := []) hx hb hown hts km_Mo_152 kI_Mo_wrong kV_Mo_wrong kc_Mo_wrong (by decide) (show (parseMethodDescriptor y_Mo_wrong.desc).map (fun d => d.parameters.length) = some 2 by decide +kernel) (gx_recv (ci := 8) hK hP rfl f_46) rfl rfl d_Mo_limits_30) (gx_cw (z := 0) hts kc_Mo_wrong kN_Mo rfl rfl ⟨Nat.le_of_ble_eq_true rfl, Nat.le_of_ble_eq_true rfl⟩) hb hml gx_blind (gx_pre hz hP hK hD hY hS hAz [Value.ref A46, Value.int 1, Value.int 1]) rfl hl.1 (lv_room (Nat.le_of_ble_eq_true rfl)) d_Mo_limits_30 ⟨Nat.le_of_ble_eq_true rfl, Nat.le_of_ble_eq_true rfl⟩ (fun v9 st9 t9 L9 h0_9 hW_9 hQ_9 hL_9 => ?_) (fun v9 st9 t9 L9 h0_9 hW_9 hQ_9 hL_9 => ?_)
      · obtain ⟨ws10, hp, hP9, -, hD9, hS9⟩ := gx_back h0_9 hW_9 hQ_9 hL_9 hD hS hA
        clear hQ_9 h0_9 hL_9 hW_9 hP hD hS
        have hP := hP9
        have hD := hD9
        have hS := hS9
        clear hP9 hD9 hS9
        rcases hp with ⟨hv9, e_ws10, f_46_ws10⟩
        cases hv9
        have f_46_ws10 : ws10[46]? = some ((A46, Sum.inr (8, [Value.int 1, Value.int 0, Value.ref A47, Value.ref A48, Value.ref A49, Value.int 0, Value.ref A50, Value.ref A51, Value.ref A52, Value.ref A53, Value.int 0, Value.int 0, Value.int 0, Value.int (-1), Value.int 0, Value.ref A54, Value.ref A62, Value.ref A70, Value.int 0, Value.int 0, Value.int 0, Value.ref A78, Value.ref A79, Value.int 0, Value.int 16, Value.int 4, u0, Value.ref A80, Value.ref A81, Value.ref A82, Value.int 0, Value.ref A83, Value.int 0, Value.int 0, Value.int 0])) : Nat × va_E) := f_46_ws10
        replace hU : gx_g ws ws10 0 [46] := hU.call e_ws10 (by simp; first | done | omega)
        refine W.eq (g2 := F0 m 33 ls [Value.int 1]) rfl ?_
        generalize t9.heap = H at hP hS ⊢
        generalize [] ++ L9 = locs at hS ⊢
        refine lv_if_ne (tgt := 46) hx hb d_Mo_limits_33 (by decide) (fun _ => ?_) (fun c9 => absurd c9 (by decide))
        refine lv_aload_n hx hb d_Mo_limits_46 rfl (lv_at hl 0 rfl) ?_
        refine lv_iconst (v := 0) hx hb d_Mo_limits_47 (by decide) ?_
        refine lv_iconst (v := 1) hx hb d_Mo_limits_48 (by decide) ?_
        refine gx_call (ig := .invokevirtual 148) (c_Mo_done_v1 l htr D tys z _ ws10 A46 A47 A48 A49 A50 A51 A52 A53 A54 A62 A70 A78 A79 (u0) A80 A81 A82 A83 f_46_ws10) (gx_invV (As := [Value.int 0, Value.int 1]) (rest := []) hx hb hown hts km_Mo_148 kI_Mo_done kV_Mo_done kc_Mo_done (by decide) (show (parseMethodDescriptor y_Mo_done.desc).map (fun d => d.parameters.length) = some 2 by decide +kernel) (gx_recv (ci := 8) hK hP rfl f_46_ws10) rfl rfl d_Mo_limits_49) (gx_cw (z := 0) hts kc_Mo_done kN_Mo rfl rfl ⟨Nat.le_of_ble_eq_true rfl, Nat.le_of_ble_eq_true rfl⟩) hb hml gx_blind (gx_pre hz hP hK hD hY hS hAz [Value.ref A46, Value.int 0, Value.int 1]) rfl hl.1 (lv_room (Nat.le_of_ble_eq_true rfl)) d_Mo_limits_49 ⟨Nat.le_of_ble_eq_true rfl, Nat.le_of_ble_eq_true rfl⟩ (fun v11 st11 t11 L11 h0_11 hW_11 hQ_11 hL_11 => ?_) (fun v11 st11 t11 L11 h0_11 hW_11 hQ_11 hL_11 => ?_)
        · obtain ⟨ws12, hp, hP9, -, hD9, hS9⟩ := gx_back h0_11 hW_11 hQ_11 hL_11 hD hS hA
          clear hQ_11 h0_11 hL_11 hW_11 hP hD hS
          have hP := hP9
          have hD := hD9
          have hS := hS9
          clear hP9 hD9 hS9
          rcases hp with ⟨hv9, e_ws12, f_46_ws12⟩
          cases hv9
          have f_46_ws12 : ws12[46]? = some ((A46, Sum.inr (8, [Value.int 0, Value.int 1, Value.ref A47, Value.ref A48, Value.ref A49, Value.int 0, Value.ref A50, Value.ref A51, Value.ref A52, Value.ref A53, Value.int 0, Value.int 0, Value.int 0, Value.int (-1), Value.int 0, Value.ref A54, Value.ref A62, Value.ref A70, Value.int 0, Value.int 0, Value.int 0, Value.ref A78, Value.ref A79, Value.int 0, Value.int 16, Value.int 4, u0, Value.ref A80, Value.ref A81, Value.ref A82, Value.int 0, Value.ref A83, Value.int 0, Value.int 0, Value.int 0])) : Nat × va_E) := f_46_ws12
          replace hU : gx_g ws ws12 0 [46] := hU.call e_ws12 (by simp; first | done | omega)
          refine W.eq (g2 := F0 m 52 ls [Value.int 0]) rfl ?_
          generalize t11.heap = H at hP hS ⊢
          generalize locs ++ L11 = locs at hS ⊢
          refine lv_istore_n (lv' := [(3, Value.int 0), (0, Value.ref A46), (1, Value.int p0), (2, Value.int p1)]) hx hb d_Mo_limits_52 rfl hl (by decide) rfl (fun ls hl => ?_)
          exact gx_ret (W.vret hx hb hr (gx_post hP hK hD hS (by rw [← hPQ]; exact Or.inr (Or.inl ⟨rfl, hU, f_46_ws12, c3_1, c10_8⟩))) hS.2.2 d_Mo_limits_53)
        · obtain ⟨E9, ws13, ce, hp, hce, hP9, -, hD9, hS9⟩ := gx_backT h0_11 hW_11 hQ_11 hL_11 hD hS hA
          clear hQ_11 h0_11 hL_11 hW_11 hP hD hS
          have hP := hP9
          have hD := hD9
          have hS := hS9
          clear hP9 hD9 hS9
          rcases hp with ⟨hv9, e_ws13, f_46_ws13⟩
          cases hv9
      · obtain ⟨E9, ws14, ce, hp, hce, hP9, -, hD9, hS9⟩ := gx_backT h0_9 hW_9 hQ_9 hL_9 hD hS hA
        clear hQ_9 h0_9 hL_9 hW_9 hP hD hS
        have hP := hP9
        have hD := hD9
        have hS := hS9
        clear hP9 hD9 hS9
        rcases hp with ⟨hv9, e_ws14, f_46_ws14⟩
        cases hv9
    · refine lv_iload_n hx hb d_Mo_limits_13 rfl (lv_at hl 2 rfl) ?_
      refine lv_iconst (v := 2) hx hb d_Mo_limits_14 (by decide) ?_
      refine lv_icmp_lt (tgt := 24) hx hb d_Mo_limits_15 (by decide) (fun c15_15 => ?_) (fun c15_15 => ?_)
      · refine lv_iconst (v := 1) hx hb d_Mo_limits_24 (by decide) ?_
        refine lv_goto (tgt := 29) hx hb d_Mo_limits_25 (by decide) ?_
        refine lv_iconst (v := 1) hx hb d_Mo_limits_29 (by decide) ?_
        refine gx_call (ig := .invokevirtual 152) (c_Mo_wrong_v1 l htr D tys z _ ws A46 A47 A48 A49 A50 A51 A52 A53 A54 A62 A70 A78 A79 (u0) A80 A81 A82 A83 f_46) (gx_invV (As := [Value.int 1, Value.int 1]) (rest := []) hx hb hown hts km_Mo_152 kI_Mo_wrong kV_Mo_wrong kc_Mo_wrong (by decide) (show (parseMethodDescriptor y_Mo_wrong.desc).map (fun d => d.parameters.length) = some 2 by decide +kernel) (gx_recv (ci := 8) hK hP rfl f_46) rfl rfl d_Mo_limits_30) (gx_cw (z := 0) hts kc_Mo_wrong kN_Mo rfl rfl ⟨Nat.le_of_ble_eq_true rfl, Nat.le_of_ble_eq_true rfl⟩) hb hml gx_blind (gx_pre hz hP hK hD hY hS hAz [Value.ref A46, Value.int 1, Value.int 1]) rfl hl.1 (lv_room (Nat.le_of_ble_eq_true rfl)) d_Mo_limits_30 ⟨Nat.le_of_ble_eq_true rfl, Nat.le_of_ble_eq_true rfl⟩ (fun v16 st16 t16 L16 h0_16 hW_16 hQ_16 hL_16 => ?_) (fun v16 st16 t16 L16 h0_16 hW_16 hQ_16 hL_16 => ?_)
        · obtain ⟨ws17, hp, hP9, -, hD9, hS9⟩ := gx_back h0_16 hW_16 hQ_16 hL_16 hD hS hA
          clear hQ_16 h0_16 hL_16 hW_16 hP hD hS
          have hP := hP9
          have hD := hD9
          have hS := hS9
          clear hP9 hD9 hS9
          rcases hp with ⟨hv9, e_ws17, f_46_ws17⟩
          cases hv9
          have f_46_ws17 : ws17[46]? = some ((A46, Sum.inr (8, [Value.int 1, Value.int 0, Value.ref A47, Value.ref A48, Value.ref A49, Value.int 0, Value.ref A50, Value.ref A51, Value.ref A52, Value.ref A53, Value.int 0, Value.int 0, Value.int 0, Value.int (-1), Value.int 0, Value.ref A54, Value.ref A62, Value.ref A70, Value.int 0, Value.int 0, Value.int 0, Value.ref A78, Value.ref A79, Value.int 0, Value.int 16, Value.int 4, u0, Value.ref A80, Value.ref A81, Value.ref A82, Value.int 0, Value.ref A83, Value.int 0, Value.int 0, Value.int 0])) : Nat × va_E) := f_46_ws17
          replace hU : gx_g ws ws17 0 [46] := hU.call e_ws17 (by simp; first | done | omega)
          refine W.eq (g2 := F0 m 33 ls [Value.int 1]) rfl ?_
          generalize t16.heap = H at hP hS ⊢
          generalize [] ++ L16 = locs at hS ⊢
          refine lv_if_ne (tgt := 46) hx hb d_Mo_limits_33 (by decide) (fun _ => ?_) (fun c9 => absurd c9 (by decide))
          refine lv_aload_n hx hb d_Mo_limits_46 rfl (lv_at hl 0 rfl) ?_
          refine lv_iconst (v := 0) hx hb d_Mo_limits_47 (by decide) ?_
          refine lv_iconst (v := 1) hx hb d_Mo_limits_48 (by decide) ?_
          refine gx_call (ig := .invokevirtual 148) (c_Mo_done_v1 l htr D tys z _ ws17 A46 A47 A48 A49 A50 A51 A52 A53 A54 A62 A70 A78 A79 (u0) A80 A81 A82 A83 f_46_ws17) (gx_invV (As := [Value.int 0, Value.int 1]) (rest := []) hx hb hown hts km_Mo_148 kI_Mo_done kV_Mo_done kc_Mo_done (by decide) (show (parseMethodDescriptor y_Mo_done.desc).map (fun d => d.parameters.length) = some 2 by decide +kernel) (gx_recv (ci := 8) hK hP rfl f_46_ws17) rfl rfl d_Mo_limits_49) (gx_cw (z := 0) hts kc_Mo_done kN_Mo rfl rfl ⟨Nat.le_of_ble_eq_true rfl, Nat.le_of_ble_eq_true rfl⟩) hb hml gx_blind (gx_pre hz hP hK hD hY hS hAz [Value.ref A46, Value.int 0, Value.int 1]) rfl hl.1 (lv_room (Nat.le_of_ble_eq_true rfl)) d_Mo_limits_49 ⟨Nat.le_of_ble_eq_true rfl, Nat.le_of_ble_eq_true rfl⟩ (fun v18 st18 t18 L18 h0_18 hW_18 hQ_18 hL_18 => ?_) (fun v18 st18 t18 L18 h0_18 hW_18 hQ_18 hL_18 => ?_)
          · obtain ⟨ws19, hp, hP9, -, hD9, hS9⟩ := gx_back h0_18 hW_18 hQ_18 hL_18 hD hS hA
            clear hQ_18 h0_18 hL_18 hW_18 hP hD hS
            have hP := hP9
            have hD := hD9
            have hS := hS9
            clear hP9 hD9 hS9
            rcases hp with ⟨hv9, e_ws19, f_46_ws19⟩
            cases hv9
            have f_46_ws19 : ws19[46]? = some ((A46, Sum.inr (8, [Value.int 0, Value.int 1, Value.ref A47, Value.ref A48, Value.ref A49, Value.int 0, Value.ref A50, Value.ref A51, Value.ref A52, Value.ref A53, Value.int 0, Value.int 0, Value.int 0, Value.int (-1), Value.int 0, Value.ref A54, Value.ref A62, Value.ref A70, Value.int 0, Value.int 0, Value.int 0, Value.ref A78, Value.ref A79, Value.int 0, Value.int 16, Value.int 4, u0, Value.ref A80, Value.ref A81, Value.ref A82, Value.int 0, Value.ref A83, Value.int 0, Value.int 0, Value.int 0])) : Nat × va_E) := f_46_ws19
            replace hU : gx_g ws ws19 0 [46] := hU.call e_ws19 (by simp; first | done | omega)
            refine W.eq (g2 := F0 m 52 ls [Value.int 0]) rfl ?_
            generalize t18.heap = H at hP hS ⊢
            generalize locs ++ L18 = locs at hS ⊢
            refine lv_istore_n (lv' := [(3, Value.int 0), (0, Value.ref A46), (1, Value.int p0), (2, Value.int p1)]) hx hb d_Mo_limits_52 rfl hl (by decide) rfl (fun ls hl => ?_)
            exact gx_ret (W.vret hx hb hr (gx_post hP hK hD hS (by rw [← hPQ]; exact Or.inr (Or.inr (Or.inl ⟨rfl, hU, f_46_ws19, c3_1, c10_8, c15_15⟩)))) hS.2.2 d_Mo_limits_53)
          · obtain ⟨E9, ws20, ce, hp, hce, hP9, -, hD9, hS9⟩ := gx_backT h0_18 hW_18 hQ_18 hL_18 hD hS hA
            clear hQ_18 h0_18 hL_18 hW_18 hP hD hS
            have hP := hP9
            have hD := hD9
            have hS := hS9
            clear hP9 hD9 hS9
            rcases hp with ⟨hv9, e_ws20, f_46_ws20⟩
            cases hv9
        · obtain ⟨E9, ws21, ce, hp, hce, hP9, -, hD9, hS9⟩ := gx_backT h0_16 hW_16 hQ_16 hL_16 hD hS hA
          clear hQ_16 h0_16 hL_16 hW_16 hP hD hS
          have hP := hP9
          have hD := hD9
          have hS := hS9
          clear hP9 hD9 hS9
          rcases hp with ⟨hv9, e_ws21, f_46_ws21⟩
          cases hv9
      · refine lv_iload_n hx hb d_Mo_limits_18 rfl (lv_at hl 2 rfl) ?_
        refine lv_bipush (v := 64) hx hb d_Mo_limits_19 (by decide) ?_
        refine lv_icmp_le (tgt := 28) hx hb d_Mo_limits_21 (by decide) (fun c21_22 => ?_) (fun c21_22 => ?_)
        · refine lv_iconst (v := 0) hx hb d_Mo_limits_28 (by decide) ?_
          refine lv_iconst (v := 1) hx hb d_Mo_limits_29 (by decide) ?_
          refine gx_call (ig := .invokevirtual 152) (c_Mo_wrong_v2 l htr D tys z _ ws A46 A47 A48 A49 A50 A51 A52 A53 A54 A62 A70 A78 A79 (u0) A80 A81 A82 A83 f_46) (gx_invV (As := [Value.int 0, Value.int 1]) (rest := []) hx hb hown hts km_Mo_152 kI_Mo_wrong kV_Mo_wrong kc_Mo_wrong (by decide) (show (parseMethodDescriptor y_Mo_wrong.desc).map (fun d => d.parameters.length) = some 2 by decide +kernel) (gx_recv (ci := 8) hK hP rfl f_46) rfl rfl d_Mo_limits_30) (gx_cw (z := 0) hts kc_Mo_wrong kN_Mo rfl rfl ⟨Nat.le_of_ble_eq_true rfl, Nat.le_of_ble_eq_true rfl⟩) hb hml gx_blind (gx_pre hz hP hK hD hY hS hAz [Value.ref A46, Value.int 0, Value.int 1]) rfl hl.1 (lv_room (Nat.le_of_ble_eq_true rfl)) d_Mo_limits_30 ⟨Nat.le_of_ble_eq_true rfl, Nat.le_of_ble_eq_true rfl⟩ (fun v23 st23 t23 L23 h0_23 hW_23 hQ_23 hL_23 => ?_) (fun v23 st23 t23 L23 h0_23 hW_23 hQ_23 hL_23 => ?_)
          · obtain ⟨ws24, hp, hP9, -, hD9, hS9⟩ := gx_back h0_23 hW_23 hQ_23 hL_23 hD hS hA
            clear hQ_23 h0_23 hL_23 hW_23 hP hD hS
            have hP := hP9
            have hD := hD9
            have hS := hS9
            clear hP9 hD9 hS9
            rcases hp with ⟨hv9, e_ws24⟩
            cases hv9
            rw [e_ws24] at hP hD
            refine W.eq (g2 := F0 m 33 ls [Value.int 0]) rfl ?_
            generalize t23.heap = H at hP hS ⊢
            generalize [] ++ L23 = locs at hS ⊢
            refine lv_if_ne (tgt := 46) hx hb d_Mo_limits_33 (by decide) (fun c9 => absurd (by decide) c9) (fun _ => ?_)
            refine lv_aload_n hx hb d_Mo_limits_36 rfl (lv_at hl 0 rfl) ?_
            refine lv_iload_n hx hb d_Mo_limits_37 rfl (lv_at hl 1 rfl) ?_
            refine va_put (D := D) (ci := 8) (v := Value.int p0) (ty := .int) (C := "CommitLedgerModel") (T := F_Mo) (N := 35) hx hb hts i_Mo t_Mo t_Mo_ok n_Mo hown hK hP hD hS 46 f_46 rfl 24 (by decide) (hts _ kf_Mo_56) (fun _ h9 => h9) rfl (by decide +kernel) rfl rfl (Nat.le_of_ble_eq_true rfl) d_Mo_limits_38 (fun H locs hP9 hD9 hS9 => ?_)
            obtain ⟨ws25, e_ws25⟩ : ∃ x : va_W, x = ws.set 46 ((A46, Sum.inr (8, [Value.int 0, Value.int 0, Value.ref A47, Value.ref A48, Value.ref A49, Value.int 0, Value.ref A50, Value.ref A51, Value.ref A52, Value.ref A53, Value.int 0, Value.int 0, Value.int 0, Value.int (-1), Value.int 0, Value.ref A54, Value.ref A62, Value.ref A70, Value.int 0, Value.int 0, Value.int 0, Value.ref A78, Value.ref A79, Value.int 0, Value.int p0, Value.int 4, u0, Value.ref A80, Value.ref A81, Value.ref A82, Value.int 0, Value.ref A83, Value.int 0, Value.int 0, Value.int 0])) : Nat × va_E) := ⟨_, rfl⟩
            replace hP : va_P D classes ws25 H := by rw [e_ws25]; exact hP9
            replace hD : va_D A ws25 := by rw [e_ws25]; exact hD9
            replace hS := hS9
            clear hP9 hD9 hS9
            have f_46_ws25 : ws25[46]? = some ((A46, Sum.inr (8, [Value.int 0, Value.int 0, Value.ref A47, Value.ref A48, Value.ref A49, Value.int 0, Value.ref A50, Value.ref A51, Value.ref A52, Value.ref A53, Value.int 0, Value.int 0, Value.int 0, Value.int (-1), Value.int 0, Value.ref A54, Value.ref A62, Value.ref A70, Value.int 0, Value.int 0, Value.int 0, Value.ref A78, Value.ref A79, Value.int 0, Value.int p0, Value.int 4, u0, Value.ref A80, Value.ref A81, Value.ref A82, Value.int 0, Value.ref A83, Value.int 0, Value.int 0, Value.int 0])) : Nat × va_E) := by rw [e_ws25]; exact gs_self f_46
            replace hU : gx_g ws ws25 0 [46] := by rw [e_ws25]; exact hU.put (Or.inl (by simp))
            refine lv_aload_n hx hb d_Mo_limits_41 rfl (lv_at hl 0 rfl) ?_
            refine lv_iload_n hx hb d_Mo_limits_42 rfl (lv_at hl 2 rfl) ?_
            refine va_put (D := D) (ci := 8) (v := Value.int p1) (ty := .int) (C := "CommitLedgerModel") (T := F_Mo) (N := 35) hx hb hts i_Mo t_Mo t_Mo_ok n_Mo hown hK hP hD hS 46 f_46_ws25 rfl 25 (by decide) (hts _ kf_Mo_59) (fun _ h9 => h9) rfl (by decide +kernel) rfl rfl (Nat.le_of_ble_eq_true rfl) d_Mo_limits_43 (fun H locs hP9 hD9 hS9 => ?_)
            obtain ⟨ws26, e_ws26⟩ : ∃ x : va_W, x = ws25.set 46 ((A46, Sum.inr (8, [Value.int 0, Value.int 0, Value.ref A47, Value.ref A48, Value.ref A49, Value.int 0, Value.ref A50, Value.ref A51, Value.ref A52, Value.ref A53, Value.int 0, Value.int 0, Value.int 0, Value.int (-1), Value.int 0, Value.ref A54, Value.ref A62, Value.ref A70, Value.int 0, Value.int 0, Value.int 0, Value.ref A78, Value.ref A79, Value.int 0, Value.int p0, Value.int p1, u0, Value.ref A80, Value.ref A81, Value.ref A82, Value.int 0, Value.ref A83, Value.int 0, Value.int 0, Value.int 0])) : Nat × va_E) := ⟨_, rfl⟩
            replace hP : va_P D classes ws26 H := by rw [e_ws26]; exact hP9
            replace hD : va_D A ws26 := by rw [e_ws26]; exact hD9
            replace hS := hS9
            clear hP9 hD9 hS9
            have f_46_ws26 : ws26[46]? = some ((A46, Sum.inr (8, [Value.int 0, Value.int 0, Value.ref A47, Value.ref A48, Value.ref A49, Value.int 0, Value.ref A50, Value.ref A51, Value.ref A52, Value.ref A53, Value.int 0, Value.int 0, Value.int 0, Value.int (-1), Value.int 0, Value.ref A54, Value.ref A62, Value.ref A70, Value.int 0, Value.int 0, Value.int 0, Value.ref A78, Value.ref A79, Value.int 0, Value.int p0, Value.int p1, u0, Value.ref A80, Value.ref A81, Value.ref A82, Value.int 0, Value.ref A83, Value.int 0, Value.int 0, Value.int 0])) : Nat × va_E) := by rw [e_ws26]; exact gs_self f_46_ws25
            replace hU : gx_g ws ws26 0 [46] := by rw [e_ws26]; exact hU.put (Or.inl (by simp))
            refine lv_aload_n hx hb d_Mo_limits_46 rfl (lv_at hl 0 rfl) ?_
            refine lv_iconst (v := 0) hx hb d_Mo_limits_47 (by decide) ?_
            refine lv_iconst (v := 1) hx hb d_Mo_limits_48 (by decide) ?_
            refine gx_call (ig := .invokevirtual 148) (c_Mo_done_v2 l htr D tys z _ ws26 A46 A47 A48 A49 A50 A51 A52 A53 A54 A62 A70 A78 A79 p0 p1 (u0) A80 A81 A82 A83 f_46_ws26) (gx_invV (As := [Value.int 0, Value.int 1]) (rest := []) hx hb hown hts km_Mo_148 kI_Mo_done kV_Mo_done kc_Mo_done (by decide) (show (parseMethodDescriptor y_Mo_done.desc).map (fun d => d.parameters.length) = some 2 by decide +kernel) (gx_recv (ci := 8) hK hP rfl f_46_ws26) rfl rfl d_Mo_limits_49) (gx_cw (z := 0) hts kc_Mo_done kN_Mo rfl rfl ⟨Nat.le_of_ble_eq_true rfl, Nat.le_of_ble_eq_true rfl⟩) hb hml gx_blind (gx_pre hz hP hK hD hY hS hAz [Value.ref A46, Value.int 0, Value.int 1]) rfl hl.1 (lv_room (Nat.le_of_ble_eq_true rfl)) d_Mo_limits_49 ⟨Nat.le_of_ble_eq_true rfl, Nat.le_of_ble_eq_true rfl⟩ (fun v27 st27 t27 L27 h0_27 hW_27 hQ_27 hL_27 => ?_) (fun v27 st27 t27 L27 h0_27 hW_27 hQ_27 hL_27 => ?_)
            · obtain ⟨ws28, hp, hP9, -, hD9, hS9⟩ := gx_back h0_27 hW_27 hQ_27 hL_27 hD hS hA
              clear hQ_27 h0_27 hL_27 hW_27 hP hD hS
              have hP := hP9
              have hD := hD9
              have hS := hS9
              clear hP9 hD9 hS9
              rcases hp with ⟨hv9, e_ws28, f_46_ws28⟩
              cases hv9
              have f_46_ws28 : ws28[46]? = some ((A46, Sum.inr (8, [Value.int 0, Value.int 0, Value.ref A47, Value.ref A48, Value.ref A49, Value.int 0, Value.ref A50, Value.ref A51, Value.ref A52, Value.ref A53, Value.int 0, Value.int 0, Value.int 0, Value.int (-1), Value.int 0, Value.ref A54, Value.ref A62, Value.ref A70, Value.int 0, Value.int 0, Value.int 0, Value.ref A78, Value.ref A79, Value.int 0, Value.int p0, Value.int p1, u0, Value.ref A80, Value.ref A81, Value.ref A82, Value.int 0, Value.ref A83, Value.int 0, Value.int 0, Value.int 0])) : Nat × va_E) := f_46_ws28
              replace hU : gx_g ws ws28 0 [46] := hU.call e_ws28 (by simp; first | done | omega)
              refine W.eq (g2 := F0 m 52 ls [Value.int 0]) rfl ?_
              generalize t27.heap = H at hP hS ⊢
              generalize locs ++ L27 = locs at hS ⊢
              refine lv_istore_n (lv' := [(3, Value.int 0), (0, Value.ref A46), (1, Value.int p0), (2, Value.int p1)]) hx hb d_Mo_limits_52 rfl hl (by decide) rfl (fun ls hl => ?_)
              exact gx_ret (W.vret hx hb hr (gx_post hP hK hD hS (by rw [← hPQ]; exact Or.inr (Or.inr (Or.inr (Or.inl ⟨rfl, hU, f_46_ws28, c3_1, c10_8, c15_15, c21_22⟩))))) hS.2.2 d_Mo_limits_53)
            · obtain ⟨E9, ws29, ce, hp, hce, hP9, -, hD9, hS9⟩ := gx_backT h0_27 hW_27 hQ_27 hL_27 hD hS hA
              clear hQ_27 h0_27 hL_27 hW_27 hP hD hS
              have hP := hP9
              have hD := hD9
              have hS := hS9
              clear hP9 hD9 hS9
              rcases hp with ⟨hv9, e_ws29, f_46_ws29⟩
              cases hv9
          · obtain ⟨E9, ws30, ce, hp, hce, hP9, -, hD9, hS9⟩ := gx_backT h0_23 hW_23 hQ_23 hL_23 hD hS hA
            clear hQ_23 h0_23 hL_23 hW_23 hP hD hS
            have hP := hP9
            have hD := hD9
            have hS := hS9
            clear hP9 hD9 hS9
            rcases hp with ⟨hv9, e_ws30⟩
            cases hv9
        · refine lv_iconst (v := 1) hx hb d_Mo_limits_24 (by decide) ?_
          refine lv_goto (tgt := 29) hx hb d_Mo_limits_25 (by decide) ?_
          refine lv_iconst (v := 1) hx hb d_Mo_limits_29 (by decide) ?_
          refine gx_call (ig := .invokevirtual 152) (c_Mo_wrong_v1 l htr D tys z _ ws A46 A47 A48 A49 A50 A51 A52 A53 A54 A62 A70 A78 A79 (u0) A80 A81 A82 A83 f_46) (gx_invV (As := [Value.int 1, Value.int 1]) (rest := []) hx hb hown hts km_Mo_152 kI_Mo_wrong kV_Mo_wrong kc_Mo_wrong (by decide) (show (parseMethodDescriptor y_Mo_wrong.desc).map (fun d => d.parameters.length) = some 2 by decide +kernel) (gx_recv (ci := 8) hK hP rfl f_46) rfl rfl d_Mo_limits_30) (gx_cw (z := 0) hts kc_Mo_wrong kN_Mo rfl rfl ⟨Nat.le_of_ble_eq_true rfl, Nat.le_of_ble_eq_true rfl⟩) hb hml gx_blind (gx_pre hz hP hK hD hY hS hAz [Value.ref A46, Value.int 1, Value.int 1]) rfl hl.1 (lv_room (Nat.le_of_ble_eq_true rfl)) d_Mo_limits_30 ⟨Nat.le_of_ble_eq_true rfl, Nat.le_of_ble_eq_true rfl⟩ (fun v31 st31 t31 L31 h0_31 hW_31 hQ_31 hL_31 => ?_) (fun v31 st31 t31 L31 h0_31 hW_31 hQ_31 hL_31 => ?_)
          · obtain ⟨ws32, hp, hP9, -, hD9, hS9⟩ := gx_back h0_31 hW_31 hQ_31 hL_31 hD hS hA
            clear hQ_31 h0_31 hL_31 hW_31 hP hD hS
            have hP := hP9
            have hD := hD9
            have hS := hS9
            clear hP9 hD9 hS9
            rcases hp with ⟨hv9, e_ws32, f_46_ws32⟩
            cases hv9
            have f_46_ws32 : ws32[46]? = some ((A46, Sum.inr (8, [Value.int 1, Value.int 0, Value.ref A47, Value.ref A48, Value.ref A49, Value.int 0, Value.ref A50, Value.ref A51, Value.ref A52, Value.ref A53, Value.int 0, Value.int 0, Value.int 0, Value.int (-1), Value.int 0, Value.ref A54, Value.ref A62, Value.ref A70, Value.int 0, Value.int 0, Value.int 0, Value.ref A78, Value.ref A79, Value.int 0, Value.int 16, Value.int 4, u0, Value.ref A80, Value.ref A81, Value.ref A82, Value.int 0, Value.ref A83, Value.int 0, Value.int 0, Value.int 0])) : Nat × va_E) := f_46_ws32
            replace hU : gx_g ws ws32 0 [46] := hU.call e_ws32 (by simp; first | done | omega)
            refine W.eq (g2 := F0 m 33 ls [Value.int 1]) rfl ?_
            generalize t31.heap = H at hP hS ⊢
            generalize [] ++ L31 = locs at hS ⊢
            refine lv_if_ne (tgt := 46) hx hb d_Mo_limits_33 (by decide) (fun _ => ?_) (fun c9 => absurd c9 (by decide))
            refine lv_aload_n hx hb d_Mo_limits_46 rfl (lv_at hl 0 rfl) ?_
            refine lv_iconst (v := 0) hx hb d_Mo_limits_47 (by decide) ?_
            refine lv_iconst (v := 1) hx hb d_Mo_limits_48 (by decide) ?_
            refine gx_call (ig := .invokevirtual 148) (c_Mo_done_v1 l htr D tys z _ ws32 A46 A47 A48 A49 A50 A51 A52 A53 A54 A62 A70 A78 A79 (u0) A80 A81 A82 A83 f_46_ws32) (gx_invV (As := [Value.int 0, Value.int 1]) (rest := []) hx hb hown hts km_Mo_148 kI_Mo_done kV_Mo_done kc_Mo_done (by decide) (show (parseMethodDescriptor y_Mo_done.desc).map (fun d => d.parameters.length) = some 2 by decide +kernel) (gx_recv (ci := 8) hK hP rfl f_46_ws32) rfl rfl d_Mo_limits_49) (gx_cw (z := 0) hts kc_Mo_done kN_Mo rfl rfl ⟨Nat.le_of_ble_eq_true rfl, Nat.le_of_ble_eq_true rfl⟩) hb hml gx_blind (gx_pre hz hP hK hD hY hS hAz [Value.ref A46, Value.int 0, Value.int 1]) rfl hl.1 (lv_room (Nat.le_of_ble_eq_true rfl)) d_Mo_limits_49 ⟨Nat.le_of_ble_eq_true rfl, Nat.le_of_ble_eq_true rfl⟩ (fun v33 st33 t33 L33 h0_33 hW_33 hQ_33 hL_33 => ?_) (fun v33 st33 t33 L33 h0_33 hW_33 hQ_33 hL_33 => ?_)
            · obtain ⟨ws34, hp, hP9, -, hD9, hS9⟩ := gx_back h0_33 hW_33 hQ_33 hL_33 hD hS hA
              clear hQ_33 h0_33 hL_33 hW_33 hP hD hS
              have hP := hP9
              have hD := hD9
              have hS := hS9
              clear hP9 hD9 hS9
              rcases hp with ⟨hv9, e_ws34, f_46_ws34⟩
              cases hv9
              have f_46_ws34 : ws34[46]? = some ((A46, Sum.inr (8, [Value.int 0, Value.int 1, Value.ref A47, Value.ref A48, Value.ref A49, Value.int 0, Value.ref A50, Value.ref A51, Value.ref A52, Value.ref A53, Value.int 0, Value.int 0, Value.int 0, Value.int (-1), Value.int 0, Value.ref A54, Value.ref A62, Value.ref A70, Value.int 0, Value.int 0, Value.int 0, Value.ref A78, Value.ref A79, Value.int 0, Value.int 16, Value.int 4, u0, Value.ref A80, Value.ref A81, Value.ref A82, Value.int 0, Value.ref A83, Value.int 0, Value.int 0, Value.int 0])) : Nat × va_E) := f_46_ws34
              replace hU : gx_g ws ws34 0 [46] := hU.call e_ws34 (by simp; first | done | omega)
              refine W.eq (g2 := F0 m 52 ls [Value.int 0]) rfl ?_
              generalize t33.heap = H at hP hS ⊢
              generalize locs ++ L33 = locs at hS ⊢
              refine lv_istore_n (lv' := [(3, Value.int 0), (0, Value.ref A46), (1, Value.int p0), (2, Value.int p1)]) hx hb d_Mo_limits_52 rfl hl (by decide) rfl (fun ls hl => ?_)
              exact gx_ret (W.vret hx hb hr (gx_post hP hK hD hS (by rw [← hPQ]; exact Or.inr (Or.inr (Or.inr (Or.inr (⟨rfl, hU, f_46_ws34, c3_1, c10_8, c15_15, c21_22⟩)))))) hS.2.2 d_Mo_limits_53)
            · obtain ⟨E9, ws35, ce, hp, hce, hP9, -, hD9, hS9⟩ := gx_backT h0_33 hW_33 hQ_33 hL_33 hD hS hA
              clear hQ_33 h0_33 hL_33 hW_33 hP hD hS
              have hP := hP9
              have hD := hD9
              have hS := hS9
              clear hP9 hD9 hS9
              rcases hp with ⟨hv9, e_ws35, f_46_ws35⟩
              cases hv9
          · obtain ⟨E9, ws36, ce, hp, hce, hP9, -, hD9, hS9⟩ := gx_backT h0_31 hW_31 hQ_31 hL_31 hD hS hA
            clear hQ_31 h0_31 hL_31 hW_31 hP hD hS
            have hP := hP9
            have hD := hD9
            have hS := hS9
            clear hP9 hD9 hS9
            rcases hp with ⟨hv9, e_ws36, f_46_ws36⟩
            cases hv9

set_option maxHeartbeats 4000000 in
set_option maxRecDepth 100000 in
theorem c_Mo_done_v3 (l : Launch) (htr : l.stackTraces = false) (D : va_G) (tys : List (ClassId × FieldType)) (z sz : Nat) (ws : va_W) (A46 : Nat) (A47 : Nat) (A48 : Nat) (A49 : Nat) (A50 : Nat) (A51 : Nat) (A52 : Nat) (A53 : Nat) (p0 : Int32) (A54 : Nat) (A62 : Nat) (A70 : Nat) (A78 : Nat) (A79 : Nat) (u0 : Value) (A80 : Nat) (A81 : Nat) (A82 : Nat) (A83 : Nat) (f_46 : ws[46]? = some ((A46, Sum.inr (8, [Value.int 0, Value.int 0, Value.ref A47, Value.ref A48, Value.ref A49, Value.int 0, Value.ref A50, Value.ref A51, Value.ref A52, Value.ref A53, Value.int 0, Value.int 0, Value.int 0, Value.int p0, Value.int 0, Value.ref A54, Value.ref A62, Value.ref A70, Value.int 0, Value.int 0, Value.int 0, Value.ref A78, Value.ref A79, Value.int 0, Value.int 16, Value.int 4, u0, Value.ref A80, Value.ref A81, Value.ref A82, Value.int 0, Value.ref A83, Value.int 0, Value.int 0, Value.int 0])) : Nat × va_E)) : gx_Met l y_Mo_done [Cond.code y_Mo_done b_Mo_done 6 (some .int)] { frames := 1, cells := 0, slots := 0, locals := 12 } (gx_P z sz D classes tys ws [Value.ref A46, Value.int 0, Value.int 1]) (gx_Q D classes tys (va_A ws sz) (fun r ws' => (r = Sum.inl (some (Value.int 0)) ∧ gx_g ws ws' 0 [46] ∧ ws'[46]? = some ((A46, Sum.inr (8, [Value.int 0, Value.int 0, Value.ref A47, Value.ref A48, Value.ref A49, Value.int 0, Value.ref A50, Value.ref A51, Value.ref A52, Value.ref A53, Value.int 0, Value.int 0, Value.int 0, Value.int p0, Value.int 0, Value.ref A54, Value.ref A62, Value.ref A70, Value.int 0, Value.int 0, Value.int 0, Value.ref A78, Value.ref A79, Value.int 0, Value.int 16, Value.int 4, u0, Value.ref A80, Value.ref A81, Value.ref A82, Value.int 0, Value.ref A83, Value.int 0, Value.int 0, Value.int 0])) : Nat × va_E)))) 0 0 (va_A ws sz) := by
  refine gx_ofW (cc := b_Mo_done) (maxL := 6) (ret := (some .int)) (by decide) rfl ?_
  intro p e s m args below meth c s₁ B hml hv
  obtain ⟨rfl, hsz, hz, hP, hK, hD0, hY⟩ := hv
  have hx := B.exec
  have hb := B.bytes
  have hr := B.returns
  have hts := hY.hts (#[Value.ref A46, Value.int 0, Value.int 1] : Array Value)
  have hown : s.vm.findClass "CommitLedgerModel" = some m.cls := findClass_of_methodNamed B.named
  have hlocks := B.notSynchronized
  have hne : c.exceptionTable.isEmpty = true := B.noHandlers (atoms_spec (ws := [Cond.code y_Mo_done b_Mo_done 6 (some .int)]) B.pre _ List.mem_cons_self)
  subst hsz
  have hAz := gx_az hD0 hz
  have hD := hD0.self (sz := s.heap.size)
  have hN := gx_ns hP
  have hA : ∀ q : Nat, s.heap.size ≤ q → va_A ws s.heap.size q := fun q h => Or.inr h
  generalize va_A ws s.heap.size = A at hD hN hA hAz ⊢
  generalize hPQ : (fun (r : Option Value ⊕ String) (ws' : va_W) => (r = Sum.inl (some (Value.int 0)) ∧ gx_g ws ws' 0 [46] ∧ ws'[46]? = some ((A46, Sum.inr (8, [Value.int 0, Value.int 0, Value.ref A47, Value.ref A48, Value.ref A49, Value.int 0, Value.ref A50, Value.ref A51, Value.ref A52, Value.ref A53, Value.int 0, Value.int 0, Value.int 0, Value.int p0, Value.int 0, Value.ref A54, Value.ref A62, Value.ref A70, Value.int 0, Value.int 0, Value.int 0, Value.ref A78, Value.ref A79, Value.int 0, Value.int 16, Value.int 4, u0, Value.ref A80, Value.ref A81, Value.ref A82, Value.int 0, Value.ref A83, Value.int 0, Value.int 0, Value.int 0])) : Nat × va_E))) = PQ
  have hS : va_S A s.heap s.heap [] := va_S.rf
  have hU : gx_g ws ws 0 [46] := gx_g.rf
  have hl := lv_entry ([Value.ref A46, Value.int 0, Value.int 1]) (n := 6) (Nat.le_of_ble_eq_true rfl)
  rw [lg_entry_eq]
  generalize (lg_sl ([Value.ref A46, Value.int 0, Value.int 1]) ++ List.replicate (6 - (lg_sl ([Value.ref A46, Value.int 0, Value.int 1])).length) Slot.unset).toArray = ls at hl ⊢
  have hl : lv_has ls 6 [(0, Value.ref A46), (1, Value.int 0), (2, Value.int 1)] := hl
  refine lv_aload_n hx hb d_Mo_done_0 rfl (lv_at hl 0 rfl) ?_
  refine lv_iconst (v := 0) hx hb d_Mo_done_1 (by decide) ?_
  refine va_put (D := D) (ci := 8) (v := Value.int 0) (ty := .int) (C := "CommitLedgerModel") (T := F_Mo) (N := 35) hx hb hts i_Mo t_Mo t_Mo_ok n_Mo hown hK hP hD hS 46 f_46 rfl 1 (by decide) (hts _ kf_Mo_80) (fun _ h9 => h9) rfl (by decide +kernel) rfl rfl (Nat.le_of_ble_eq_true rfl) d_Mo_done_2 (fun H locs hP9 hD9 hS9 => ?_)
  obtain ⟨ws1, e_ws1⟩ : ∃ x : va_W, x = ws.set 46 ((A46, Sum.inr (8, [Value.int 0, Value.int 0, Value.ref A47, Value.ref A48, Value.ref A49, Value.int 0, Value.ref A50, Value.ref A51, Value.ref A52, Value.ref A53, Value.int 0, Value.int 0, Value.int 0, Value.int p0, Value.int 0, Value.ref A54, Value.ref A62, Value.ref A70, Value.int 0, Value.int 0, Value.int 0, Value.ref A78, Value.ref A79, Value.int 0, Value.int 16, Value.int 4, u0, Value.ref A80, Value.ref A81, Value.ref A82, Value.int 0, Value.ref A83, Value.int 0, Value.int 0, Value.int 0])) : Nat × va_E) := ⟨_, rfl⟩
  replace hP : va_P D classes ws1 H := by rw [e_ws1]; exact hP9
  replace hD : va_D A ws1 := by rw [e_ws1]; exact hD9
  replace hS := hS9
  clear hP9 hD9 hS9
  have f_46_ws1 : ws1[46]? = some ((A46, Sum.inr (8, [Value.int 0, Value.int 0, Value.ref A47, Value.ref A48, Value.ref A49, Value.int 0, Value.ref A50, Value.ref A51, Value.ref A52, Value.ref A53, Value.int 0, Value.int 0, Value.int 0, Value.int p0, Value.int 0, Value.ref A54, Value.ref A62, Value.ref A70, Value.int 0, Value.int 0, Value.int 0, Value.ref A78, Value.ref A79, Value.int 0, Value.int 16, Value.int 4, u0, Value.ref A80, Value.ref A81, Value.ref A82, Value.int 0, Value.ref A83, Value.int 0, Value.int 0, Value.int 0])) : Nat × va_E) := by rw [e_ws1]; exact gs_self f_46
  replace hU : gx_g ws ws1 0 [46] := by rw [e_ws1]; exact hU.put (Or.inl (by simp))
  refine lv_iconst (v := 0) hx hb d_Mo_done_5 (by decide) ?_
  refine lv_istore_n (lv' := [(3, Value.int 0), (0, Value.ref A46), (1, Value.int 0), (2, Value.int 1)]) hx hb d_Mo_done_6 rfl hl (by decide) rfl (fun ls hl => ?_)
  refine lv_ldc (v := 100000) hx hb hown (hts _ ki_Mo_83) d_Mo_done_7 ?_
  refine lv_istore (lv' := [(4, Value.int 100000), (3, Value.int 0), (0, Value.ref A46), (1, Value.int 0), (2, Value.int 1)]) hx hb d_Mo_done_9 hl (by decide) rfl (fun ls hl => ?_)
  refine lv_iload hx hb d_Mo_done_11 (lv_at hl 0 rfl) ?_
  refine lv_if_le (tgt := 60) hx hb d_Mo_done_13 (by decide) (fun c9 => absurd c9 (by decide)) (fun _ => ?_)
  refine lv_iload_n hx hb d_Mo_done_16 rfl (lv_at hl 4 rfl) ?_
  refine lv_iload hx hb d_Mo_done_17 (lv_at hl 0 rfl) ?_
  refine lv_idiv hx hb d_Mo_done_19 (by decide) ?_
  refine gx_topi (y := 0) (by decide) ?_
  refine lv_bipush (v := 10) hx hb d_Mo_done_20 (by decide) ?_
  refine lv_irem hx hb d_Mo_done_22 (by decide) ?_
  refine gx_topi (y := 0) (by decide) ?_
  refine lv_istore (lv' := [(5, Value.int 0), (4, Value.int 100000), (3, Value.int 0), (0, Value.ref A46), (1, Value.int 0), (2, Value.int 1)]) hx hb d_Mo_done_23 hl (by decide) rfl (fun ls hl => ?_)
  refine lv_iload hx hb d_Mo_done_25 (lv_at hl 0 rfl) ?_
  refine lv_if_ne (tgt := 33) hx hb d_Mo_done_27 (by decide) (fun c9 => absurd (by decide) c9) (fun _ => ?_)
  refine lv_goto (tgt := 50) hx hb d_Mo_done_30 (by decide) ?_
  refine lv_iload hx hb d_Mo_done_50 (lv_at hl 1 rfl) ?_
  refine lv_bipush (v := 10) hx hb d_Mo_done_52 (by decide) ?_
  refine lv_idiv hx hb d_Mo_done_54 (by decide) ?_
  refine gx_topi (y := 10000) (by decide) ?_
  refine lv_istore (lv' := [(4, Value.int 10000), (5, Value.int 0), (3, Value.int 0), (0, Value.ref A46), (1, Value.int 0), (2, Value.int 1)]) hx hb d_Mo_done_55 hl (by decide) rfl (fun ls hl => ?_)
  refine lv_goto (tgt := 11) hx hb d_Mo_done_57 (by decide) ?_
  refine lv_iload hx hb d_Mo_done_11 (lv_at hl 0 rfl) ?_
  refine lv_if_le (tgt := 60) hx hb d_Mo_done_13 (by decide) (fun c9 => absurd c9 (by decide)) (fun _ => ?_)
  refine lv_iload_n hx hb d_Mo_done_16 rfl (lv_at hl 5 rfl) ?_
  refine lv_iload hx hb d_Mo_done_17 (lv_at hl 0 rfl) ?_
  refine lv_idiv hx hb d_Mo_done_19 (by decide) ?_
  refine gx_topi (y := 0) (by decide) ?_
  refine lv_bipush (v := 10) hx hb d_Mo_done_20 (by decide) ?_
  refine lv_irem hx hb d_Mo_done_22 (by decide) ?_
  refine gx_topi (y := 0) (by decide) ?_
  refine lv_istore (lv' := [(5, Value.int 0), (4, Value.int 10000), (3, Value.int 0), (0, Value.ref A46), (1, Value.int 0), (2, Value.int 1)]) hx hb d_Mo_done_23 hl (by decide) rfl (fun ls hl => ?_)
  refine lv_iload hx hb d_Mo_done_25 (lv_at hl 0 rfl) ?_
  refine lv_if_ne (tgt := 33) hx hb d_Mo_done_27 (by decide) (fun c9 => absurd (by decide) c9) (fun _ => ?_)
  refine lv_goto (tgt := 50) hx hb d_Mo_done_30 (by decide) ?_
  refine lv_iload hx hb d_Mo_done_50 (lv_at hl 1 rfl) ?_
  refine lv_bipush (v := 10) hx hb d_Mo_done_52 (by decide) ?_
  refine lv_idiv hx hb d_Mo_done_54 (by decide) ?_
  refine gx_topi (y := 1000) (by decide) ?_
  refine lv_istore (lv' := [(4, Value.int 1000), (5, Value.int 0), (3, Value.int 0), (0, Value.ref A46), (1, Value.int 0), (2, Value.int 1)]) hx hb d_Mo_done_55 hl (by decide) rfl (fun ls hl => ?_)
  refine lv_goto (tgt := 11) hx hb d_Mo_done_57 (by decide) ?_
  refine lv_iload hx hb d_Mo_done_11 (lv_at hl 0 rfl) ?_
  refine lv_if_le (tgt := 60) hx hb d_Mo_done_13 (by decide) (fun c9 => absurd c9 (by decide)) (fun _ => ?_)
  refine lv_iload_n hx hb d_Mo_done_16 rfl (lv_at hl 5 rfl) ?_
  refine lv_iload hx hb d_Mo_done_17 (lv_at hl 0 rfl) ?_
  refine lv_idiv hx hb d_Mo_done_19 (by decide) ?_
  refine gx_topi (y := 0) (by decide) ?_
  refine lv_bipush (v := 10) hx hb d_Mo_done_20 (by decide) ?_
  refine lv_irem hx hb d_Mo_done_22 (by decide) ?_
  refine gx_topi (y := 0) (by decide) ?_
  refine lv_istore (lv' := [(5, Value.int 0), (4, Value.int 1000), (3, Value.int 0), (0, Value.ref A46), (1, Value.int 0), (2, Value.int 1)]) hx hb d_Mo_done_23 hl (by decide) rfl (fun ls hl => ?_)
  refine lv_iload hx hb d_Mo_done_25 (lv_at hl 0 rfl) ?_
  refine lv_if_ne (tgt := 33) hx hb d_Mo_done_27 (by decide) (fun c9 => absurd (by decide) c9) (fun _ => ?_)
  refine lv_goto (tgt := 50) hx hb d_Mo_done_30 (by decide) ?_
  refine lv_iload hx hb d_Mo_done_50 (lv_at hl 1 rfl) ?_
  refine lv_bipush (v := 10) hx hb d_Mo_done_52 (by decide) ?_
  refine lv_idiv hx hb d_Mo_done_54 (by decide) ?_
  refine gx_topi (y := 100) (by decide) ?_
  refine lv_istore (lv' := [(4, Value.int 100), (5, Value.int 0), (3, Value.int 0), (0, Value.ref A46), (1, Value.int 0), (2, Value.int 1)]) hx hb d_Mo_done_55 hl (by decide) rfl (fun ls hl => ?_)
  refine lv_goto (tgt := 11) hx hb d_Mo_done_57 (by decide) ?_
  refine lv_iload hx hb d_Mo_done_11 (lv_at hl 0 rfl) ?_
  refine lv_if_le (tgt := 60) hx hb d_Mo_done_13 (by decide) (fun c9 => absurd c9 (by decide)) (fun _ => ?_)
  refine lv_iload_n hx hb d_Mo_done_16 rfl (lv_at hl 5 rfl) ?_
  refine lv_iload hx hb d_Mo_done_17 (lv_at hl 0 rfl) ?_
  refine lv_idiv hx hb d_Mo_done_19 (by decide) ?_
  refine gx_topi (y := 0) (by decide) ?_
  refine lv_bipush (v := 10) hx hb d_Mo_done_20 (by decide) ?_
  refine lv_irem hx hb d_Mo_done_22 (by decide) ?_
  refine gx_topi (y := 0) (by decide) ?_
  refine lv_istore (lv' := [(5, Value.int 0), (4, Value.int 100), (3, Value.int 0), (0, Value.ref A46), (1, Value.int 0), (2, Value.int 1)]) hx hb d_Mo_done_23 hl (by decide) rfl (fun ls hl => ?_)
  refine lv_iload hx hb d_Mo_done_25 (lv_at hl 0 rfl) ?_
  refine lv_if_ne (tgt := 33) hx hb d_Mo_done_27 (by decide) (fun c9 => absurd (by decide) c9) (fun _ => ?_)
  refine lv_goto (tgt := 50) hx hb d_Mo_done_30 (by decide) ?_
  refine lv_iload hx hb d_Mo_done_50 (lv_at hl 1 rfl) ?_
  refine lv_bipush (v := 10) hx hb d_Mo_done_52 (by decide) ?_
  refine lv_idiv hx hb d_Mo_done_54 (by decide) ?_
  refine gx_topi (y := 10) (by decide) ?_
  refine lv_istore (lv' := [(4, Value.int 10), (5, Value.int 0), (3, Value.int 0), (0, Value.ref A46), (1, Value.int 0), (2, Value.int 1)]) hx hb d_Mo_done_55 hl (by decide) rfl (fun ls hl => ?_)
  refine lv_goto (tgt := 11) hx hb d_Mo_done_57 (by decide) ?_
  refine lv_iload hx hb d_Mo_done_11 (lv_at hl 0 rfl) ?_
  refine lv_if_le (tgt := 60) hx hb d_Mo_done_13 (by decide) (fun c9 => absurd c9 (by decide)) (fun _ => ?_)
  refine lv_iload_n hx hb d_Mo_done_16 rfl (lv_at hl 5 rfl) ?_
  refine lv_iload hx hb d_Mo_done_17 (lv_at hl 0 rfl) ?_
  refine lv_idiv hx hb d_Mo_done_19 (by decide) ?_
  refine gx_topi (y := 0) (by decide) ?_
  refine lv_bipush (v := 10) hx hb d_Mo_done_20 (by decide) ?_
  refine lv_irem hx hb d_Mo_done_22 (by decide) ?_
  refine gx_topi (y := 0) (by decide) ?_
  refine lv_istore (lv' := [(5, Value.int 0), (4, Value.int 10), (3, Value.int 0), (0, Value.ref A46), (1, Value.int 0), (2, Value.int 1)]) hx hb d_Mo_done_23 hl (by decide) rfl (fun ls hl => ?_)
  refine lv_iload hx hb d_Mo_done_25 (lv_at hl 0 rfl) ?_
  refine lv_if_ne (tgt := 33) hx hb d_Mo_done_27 (by decide) (fun c9 => absurd (by decide) c9) (fun _ => ?_)
  refine lv_goto (tgt := 50) hx hb d_Mo_done_30 (by decide) ?_
  refine lv_iload hx hb d_Mo_done_50 (lv_at hl 1 rfl) ?_
  refine lv_bipush (v := 10) hx hb d_Mo_done_52 (by decide) ?_
  refine lv_idiv hx hb d_Mo_done_54 (by decide) ?_
  refine gx_topi (y := 1) (by decide) ?_
  refine lv_istore (lv' := [(4, Value.int 1), (5, Value.int 0), (3, Value.int 0), (0, Value.ref A46), (1, Value.int 0), (2, Value.int 1)]) hx hb d_Mo_done_55 hl (by decide) rfl (fun ls hl => ?_)
  refine lv_goto (tgt := 11) hx hb d_Mo_done_57 (by decide) ?_
  refine lv_iload hx hb d_Mo_done_11 (lv_at hl 0 rfl) ?_
  refine lv_if_le (tgt := 60) hx hb d_Mo_done_13 (by decide) (fun c9 => absurd c9 (by decide)) (fun _ => ?_)
  refine lv_iload_n hx hb d_Mo_done_16 rfl (lv_at hl 5 rfl) ?_
  refine lv_iload hx hb d_Mo_done_17 (lv_at hl 0 rfl) ?_
  refine lv_idiv hx hb d_Mo_done_19 (by decide) ?_
  refine gx_topi (y := 1) (by decide) ?_
  refine lv_bipush (v := 10) hx hb d_Mo_done_20 (by decide) ?_
  refine lv_irem hx hb d_Mo_done_22 (by decide) ?_
  refine gx_topi (y := 1) (by decide) ?_
  refine lv_istore (lv' := [(5, Value.int 1), (4, Value.int 1), (3, Value.int 0), (0, Value.ref A46), (1, Value.int 0), (2, Value.int 1)]) hx hb d_Mo_done_23 hl (by decide) rfl (fun ls hl => ?_)
  refine lv_iload hx hb d_Mo_done_25 (lv_at hl 0 rfl) ?_
  refine lv_if_ne (tgt := 33) hx hb d_Mo_done_27 (by decide) (fun _ => ?_) (fun c9 => absurd c9 (by decide))
  refine lv_iinc (v := 1) (lv' := [(3, Value.int 1), (5, Value.int 1), (4, Value.int 1), (0, Value.ref A46), (1, Value.int 0), (2, Value.int 1)]) hx hb d_Mo_done_33 hl (k := 2) rfl (by decide) (by decide) rfl (fun ls hl => ?_)
  refine lv_iload hx hb d_Mo_done_36 (lv_at hl 1 rfl) ?_
  refine lv_aload_n hx hb d_Mo_done_38 rfl (lv_at hl 3 rfl) ?_
  refine va_get (D := D) (ci := 8) (v := Value.int 0) (C := "CommitLedgerModel") (T := F_Mo) (N := 35) hx hb hts i_Mo hown hK hP 46 f_46_ws1 rfl 0 (by decide) (hts _ kf_Mo_84) (fun _ h9 => h9) rfl d_Mo_done_39 ?_
  refine lv_icmp_ne (tgt := 50) hx hb d_Mo_done_42 (by decide) (fun _ => ?_) (fun c9 => absurd c9 (by decide))
  refine lv_iload hx hb d_Mo_done_50 (lv_at hl 2 rfl) ?_
  refine lv_bipush (v := 10) hx hb d_Mo_done_52 (by decide) ?_
  refine lv_idiv hx hb d_Mo_done_54 (by decide) ?_
  refine gx_topi (y := 0) (by decide) ?_
  refine lv_istore (lv' := [(4, Value.int 0), (3, Value.int 1), (5, Value.int 1), (0, Value.ref A46), (1, Value.int 0), (2, Value.int 1)]) hx hb d_Mo_done_55 hl (by decide) rfl (fun ls hl => ?_)
  refine lv_goto (tgt := 11) hx hb d_Mo_done_57 (by decide) ?_
  refine lv_iload hx hb d_Mo_done_11 (lv_at hl 0 rfl) ?_
  refine lv_if_le (tgt := 60) hx hb d_Mo_done_13 (by decide) (fun _ => ?_) (fun c9 => absurd (by decide) c9)
  refine lv_aload_n hx hb d_Mo_done_60 rfl (lv_at hl 3 rfl) ?_
  refine lv_iconst (v := 0) hx hb d_Mo_done_61 (by decide) ?_
  refine va_put (D := D) (ci := 8) (v := Value.int 0) (ty := .int) (C := "CommitLedgerModel") (T := F_Mo) (N := 35) hx hb hts i_Mo t_Mo t_Mo_ok n_Mo hown hK hP hD hS 46 f_46_ws1 rfl 0 (by decide) (hts _ kf_Mo_84) (fun _ h9 => h9) rfl (by decide +kernel) rfl rfl (Nat.le_of_ble_eq_true rfl) d_Mo_done_62 (fun H locs hP9 hD9 hS9 => ?_)
  obtain ⟨ws2, e_ws2⟩ : ∃ x : va_W, x = ws1.set 46 ((A46, Sum.inr (8, [Value.int 0, Value.int 0, Value.ref A47, Value.ref A48, Value.ref A49, Value.int 0, Value.ref A50, Value.ref A51, Value.ref A52, Value.ref A53, Value.int 0, Value.int 0, Value.int 0, Value.int p0, Value.int 0, Value.ref A54, Value.ref A62, Value.ref A70, Value.int 0, Value.int 0, Value.int 0, Value.ref A78, Value.ref A79, Value.int 0, Value.int 16, Value.int 4, u0, Value.ref A80, Value.ref A81, Value.ref A82, Value.int 0, Value.ref A83, Value.int 0, Value.int 0, Value.int 0])) : Nat × va_E) := ⟨_, rfl⟩
  replace hP : va_P D classes ws2 H := by rw [e_ws2]; exact hP9
  replace hD : va_D A ws2 := by rw [e_ws2]; exact hD9
  replace hS := hS9
  clear hP9 hD9 hS9
  have f_46_ws2 : ws2[46]? = some ((A46, Sum.inr (8, [Value.int 0, Value.int 0, Value.ref A47, Value.ref A48, Value.ref A49, Value.int 0, Value.ref A50, Value.ref A51, Value.ref A52, Value.ref A53, Value.int 0, Value.int 0, Value.int 0, Value.int p0, Value.int 0, Value.ref A54, Value.ref A62, Value.ref A70, Value.int 0, Value.int 0, Value.int 0, Value.ref A78, Value.ref A79, Value.int 0, Value.int 16, Value.int 4, u0, Value.ref A80, Value.ref A81, Value.ref A82, Value.int 0, Value.ref A83, Value.int 0, Value.int 0, Value.int 0])) : Nat × va_E) := by rw [e_ws2]; exact gs_self f_46_ws1
  replace hU : gx_g ws ws2 0 [46] := by rw [e_ws2]; exact hU.put (Or.inl (by simp))
  refine lv_aload_n hx hb d_Mo_done_65 rfl (lv_at hl 3 rfl) ?_
  refine va_get (D := D) (ci := 8) (v := Value.int 0) (C := "CommitLedgerModel") (T := F_Mo) (N := 35) hx hb hts i_Mo hown hK hP 46 f_46_ws2 rfl 1 (by decide) (hts _ kf_Mo_80) (fun _ h9 => h9) rfl d_Mo_done_66 ?_
  refine lv_if_le (tgt := 76) hx hb d_Mo_done_69 (by decide) (fun _ => ?_) (fun c9 => absurd (by decide) c9)
  refine lv_iload_n hx hb d_Mo_done_76 rfl (lv_at hl 4 rfl) ?_
  exact gx_ret (W.iret (v := 0) hx hb hr (gx_post hP hK hD hS (by rw [← hPQ]; exact ⟨rfl, hU, f_46_ws2⟩)) hS.2.2 d_Mo_done_77)

set_option maxHeartbeats 4000000 in
set_option maxRecDepth 100000 in
theorem c_Mo_power_v1 (l : Launch) (htr : l.stackTraces = false) (D : va_G) (tys : List (ClassId × FieldType)) (z sz : Nat) (ws : va_W) (A46 : Nat) (p0 : Int32) (A47 : Nat) (A48 : Nat) (A49 : Nat) (A50 : Nat) (A51 : Nat) (A52 : Nat) (A53 : Nat) (A54 : Nat) (A62 : Nat) (A70 : Nat) (A78 : Nat) (A79 : Nat) (u0 : Value) (A80 : Nat) (A81 : Nat) (A82 : Nat) (A83 : Nat) (f_46 : ws[46]? = some ((A46, Sum.inr (8, [Value.int 0, Value.int 0, Value.ref A47, Value.ref A48, Value.ref A49, Value.int 0, Value.ref A50, Value.ref A51, Value.ref A52, Value.ref A53, Value.int 0, Value.int 0, Value.int 0, Value.int (-1), Value.int 0, Value.ref A54, Value.ref A62, Value.ref A70, Value.int 0, Value.int 0, Value.int 0, Value.ref A78, Value.ref A79, Value.int 0, Value.int 16, Value.int 4, u0, Value.ref A80, Value.ref A81, Value.ref A82, Value.int 0, Value.ref A83, Value.int 0, Value.int 0, Value.int 0])) : Nat × va_E)) : gx_Met l y_Mo_power [Cond.code y_Mo_power b_Mo_power 3 none] { frames := 2, cells := 0, slots := 0, locals := 37 } (gx_P z sz D classes tys ws [Value.ref A46, Value.int p0]) (gx_Q D classes tys (va_A ws sz) (fun r ws' => (r = Sum.inl none ∧ gx_g ws ws' 0 [46] ∧ ws'[46]? = some ((A46, Sum.inr (8, [Value.int 0, Value.int 1, Value.ref A47, Value.ref A48, Value.ref A49, Value.int 0, Value.ref A50, Value.ref A51, Value.ref A52, Value.ref A53, Value.int 0, Value.int 0, Value.int 0, Value.int (-1), Value.int 0, Value.ref A54, Value.ref A62, Value.ref A70, Value.int 0, Value.int 0, Value.int 0, Value.ref A78, Value.ref A79, Value.int 0, Value.int 16, Value.int 4, u0, Value.ref A80, Value.ref A81, Value.ref A82, Value.int 0, Value.ref A83, Value.int 0, Value.int 0, Value.int 0])) : Nat × va_E) ∧ p0 < (-1)) ∨ (r = Sum.inl none ∧ gx_g ws ws' 0 [46] ∧ ws'[46]? = some ((A46, Sum.inr (8, [Value.int 0, Value.int 0, Value.ref A47, Value.ref A48, Value.ref A49, Value.int 0, Value.ref A50, Value.ref A51, Value.ref A52, Value.ref A53, Value.int 0, Value.int 0, Value.int 0, Value.int p0, Value.int 0, Value.ref A54, Value.ref A62, Value.ref A70, Value.int 0, Value.int 0, Value.int 0, Value.ref A78, Value.ref A79, Value.int 0, Value.int 16, Value.int 4, u0, Value.ref A80, Value.ref A81, Value.ref A82, Value.int 0, Value.ref A83, Value.int 0, Value.int 0, Value.int 0])) : Nat × va_E) ∧ ¬ p0 < (-1) ∧ p0 ≤ 1000000) ∨ (r = Sum.inl none ∧ gx_g ws ws' 0 [46] ∧ ws'[46]? = some ((A46, Sum.inr (8, [Value.int 0, Value.int 1, Value.ref A47, Value.ref A48, Value.ref A49, Value.int 0, Value.ref A50, Value.ref A51, Value.ref A52, Value.ref A53, Value.int 0, Value.int 0, Value.int 0, Value.int (-1), Value.int 0, Value.ref A54, Value.ref A62, Value.ref A70, Value.int 0, Value.int 0, Value.int 0, Value.ref A78, Value.ref A79, Value.int 0, Value.int 16, Value.int 4, u0, Value.ref A80, Value.ref A81, Value.ref A82, Value.int 0, Value.ref A83, Value.int 0, Value.int 0, Value.int 0])) : Nat × va_E) ∧ ¬ p0 < (-1) ∧ ¬ p0 ≤ 1000000))) 0 0 (va_A ws sz) := by
  refine gx_ofW (cc := b_Mo_power) (maxL := 3) (ret := none) (by decide) rfl ?_
  intro p e s m args below meth c s₁ B hml hv
  obtain ⟨rfl, hsz, hz, hP, hK, hD0, hY⟩ := hv
  have hx := B.exec
  have hb := B.bytes
  have hr := B.returns
  have hts := hY.hts (#[Value.ref A46, Value.int p0] : Array Value)
  have hown : s.vm.findClass "CommitLedgerModel" = some m.cls := findClass_of_methodNamed B.named
  have hlocks := B.notSynchronized
  have hne : c.exceptionTable.isEmpty = true := B.noHandlers (atoms_spec (ws := [Cond.code y_Mo_power b_Mo_power 3 none]) B.pre _ List.mem_cons_self)
  subst hsz
  have hAz := gx_az hD0 hz
  have hD := hD0.self (sz := s.heap.size)
  have hN := gx_ns hP
  have hA : ∀ q : Nat, s.heap.size ≤ q → va_A ws s.heap.size q := fun q h => Or.inr h
  generalize va_A ws s.heap.size = A at hD hN hA hAz ⊢
  generalize hPQ : (fun (r : Option Value ⊕ String) (ws' : va_W) => (r = Sum.inl none ∧ gx_g ws ws' 0 [46] ∧ ws'[46]? = some ((A46, Sum.inr (8, [Value.int 0, Value.int 1, Value.ref A47, Value.ref A48, Value.ref A49, Value.int 0, Value.ref A50, Value.ref A51, Value.ref A52, Value.ref A53, Value.int 0, Value.int 0, Value.int 0, Value.int (-1), Value.int 0, Value.ref A54, Value.ref A62, Value.ref A70, Value.int 0, Value.int 0, Value.int 0, Value.ref A78, Value.ref A79, Value.int 0, Value.int 16, Value.int 4, u0, Value.ref A80, Value.ref A81, Value.ref A82, Value.int 0, Value.ref A83, Value.int 0, Value.int 0, Value.int 0])) : Nat × va_E) ∧ p0 < (-1)) ∨ (r = Sum.inl none ∧ gx_g ws ws' 0 [46] ∧ ws'[46]? = some ((A46, Sum.inr (8, [Value.int 0, Value.int 0, Value.ref A47, Value.ref A48, Value.ref A49, Value.int 0, Value.ref A50, Value.ref A51, Value.ref A52, Value.ref A53, Value.int 0, Value.int 0, Value.int 0, Value.int p0, Value.int 0, Value.ref A54, Value.ref A62, Value.ref A70, Value.int 0, Value.int 0, Value.int 0, Value.ref A78, Value.ref A79, Value.int 0, Value.int 16, Value.int 4, u0, Value.ref A80, Value.ref A81, Value.ref A82, Value.int 0, Value.ref A83, Value.int 0, Value.int 0, Value.int 0])) : Nat × va_E) ∧ ¬ p0 < (-1) ∧ p0 ≤ 1000000) ∨ (r = Sum.inl none ∧ gx_g ws ws' 0 [46] ∧ ws'[46]? = some ((A46, Sum.inr (8, [Value.int 0, Value.int 1, Value.ref A47, Value.ref A48, Value.ref A49, Value.int 0, Value.ref A50, Value.ref A51, Value.ref A52, Value.ref A53, Value.int 0, Value.int 0, Value.int 0, Value.int (-1), Value.int 0, Value.ref A54, Value.ref A62, Value.ref A70, Value.int 0, Value.int 0, Value.int 0, Value.ref A78, Value.ref A79, Value.int 0, Value.int 16, Value.int 4, u0, Value.ref A80, Value.ref A81, Value.ref A82, Value.int 0, Value.ref A83, Value.int 0, Value.int 0, Value.int 0])) : Nat × va_E) ∧ ¬ p0 < (-1) ∧ ¬ p0 ≤ 1000000)) = PQ
  have hS : va_S A s.heap s.heap [] := va_S.rf
  have hU : gx_g ws ws 0 [46] := gx_g.rf
  have hl := lv_entry ([Value.ref A46, Value.int p0]) (n := 3) (Nat.le_of_ble_eq_true rfl)
  rw [lg_entry_eq]
  generalize (lg_sl ([Value.ref A46, Value.int p0]) ++ List.replicate (3 - (lg_sl ([Value.ref A46, Value.int p0])).length) Slot.unset).toArray = ls at hl ⊢
  have hl : lv_has ls 3 [(0, Value.ref A46), (1, Value.int p0)] := hl
  refine lv_aload_n hx hb d_Mo_power_0 rfl (lv_at hl 0 rfl) ?_
  refine lv_iload_n hx hb d_Mo_power_1 rfl (lv_at hl 1 rfl) ?_
  refine lv_iconst (v := (-1)) hx hb d_Mo_power_2 (by decide) ?_
  refine lv_icmp_lt (tgt := 12) hx hb d_Mo_power_3 (by decide) (fun c3_1 => ?_) (fun c3_1 => ?_)
  · refine lv_iconst (v := 1) hx hb d_Mo_power_12 (by decide) ?_
    refine lv_goto (tgt := 17) hx hb d_Mo_power_13 (by decide) ?_
    refine lv_iconst (v := 1) hx hb d_Mo_power_17 (by decide) ?_
    refine gx_call (ig := .invokevirtual 152) (c_Mo_wrong_v1 l htr D tys z _ ws A46 A47 A48 A49 A50 A51 A52 A53 A54 A62 A70 A78 A79 (u0) A80 A81 A82 A83 f_46) (gx_invV (As := [Value.int 1, Value.int 1]) (rest := []) hx hb hown hts km_Mo_152 kI_Mo_wrong kV_Mo_wrong kc_Mo_wrong (by decide) (show (parseMethodDescriptor y_Mo_wrong.desc).map (fun d => d.parameters.length) = some 2 by decide +kernel) (gx_recv (ci := 8) hK hP rfl f_46) rfl rfl d_Mo_power_18) (gx_cw (z := 0) hts kc_Mo_wrong kN_Mo rfl rfl ⟨Nat.le_of_ble_eq_true rfl, Nat.le_of_ble_eq_true rfl⟩) hb hml gx_blind (gx_pre hz hP hK hD hY hS hAz [Value.ref A46, Value.int 1, Value.int 1]) rfl hl.1 (lv_room (Nat.le_of_ble_eq_true rfl)) d_Mo_power_18 ⟨Nat.le_of_ble_eq_true rfl, Nat.le_of_ble_eq_true rfl⟩ (fun v2 st2 t2 L2 h0_2 hW_2 hQ_2 hL_2 => ?_) (fun v2 st2 t2 L2 h0_2 hW_2 hQ_2 hL_2 => ?_)
    · obtain ⟨ws3, hp, hP9, -, hD9, hS9⟩ := gx_back h0_2 hW_2 hQ_2 hL_2 hD hS hA
      clear hQ_2 h0_2 hL_2 hW_2 hP hD hS
      have hP := hP9
      have hD := hD9
      have hS := hS9
      clear hP9 hD9 hS9
      rcases hp with ⟨hv9, e_ws3, f_46_ws3⟩
      cases hv9
      have f_46_ws3 : ws3[46]? = some ((A46, Sum.inr (8, [Value.int 1, Value.int 0, Value.ref A47, Value.ref A48, Value.ref A49, Value.int 0, Value.ref A50, Value.ref A51, Value.ref A52, Value.ref A53, Value.int 0, Value.int 0, Value.int 0, Value.int (-1), Value.int 0, Value.ref A54, Value.ref A62, Value.ref A70, Value.int 0, Value.int 0, Value.int 0, Value.ref A78, Value.ref A79, Value.int 0, Value.int 16, Value.int 4, u0, Value.ref A80, Value.ref A81, Value.ref A82, Value.int 0, Value.ref A83, Value.int 0, Value.int 0, Value.int 0])) : Nat × va_E) := f_46_ws3
      replace hU : gx_g ws ws3 0 [46] := hU.call e_ws3 (by simp; first | done | omega)
      refine W.eq (g2 := F0 m 21 ls [Value.int 1]) rfl ?_
      generalize t2.heap = H at hP hS ⊢
      generalize [] ++ L2 = locs at hS ⊢
      refine lv_if_ne (tgt := 29) hx hb d_Mo_power_21 (by decide) (fun _ => ?_) (fun c9 => absurd c9 (by decide))
      refine lv_aload_n hx hb d_Mo_power_29 rfl (lv_at hl 0 rfl) ?_
      refine lv_iconst (v := 0) hx hb d_Mo_power_30 (by decide) ?_
      refine lv_iconst (v := 1) hx hb d_Mo_power_31 (by decide) ?_
      refine gx_call (ig := .invokevirtual 148) (c_Mo_done_v1 l htr D tys z _ ws3 A46 A47 A48 A49 A50 A51 A52 A53 A54 A62 A70 A78 A79 (u0) A80 A81 A82 A83 f_46_ws3) (gx_invV (As := [Value.int 0, Value.int 1]) (rest := []) hx hb hown hts km_Mo_148 kI_Mo_done kV_Mo_done kc_Mo_done (by decide) (show (parseMethodDescriptor y_Mo_done.desc).map (fun d => d.parameters.length) = some 2 by decide +kernel) (gx_recv (ci := 8) hK hP rfl f_46_ws3) rfl rfl d_Mo_power_32) (gx_cw (z := 0) hts kc_Mo_done kN_Mo rfl rfl ⟨Nat.le_of_ble_eq_true rfl, Nat.le_of_ble_eq_true rfl⟩) hb hml gx_blind (gx_pre hz hP hK hD hY hS hAz [Value.ref A46, Value.int 0, Value.int 1]) rfl hl.1 (lv_room (Nat.le_of_ble_eq_true rfl)) d_Mo_power_32 ⟨Nat.le_of_ble_eq_true rfl, Nat.le_of_ble_eq_true rfl⟩ (fun v4 st4 t4 L4 h0_4 hW_4 hQ_4 hL_4 => ?_) (fun v4 st4 t4 L4 h0_4 hW_4 hQ_4 hL_4 => ?_)
      · obtain ⟨ws5, hp, hP9, -, hD9, hS9⟩ := gx_back h0_4 hW_4 hQ_4 hL_4 hD hS hA
        clear hQ_4 h0_4 hL_4 hW_4 hP hD hS
        have hP := hP9
        have hD := hD9
        have hS := hS9
        clear hP9 hD9 hS9
        rcases hp with ⟨hv9, e_ws5, f_46_ws5⟩
        cases hv9
        have f_46_ws5 : ws5[46]? = some ((A46, Sum.inr (8, [Value.int 0, Value.int 1, Value.ref A47, Value.ref A48, Value.ref A49, Value.int 0, Value.ref A50, Value.ref A51, Value.ref A52, Value.ref A53, Value.int 0, Value.int 0, Value.int 0, Value.int (-1), Value.int 0, Value.ref A54, Value.ref A62, Value.ref A70, Value.int 0, Value.int 0, Value.int 0, Value.ref A78, Value.ref A79, Value.int 0, Value.int 16, Value.int 4, u0, Value.ref A80, Value.ref A81, Value.ref A82, Value.int 0, Value.ref A83, Value.int 0, Value.int 0, Value.int 0])) : Nat × va_E) := f_46_ws5
        replace hU : gx_g ws ws5 0 [46] := hU.call e_ws5 (by simp; first | done | omega)
        refine W.eq (g2 := F0 m 35 ls [Value.int 0]) rfl ?_
        generalize t4.heap = H at hP hS ⊢
        generalize locs ++ L4 = locs at hS ⊢
        refine lv_istore_n (lv' := [(2, Value.int 0), (0, Value.ref A46), (1, Value.int p0)]) hx hb d_Mo_power_35 rfl hl (by decide) rfl (fun ls hl => ?_)
        exact gx_ret (W.vret hx hb hr (gx_post hP hK hD hS (by rw [← hPQ]; exact Or.inl ⟨rfl, hU, f_46_ws5, c3_1⟩)) hS.2.2 d_Mo_power_36)
      · obtain ⟨E9, ws6, ce, hp, hce, hP9, -, hD9, hS9⟩ := gx_backT h0_4 hW_4 hQ_4 hL_4 hD hS hA
        clear hQ_4 h0_4 hL_4 hW_4 hP hD hS
        have hP := hP9
        have hD := hD9
        have hS := hS9
        clear hP9 hD9 hS9
        rcases hp with ⟨hv9, e_ws6, f_46_ws6⟩
        cases hv9
    · obtain ⟨E9, ws7, ce, hp, hce, hP9, -, hD9, hS9⟩ := gx_backT h0_2 hW_2 hQ_2 hL_2 hD hS hA
      clear hQ_2 h0_2 hL_2 hW_2 hP hD hS
      have hP := hP9
      have hD := hD9
      have hS := hS9
      clear hP9 hD9 hS9
      rcases hp with ⟨hv9, e_ws7, f_46_ws7⟩
      cases hv9
  · refine lv_iload_n hx hb d_Mo_power_6 rfl (lv_at hl 1 rfl) ?_
    refine lv_ldc (v := 1000000) hx hb hown (hts _ ki_Mo_249) d_Mo_power_7 ?_
    refine lv_icmp_le (tgt := 16) hx hb d_Mo_power_9 (by decide) (fun c9_8 => ?_) (fun c9_8 => ?_)
    · refine lv_iconst (v := 0) hx hb d_Mo_power_16 (by decide) ?_
      refine lv_iconst (v := 1) hx hb d_Mo_power_17 (by decide) ?_
      refine gx_call (ig := .invokevirtual 152) (c_Mo_wrong_v2 l htr D tys z _ ws A46 A47 A48 A49 A50 A51 A52 A53 A54 A62 A70 A78 A79 (u0) A80 A81 A82 A83 f_46) (gx_invV (As := [Value.int 0, Value.int 1]) (rest := []) hx hb hown hts km_Mo_152 kI_Mo_wrong kV_Mo_wrong kc_Mo_wrong (by decide) (show (parseMethodDescriptor y_Mo_wrong.desc).map (fun d => d.parameters.length) = some 2 by decide +kernel) (gx_recv (ci := 8) hK hP rfl f_46) rfl rfl d_Mo_power_18) (gx_cw (z := 0) hts kc_Mo_wrong kN_Mo rfl rfl ⟨Nat.le_of_ble_eq_true rfl, Nat.le_of_ble_eq_true rfl⟩) hb hml gx_blind (gx_pre hz hP hK hD hY hS hAz [Value.ref A46, Value.int 0, Value.int 1]) rfl hl.1 (lv_room (Nat.le_of_ble_eq_true rfl)) d_Mo_power_18 ⟨Nat.le_of_ble_eq_true rfl, Nat.le_of_ble_eq_true rfl⟩ (fun v9 st9 t9 L9 h0_9 hW_9 hQ_9 hL_9 => ?_) (fun v9 st9 t9 L9 h0_9 hW_9 hQ_9 hL_9 => ?_)
      · obtain ⟨ws10, hp, hP9, -, hD9, hS9⟩ := gx_back h0_9 hW_9 hQ_9 hL_9 hD hS hA
        clear hQ_9 h0_9 hL_9 hW_9 hP hD hS
        have hP := hP9
        have hD := hD9
        have hS := hS9
        clear hP9 hD9 hS9
        rcases hp with ⟨hv9, e_ws10⟩
        cases hv9
        rw [e_ws10] at hP hD
        refine W.eq (g2 := F0 m 21 ls [Value.int 0]) rfl ?_
        generalize t9.heap = H at hP hS ⊢
        generalize [] ++ L9 = locs at hS ⊢
        refine lv_if_ne (tgt := 29) hx hb d_Mo_power_21 (by decide) (fun c9 => absurd (by decide) c9) (fun _ => ?_)
        refine lv_aload_n hx hb d_Mo_power_24 rfl (lv_at hl 0 rfl) ?_
        refine lv_iload_n hx hb d_Mo_power_25 rfl (lv_at hl 1 rfl) ?_
        refine va_put (D := D) (ci := 8) (v := Value.int p0) (ty := .int) (C := "CommitLedgerModel") (T := F_Mo) (N := 35) hx hb hts i_Mo t_Mo t_Mo_ok n_Mo hown hK hP hD hS 46 f_46 rfl 13 (by decide) (hts _ kf_Mo_33) (fun _ h9 => h9) rfl (by decide +kernel) rfl rfl (Nat.le_of_ble_eq_true rfl) d_Mo_power_26 (fun H locs hP9 hD9 hS9 => ?_)
        obtain ⟨ws11, e_ws11⟩ : ∃ x : va_W, x = ws.set 46 ((A46, Sum.inr (8, [Value.int 0, Value.int 0, Value.ref A47, Value.ref A48, Value.ref A49, Value.int 0, Value.ref A50, Value.ref A51, Value.ref A52, Value.ref A53, Value.int 0, Value.int 0, Value.int 0, Value.int p0, Value.int 0, Value.ref A54, Value.ref A62, Value.ref A70, Value.int 0, Value.int 0, Value.int 0, Value.ref A78, Value.ref A79, Value.int 0, Value.int 16, Value.int 4, u0, Value.ref A80, Value.ref A81, Value.ref A82, Value.int 0, Value.ref A83, Value.int 0, Value.int 0, Value.int 0])) : Nat × va_E) := ⟨_, rfl⟩
        replace hP : va_P D classes ws11 H := by rw [e_ws11]; exact hP9
        replace hD : va_D A ws11 := by rw [e_ws11]; exact hD9
        replace hS := hS9
        clear hP9 hD9 hS9
        have f_46_ws11 : ws11[46]? = some ((A46, Sum.inr (8, [Value.int 0, Value.int 0, Value.ref A47, Value.ref A48, Value.ref A49, Value.int 0, Value.ref A50, Value.ref A51, Value.ref A52, Value.ref A53, Value.int 0, Value.int 0, Value.int 0, Value.int p0, Value.int 0, Value.ref A54, Value.ref A62, Value.ref A70, Value.int 0, Value.int 0, Value.int 0, Value.ref A78, Value.ref A79, Value.int 0, Value.int 16, Value.int 4, u0, Value.ref A80, Value.ref A81, Value.ref A82, Value.int 0, Value.ref A83, Value.int 0, Value.int 0, Value.int 0])) : Nat × va_E) := by rw [e_ws11]; exact gs_self f_46
        replace hU : gx_g ws ws11 0 [46] := by rw [e_ws11]; exact hU.put (Or.inl (by simp))
        refine lv_aload_n hx hb d_Mo_power_29 rfl (lv_at hl 0 rfl) ?_
        refine lv_iconst (v := 0) hx hb d_Mo_power_30 (by decide) ?_
        refine lv_iconst (v := 1) hx hb d_Mo_power_31 (by decide) ?_
        refine gx_call (ig := .invokevirtual 148) (c_Mo_done_v3 l htr D tys z _ ws11 A46 A47 A48 A49 A50 A51 A52 A53 p0 A54 A62 A70 A78 A79 (u0) A80 A81 A82 A83 f_46_ws11) (gx_invV (As := [Value.int 0, Value.int 1]) (rest := []) hx hb hown hts km_Mo_148 kI_Mo_done kV_Mo_done kc_Mo_done (by decide) (show (parseMethodDescriptor y_Mo_done.desc).map (fun d => d.parameters.length) = some 2 by decide +kernel) (gx_recv (ci := 8) hK hP rfl f_46_ws11) rfl rfl d_Mo_power_32) (gx_cw (z := 0) hts kc_Mo_done kN_Mo rfl rfl ⟨Nat.le_of_ble_eq_true rfl, Nat.le_of_ble_eq_true rfl⟩) hb hml gx_blind (gx_pre hz hP hK hD hY hS hAz [Value.ref A46, Value.int 0, Value.int 1]) rfl hl.1 (lv_room (Nat.le_of_ble_eq_true rfl)) d_Mo_power_32 ⟨Nat.le_of_ble_eq_true rfl, Nat.le_of_ble_eq_true rfl⟩ (fun v12 st12 t12 L12 h0_12 hW_12 hQ_12 hL_12 => ?_) (fun v12 st12 t12 L12 h0_12 hW_12 hQ_12 hL_12 => ?_)
        · obtain ⟨ws13, hp, hP9, -, hD9, hS9⟩ := gx_back h0_12 hW_12 hQ_12 hL_12 hD hS hA
          clear hQ_12 h0_12 hL_12 hW_12 hP hD hS
          have hP := hP9
          have hD := hD9
          have hS := hS9
          clear hP9 hD9 hS9
          rcases hp with ⟨hv9, e_ws13, f_46_ws13⟩
          cases hv9
          have f_46_ws13 : ws13[46]? = some ((A46, Sum.inr (8, [Value.int 0, Value.int 0, Value.ref A47, Value.ref A48, Value.ref A49, Value.int 0, Value.ref A50, Value.ref A51, Value.ref A52, Value.ref A53, Value.int 0, Value.int 0, Value.int 0, Value.int p0, Value.int 0, Value.ref A54, Value.ref A62, Value.ref A70, Value.int 0, Value.int 0, Value.int 0, Value.ref A78, Value.ref A79, Value.int 0, Value.int 16, Value.int 4, u0, Value.ref A80, Value.ref A81, Value.ref A82, Value.int 0, Value.ref A83, Value.int 0, Value.int 0, Value.int 0])) : Nat × va_E) := f_46_ws13
          replace hU : gx_g ws ws13 0 [46] := hU.call e_ws13 (by simp; first | done | omega)
          refine W.eq (g2 := F0 m 35 ls [Value.int 0]) rfl ?_
          generalize t12.heap = H at hP hS ⊢
          generalize locs ++ L12 = locs at hS ⊢
          refine lv_istore_n (lv' := [(2, Value.int 0), (0, Value.ref A46), (1, Value.int p0)]) hx hb d_Mo_power_35 rfl hl (by decide) rfl (fun ls hl => ?_)
          exact gx_ret (W.vret hx hb hr (gx_post hP hK hD hS (by rw [← hPQ]; exact Or.inr (Or.inl ⟨rfl, hU, f_46_ws13, c3_1, c9_8⟩))) hS.2.2 d_Mo_power_36)
        · obtain ⟨E9, ws14, ce, hp, hce, hP9, -, hD9, hS9⟩ := gx_backT h0_12 hW_12 hQ_12 hL_12 hD hS hA
          clear hQ_12 h0_12 hL_12 hW_12 hP hD hS
          have hP := hP9
          have hD := hD9
          have hS := hS9
          clear hP9 hD9 hS9
          rcases hp with ⟨hv9, e_ws14, f_46_ws14⟩
          cases hv9
      · obtain ⟨E9, ws15, ce, hp, hce, hP9, -, hD9, hS9⟩ := gx_backT h0_9 hW_9 hQ_9 hL_9 hD hS hA
        clear hQ_9 h0_9 hL_9 hW_9 hP hD hS
        have hP := hP9
        have hD := hD9
        have hS := hS9
        clear hP9 hD9 hS9
        rcases hp with ⟨hv9, e_ws15⟩
        cases hv9
    · refine lv_iconst (v := 1) hx hb d_Mo_power_12 (by decide) ?_
      refine lv_goto (tgt := 17) hx hb d_Mo_power_13 (by decide) ?_
      refine lv_iconst (v := 1) hx hb d_Mo_power_17 (by decide) ?_
      refine gx_call (ig := .invokevirtual 152) (c_Mo_wrong_v1 l htr D tys z _ ws A46 A47 A48 A49 A50 A51 A52 A53 A54 A62 A70 A78 A79 (u0) A80 A81 A82 A83 f_46) (gx_invV (As := [Value.int 1, Value.int 1]) (rest := []) hx hb hown hts km_Mo_152 kI_Mo_wrong kV_Mo_wrong kc_Mo_wrong (by decide) (show (parseMethodDescriptor y_Mo_wrong.desc).map (fun d => d.parameters.length) = some 2 by decide +kernel) (gx_recv (ci := 8) hK hP rfl f_46) rfl rfl d_Mo_power_18) (gx_cw (z := 0) hts kc_Mo_wrong kN_Mo rfl rfl ⟨Nat.le_of_ble_eq_true rfl, Nat.le_of_ble_eq_true rfl⟩) hb hml gx_blind (gx_pre hz hP hK hD hY hS hAz [Value.ref A46, Value.int 1, Value.int 1]) rfl hl.1 (lv_room (Nat.le_of_ble_eq_true rfl)) d_Mo_power_18 ⟨Nat.le_of_ble_eq_true rfl, Nat.le_of_ble_eq_true rfl⟩ (fun v16 st16 t16 L16 h0_16 hW_16 hQ_16 hL_16 => ?_) (fun v16 st16 t16 L16 h0_16 hW_16 hQ_16 hL_16 => ?_)
      · obtain ⟨ws17, hp, hP9, -, hD9, hS9⟩ := gx_back h0_16 hW_16 hQ_16 hL_16 hD hS hA
        clear hQ_16 h0_16 hL_16 hW_16 hP hD hS
        have hP := hP9
        have hD := hD9
        have hS := hS9
        clear hP9 hD9 hS9
        rcases hp with ⟨hv9, e_ws17, f_46_ws17⟩
        cases hv9
        have f_46_ws17 : ws17[46]? = some ((A46, Sum.inr (8, [Value.int 1, Value.int 0, Value.ref A47, Value.ref A48, Value.ref A49, Value.int 0, Value.ref A50, Value.ref A51, Value.ref A52, Value.ref A53, Value.int 0, Value.int 0, Value.int 0, Value.int (-1), Value.int 0, Value.ref A54, Value.ref A62, Value.ref A70, Value.int 0, Value.int 0, Value.int 0, Value.ref A78, Value.ref A79, Value.int 0, Value.int 16, Value.int 4, u0, Value.ref A80, Value.ref A81, Value.ref A82, Value.int 0, Value.ref A83, Value.int 0, Value.int 0, Value.int 0])) : Nat × va_E) := f_46_ws17
        replace hU : gx_g ws ws17 0 [46] := hU.call e_ws17 (by simp; first | done | omega)
        refine W.eq (g2 := F0 m 21 ls [Value.int 1]) rfl ?_
        generalize t16.heap = H at hP hS ⊢
        generalize [] ++ L16 = locs at hS ⊢
        refine lv_if_ne (tgt := 29) hx hb d_Mo_power_21 (by decide) (fun _ => ?_) (fun c9 => absurd c9 (by decide))
        refine lv_aload_n hx hb d_Mo_power_29 rfl (lv_at hl 0 rfl) ?_
        refine lv_iconst (v := 0) hx hb d_Mo_power_30 (by decide) ?_
        refine lv_iconst (v := 1) hx hb d_Mo_power_31 (by decide) ?_
        refine gx_call (ig := .invokevirtual 148) (c_Mo_done_v1 l htr D tys z _ ws17 A46 A47 A48 A49 A50 A51 A52 A53 A54 A62 A70 A78 A79 (u0) A80 A81 A82 A83 f_46_ws17) (gx_invV (As := [Value.int 0, Value.int 1]) (rest := []) hx hb hown hts km_Mo_148 kI_Mo_done kV_Mo_done kc_Mo_done (by decide) (show (parseMethodDescriptor y_Mo_done.desc).map (fun d => d.parameters.length) = some 2 by decide +kernel) (gx_recv (ci := 8) hK hP rfl f_46_ws17) rfl rfl d_Mo_power_32) (gx_cw (z := 0) hts kc_Mo_done kN_Mo rfl rfl ⟨Nat.le_of_ble_eq_true rfl, Nat.le_of_ble_eq_true rfl⟩) hb hml gx_blind (gx_pre hz hP hK hD hY hS hAz [Value.ref A46, Value.int 0, Value.int 1]) rfl hl.1 (lv_room (Nat.le_of_ble_eq_true rfl)) d_Mo_power_32 ⟨Nat.le_of_ble_eq_true rfl, Nat.le_of_ble_eq_true rfl⟩ (fun v18 st18 t18 L18 h0_18 hW_18 hQ_18 hL_18 => ?_) (fun v18 st18 t18 L18 h0_18 hW_18 hQ_18 hL_18 => ?_)
        · obtain ⟨ws19, hp, hP9, -, hD9, hS9⟩ := gx_back h0_18 hW_18 hQ_18 hL_18 hD hS hA
          clear hQ_18 h0_18 hL_18 hW_18 hP hD hS
          have hP := hP9
          have hD := hD9
          have hS := hS9
          clear hP9 hD9 hS9
          rcases hp with ⟨hv9, e_ws19, f_46_ws19⟩
          cases hv9
          have f_46_ws19 : ws19[46]? = some ((A46, Sum.inr (8, [Value.int 0, Value.int 1, Value.ref A47, Value.ref A48, Value.ref A49, Value.int 0, Value.ref A50, Value.ref A51, Value.ref A52, Value.ref A53, Value.int 0, Value.int 0, Value.int 0, Value.int (-1), Value.int 0, Value.ref A54, Value.ref A62, Value.ref A70, Value.int 0, Value.int 0, Value.int 0, Value.ref A78, Value.ref A79, Value.int 0, Value.int 16, Value.int 4, u0, Value.ref A80, Value.ref A81, Value.ref A82, Value.int 0, Value.ref A83, Value.int 0, Value.int 0, Value.int 0])) : Nat × va_E) := f_46_ws19
          replace hU : gx_g ws ws19 0 [46] := hU.call e_ws19 (by simp; first | done | omega)
          refine W.eq (g2 := F0 m 35 ls [Value.int 0]) rfl ?_
          generalize t18.heap = H at hP hS ⊢
          generalize locs ++ L18 = locs at hS ⊢
          refine lv_istore_n (lv' := [(2, Value.int 0), (0, Value.ref A46), (1, Value.int p0)]) hx hb d_Mo_power_35 rfl hl (by decide) rfl (fun ls hl => ?_)
          exact gx_ret (W.vret hx hb hr (gx_post hP hK hD hS (by rw [← hPQ]; exact Or.inr (Or.inr (⟨rfl, hU, f_46_ws19, c3_1, c9_8⟩)))) hS.2.2 d_Mo_power_36)
        · obtain ⟨E9, ws20, ce, hp, hce, hP9, -, hD9, hS9⟩ := gx_backT h0_18 hW_18 hQ_18 hL_18 hD hS hA
          clear hQ_18 h0_18 hL_18 hW_18 hP hD hS
          have hP := hP9
          have hD := hD9
          have hS := hS9
          clear hP9 hD9 hS9
          rcases hp with ⟨hv9, e_ws20, f_46_ws20⟩
          cases hv9
      · obtain ⟨E9, ws21, ce, hp, hce, hP9, -, hD9, hS9⟩ := gx_backT h0_16 hW_16 hQ_16 hL_16 hD hS hA
        clear hQ_16 h0_16 hL_16 hW_16 hP hD hS
        have hP := hP9
        have hD := hD9
        have hS := hS9
        clear hP9 hD9 hS9
        rcases hp with ⟨hv9, e_ws21, f_46_ws21⟩
        cases hv9

set_option maxHeartbeats 4000000 in
set_option maxRecDepth 100000 in
theorem c_Mo_keepNeeded_v1 (l : Launch) (htr : l.stackTraces = false) (D : va_G) (tys : List (ClassId × FieldType)) (z sz : Nat) (ws : va_W) (A46 : Nat) (A47 : Nat) (A48 : Nat) (A49 : Nat) (A50 : Nat) (A51 : Nat) (A52 : Nat) (A53 : Nat) (A54 : Nat) (A62 : Nat) (A70 : Nat) (A78 : Nat) (A79 : Nat) (u0 : Value) (A80 : Nat) (A81 : Nat) (A82 : Nat) (A83 : Nat) (f_46 : ws[46]? = some ((A46, Sum.inr (8, [Value.int 0, Value.int 0, Value.ref A47, Value.ref A48, Value.ref A49, Value.int 0, Value.ref A50, Value.ref A51, Value.ref A52, Value.ref A53, Value.int 0, Value.int 0, Value.int 0, Value.int (-1), Value.int 0, Value.ref A54, Value.ref A62, Value.ref A70, Value.int 0, Value.int 0, Value.int 0, Value.ref A78, Value.ref A79, Value.int 0, Value.int 16, Value.int 4, u0, Value.ref A80, Value.ref A81, Value.ref A82, Value.int 0, Value.ref A83, Value.int 0, Value.int 0, Value.int 0])) : Nat × va_E)) : gx_Met l y_Mo_keepNeeded [Cond.code y_Mo_keepNeeded b_Mo_keepNeeded 3 none] { frames := 1, cells := 0, slots := 0, locals := 12 } (gx_P z sz D classes tys ws [Value.ref A46]) (gx_Q D classes tys (va_A ws sz) (fun r ws' => (r = Sum.inl none ∧ gx_g ws ws' 0 [46] ∧ ws'[46]? = some ((A46, Sum.inr (8, [Value.int 0, Value.int 0, Value.ref A47, Value.ref A48, Value.ref A49, Value.int 0, Value.ref A50, Value.ref A51, Value.ref A52, Value.ref A53, Value.int 0, Value.int 0, Value.int 0, Value.int (-1), Value.int 0, Value.ref A54, Value.ref A62, Value.ref A70, Value.int 0, Value.int 0, Value.int 0, Value.ref A78, Value.ref A79, Value.int 0, Value.int 16, Value.int 4, u0, Value.ref A80, Value.ref A81, Value.ref A82, Value.int 0, Value.ref A83, Value.int 0, Value.int 0, Value.int 0])) : Nat × va_E)))) 0 0 (va_A ws sz) := by
  refine gx_ofW (cc := b_Mo_keepNeeded) (maxL := 3) (ret := none) (by decide) rfl ?_
  intro p e s m args below meth c s₁ B hml hv
  obtain ⟨rfl, hsz, hz, hP, hK, hD0, hY⟩ := hv
  have hx := B.exec
  have hb := B.bytes
  have hr := B.returns
  have hts := hY.hts (#[Value.ref A46] : Array Value)
  have hown : s.vm.findClass "CommitLedgerModel" = some m.cls := findClass_of_methodNamed B.named
  have hlocks := B.notSynchronized
  have hne : c.exceptionTable.isEmpty = true := B.noHandlers (atoms_spec (ws := [Cond.code y_Mo_keepNeeded b_Mo_keepNeeded 3 none]) B.pre _ List.mem_cons_self)
  subst hsz
  have hAz := gx_az hD0 hz
  have hD := hD0.self (sz := s.heap.size)
  have hN := gx_ns hP
  have hA : ∀ q : Nat, s.heap.size ≤ q → va_A ws s.heap.size q := fun q h => Or.inr h
  generalize va_A ws s.heap.size = A at hD hN hA hAz ⊢
  generalize hPQ : (fun (r : Option Value ⊕ String) (ws' : va_W) => (r = Sum.inl none ∧ gx_g ws ws' 0 [46] ∧ ws'[46]? = some ((A46, Sum.inr (8, [Value.int 0, Value.int 0, Value.ref A47, Value.ref A48, Value.ref A49, Value.int 0, Value.ref A50, Value.ref A51, Value.ref A52, Value.ref A53, Value.int 0, Value.int 0, Value.int 0, Value.int (-1), Value.int 0, Value.ref A54, Value.ref A62, Value.ref A70, Value.int 0, Value.int 0, Value.int 0, Value.ref A78, Value.ref A79, Value.int 0, Value.int 16, Value.int 4, u0, Value.ref A80, Value.ref A81, Value.ref A82, Value.int 0, Value.ref A83, Value.int 0, Value.int 0, Value.int 0])) : Nat × va_E))) = PQ
  have hS : va_S A s.heap s.heap [] := va_S.rf
  have hU : gx_g ws ws 0 [46] := gx_g.rf
  have hl := lv_entry ([Value.ref A46]) (n := 3) (Nat.le_of_ble_eq_true rfl)
  rw [lg_entry_eq]
  generalize (lg_sl ([Value.ref A46]) ++ List.replicate (3 - (lg_sl ([Value.ref A46])).length) Slot.unset).toArray = ls at hl ⊢
  have hl : lv_has ls 3 [(0, Value.ref A46)] := hl
  refine lv_iconst (v := 0) hx hb d_Mo_keepNeeded_0 (by decide) ?_
  refine lv_istore_n (lv' := [(1, Value.int 0), (0, Value.ref A46)]) hx hb d_Mo_keepNeeded_1 rfl hl (by decide) rfl (fun ls hl => ?_)
  refine lv_iconst (v := 0) hx hb d_Mo_keepNeeded_2 (by decide) ?_
  refine lv_istore_n (lv' := [(2, Value.int 0), (1, Value.int 0), (0, Value.ref A46)]) hx hb d_Mo_keepNeeded_3 rfl hl (by decide) rfl (fun ls hl => ?_)
  refine lv_iload_n hx hb d_Mo_keepNeeded_4 rfl (lv_at hl 0 rfl) ?_
  refine lv_aload_n hx hb d_Mo_keepNeeded_5 rfl (lv_at hl 2 rfl) ?_
  refine va_get (D := D) (ci := 8) (v := Value.int 0) (C := "CommitLedgerModel") (T := F_Mo) (N := 35) hx hb hts i_Mo hown hK hP 46 f_46 rfl 10 (by decide) (hts _ kf_Mo_93) (fun _ h9 => h9) rfl d_Mo_keepNeeded_6 ?_
  refine lv_icmp_ge (tgt := 69) hx hb d_Mo_keepNeeded_9 (by decide) (fun _ => ?_) (fun c9 => absurd (by decide) c9)
  refine lv_aload_n hx hb d_Mo_keepNeeded_69 rfl (lv_at hl 2 rfl) ?_
  refine lv_iload_n hx hb d_Mo_keepNeeded_70 rfl (lv_at hl 1 rfl) ?_
  refine va_put (D := D) (ci := 8) (v := Value.int 0) (ty := .int) (C := "CommitLedgerModel") (T := F_Mo) (N := 35) hx hb hts i_Mo t_Mo t_Mo_ok n_Mo hown hK hP hD hS 46 f_46 rfl 10 (by decide) (hts _ kf_Mo_93) (fun _ h9 => h9) rfl (by decide +kernel) rfl rfl (Nat.le_of_ble_eq_true rfl) d_Mo_keepNeeded_71 (fun H locs hP9 hD9 hS9 => ?_)
  obtain ⟨ws1, e_ws1⟩ : ∃ x : va_W, x = ws.set 46 ((A46, Sum.inr (8, [Value.int 0, Value.int 0, Value.ref A47, Value.ref A48, Value.ref A49, Value.int 0, Value.ref A50, Value.ref A51, Value.ref A52, Value.ref A53, Value.int 0, Value.int 0, Value.int 0, Value.int (-1), Value.int 0, Value.ref A54, Value.ref A62, Value.ref A70, Value.int 0, Value.int 0, Value.int 0, Value.ref A78, Value.ref A79, Value.int 0, Value.int 16, Value.int 4, u0, Value.ref A80, Value.ref A81, Value.ref A82, Value.int 0, Value.ref A83, Value.int 0, Value.int 0, Value.int 0])) : Nat × va_E) := ⟨_, rfl⟩
  replace hP : va_P D classes ws1 H := by rw [e_ws1]; exact hP9
  replace hD : va_D A ws1 := by rw [e_ws1]; exact hD9
  replace hS := hS9
  clear hP9 hD9 hS9
  have f_46_ws1 : ws1[46]? = some ((A46, Sum.inr (8, [Value.int 0, Value.int 0, Value.ref A47, Value.ref A48, Value.ref A49, Value.int 0, Value.ref A50, Value.ref A51, Value.ref A52, Value.ref A53, Value.int 0, Value.int 0, Value.int 0, Value.int (-1), Value.int 0, Value.ref A54, Value.ref A62, Value.ref A70, Value.int 0, Value.int 0, Value.int 0, Value.ref A78, Value.ref A79, Value.int 0, Value.int 16, Value.int 4, u0, Value.ref A80, Value.ref A81, Value.ref A82, Value.int 0, Value.ref A83, Value.int 0, Value.int 0, Value.int 0])) : Nat × va_E) := by rw [e_ws1]; exact gs_self f_46
  replace hU : gx_g ws ws1 0 [46] := by rw [e_ws1]; exact hU.put (Or.inl (by simp))
  exact gx_ret (W.vret hx hb hr (gx_post hP hK hD hS (by rw [← hPQ]; exact ⟨rfl, hU, f_46_ws1⟩)) hS.2.2 d_Mo_keepNeeded_74)

set_option maxHeartbeats 4000000 in
set_option maxRecDepth 100000 in
theorem c_Mo_lose_v1 (l : Launch) (htr : l.stackTraces = false) (D : va_G) (tys : List (ClassId × FieldType)) (z sz : Nat) (ws : va_W) (cV : ClassId) (A46 : Nat) (A47 : Nat) (A48 : Nat) (A49 : Nat) (A50 : Nat) (A51 : Nat) (A52 : Nat) (A53 : Nat) (A54 : Nat) (A62 : Nat) (A70 : Nat) (A78 : Nat) (A79 : Nat) (u0 : Value) (A80 : Nat) (A81 : Nat) (A82 : Nat) (A83 : Nat) (A84 : Nat) (A85 : Nat) (A86 : Nat) (A87 : Nat) (A88 : Nat) (A89 : Nat) (A90 : Nat) (A91 : Nat) (A92 : Nat) (A93 : Nat) (A94 : Nat) (A95 : Nat) (A96 : Nat) (A97 : Nat) (A98 : Nat) (A99 : Nat) (A100 : Nat) (A101 : Nat) (A102 : Nat) (A103 : Nat) (A104 : Nat) (A105 : Nat) (A106 : Nat) (A107 : Nat) (A108 : Nat) (A109 : Nat) (A110 : Nat) (A111 : Nat) (A112 : Nat) (A113 : Nat) (A114 : Nat) (A115 : Nat) (f_46 : ws[46]? = some ((A46, Sum.inr (8, [Value.int 0, Value.int 0, Value.ref A47, Value.ref A48, Value.ref A49, Value.int 0, Value.ref A50, Value.ref A51, Value.ref A52, Value.ref A53, Value.int 0, Value.int 0, Value.int 0, Value.int (-1), Value.int 0, Value.ref A54, Value.ref A62, Value.ref A70, Value.int 0, Value.int 0, Value.int 0, Value.ref A78, Value.ref A79, Value.int 0, Value.int 16, Value.int 4, u0, Value.ref A80, Value.ref A81, Value.ref A82, Value.int 0, Value.ref A83, Value.int 0, Value.int 0, Value.int 0])) : Nat × va_E)) (f_84 : ws[84]? = some ((A84, Sum.inr (9, [Value.ref A85, Value.ref A86, Value.ref A87, Value.ref A88, Value.ref A89, Value.ref A90, Value.ref A91, Value.int 0, Value.int 0, Value.int 0, Value.int 0])) : Nat × va_E)) (f_92 : ws[92]? = some ((A92, Sum.inr (9, [Value.ref A93, Value.ref A94, Value.ref A95, Value.ref A96, Value.ref A97, Value.ref A98, Value.ref A99, Value.int 0, Value.int 0, Value.int 0, Value.int 0])) : Nat × va_E)) (f_100 : ws[100]? = some ((A100, Sum.inr (9, [Value.ref A101, Value.ref A102, Value.ref A103, Value.ref A104, Value.ref A105, Value.ref A106, Value.ref A107, Value.int 0, Value.int 0, Value.int 0, Value.int 0])) : Nat × va_E)) (f_108 : ws[108]? = some ((A108, Sum.inr (9, [Value.ref A109, Value.ref A110, Value.ref A111, Value.ref A112, Value.ref A113, Value.ref A114, Value.ref A115, Value.int 0, Value.int 0, Value.int 0, Value.int 0])) : Nat × va_E)) (f_83 : ws[83]? = some ((A83, Sum.inl (cV, 4, Sum.inr (Sum.inr (Sum.inr (Sum.inr (va_up (va_up (va_up (va_up (fun _ => none) 0 (some A84)) 1 (some A92)) 2 (some A100)) 3 (some A108))))))) : Nat × va_E)) (ht5 : tys[5]? = some ((cV, FieldType.object "CommitLedgerModel$Version") : ClassId × FieldType)) : gx_Met l y_Mo_lose [Cond.code y_Mo_lose b_Mo_lose 5 none] { frames := 2, cells := 0, slots := 0, locals := 34 } (gx_P z sz D classes tys ws [Value.ref A46]) (gx_Q D classes tys (va_A ws sz) (fun r ws' => (r = Sum.inl none ∧ gx_g ws ws' 0 [46, 84, 92, 100, 108] ∧ ws'[46]? = some ((A46, Sum.inr (8, [Value.int 0, Value.int 0, Value.ref A47, Value.ref A48, Value.ref A49, Value.int 0, Value.ref A50, Value.ref A51, Value.ref A52, Value.ref A53, Value.int 0, Value.int 0, Value.int 0, Value.int (-1), Value.int 1, Value.ref A54, Value.ref A62, Value.ref A70, Value.int 0, Value.int 0, Value.int 0, Value.ref A78, Value.ref A79, Value.int 0, Value.int 16, Value.int 4, u0, Value.ref A80, Value.ref A81, Value.ref A82, Value.int 0, Value.ref A83, Value.int 0, Value.int 0, Value.int 0])) : Nat × va_E) ∧ ws'[84]? = some ((A84, Sum.inr (9, [Value.ref A85, Value.ref A86, Value.ref A87, Value.ref A88, Value.ref A89, Value.ref A90, Value.ref A91, Value.int 0, Value.int 0, Value.int 0, Value.int 0])) : Nat × va_E) ∧ ws'[92]? = some ((A92, Sum.inr (9, [Value.ref A93, Value.ref A94, Value.ref A95, Value.ref A96, Value.ref A97, Value.ref A98, Value.ref A99, Value.int 0, Value.int 0, Value.int 0, Value.int 0])) : Nat × va_E) ∧ ws'[100]? = some ((A100, Sum.inr (9, [Value.ref A101, Value.ref A102, Value.ref A103, Value.ref A104, Value.ref A105, Value.ref A106, Value.ref A107, Value.int 0, Value.int 0, Value.int 0, Value.int 0])) : Nat × va_E) ∧ ws'[108]? = some ((A108, Sum.inr (9, [Value.ref A109, Value.ref A110, Value.ref A111, Value.ref A112, Value.ref A113, Value.ref A114, Value.ref A115, Value.int 0, Value.int 0, Value.int 0, Value.int 0])) : Nat × va_E)))) 0 0 (va_A ws sz) := by
  refine gx_ofW (cc := b_Mo_lose) (maxL := 5) (ret := none) (by decide) rfl ?_
  intro p e s m args below meth c s₁ B hml hv
  obtain ⟨rfl, hsz, hz, hP, hK, hD0, hY⟩ := hv
  have hx := B.exec
  have hb := B.bytes
  have hr := B.returns
  have hts := hY.hts (#[Value.ref A46] : Array Value)
  have hown : s.vm.findClass "CommitLedgerModel" = some m.cls := findClass_of_methodNamed B.named
  have hlocks := B.notSynchronized
  have hne : c.exceptionTable.isEmpty = true := B.noHandlers (atoms_spec (ws := [Cond.code y_Mo_lose b_Mo_lose 5 none]) B.pre _ List.mem_cons_self)
  subst hsz
  have hAz := gx_az hD0 hz
  have hD := hD0.self (sz := s.heap.size)
  have hN := gx_ns hP
  have hA : ∀ q : Nat, s.heap.size ≤ q → va_A ws s.heap.size q := fun q h => Or.inr h
  generalize va_A ws s.heap.size = A at hD hN hA hAz ⊢
  generalize hPQ : (fun (r : Option Value ⊕ String) (ws' : va_W) => (r = Sum.inl none ∧ gx_g ws ws' 0 [46, 84, 92, 100, 108] ∧ ws'[46]? = some ((A46, Sum.inr (8, [Value.int 0, Value.int 0, Value.ref A47, Value.ref A48, Value.ref A49, Value.int 0, Value.ref A50, Value.ref A51, Value.ref A52, Value.ref A53, Value.int 0, Value.int 0, Value.int 0, Value.int (-1), Value.int 1, Value.ref A54, Value.ref A62, Value.ref A70, Value.int 0, Value.int 0, Value.int 0, Value.ref A78, Value.ref A79, Value.int 0, Value.int 16, Value.int 4, u0, Value.ref A80, Value.ref A81, Value.ref A82, Value.int 0, Value.ref A83, Value.int 0, Value.int 0, Value.int 0])) : Nat × va_E) ∧ ws'[84]? = some ((A84, Sum.inr (9, [Value.ref A85, Value.ref A86, Value.ref A87, Value.ref A88, Value.ref A89, Value.ref A90, Value.ref A91, Value.int 0, Value.int 0, Value.int 0, Value.int 0])) : Nat × va_E) ∧ ws'[92]? = some ((A92, Sum.inr (9, [Value.ref A93, Value.ref A94, Value.ref A95, Value.ref A96, Value.ref A97, Value.ref A98, Value.ref A99, Value.int 0, Value.int 0, Value.int 0, Value.int 0])) : Nat × va_E) ∧ ws'[100]? = some ((A100, Sum.inr (9, [Value.ref A101, Value.ref A102, Value.ref A103, Value.ref A104, Value.ref A105, Value.ref A106, Value.ref A107, Value.int 0, Value.int 0, Value.int 0, Value.int 0])) : Nat × va_E) ∧ ws'[108]? = some ((A108, Sum.inr (9, [Value.ref A109, Value.ref A110, Value.ref A111, Value.ref A112, Value.ref A113, Value.ref A114, Value.ref A115, Value.int 0, Value.int 0, Value.int 0, Value.int 0])) : Nat × va_E))) = PQ
  have hS : va_S A s.heap s.heap [] := va_S.rf
  have hU : gx_g ws ws 0 [46, 84, 92, 100, 108] := gx_g.rf
  have hl := lv_entry ([Value.ref A46]) (n := 5) (Nat.le_of_ble_eq_true rfl)
  rw [lg_entry_eq]
  generalize (lg_sl ([Value.ref A46]) ++ List.replicate (5 - (lg_sl ([Value.ref A46])).length) Slot.unset).toArray = ls at hl ⊢
  have hl : lv_has ls 5 [(0, Value.ref A46)] := hl
  refine lv_iconst (v := 0) hx hb d_Mo_lose_0 (by decide) ?_
  refine lv_istore_n (lv' := [(1, Value.int 0), (0, Value.ref A46)]) hx hb d_Mo_lose_1 rfl hl (by decide) rfl (fun ls hl => ?_)
  refine lv_iload_n hx hb d_Mo_lose_2 rfl (lv_at hl 0 rfl) ?_
  refine lv_aload_n hx hb d_Mo_lose_3 rfl (lv_at hl 1 rfl) ?_
  refine va_get (D := D) (ci := 8) (v := Value.int 0) (C := "CommitLedgerModel") (T := F_Mo) (N := 35) hx hb hts i_Mo hown hK hP 46 f_46 rfl 10 (by decide) (hts _ kf_Mo_93) (fun _ h9 => h9) rfl d_Mo_lose_4 ?_
  refine lv_icmp_ge (tgt := 28) hx hb d_Mo_lose_7 (by decide) (fun _ => ?_) (fun c9 => absurd (by decide) c9)
  refine lv_aload_n hx hb d_Mo_lose_28 rfl (lv_at hl 1 rfl) ?_
  refine gx_call (ig := .invokevirtual 96) (c_Mo_keepNeeded_v1 l htr D tys z _ ws A46 A47 A48 A49 A50 A51 A52 A53 A54 A62 A70 A78 A79 (u0) A80 A81 A82 A83 f_46) (gx_invV (As := []) (rest := []) hx hb hown hts km_Mo_96 kI_Mo_keepNeeded kV_Mo_keepNeeded kc_Mo_keepNeeded (by decide) (show (parseMethodDescriptor y_Mo_keepNeeded.desc).map (fun d => d.parameters.length) = some 0 by decide +kernel) (gx_recv (ci := 8) hK hP rfl f_46) rfl rfl d_Mo_lose_29) (gx_cw (z := 0) hts kc_Mo_keepNeeded kN_Mo rfl rfl ⟨Nat.le_of_ble_eq_true rfl, Nat.le_of_ble_eq_true rfl⟩) hb hml gx_blind (gx_pre hz hP hK hD hY hS hAz [Value.ref A46]) rfl hl.1 (lv_room (Nat.le_of_ble_eq_true rfl)) d_Mo_lose_29 ⟨Nat.le_of_ble_eq_true rfl, Nat.le_of_ble_eq_true rfl⟩ (fun v1 st1 t1 L1 h0_1 hW_1 hQ_1 hL_1 => ?_) (fun v1 st1 t1 L1 h0_1 hW_1 hQ_1 hL_1 => ?_)
  · obtain ⟨ws2, hp, hP9, -, hD9, hS9⟩ := gx_back h0_1 hW_1 hQ_1 hL_1 hD hS hA
    clear hQ_1 h0_1 hL_1 hW_1 hP hD hS
    have hP := hP9
    have hD := hD9
    have hS := hS9
    clear hP9 hD9 hS9
    rcases hp with ⟨hv9, e_ws2, f_46_ws2⟩
    cases hv9
    have f_46_ws2 : ws2[46]? = some ((A46, Sum.inr (8, [Value.int 0, Value.int 0, Value.ref A47, Value.ref A48, Value.ref A49, Value.int 0, Value.ref A50, Value.ref A51, Value.ref A52, Value.ref A53, Value.int 0, Value.int 0, Value.int 0, Value.int (-1), Value.int 0, Value.ref A54, Value.ref A62, Value.ref A70, Value.int 0, Value.int 0, Value.int 0, Value.ref A78, Value.ref A79, Value.int 0, Value.int 16, Value.int 4, u0, Value.ref A80, Value.ref A81, Value.ref A82, Value.int 0, Value.ref A83, Value.int 0, Value.int 0, Value.int 0])) : Nat × va_E) := f_46_ws2
    replace hU : gx_g ws ws2 0 [46, 84, 92, 100, 108] := hU.call e_ws2 (by simp; first | done | omega)
    refine W.eq (g2 := F0 m 32 ls []) rfl ?_
    generalize t1.heap = H at hP hS ⊢
    generalize [] ++ L1 = locs at hS ⊢
    refine lv_aload_n hx hb d_Mo_lose_32 rfl (lv_at hl 1 rfl) ?_
    refine lv_iconst (v := 0) hx hb d_Mo_lose_33 (by decide) ?_
    refine va_put (D := D) (ci := 8) (v := Value.int 0) (ty := .boolean) (C := "CommitLedgerModel") (T := F_Mo) (N := 35) hx hb hts i_Mo t_Mo t_Mo_ok n_Mo hown hK hP hD hS 46 f_46_ws2 rfl 18 (by decide) (hts _ kf_Mo_99) (fun _ h9 => h9) rfl (by decide +kernel) rfl rfl (Nat.le_of_ble_eq_true rfl) d_Mo_lose_34 (fun H locs hP9 hD9 hS9 => ?_)
    obtain ⟨ws3, e_ws3⟩ : ∃ x : va_W, x = ws2.set 46 ((A46, Sum.inr (8, [Value.int 0, Value.int 0, Value.ref A47, Value.ref A48, Value.ref A49, Value.int 0, Value.ref A50, Value.ref A51, Value.ref A52, Value.ref A53, Value.int 0, Value.int 0, Value.int 0, Value.int (-1), Value.int 0, Value.ref A54, Value.ref A62, Value.ref A70, Value.int 0, Value.int 0, Value.int 0, Value.ref A78, Value.ref A79, Value.int 0, Value.int 16, Value.int 4, u0, Value.ref A80, Value.ref A81, Value.ref A82, Value.int 0, Value.ref A83, Value.int 0, Value.int 0, Value.int 0])) : Nat × va_E) := ⟨_, rfl⟩
    replace hP : va_P D classes ws3 H := by rw [e_ws3]; exact hP9
    replace hD : va_D A ws3 := by rw [e_ws3]; exact hD9
    replace hS := hS9
    clear hP9 hD9 hS9
    have f_46_ws3 : ws3[46]? = some ((A46, Sum.inr (8, [Value.int 0, Value.int 0, Value.ref A47, Value.ref A48, Value.ref A49, Value.int 0, Value.ref A50, Value.ref A51, Value.ref A52, Value.ref A53, Value.int 0, Value.int 0, Value.int 0, Value.int (-1), Value.int 0, Value.ref A54, Value.ref A62, Value.ref A70, Value.int 0, Value.int 0, Value.int 0, Value.ref A78, Value.ref A79, Value.int 0, Value.int 16, Value.int 4, u0, Value.ref A80, Value.ref A81, Value.ref A82, Value.int 0, Value.ref A83, Value.int 0, Value.int 0, Value.int 0])) : Nat × va_E) := by rw [e_ws3]; exact gs_self f_46_ws2
    replace hU : gx_g ws ws3 0 [46, 84, 92, 100, 108] := by rw [e_ws3]; exact hU.put (Or.inl (by simp))
    refine lv_aload_n hx hb d_Mo_lose_37 rfl (lv_at hl 1 rfl) ?_
    refine va_get (D := D) (ci := 8) (v := Value.ref A83) (C := "CommitLedgerModel") (T := F_Mo) (N := 35) hx hb hts i_Mo hown hK hP 46 f_46_ws3 rfl 31 (by decide) (hts _ kf_Mo_76) (fun _ h9 => h9) rfl d_Mo_lose_38 ?_
    refine lv_astore_n (lv' := [(1, Value.ref A83), (0, Value.ref A46)]) hx hb d_Mo_lose_41 rfl hl (by decide) rfl (fun ls hl => ?_)
    refine lv_aload_n hx hb d_Mo_lose_42 rfl (lv_at hl 0 rfl) ?_
    have f_83_ws2 : ws2[83]? = some ((A83, Sum.inl (cV, 4, Sum.inr (Sum.inr (Sum.inr (Sum.inr (va_up (va_up (va_up (va_up (fun _ => none) 0 (some A84)) 1 (some A92)) 2 (some A100)) 3 (some A108))))))) : Nat × va_E) := e_ws2.at (by first | decide | (simp; done) | (simp; omega)) f_83
    clear f_83
    have f_83_ws3 : ws3[83]? = some ((A83, Sum.inl (cV, 4, Sum.inr (Sum.inr (Sum.inr (Sum.inr (va_up (va_up (va_up (va_up (fun _ => none) 0 (some A84)) 1 (some A92)) 2 (some A100)) 3 (some A108))))))) : Nat × va_E) := by rw [e_ws3]; exact gs_ne (by decide) f_83_ws2
    clear f_83_ws2
    refine va_alen (D := D) (v := 4) hx hb hK hP 83 5 f_83_ws3 ht5 rfl d_Mo_lose_43 ?_
    refine lv_istore_n (lv' := [(2, Value.int 4), (1, Value.ref A83), (0, Value.ref A46)]) hx hb d_Mo_lose_44 rfl hl (by decide) rfl (fun ls hl => ?_)
    refine lv_iconst (v := 0) hx hb d_Mo_lose_45 (by decide) ?_
    refine lv_istore_n (lv' := [(3, Value.int 0), (2, Value.int 4), (1, Value.ref A83), (0, Value.ref A46)]) hx hb d_Mo_lose_46 rfl hl (by decide) rfl (fun ls hl => ?_)
    refine lv_iload_n hx hb d_Mo_lose_47 rfl (lv_at hl 0 rfl) ?_
    refine lv_iload_n hx hb d_Mo_lose_48 rfl (lv_at hl 1 rfl) ?_
    refine lv_icmp_ge (tgt := 69) hx hb d_Mo_lose_49 (by decide) (fun c9 => absurd c9 (by decide)) (fun _ => ?_)
    refine lv_aload_n hx hb d_Mo_lose_52 rfl (lv_at hl 2 rfl) ?_
    refine lv_iload_n hx hb d_Mo_lose_53 rfl (lv_at hl 0 rfl) ?_
    refine gx_aald (D := D) (b := A84) (j := 0) hx hb hK hP 83 5 f_83_ws3 ht5 (gx_inl (by decide)) (by decide) (rfl) d_Mo_lose_54 ?_
    refine lv_astore (lv' := [(4, Value.ref A84), (3, Value.int 0), (2, Value.int 4), (1, Value.ref A83), (0, Value.ref A46)]) hx hb d_Mo_lose_55 hl (by decide) rfl (fun ls hl => ?_)
    refine lv_aload hx hb d_Mo_lose_57 (lv_at hl 0 rfl) ?_
    refine lv_iconst (v := 0) hx hb d_Mo_lose_59 (by decide) ?_
    have f_84_ws2 : ws2[84]? = some ((A84, Sum.inr (9, [Value.ref A85, Value.ref A86, Value.ref A87, Value.ref A88, Value.ref A89, Value.ref A90, Value.ref A91, Value.int 0, Value.int 0, Value.int 0, Value.int 0])) : Nat × va_E) := e_ws2.at (by first | decide | (simp; done) | (simp; omega)) f_84
    clear f_84
    have f_84_ws3 : ws3[84]? = some ((A84, Sum.inr (9, [Value.ref A85, Value.ref A86, Value.ref A87, Value.ref A88, Value.ref A89, Value.ref A90, Value.ref A91, Value.int 0, Value.int 0, Value.int 0, Value.int 0])) : Nat × va_E) := by rw [e_ws3]; exact gs_ne (by decide) f_84_ws2
    clear f_84_ws2
    refine va_put (D := D) (ci := 9) (v := Value.int 0) (ty := .int) (C := "CommitLedgerModel$Version") (T := F_Ve) (N := 11) hx hb hts i_Ve t_Ve t_Ve_ok n_Ve hown hK hP hD hS 84 f_84_ws3 rfl 10 (by decide) (hts _ kf_Mo_103) (fun _ h9 => h9) rfl (by decide +kernel) rfl rfl (Nat.le_of_ble_eq_true rfl) d_Mo_lose_60 (fun H locs hP9 hD9 hS9 => ?_)
    obtain ⟨ws4, e_ws4⟩ : ∃ x : va_W, x = ws3.set 84 ((A84, Sum.inr (9, [Value.ref A85, Value.ref A86, Value.ref A87, Value.ref A88, Value.ref A89, Value.ref A90, Value.ref A91, Value.int 0, Value.int 0, Value.int 0, Value.int 0])) : Nat × va_E) := ⟨_, rfl⟩
    replace hP : va_P D classes ws4 H := by rw [e_ws4]; exact hP9
    replace hD : va_D A ws4 := by rw [e_ws4]; exact hD9
    replace hS := hS9
    clear hP9 hD9 hS9
    have f_84_ws4 : ws4[84]? = some ((A84, Sum.inr (9, [Value.ref A85, Value.ref A86, Value.ref A87, Value.ref A88, Value.ref A89, Value.ref A90, Value.ref A91, Value.int 0, Value.int 0, Value.int 0, Value.int 0])) : Nat × va_E) := by rw [e_ws4]; exact gs_self f_84_ws3
    replace hU : gx_g ws ws4 0 [46, 84, 92, 100, 108] := by rw [e_ws4]; exact hU.put (Or.inl (by simp))
    refine lv_iinc (v := 1) (lv' := [(3, Value.int 1), (4, Value.ref A84), (2, Value.int 4), (1, Value.ref A83), (0, Value.ref A46)]) hx hb d_Mo_lose_63 hl (k := 1) rfl (by decide) (by decide) rfl (fun ls hl => ?_)
    refine lv_goto (tgt := 47) hx hb d_Mo_lose_66 (by decide) ?_
    refine lv_iload_n hx hb d_Mo_lose_47 rfl (lv_at hl 0 rfl) ?_
    refine lv_iload_n hx hb d_Mo_lose_48 rfl (lv_at hl 2 rfl) ?_
    refine lv_icmp_ge (tgt := 69) hx hb d_Mo_lose_49 (by decide) (fun c9 => absurd c9 (by decide)) (fun _ => ?_)
    refine lv_aload_n hx hb d_Mo_lose_52 rfl (lv_at hl 3 rfl) ?_
    refine lv_iload_n hx hb d_Mo_lose_53 rfl (lv_at hl 0 rfl) ?_
    have f_83_ws4 : ws4[83]? = some ((A83, Sum.inl (cV, 4, Sum.inr (Sum.inr (Sum.inr (Sum.inr (va_up (va_up (va_up (va_up (fun _ => none) 0 (some A84)) 1 (some A92)) 2 (some A100)) 3 (some A108))))))) : Nat × va_E) := by rw [e_ws4]; exact gs_ne (by decide) f_83_ws3
    clear f_83_ws3
    refine gx_aald (D := D) (b := A92) (j := 1) hx hb hK hP 83 5 f_83_ws4 ht5 (gx_inl (by decide)) (by decide) (rfl) d_Mo_lose_54 ?_
    refine lv_astore (lv' := [(4, Value.ref A92), (3, Value.int 1), (2, Value.int 4), (1, Value.ref A83), (0, Value.ref A46)]) hx hb d_Mo_lose_55 hl (by decide) rfl (fun ls hl => ?_)
    refine lv_aload hx hb d_Mo_lose_57 (lv_at hl 0 rfl) ?_
    refine lv_iconst (v := 0) hx hb d_Mo_lose_59 (by decide) ?_
    have f_92_ws2 : ws2[92]? = some ((A92, Sum.inr (9, [Value.ref A93, Value.ref A94, Value.ref A95, Value.ref A96, Value.ref A97, Value.ref A98, Value.ref A99, Value.int 0, Value.int 0, Value.int 0, Value.int 0])) : Nat × va_E) := e_ws2.at (by first | decide | (simp; done) | (simp; omega)) f_92
    clear f_92
    have f_92_ws3 : ws3[92]? = some ((A92, Sum.inr (9, [Value.ref A93, Value.ref A94, Value.ref A95, Value.ref A96, Value.ref A97, Value.ref A98, Value.ref A99, Value.int 0, Value.int 0, Value.int 0, Value.int 0])) : Nat × va_E) := by rw [e_ws3]; exact gs_ne (by decide) f_92_ws2
    clear f_92_ws2
    have f_92_ws4 : ws4[92]? = some ((A92, Sum.inr (9, [Value.ref A93, Value.ref A94, Value.ref A95, Value.ref A96, Value.ref A97, Value.ref A98, Value.ref A99, Value.int 0, Value.int 0, Value.int 0, Value.int 0])) : Nat × va_E) := by rw [e_ws4]; exact gs_ne (by decide) f_92_ws3
    clear f_92_ws3
    refine va_put (D := D) (ci := 9) (v := Value.int 0) (ty := .int) (C := "CommitLedgerModel$Version") (T := F_Ve) (N := 11) hx hb hts i_Ve t_Ve t_Ve_ok n_Ve hown hK hP hD hS 92 f_92_ws4 rfl 10 (by decide) (hts _ kf_Mo_103) (fun _ h9 => h9) rfl (by decide +kernel) rfl rfl (Nat.le_of_ble_eq_true rfl) d_Mo_lose_60 (fun H locs hP9 hD9 hS9 => ?_)
    obtain ⟨ws5, e_ws5⟩ : ∃ x : va_W, x = ws4.set 92 ((A92, Sum.inr (9, [Value.ref A93, Value.ref A94, Value.ref A95, Value.ref A96, Value.ref A97, Value.ref A98, Value.ref A99, Value.int 0, Value.int 0, Value.int 0, Value.int 0])) : Nat × va_E) := ⟨_, rfl⟩
    replace hP : va_P D classes ws5 H := by rw [e_ws5]; exact hP9
    replace hD : va_D A ws5 := by rw [e_ws5]; exact hD9
    replace hS := hS9
    clear hP9 hD9 hS9
    have f_92_ws5 : ws5[92]? = some ((A92, Sum.inr (9, [Value.ref A93, Value.ref A94, Value.ref A95, Value.ref A96, Value.ref A97, Value.ref A98, Value.ref A99, Value.int 0, Value.int 0, Value.int 0, Value.int 0])) : Nat × va_E) := by rw [e_ws5]; exact gs_self f_92_ws4
    replace hU : gx_g ws ws5 0 [46, 84, 92, 100, 108] := by rw [e_ws5]; exact hU.put (Or.inl (by simp))
    refine lv_iinc (v := 2) (lv' := [(3, Value.int 2), (4, Value.ref A92), (2, Value.int 4), (1, Value.ref A83), (0, Value.ref A46)]) hx hb d_Mo_lose_63 hl (k := 1) rfl (by decide) (by decide) rfl (fun ls hl => ?_)
    refine lv_goto (tgt := 47) hx hb d_Mo_lose_66 (by decide) ?_
    refine lv_iload_n hx hb d_Mo_lose_47 rfl (lv_at hl 0 rfl) ?_
    refine lv_iload_n hx hb d_Mo_lose_48 rfl (lv_at hl 2 rfl) ?_
    refine lv_icmp_ge (tgt := 69) hx hb d_Mo_lose_49 (by decide) (fun c9 => absurd c9 (by decide)) (fun _ => ?_)
    refine lv_aload_n hx hb d_Mo_lose_52 rfl (lv_at hl 3 rfl) ?_
    refine lv_iload_n hx hb d_Mo_lose_53 rfl (lv_at hl 0 rfl) ?_
    have f_83_ws5 : ws5[83]? = some ((A83, Sum.inl (cV, 4, Sum.inr (Sum.inr (Sum.inr (Sum.inr (va_up (va_up (va_up (va_up (fun _ => none) 0 (some A84)) 1 (some A92)) 2 (some A100)) 3 (some A108))))))) : Nat × va_E) := by rw [e_ws5]; exact gs_ne (by decide) f_83_ws4
    clear f_83_ws4
    refine gx_aald (D := D) (b := A100) (j := 2) hx hb hK hP 83 5 f_83_ws5 ht5 (gx_inl (by decide)) (by decide) (rfl) d_Mo_lose_54 ?_
    refine lv_astore (lv' := [(4, Value.ref A100), (3, Value.int 2), (2, Value.int 4), (1, Value.ref A83), (0, Value.ref A46)]) hx hb d_Mo_lose_55 hl (by decide) rfl (fun ls hl => ?_)
    refine lv_aload hx hb d_Mo_lose_57 (lv_at hl 0 rfl) ?_
    refine lv_iconst (v := 0) hx hb d_Mo_lose_59 (by decide) ?_
    have f_100_ws2 : ws2[100]? = some ((A100, Sum.inr (9, [Value.ref A101, Value.ref A102, Value.ref A103, Value.ref A104, Value.ref A105, Value.ref A106, Value.ref A107, Value.int 0, Value.int 0, Value.int 0, Value.int 0])) : Nat × va_E) := e_ws2.at (by first | decide | (simp; done) | (simp; omega)) f_100
    clear f_100
    have f_100_ws3 : ws3[100]? = some ((A100, Sum.inr (9, [Value.ref A101, Value.ref A102, Value.ref A103, Value.ref A104, Value.ref A105, Value.ref A106, Value.ref A107, Value.int 0, Value.int 0, Value.int 0, Value.int 0])) : Nat × va_E) := by rw [e_ws3]; exact gs_ne (by decide) f_100_ws2
    clear f_100_ws2
    have f_100_ws4 : ws4[100]? = some ((A100, Sum.inr (9, [Value.ref A101, Value.ref A102, Value.ref A103, Value.ref A104, Value.ref A105, Value.ref A106, Value.ref A107, Value.int 0, Value.int 0, Value.int 0, Value.int 0])) : Nat × va_E) := by rw [e_ws4]; exact gs_ne (by decide) f_100_ws3
    clear f_100_ws3
    have f_100_ws5 : ws5[100]? = some ((A100, Sum.inr (9, [Value.ref A101, Value.ref A102, Value.ref A103, Value.ref A104, Value.ref A105, Value.ref A106, Value.ref A107, Value.int 0, Value.int 0, Value.int 0, Value.int 0])) : Nat × va_E) := by rw [e_ws5]; exact gs_ne (by decide) f_100_ws4
    clear f_100_ws4
    refine va_put (D := D) (ci := 9) (v := Value.int 0) (ty := .int) (C := "CommitLedgerModel$Version") (T := F_Ve) (N := 11) hx hb hts i_Ve t_Ve t_Ve_ok n_Ve hown hK hP hD hS 100 f_100_ws5 rfl 10 (by decide) (hts _ kf_Mo_103) (fun _ h9 => h9) rfl (by decide +kernel) rfl rfl (Nat.le_of_ble_eq_true rfl) d_Mo_lose_60 (fun H locs hP9 hD9 hS9 => ?_)
    obtain ⟨ws6, e_ws6⟩ : ∃ x : va_W, x = ws5.set 100 ((A100, Sum.inr (9, [Value.ref A101, Value.ref A102, Value.ref A103, Value.ref A104, Value.ref A105, Value.ref A106, Value.ref A107, Value.int 0, Value.int 0, Value.int 0, Value.int 0])) : Nat × va_E) := ⟨_, rfl⟩
    replace hP : va_P D classes ws6 H := by rw [e_ws6]; exact hP9
    replace hD : va_D A ws6 := by rw [e_ws6]; exact hD9
    replace hS := hS9
    clear hP9 hD9 hS9
    have f_100_ws6 : ws6[100]? = some ((A100, Sum.inr (9, [Value.ref A101, Value.ref A102, Value.ref A103, Value.ref A104, Value.ref A105, Value.ref A106, Value.ref A107, Value.int 0, Value.int 0, Value.int 0, Value.int 0])) : Nat × va_E) := by rw [e_ws6]; exact gs_self f_100_ws5
    replace hU : gx_g ws ws6 0 [46, 84, 92, 100, 108] := by rw [e_ws6]; exact hU.put (Or.inl (by simp))
    refine lv_iinc (v := 3) (lv' := [(3, Value.int 3), (4, Value.ref A100), (2, Value.int 4), (1, Value.ref A83), (0, Value.ref A46)]) hx hb d_Mo_lose_63 hl (k := 1) rfl (by decide) (by decide) rfl (fun ls hl => ?_)
    refine lv_goto (tgt := 47) hx hb d_Mo_lose_66 (by decide) ?_
    refine lv_iload_n hx hb d_Mo_lose_47 rfl (lv_at hl 0 rfl) ?_
    refine lv_iload_n hx hb d_Mo_lose_48 rfl (lv_at hl 2 rfl) ?_
    refine lv_icmp_ge (tgt := 69) hx hb d_Mo_lose_49 (by decide) (fun c9 => absurd c9 (by decide)) (fun _ => ?_)
    refine lv_aload_n hx hb d_Mo_lose_52 rfl (lv_at hl 3 rfl) ?_
    refine lv_iload_n hx hb d_Mo_lose_53 rfl (lv_at hl 0 rfl) ?_
    have f_83_ws6 : ws6[83]? = some ((A83, Sum.inl (cV, 4, Sum.inr (Sum.inr (Sum.inr (Sum.inr (va_up (va_up (va_up (va_up (fun _ => none) 0 (some A84)) 1 (some A92)) 2 (some A100)) 3 (some A108))))))) : Nat × va_E) := by rw [e_ws6]; exact gs_ne (by decide) f_83_ws5
    clear f_83_ws5
    refine gx_aald (D := D) (b := A108) (j := 3) hx hb hK hP 83 5 f_83_ws6 ht5 (gx_inl (by decide)) (by decide) (rfl) d_Mo_lose_54 ?_
    refine lv_astore (lv' := [(4, Value.ref A108), (3, Value.int 3), (2, Value.int 4), (1, Value.ref A83), (0, Value.ref A46)]) hx hb d_Mo_lose_55 hl (by decide) rfl (fun ls hl => ?_)
    refine lv_aload hx hb d_Mo_lose_57 (lv_at hl 0 rfl) ?_
    refine lv_iconst (v := 0) hx hb d_Mo_lose_59 (by decide) ?_
    have f_108_ws2 : ws2[108]? = some ((A108, Sum.inr (9, [Value.ref A109, Value.ref A110, Value.ref A111, Value.ref A112, Value.ref A113, Value.ref A114, Value.ref A115, Value.int 0, Value.int 0, Value.int 0, Value.int 0])) : Nat × va_E) := e_ws2.at (by first | decide | (simp; done) | (simp; omega)) f_108
    clear f_108
    have f_108_ws3 : ws3[108]? = some ((A108, Sum.inr (9, [Value.ref A109, Value.ref A110, Value.ref A111, Value.ref A112, Value.ref A113, Value.ref A114, Value.ref A115, Value.int 0, Value.int 0, Value.int 0, Value.int 0])) : Nat × va_E) := by rw [e_ws3]; exact gs_ne (by decide) f_108_ws2
    clear f_108_ws2
    have f_108_ws4 : ws4[108]? = some ((A108, Sum.inr (9, [Value.ref A109, Value.ref A110, Value.ref A111, Value.ref A112, Value.ref A113, Value.ref A114, Value.ref A115, Value.int 0, Value.int 0, Value.int 0, Value.int 0])) : Nat × va_E) := by rw [e_ws4]; exact gs_ne (by decide) f_108_ws3
    clear f_108_ws3
    have f_108_ws5 : ws5[108]? = some ((A108, Sum.inr (9, [Value.ref A109, Value.ref A110, Value.ref A111, Value.ref A112, Value.ref A113, Value.ref A114, Value.ref A115, Value.int 0, Value.int 0, Value.int 0, Value.int 0])) : Nat × va_E) := by rw [e_ws5]; exact gs_ne (by decide) f_108_ws4
    clear f_108_ws4
    have f_108_ws6 : ws6[108]? = some ((A108, Sum.inr (9, [Value.ref A109, Value.ref A110, Value.ref A111, Value.ref A112, Value.ref A113, Value.ref A114, Value.ref A115, Value.int 0, Value.int 0, Value.int 0, Value.int 0])) : Nat × va_E) := by rw [e_ws6]; exact gs_ne (by decide) f_108_ws5
    clear f_108_ws5
    refine va_put (D := D) (ci := 9) (v := Value.int 0) (ty := .int) (C := "CommitLedgerModel$Version") (T := F_Ve) (N := 11) hx hb hts i_Ve t_Ve t_Ve_ok n_Ve hown hK hP hD hS 108 f_108_ws6 rfl 10 (by decide) (hts _ kf_Mo_103) (fun _ h9 => h9) rfl (by decide +kernel) rfl rfl (Nat.le_of_ble_eq_true rfl) d_Mo_lose_60 (fun H locs hP9 hD9 hS9 => ?_)
    obtain ⟨ws7, e_ws7⟩ : ∃ x : va_W, x = ws6.set 108 ((A108, Sum.inr (9, [Value.ref A109, Value.ref A110, Value.ref A111, Value.ref A112, Value.ref A113, Value.ref A114, Value.ref A115, Value.int 0, Value.int 0, Value.int 0, Value.int 0])) : Nat × va_E) := ⟨_, rfl⟩
    replace hP : va_P D classes ws7 H := by rw [e_ws7]; exact hP9
    replace hD : va_D A ws7 := by rw [e_ws7]; exact hD9
    replace hS := hS9
    clear hP9 hD9 hS9
    have f_108_ws7 : ws7[108]? = some ((A108, Sum.inr (9, [Value.ref A109, Value.ref A110, Value.ref A111, Value.ref A112, Value.ref A113, Value.ref A114, Value.ref A115, Value.int 0, Value.int 0, Value.int 0, Value.int 0])) : Nat × va_E) := by rw [e_ws7]; exact gs_self f_108_ws6
    replace hU : gx_g ws ws7 0 [46, 84, 92, 100, 108] := by rw [e_ws7]; exact hU.put (Or.inl (by simp))
    refine lv_iinc (v := 4) (lv' := [(3, Value.int 4), (4, Value.ref A108), (2, Value.int 4), (1, Value.ref A83), (0, Value.ref A46)]) hx hb d_Mo_lose_63 hl (k := 1) rfl (by decide) (by decide) rfl (fun ls hl => ?_)
    refine lv_goto (tgt := 47) hx hb d_Mo_lose_66 (by decide) ?_
    refine lv_iload_n hx hb d_Mo_lose_47 rfl (lv_at hl 0 rfl) ?_
    refine lv_iload_n hx hb d_Mo_lose_48 rfl (lv_at hl 2 rfl) ?_
    refine lv_icmp_ge (tgt := 69) hx hb d_Mo_lose_49 (by decide) (fun _ => ?_) (fun c9 => absurd (by decide) c9)
    refine lv_aload_n hx hb d_Mo_lose_69 rfl (lv_at hl 4 rfl) ?_
    refine lv_iconst (v := 0) hx hb d_Mo_lose_70 (by decide) ?_
    have f_46_ws4 : ws4[46]? = some ((A46, Sum.inr (8, [Value.int 0, Value.int 0, Value.ref A47, Value.ref A48, Value.ref A49, Value.int 0, Value.ref A50, Value.ref A51, Value.ref A52, Value.ref A53, Value.int 0, Value.int 0, Value.int 0, Value.int (-1), Value.int 0, Value.ref A54, Value.ref A62, Value.ref A70, Value.int 0, Value.int 0, Value.int 0, Value.ref A78, Value.ref A79, Value.int 0, Value.int 16, Value.int 4, u0, Value.ref A80, Value.ref A81, Value.ref A82, Value.int 0, Value.ref A83, Value.int 0, Value.int 0, Value.int 0])) : Nat × va_E) := by rw [e_ws4]; exact gs_ne (by decide) f_46_ws3
    clear f_46_ws3
    have f_46_ws5 : ws5[46]? = some ((A46, Sum.inr (8, [Value.int 0, Value.int 0, Value.ref A47, Value.ref A48, Value.ref A49, Value.int 0, Value.ref A50, Value.ref A51, Value.ref A52, Value.ref A53, Value.int 0, Value.int 0, Value.int 0, Value.int (-1), Value.int 0, Value.ref A54, Value.ref A62, Value.ref A70, Value.int 0, Value.int 0, Value.int 0, Value.ref A78, Value.ref A79, Value.int 0, Value.int 16, Value.int 4, u0, Value.ref A80, Value.ref A81, Value.ref A82, Value.int 0, Value.ref A83, Value.int 0, Value.int 0, Value.int 0])) : Nat × va_E) := by rw [e_ws5]; exact gs_ne (by decide) f_46_ws4
    clear f_46_ws4
    have f_46_ws6 : ws6[46]? = some ((A46, Sum.inr (8, [Value.int 0, Value.int 0, Value.ref A47, Value.ref A48, Value.ref A49, Value.int 0, Value.ref A50, Value.ref A51, Value.ref A52, Value.ref A53, Value.int 0, Value.int 0, Value.int 0, Value.int (-1), Value.int 0, Value.ref A54, Value.ref A62, Value.ref A70, Value.int 0, Value.int 0, Value.int 0, Value.ref A78, Value.ref A79, Value.int 0, Value.int 16, Value.int 4, u0, Value.ref A80, Value.ref A81, Value.ref A82, Value.int 0, Value.ref A83, Value.int 0, Value.int 0, Value.int 0])) : Nat × va_E) := by rw [e_ws6]; exact gs_ne (by decide) f_46_ws5
    clear f_46_ws5
    have f_46_ws7 : ws7[46]? = some ((A46, Sum.inr (8, [Value.int 0, Value.int 0, Value.ref A47, Value.ref A48, Value.ref A49, Value.int 0, Value.ref A50, Value.ref A51, Value.ref A52, Value.ref A53, Value.int 0, Value.int 0, Value.int 0, Value.int (-1), Value.int 0, Value.ref A54, Value.ref A62, Value.ref A70, Value.int 0, Value.int 0, Value.int 0, Value.ref A78, Value.ref A79, Value.int 0, Value.int 16, Value.int 4, u0, Value.ref A80, Value.ref A81, Value.ref A82, Value.int 0, Value.ref A83, Value.int 0, Value.int 0, Value.int 0])) : Nat × va_E) := by rw [e_ws7]; exact gs_ne (by decide) f_46_ws6
    clear f_46_ws6
    refine va_put (D := D) (ci := 8) (v := Value.int 0) (ty := .int) (C := "CommitLedgerModel") (T := F_Mo) (N := 35) hx hb hts i_Mo t_Mo t_Mo_ok n_Mo hown hK hP hD hS 46 f_46_ws7 rfl 30 (by decide) (hts _ kf_Mo_106) (fun _ h9 => h9) rfl (by decide +kernel) rfl rfl (Nat.le_of_ble_eq_true rfl) d_Mo_lose_71 (fun H locs hP9 hD9 hS9 => ?_)
    obtain ⟨ws8, e_ws8⟩ : ∃ x : va_W, x = ws7.set 46 ((A46, Sum.inr (8, [Value.int 0, Value.int 0, Value.ref A47, Value.ref A48, Value.ref A49, Value.int 0, Value.ref A50, Value.ref A51, Value.ref A52, Value.ref A53, Value.int 0, Value.int 0, Value.int 0, Value.int (-1), Value.int 0, Value.ref A54, Value.ref A62, Value.ref A70, Value.int 0, Value.int 0, Value.int 0, Value.ref A78, Value.ref A79, Value.int 0, Value.int 16, Value.int 4, u0, Value.ref A80, Value.ref A81, Value.ref A82, Value.int 0, Value.ref A83, Value.int 0, Value.int 0, Value.int 0])) : Nat × va_E) := ⟨_, rfl⟩
    replace hP : va_P D classes ws8 H := by rw [e_ws8]; exact hP9
    replace hD : va_D A ws8 := by rw [e_ws8]; exact hD9
    replace hS := hS9
    clear hP9 hD9 hS9
    have f_46_ws8 : ws8[46]? = some ((A46, Sum.inr (8, [Value.int 0, Value.int 0, Value.ref A47, Value.ref A48, Value.ref A49, Value.int 0, Value.ref A50, Value.ref A51, Value.ref A52, Value.ref A53, Value.int 0, Value.int 0, Value.int 0, Value.int (-1), Value.int 0, Value.ref A54, Value.ref A62, Value.ref A70, Value.int 0, Value.int 0, Value.int 0, Value.ref A78, Value.ref A79, Value.int 0, Value.int 16, Value.int 4, u0, Value.ref A80, Value.ref A81, Value.ref A82, Value.int 0, Value.ref A83, Value.int 0, Value.int 0, Value.int 0])) : Nat × va_E) := by rw [e_ws8]; exact gs_self f_46_ws7
    replace hU : gx_g ws ws8 0 [46, 84, 92, 100, 108] := by rw [e_ws8]; exact hU.put (Or.inl (by simp))
    refine lv_aload_n hx hb d_Mo_lose_74 rfl (lv_at hl 4 rfl) ?_
    refine lv_iconst (v := 0) hx hb d_Mo_lose_75 (by decide) ?_
    refine va_put (D := D) (ci := 8) (v := Value.int 0) (ty := .boolean) (C := "CommitLedgerModel") (T := F_Mo) (N := 35) hx hb hts i_Mo t_Mo t_Mo_ok n_Mo hown hK hP hD hS 46 f_46_ws8 rfl 19 (by decide) (hts _ kf_Mo_109) (fun _ h9 => h9) rfl (by decide +kernel) rfl rfl (Nat.le_of_ble_eq_true rfl) d_Mo_lose_76 (fun H locs hP9 hD9 hS9 => ?_)
    obtain ⟨ws9, e_ws9⟩ : ∃ x : va_W, x = ws8.set 46 ((A46, Sum.inr (8, [Value.int 0, Value.int 0, Value.ref A47, Value.ref A48, Value.ref A49, Value.int 0, Value.ref A50, Value.ref A51, Value.ref A52, Value.ref A53, Value.int 0, Value.int 0, Value.int 0, Value.int (-1), Value.int 0, Value.ref A54, Value.ref A62, Value.ref A70, Value.int 0, Value.int 0, Value.int 0, Value.ref A78, Value.ref A79, Value.int 0, Value.int 16, Value.int 4, u0, Value.ref A80, Value.ref A81, Value.ref A82, Value.int 0, Value.ref A83, Value.int 0, Value.int 0, Value.int 0])) : Nat × va_E) := ⟨_, rfl⟩
    replace hP : va_P D classes ws9 H := by rw [e_ws9]; exact hP9
    replace hD : va_D A ws9 := by rw [e_ws9]; exact hD9
    replace hS := hS9
    clear hP9 hD9 hS9
    have f_46_ws9 : ws9[46]? = some ((A46, Sum.inr (8, [Value.int 0, Value.int 0, Value.ref A47, Value.ref A48, Value.ref A49, Value.int 0, Value.ref A50, Value.ref A51, Value.ref A52, Value.ref A53, Value.int 0, Value.int 0, Value.int 0, Value.int (-1), Value.int 0, Value.ref A54, Value.ref A62, Value.ref A70, Value.int 0, Value.int 0, Value.int 0, Value.ref A78, Value.ref A79, Value.int 0, Value.int 16, Value.int 4, u0, Value.ref A80, Value.ref A81, Value.ref A82, Value.int 0, Value.ref A83, Value.int 0, Value.int 0, Value.int 0])) : Nat × va_E) := by rw [e_ws9]; exact gs_self f_46_ws8
    replace hU : gx_g ws ws9 0 [46, 84, 92, 100, 108] := by rw [e_ws9]; exact hU.put (Or.inl (by simp))
    refine lv_aload_n hx hb d_Mo_lose_79 rfl (lv_at hl 4 rfl) ?_
    refine lv_iconst (v := (-1)) hx hb d_Mo_lose_80 (by decide) ?_
    refine va_put (D := D) (ci := 8) (v := Value.int (-1)) (ty := .int) (C := "CommitLedgerModel") (T := F_Mo) (N := 35) hx hb hts i_Mo t_Mo t_Mo_ok n_Mo hown hK hP hD hS 46 f_46_ws9 rfl 13 (by decide) (hts _ kf_Mo_33) (fun _ h9 => h9) rfl (by decide +kernel) rfl rfl (Nat.le_of_ble_eq_true rfl) d_Mo_lose_81 (fun H locs hP9 hD9 hS9 => ?_)
    obtain ⟨ws10, e_ws10⟩ : ∃ x : va_W, x = ws9.set 46 ((A46, Sum.inr (8, [Value.int 0, Value.int 0, Value.ref A47, Value.ref A48, Value.ref A49, Value.int 0, Value.ref A50, Value.ref A51, Value.ref A52, Value.ref A53, Value.int 0, Value.int 0, Value.int 0, Value.int (-1), Value.int 0, Value.ref A54, Value.ref A62, Value.ref A70, Value.int 0, Value.int 0, Value.int 0, Value.ref A78, Value.ref A79, Value.int 0, Value.int 16, Value.int 4, u0, Value.ref A80, Value.ref A81, Value.ref A82, Value.int 0, Value.ref A83, Value.int 0, Value.int 0, Value.int 0])) : Nat × va_E) := ⟨_, rfl⟩
    replace hP : va_P D classes ws10 H := by rw [e_ws10]; exact hP9
    replace hD : va_D A ws10 := by rw [e_ws10]; exact hD9
    replace hS := hS9
    clear hP9 hD9 hS9
    have f_46_ws10 : ws10[46]? = some ((A46, Sum.inr (8, [Value.int 0, Value.int 0, Value.ref A47, Value.ref A48, Value.ref A49, Value.int 0, Value.ref A50, Value.ref A51, Value.ref A52, Value.ref A53, Value.int 0, Value.int 0, Value.int 0, Value.int (-1), Value.int 0, Value.ref A54, Value.ref A62, Value.ref A70, Value.int 0, Value.int 0, Value.int 0, Value.ref A78, Value.ref A79, Value.int 0, Value.int 16, Value.int 4, u0, Value.ref A80, Value.ref A81, Value.ref A82, Value.int 0, Value.ref A83, Value.int 0, Value.int 0, Value.int 0])) : Nat × va_E) := by rw [e_ws10]; exact gs_self f_46_ws9
    replace hU : gx_g ws ws10 0 [46, 84, 92, 100, 108] := by rw [e_ws10]; exact hU.put (Or.inl (by simp))
    refine lv_aload_n hx hb d_Mo_lose_84 rfl (lv_at hl 4 rfl) ?_
    refine lv_iconst (v := 1) hx hb d_Mo_lose_85 (by decide) ?_
    refine va_put (D := D) (ci := 8) (v := Value.int 1) (ty := .boolean) (C := "CommitLedgerModel") (T := F_Mo) (N := 35) hx hb hts i_Mo t_Mo t_Mo_ok n_Mo hown hK hP hD hS 46 f_46_ws10 rfl 14 (by decide) (hts _ kf_Mo_112) (fun _ h9 => h9) rfl (by decide +kernel) rfl rfl (Nat.le_of_ble_eq_true rfl) d_Mo_lose_86 (fun H locs hP9 hD9 hS9 => ?_)
    obtain ⟨ws11, e_ws11⟩ : ∃ x : va_W, x = ws10.set 46 ((A46, Sum.inr (8, [Value.int 0, Value.int 0, Value.ref A47, Value.ref A48, Value.ref A49, Value.int 0, Value.ref A50, Value.ref A51, Value.ref A52, Value.ref A53, Value.int 0, Value.int 0, Value.int 0, Value.int (-1), Value.int 1, Value.ref A54, Value.ref A62, Value.ref A70, Value.int 0, Value.int 0, Value.int 0, Value.ref A78, Value.ref A79, Value.int 0, Value.int 16, Value.int 4, u0, Value.ref A80, Value.ref A81, Value.ref A82, Value.int 0, Value.ref A83, Value.int 0, Value.int 0, Value.int 0])) : Nat × va_E) := ⟨_, rfl⟩
    replace hP : va_P D classes ws11 H := by rw [e_ws11]; exact hP9
    replace hD : va_D A ws11 := by rw [e_ws11]; exact hD9
    replace hS := hS9
    clear hP9 hD9 hS9
    have f_46_ws11 : ws11[46]? = some ((A46, Sum.inr (8, [Value.int 0, Value.int 0, Value.ref A47, Value.ref A48, Value.ref A49, Value.int 0, Value.ref A50, Value.ref A51, Value.ref A52, Value.ref A53, Value.int 0, Value.int 0, Value.int 0, Value.int (-1), Value.int 1, Value.ref A54, Value.ref A62, Value.ref A70, Value.int 0, Value.int 0, Value.int 0, Value.ref A78, Value.ref A79, Value.int 0, Value.int 16, Value.int 4, u0, Value.ref A80, Value.ref A81, Value.ref A82, Value.int 0, Value.ref A83, Value.int 0, Value.int 0, Value.int 0])) : Nat × va_E) := by rw [e_ws11]; exact gs_self f_46_ws10
    replace hU : gx_g ws ws11 0 [46, 84, 92, 100, 108] := by rw [e_ws11]; exact hU.put (Or.inl (by simp))
    have f_84_ws5 : ws5[84]? = some ((A84, Sum.inr (9, [Value.ref A85, Value.ref A86, Value.ref A87, Value.ref A88, Value.ref A89, Value.ref A90, Value.ref A91, Value.int 0, Value.int 0, Value.int 0, Value.int 0])) : Nat × va_E) := by rw [e_ws5]; exact gs_ne (by decide) f_84_ws4
    clear f_84_ws4
    have f_84_ws6 : ws6[84]? = some ((A84, Sum.inr (9, [Value.ref A85, Value.ref A86, Value.ref A87, Value.ref A88, Value.ref A89, Value.ref A90, Value.ref A91, Value.int 0, Value.int 0, Value.int 0, Value.int 0])) : Nat × va_E) := by rw [e_ws6]; exact gs_ne (by decide) f_84_ws5
    clear f_84_ws5
    have f_84_ws7 : ws7[84]? = some ((A84, Sum.inr (9, [Value.ref A85, Value.ref A86, Value.ref A87, Value.ref A88, Value.ref A89, Value.ref A90, Value.ref A91, Value.int 0, Value.int 0, Value.int 0, Value.int 0])) : Nat × va_E) := by rw [e_ws7]; exact gs_ne (by decide) f_84_ws6
    clear f_84_ws6
    have f_84_ws8 : ws8[84]? = some ((A84, Sum.inr (9, [Value.ref A85, Value.ref A86, Value.ref A87, Value.ref A88, Value.ref A89, Value.ref A90, Value.ref A91, Value.int 0, Value.int 0, Value.int 0, Value.int 0])) : Nat × va_E) := by rw [e_ws8]; exact gs_ne (by decide) f_84_ws7
    clear f_84_ws7
    have f_84_ws9 : ws9[84]? = some ((A84, Sum.inr (9, [Value.ref A85, Value.ref A86, Value.ref A87, Value.ref A88, Value.ref A89, Value.ref A90, Value.ref A91, Value.int 0, Value.int 0, Value.int 0, Value.int 0])) : Nat × va_E) := by rw [e_ws9]; exact gs_ne (by decide) f_84_ws8
    clear f_84_ws8
    have f_84_ws10 : ws10[84]? = some ((A84, Sum.inr (9, [Value.ref A85, Value.ref A86, Value.ref A87, Value.ref A88, Value.ref A89, Value.ref A90, Value.ref A91, Value.int 0, Value.int 0, Value.int 0, Value.int 0])) : Nat × va_E) := by rw [e_ws10]; exact gs_ne (by decide) f_84_ws9
    clear f_84_ws9
    have f_84_ws11 : ws11[84]? = some ((A84, Sum.inr (9, [Value.ref A85, Value.ref A86, Value.ref A87, Value.ref A88, Value.ref A89, Value.ref A90, Value.ref A91, Value.int 0, Value.int 0, Value.int 0, Value.int 0])) : Nat × va_E) := by rw [e_ws11]; exact gs_ne (by decide) f_84_ws10
    clear f_84_ws10
    have f_92_ws6 : ws6[92]? = some ((A92, Sum.inr (9, [Value.ref A93, Value.ref A94, Value.ref A95, Value.ref A96, Value.ref A97, Value.ref A98, Value.ref A99, Value.int 0, Value.int 0, Value.int 0, Value.int 0])) : Nat × va_E) := by rw [e_ws6]; exact gs_ne (by decide) f_92_ws5
    clear f_92_ws5
    have f_92_ws7 : ws7[92]? = some ((A92, Sum.inr (9, [Value.ref A93, Value.ref A94, Value.ref A95, Value.ref A96, Value.ref A97, Value.ref A98, Value.ref A99, Value.int 0, Value.int 0, Value.int 0, Value.int 0])) : Nat × va_E) := by rw [e_ws7]; exact gs_ne (by decide) f_92_ws6
    clear f_92_ws6
    have f_92_ws8 : ws8[92]? = some ((A92, Sum.inr (9, [Value.ref A93, Value.ref A94, Value.ref A95, Value.ref A96, Value.ref A97, Value.ref A98, Value.ref A99, Value.int 0, Value.int 0, Value.int 0, Value.int 0])) : Nat × va_E) := by rw [e_ws8]; exact gs_ne (by decide) f_92_ws7
    clear f_92_ws7
    have f_92_ws9 : ws9[92]? = some ((A92, Sum.inr (9, [Value.ref A93, Value.ref A94, Value.ref A95, Value.ref A96, Value.ref A97, Value.ref A98, Value.ref A99, Value.int 0, Value.int 0, Value.int 0, Value.int 0])) : Nat × va_E) := by rw [e_ws9]; exact gs_ne (by decide) f_92_ws8
    clear f_92_ws8
    have f_92_ws10 : ws10[92]? = some ((A92, Sum.inr (9, [Value.ref A93, Value.ref A94, Value.ref A95, Value.ref A96, Value.ref A97, Value.ref A98, Value.ref A99, Value.int 0, Value.int 0, Value.int 0, Value.int 0])) : Nat × va_E) := by rw [e_ws10]; exact gs_ne (by decide) f_92_ws9
    clear f_92_ws9
    have f_92_ws11 : ws11[92]? = some ((A92, Sum.inr (9, [Value.ref A93, Value.ref A94, Value.ref A95, Value.ref A96, Value.ref A97, Value.ref A98, Value.ref A99, Value.int 0, Value.int 0, Value.int 0, Value.int 0])) : Nat × va_E) := by rw [e_ws11]; exact gs_ne (by decide) f_92_ws10
    clear f_92_ws10
    have f_100_ws7 : ws7[100]? = some ((A100, Sum.inr (9, [Value.ref A101, Value.ref A102, Value.ref A103, Value.ref A104, Value.ref A105, Value.ref A106, Value.ref A107, Value.int 0, Value.int 0, Value.int 0, Value.int 0])) : Nat × va_E) := by rw [e_ws7]; exact gs_ne (by decide) f_100_ws6
    clear f_100_ws6
    have f_100_ws8 : ws8[100]? = some ((A100, Sum.inr (9, [Value.ref A101, Value.ref A102, Value.ref A103, Value.ref A104, Value.ref A105, Value.ref A106, Value.ref A107, Value.int 0, Value.int 0, Value.int 0, Value.int 0])) : Nat × va_E) := by rw [e_ws8]; exact gs_ne (by decide) f_100_ws7
    clear f_100_ws7
    have f_100_ws9 : ws9[100]? = some ((A100, Sum.inr (9, [Value.ref A101, Value.ref A102, Value.ref A103, Value.ref A104, Value.ref A105, Value.ref A106, Value.ref A107, Value.int 0, Value.int 0, Value.int 0, Value.int 0])) : Nat × va_E) := by rw [e_ws9]; exact gs_ne (by decide) f_100_ws8
    clear f_100_ws8
    have f_100_ws10 : ws10[100]? = some ((A100, Sum.inr (9, [Value.ref A101, Value.ref A102, Value.ref A103, Value.ref A104, Value.ref A105, Value.ref A106, Value.ref A107, Value.int 0, Value.int 0, Value.int 0, Value.int 0])) : Nat × va_E) := by rw [e_ws10]; exact gs_ne (by decide) f_100_ws9
    clear f_100_ws9
    have f_100_ws11 : ws11[100]? = some ((A100, Sum.inr (9, [Value.ref A101, Value.ref A102, Value.ref A103, Value.ref A104, Value.ref A105, Value.ref A106, Value.ref A107, Value.int 0, Value.int 0, Value.int 0, Value.int 0])) : Nat × va_E) := by rw [e_ws11]; exact gs_ne (by decide) f_100_ws10
    clear f_100_ws10
    have f_108_ws8 : ws8[108]? = some ((A108, Sum.inr (9, [Value.ref A109, Value.ref A110, Value.ref A111, Value.ref A112, Value.ref A113, Value.ref A114, Value.ref A115, Value.int 0, Value.int 0, Value.int 0, Value.int 0])) : Nat × va_E) := by rw [e_ws8]; exact gs_ne (by decide) f_108_ws7
    clear f_108_ws7
    have f_108_ws9 : ws9[108]? = some ((A108, Sum.inr (9, [Value.ref A109, Value.ref A110, Value.ref A111, Value.ref A112, Value.ref A113, Value.ref A114, Value.ref A115, Value.int 0, Value.int 0, Value.int 0, Value.int 0])) : Nat × va_E) := by rw [e_ws9]; exact gs_ne (by decide) f_108_ws8
    clear f_108_ws8
    have f_108_ws10 : ws10[108]? = some ((A108, Sum.inr (9, [Value.ref A109, Value.ref A110, Value.ref A111, Value.ref A112, Value.ref A113, Value.ref A114, Value.ref A115, Value.int 0, Value.int 0, Value.int 0, Value.int 0])) : Nat × va_E) := by rw [e_ws10]; exact gs_ne (by decide) f_108_ws9
    clear f_108_ws9
    have f_108_ws11 : ws11[108]? = some ((A108, Sum.inr (9, [Value.ref A109, Value.ref A110, Value.ref A111, Value.ref A112, Value.ref A113, Value.ref A114, Value.ref A115, Value.int 0, Value.int 0, Value.int 0, Value.int 0])) : Nat × va_E) := by rw [e_ws11]; exact gs_ne (by decide) f_108_ws10
    clear f_108_ws10
    exact gx_ret (W.vret hx hb hr (gx_post hP hK hD hS (by rw [← hPQ]; exact ⟨rfl, hU, f_46_ws11, f_84_ws11, f_92_ws11, f_100_ws11, f_108_ws11⟩)) hS.2.2 d_Mo_lose_89)
  · obtain ⟨E9, ws12, ce, hp, hce, hP9, -, hD9, hS9⟩ := gx_backT h0_1 hW_1 hQ_1 hL_1 hD hS hA
    clear hQ_1 h0_1 hL_1 hW_1 hP hD hS
    have hP := hP9
    have hD := hD9
    have hS := hS9
    clear hP9 hD9 hS9
    rcases hp with ⟨hv9, e_ws12, f_46_ws12⟩
    cases hv9

set_option maxHeartbeats 4000000 in
set_option maxRecDepth 100000 in
theorem c_Mo_done_v4 (l : Launch) (htr : l.stackTraces = false) (D : va_G) (tys : List (ClassId × FieldType)) (z sz : Nat) (ws : va_W) (A46 : Nat) (A47 : Nat) (A48 : Nat) (A49 : Nat) (A50 : Nat) (A51 : Nat) (A52 : Nat) (A53 : Nat) (A54 : Nat) (A62 : Nat) (A70 : Nat) (A78 : Nat) (A79 : Nat) (u0 : Value) (A80 : Nat) (A81 : Nat) (A82 : Nat) (A83 : Nat) (f_46 : ws[46]? = some ((A46, Sum.inr (8, [Value.int 0, Value.int 0, Value.ref A47, Value.ref A48, Value.ref A49, Value.int 0, Value.ref A50, Value.ref A51, Value.ref A52, Value.ref A53, Value.int 0, Value.int 0, Value.int 0, Value.int (-1), Value.int 1, Value.ref A54, Value.ref A62, Value.ref A70, Value.int 0, Value.int 0, Value.int 0, Value.ref A78, Value.ref A79, Value.int 0, Value.int 16, Value.int 4, u0, Value.ref A80, Value.ref A81, Value.ref A82, Value.int 0, Value.ref A83, Value.int 0, Value.int 0, Value.int 0])) : Nat × va_E)) : gx_Met l y_Mo_done [Cond.code y_Mo_done b_Mo_done 6 (some .int)] { frames := 1, cells := 0, slots := 0, locals := 12 } (gx_P z sz D classes tys ws [Value.ref A46, Value.int 0, Value.int 0]) (gx_Q D classes tys (va_A ws sz) (fun r ws' => (r = Sum.inl (some (Value.int 0)) ∧ gx_g ws ws' 0 [46] ∧ ws'[46]? = some ((A46, Sum.inr (8, [Value.int 0, Value.int 0, Value.ref A47, Value.ref A48, Value.ref A49, Value.int 0, Value.ref A50, Value.ref A51, Value.ref A52, Value.ref A53, Value.int 0, Value.int 0, Value.int 0, Value.int (-1), Value.int 1, Value.ref A54, Value.ref A62, Value.ref A70, Value.int 0, Value.int 0, Value.int 0, Value.ref A78, Value.ref A79, Value.int 0, Value.int 16, Value.int 4, u0, Value.ref A80, Value.ref A81, Value.ref A82, Value.int 0, Value.ref A83, Value.int 0, Value.int 0, Value.int 0])) : Nat × va_E)))) 0 0 (va_A ws sz) := by
  refine gx_ofW (cc := b_Mo_done) (maxL := 6) (ret := (some .int)) (by decide) rfl ?_
  intro p e s m args below meth c s₁ B hml hv
  obtain ⟨rfl, hsz, hz, hP, hK, hD0, hY⟩ := hv
  have hx := B.exec
  have hb := B.bytes
  have hr := B.returns
  have hts := hY.hts (#[Value.ref A46, Value.int 0, Value.int 0] : Array Value)
  have hown : s.vm.findClass "CommitLedgerModel" = some m.cls := findClass_of_methodNamed B.named
  have hlocks := B.notSynchronized
  have hne : c.exceptionTable.isEmpty = true := B.noHandlers (atoms_spec (ws := [Cond.code y_Mo_done b_Mo_done 6 (some .int)]) B.pre _ List.mem_cons_self)
  subst hsz
  have hAz := gx_az hD0 hz
  have hD := hD0.self (sz := s.heap.size)
  have hN := gx_ns hP
  have hA : ∀ q : Nat, s.heap.size ≤ q → va_A ws s.heap.size q := fun q h => Or.inr h
  generalize va_A ws s.heap.size = A at hD hN hA hAz ⊢
  generalize hPQ : (fun (r : Option Value ⊕ String) (ws' : va_W) => (r = Sum.inl (some (Value.int 0)) ∧ gx_g ws ws' 0 [46] ∧ ws'[46]? = some ((A46, Sum.inr (8, [Value.int 0, Value.int 0, Value.ref A47, Value.ref A48, Value.ref A49, Value.int 0, Value.ref A50, Value.ref A51, Value.ref A52, Value.ref A53, Value.int 0, Value.int 0, Value.int 0, Value.int (-1), Value.int 1, Value.ref A54, Value.ref A62, Value.ref A70, Value.int 0, Value.int 0, Value.int 0, Value.ref A78, Value.ref A79, Value.int 0, Value.int 16, Value.int 4, u0, Value.ref A80, Value.ref A81, Value.ref A82, Value.int 0, Value.ref A83, Value.int 0, Value.int 0, Value.int 0])) : Nat × va_E))) = PQ
  have hS : va_S A s.heap s.heap [] := va_S.rf
  have hU : gx_g ws ws 0 [46] := gx_g.rf
  have hl := lv_entry ([Value.ref A46, Value.int 0, Value.int 0]) (n := 6) (Nat.le_of_ble_eq_true rfl)
  rw [lg_entry_eq]
  generalize (lg_sl ([Value.ref A46, Value.int 0, Value.int 0]) ++ List.replicate (6 - (lg_sl ([Value.ref A46, Value.int 0, Value.int 0])).length) Slot.unset).toArray = ls at hl ⊢
  have hl : lv_has ls 6 [(0, Value.ref A46), (1, Value.int 0), (2, Value.int 0)] := hl
  refine lv_aload_n hx hb d_Mo_done_0 rfl (lv_at hl 0 rfl) ?_
  refine lv_iconst (v := 0) hx hb d_Mo_done_1 (by decide) ?_
  refine va_put (D := D) (ci := 8) (v := Value.int 0) (ty := .int) (C := "CommitLedgerModel") (T := F_Mo) (N := 35) hx hb hts i_Mo t_Mo t_Mo_ok n_Mo hown hK hP hD hS 46 f_46 rfl 1 (by decide) (hts _ kf_Mo_80) (fun _ h9 => h9) rfl (by decide +kernel) rfl rfl (Nat.le_of_ble_eq_true rfl) d_Mo_done_2 (fun H locs hP9 hD9 hS9 => ?_)
  obtain ⟨ws1, e_ws1⟩ : ∃ x : va_W, x = ws.set 46 ((A46, Sum.inr (8, [Value.int 0, Value.int 0, Value.ref A47, Value.ref A48, Value.ref A49, Value.int 0, Value.ref A50, Value.ref A51, Value.ref A52, Value.ref A53, Value.int 0, Value.int 0, Value.int 0, Value.int (-1), Value.int 1, Value.ref A54, Value.ref A62, Value.ref A70, Value.int 0, Value.int 0, Value.int 0, Value.ref A78, Value.ref A79, Value.int 0, Value.int 16, Value.int 4, u0, Value.ref A80, Value.ref A81, Value.ref A82, Value.int 0, Value.ref A83, Value.int 0, Value.int 0, Value.int 0])) : Nat × va_E) := ⟨_, rfl⟩
  replace hP : va_P D classes ws1 H := by rw [e_ws1]; exact hP9
  replace hD : va_D A ws1 := by rw [e_ws1]; exact hD9
  replace hS := hS9
  clear hP9 hD9 hS9
  have f_46_ws1 : ws1[46]? = some ((A46, Sum.inr (8, [Value.int 0, Value.int 0, Value.ref A47, Value.ref A48, Value.ref A49, Value.int 0, Value.ref A50, Value.ref A51, Value.ref A52, Value.ref A53, Value.int 0, Value.int 0, Value.int 0, Value.int (-1), Value.int 1, Value.ref A54, Value.ref A62, Value.ref A70, Value.int 0, Value.int 0, Value.int 0, Value.ref A78, Value.ref A79, Value.int 0, Value.int 16, Value.int 4, u0, Value.ref A80, Value.ref A81, Value.ref A82, Value.int 0, Value.ref A83, Value.int 0, Value.int 0, Value.int 0])) : Nat × va_E) := by rw [e_ws1]; exact gs_self f_46
  replace hU : gx_g ws ws1 0 [46] := by rw [e_ws1]; exact hU.put (Or.inl (by simp))
  refine lv_iconst (v := 0) hx hb d_Mo_done_5 (by decide) ?_
  refine lv_istore_n (lv' := [(3, Value.int 0), (0, Value.ref A46), (1, Value.int 0), (2, Value.int 0)]) hx hb d_Mo_done_6 rfl hl (by decide) rfl (fun ls hl => ?_)
  refine lv_ldc (v := 100000) hx hb hown (hts _ ki_Mo_83) d_Mo_done_7 ?_
  refine lv_istore (lv' := [(4, Value.int 100000), (3, Value.int 0), (0, Value.ref A46), (1, Value.int 0), (2, Value.int 0)]) hx hb d_Mo_done_9 hl (by decide) rfl (fun ls hl => ?_)
  refine lv_iload hx hb d_Mo_done_11 (lv_at hl 0 rfl) ?_
  refine lv_if_le (tgt := 60) hx hb d_Mo_done_13 (by decide) (fun c9 => absurd c9 (by decide)) (fun _ => ?_)
  refine lv_iload_n hx hb d_Mo_done_16 rfl (lv_at hl 4 rfl) ?_
  refine lv_iload hx hb d_Mo_done_17 (lv_at hl 0 rfl) ?_
  refine lv_idiv hx hb d_Mo_done_19 (by decide) ?_
  refine gx_topi (y := 0) (by decide) ?_
  refine lv_bipush (v := 10) hx hb d_Mo_done_20 (by decide) ?_
  refine lv_irem hx hb d_Mo_done_22 (by decide) ?_
  refine gx_topi (y := 0) (by decide) ?_
  refine lv_istore (lv' := [(5, Value.int 0), (4, Value.int 100000), (3, Value.int 0), (0, Value.ref A46), (1, Value.int 0), (2, Value.int 0)]) hx hb d_Mo_done_23 hl (by decide) rfl (fun ls hl => ?_)
  refine lv_iload hx hb d_Mo_done_25 (lv_at hl 0 rfl) ?_
  refine lv_if_ne (tgt := 33) hx hb d_Mo_done_27 (by decide) (fun c9 => absurd (by decide) c9) (fun _ => ?_)
  refine lv_goto (tgt := 50) hx hb d_Mo_done_30 (by decide) ?_
  refine lv_iload hx hb d_Mo_done_50 (lv_at hl 1 rfl) ?_
  refine lv_bipush (v := 10) hx hb d_Mo_done_52 (by decide) ?_
  refine lv_idiv hx hb d_Mo_done_54 (by decide) ?_
  refine gx_topi (y := 10000) (by decide) ?_
  refine lv_istore (lv' := [(4, Value.int 10000), (5, Value.int 0), (3, Value.int 0), (0, Value.ref A46), (1, Value.int 0), (2, Value.int 0)]) hx hb d_Mo_done_55 hl (by decide) rfl (fun ls hl => ?_)
  refine lv_goto (tgt := 11) hx hb d_Mo_done_57 (by decide) ?_
  refine lv_iload hx hb d_Mo_done_11 (lv_at hl 0 rfl) ?_
  refine lv_if_le (tgt := 60) hx hb d_Mo_done_13 (by decide) (fun c9 => absurd c9 (by decide)) (fun _ => ?_)
  refine lv_iload_n hx hb d_Mo_done_16 rfl (lv_at hl 5 rfl) ?_
  refine lv_iload hx hb d_Mo_done_17 (lv_at hl 0 rfl) ?_
  refine lv_idiv hx hb d_Mo_done_19 (by decide) ?_
  refine gx_topi (y := 0) (by decide) ?_
  refine lv_bipush (v := 10) hx hb d_Mo_done_20 (by decide) ?_
  refine lv_irem hx hb d_Mo_done_22 (by decide) ?_
  refine gx_topi (y := 0) (by decide) ?_
  refine lv_istore (lv' := [(5, Value.int 0), (4, Value.int 10000), (3, Value.int 0), (0, Value.ref A46), (1, Value.int 0), (2, Value.int 0)]) hx hb d_Mo_done_23 hl (by decide) rfl (fun ls hl => ?_)
  refine lv_iload hx hb d_Mo_done_25 (lv_at hl 0 rfl) ?_
  refine lv_if_ne (tgt := 33) hx hb d_Mo_done_27 (by decide) (fun c9 => absurd (by decide) c9) (fun _ => ?_)
  refine lv_goto (tgt := 50) hx hb d_Mo_done_30 (by decide) ?_
  refine lv_iload hx hb d_Mo_done_50 (lv_at hl 1 rfl) ?_
  refine lv_bipush (v := 10) hx hb d_Mo_done_52 (by decide) ?_
  refine lv_idiv hx hb d_Mo_done_54 (by decide) ?_
  refine gx_topi (y := 1000) (by decide) ?_
  refine lv_istore (lv' := [(4, Value.int 1000), (5, Value.int 0), (3, Value.int 0), (0, Value.ref A46), (1, Value.int 0), (2, Value.int 0)]) hx hb d_Mo_done_55 hl (by decide) rfl (fun ls hl => ?_)
  refine lv_goto (tgt := 11) hx hb d_Mo_done_57 (by decide) ?_
  refine lv_iload hx hb d_Mo_done_11 (lv_at hl 0 rfl) ?_
  refine lv_if_le (tgt := 60) hx hb d_Mo_done_13 (by decide) (fun c9 => absurd c9 (by decide)) (fun _ => ?_)
  refine lv_iload_n hx hb d_Mo_done_16 rfl (lv_at hl 5 rfl) ?_
  refine lv_iload hx hb d_Mo_done_17 (lv_at hl 0 rfl) ?_
  refine lv_idiv hx hb d_Mo_done_19 (by decide) ?_
  refine gx_topi (y := 0) (by decide) ?_
  refine lv_bipush (v := 10) hx hb d_Mo_done_20 (by decide) ?_
  refine lv_irem hx hb d_Mo_done_22 (by decide) ?_
  refine gx_topi (y := 0) (by decide) ?_
  refine lv_istore (lv' := [(5, Value.int 0), (4, Value.int 1000), (3, Value.int 0), (0, Value.ref A46), (1, Value.int 0), (2, Value.int 0)]) hx hb d_Mo_done_23 hl (by decide) rfl (fun ls hl => ?_)
  refine lv_iload hx hb d_Mo_done_25 (lv_at hl 0 rfl) ?_
  refine lv_if_ne (tgt := 33) hx hb d_Mo_done_27 (by decide) (fun c9 => absurd (by decide) c9) (fun _ => ?_)
  refine lv_goto (tgt := 50) hx hb d_Mo_done_30 (by decide) ?_
  refine lv_iload hx hb d_Mo_done_50 (lv_at hl 1 rfl) ?_
  refine lv_bipush (v := 10) hx hb d_Mo_done_52 (by decide) ?_
  refine lv_idiv hx hb d_Mo_done_54 (by decide) ?_
  refine gx_topi (y := 100) (by decide) ?_
  refine lv_istore (lv' := [(4, Value.int 100), (5, Value.int 0), (3, Value.int 0), (0, Value.ref A46), (1, Value.int 0), (2, Value.int 0)]) hx hb d_Mo_done_55 hl (by decide) rfl (fun ls hl => ?_)
  refine lv_goto (tgt := 11) hx hb d_Mo_done_57 (by decide) ?_
  refine lv_iload hx hb d_Mo_done_11 (lv_at hl 0 rfl) ?_
  refine lv_if_le (tgt := 60) hx hb d_Mo_done_13 (by decide) (fun c9 => absurd c9 (by decide)) (fun _ => ?_)
  refine lv_iload_n hx hb d_Mo_done_16 rfl (lv_at hl 5 rfl) ?_
  refine lv_iload hx hb d_Mo_done_17 (lv_at hl 0 rfl) ?_
  refine lv_idiv hx hb d_Mo_done_19 (by decide) ?_
  refine gx_topi (y := 0) (by decide) ?_
  refine lv_bipush (v := 10) hx hb d_Mo_done_20 (by decide) ?_
  refine lv_irem hx hb d_Mo_done_22 (by decide) ?_
  refine gx_topi (y := 0) (by decide) ?_
  refine lv_istore (lv' := [(5, Value.int 0), (4, Value.int 100), (3, Value.int 0), (0, Value.ref A46), (1, Value.int 0), (2, Value.int 0)]) hx hb d_Mo_done_23 hl (by decide) rfl (fun ls hl => ?_)
  refine lv_iload hx hb d_Mo_done_25 (lv_at hl 0 rfl) ?_
  refine lv_if_ne (tgt := 33) hx hb d_Mo_done_27 (by decide) (fun c9 => absurd (by decide) c9) (fun _ => ?_)
  refine lv_goto (tgt := 50) hx hb d_Mo_done_30 (by decide) ?_
  refine lv_iload hx hb d_Mo_done_50 (lv_at hl 1 rfl) ?_
  refine lv_bipush (v := 10) hx hb d_Mo_done_52 (by decide) ?_
  refine lv_idiv hx hb d_Mo_done_54 (by decide) ?_
  refine gx_topi (y := 10) (by decide) ?_
  refine lv_istore (lv' := [(4, Value.int 10), (5, Value.int 0), (3, Value.int 0), (0, Value.ref A46), (1, Value.int 0), (2, Value.int 0)]) hx hb d_Mo_done_55 hl (by decide) rfl (fun ls hl => ?_)
  refine lv_goto (tgt := 11) hx hb d_Mo_done_57 (by decide) ?_
  refine lv_iload hx hb d_Mo_done_11 (lv_at hl 0 rfl) ?_
  refine lv_if_le (tgt := 60) hx hb d_Mo_done_13 (by decide) (fun c9 => absurd c9 (by decide)) (fun _ => ?_)
  refine lv_iload_n hx hb d_Mo_done_16 rfl (lv_at hl 5 rfl) ?_
  refine lv_iload hx hb d_Mo_done_17 (lv_at hl 0 rfl) ?_
  refine lv_idiv hx hb d_Mo_done_19 (by decide) ?_
  refine gx_topi (y := 0) (by decide) ?_
  refine lv_bipush (v := 10) hx hb d_Mo_done_20 (by decide) ?_
  refine lv_irem hx hb d_Mo_done_22 (by decide) ?_
  refine gx_topi (y := 0) (by decide) ?_
  refine lv_istore (lv' := [(5, Value.int 0), (4, Value.int 10), (3, Value.int 0), (0, Value.ref A46), (1, Value.int 0), (2, Value.int 0)]) hx hb d_Mo_done_23 hl (by decide) rfl (fun ls hl => ?_)
  refine lv_iload hx hb d_Mo_done_25 (lv_at hl 0 rfl) ?_
  refine lv_if_ne (tgt := 33) hx hb d_Mo_done_27 (by decide) (fun c9 => absurd (by decide) c9) (fun _ => ?_)
  refine lv_goto (tgt := 50) hx hb d_Mo_done_30 (by decide) ?_
  refine lv_iload hx hb d_Mo_done_50 (lv_at hl 1 rfl) ?_
  refine lv_bipush (v := 10) hx hb d_Mo_done_52 (by decide) ?_
  refine lv_idiv hx hb d_Mo_done_54 (by decide) ?_
  refine gx_topi (y := 1) (by decide) ?_
  refine lv_istore (lv' := [(4, Value.int 1), (5, Value.int 0), (3, Value.int 0), (0, Value.ref A46), (1, Value.int 0), (2, Value.int 0)]) hx hb d_Mo_done_55 hl (by decide) rfl (fun ls hl => ?_)
  refine lv_goto (tgt := 11) hx hb d_Mo_done_57 (by decide) ?_
  refine lv_iload hx hb d_Mo_done_11 (lv_at hl 0 rfl) ?_
  refine lv_if_le (tgt := 60) hx hb d_Mo_done_13 (by decide) (fun c9 => absurd c9 (by decide)) (fun _ => ?_)
  refine lv_iload_n hx hb d_Mo_done_16 rfl (lv_at hl 5 rfl) ?_
  refine lv_iload hx hb d_Mo_done_17 (lv_at hl 0 rfl) ?_
  refine lv_idiv hx hb d_Mo_done_19 (by decide) ?_
  refine gx_topi (y := 0) (by decide) ?_
  refine lv_bipush (v := 10) hx hb d_Mo_done_20 (by decide) ?_
  refine lv_irem hx hb d_Mo_done_22 (by decide) ?_
  refine gx_topi (y := 0) (by decide) ?_
  refine lv_istore (lv' := [(5, Value.int 0), (4, Value.int 1), (3, Value.int 0), (0, Value.ref A46), (1, Value.int 0), (2, Value.int 0)]) hx hb d_Mo_done_23 hl (by decide) rfl (fun ls hl => ?_)
  refine lv_iload hx hb d_Mo_done_25 (lv_at hl 0 rfl) ?_
  refine lv_if_ne (tgt := 33) hx hb d_Mo_done_27 (by decide) (fun c9 => absurd (by decide) c9) (fun _ => ?_)
  refine lv_goto (tgt := 50) hx hb d_Mo_done_30 (by decide) ?_
  refine lv_iload hx hb d_Mo_done_50 (lv_at hl 1 rfl) ?_
  refine lv_bipush (v := 10) hx hb d_Mo_done_52 (by decide) ?_
  refine lv_idiv hx hb d_Mo_done_54 (by decide) ?_
  refine gx_topi (y := 0) (by decide) ?_
  refine lv_istore (lv' := [(4, Value.int 0), (5, Value.int 0), (3, Value.int 0), (0, Value.ref A46), (1, Value.int 0), (2, Value.int 0)]) hx hb d_Mo_done_55 hl (by decide) rfl (fun ls hl => ?_)
  refine lv_goto (tgt := 11) hx hb d_Mo_done_57 (by decide) ?_
  refine lv_iload hx hb d_Mo_done_11 (lv_at hl 0 rfl) ?_
  refine lv_if_le (tgt := 60) hx hb d_Mo_done_13 (by decide) (fun _ => ?_) (fun c9 => absurd (by decide) c9)
  refine lv_aload_n hx hb d_Mo_done_60 rfl (lv_at hl 3 rfl) ?_
  refine lv_iconst (v := 0) hx hb d_Mo_done_61 (by decide) ?_
  refine va_put (D := D) (ci := 8) (v := Value.int 0) (ty := .int) (C := "CommitLedgerModel") (T := F_Mo) (N := 35) hx hb hts i_Mo t_Mo t_Mo_ok n_Mo hown hK hP hD hS 46 f_46_ws1 rfl 0 (by decide) (hts _ kf_Mo_84) (fun _ h9 => h9) rfl (by decide +kernel) rfl rfl (Nat.le_of_ble_eq_true rfl) d_Mo_done_62 (fun H locs hP9 hD9 hS9 => ?_)
  obtain ⟨ws2, e_ws2⟩ : ∃ x : va_W, x = ws1.set 46 ((A46, Sum.inr (8, [Value.int 0, Value.int 0, Value.ref A47, Value.ref A48, Value.ref A49, Value.int 0, Value.ref A50, Value.ref A51, Value.ref A52, Value.ref A53, Value.int 0, Value.int 0, Value.int 0, Value.int (-1), Value.int 1, Value.ref A54, Value.ref A62, Value.ref A70, Value.int 0, Value.int 0, Value.int 0, Value.ref A78, Value.ref A79, Value.int 0, Value.int 16, Value.int 4, u0, Value.ref A80, Value.ref A81, Value.ref A82, Value.int 0, Value.ref A83, Value.int 0, Value.int 0, Value.int 0])) : Nat × va_E) := ⟨_, rfl⟩
  replace hP : va_P D classes ws2 H := by rw [e_ws2]; exact hP9
  replace hD : va_D A ws2 := by rw [e_ws2]; exact hD9
  replace hS := hS9
  clear hP9 hD9 hS9
  have f_46_ws2 : ws2[46]? = some ((A46, Sum.inr (8, [Value.int 0, Value.int 0, Value.ref A47, Value.ref A48, Value.ref A49, Value.int 0, Value.ref A50, Value.ref A51, Value.ref A52, Value.ref A53, Value.int 0, Value.int 0, Value.int 0, Value.int (-1), Value.int 1, Value.ref A54, Value.ref A62, Value.ref A70, Value.int 0, Value.int 0, Value.int 0, Value.ref A78, Value.ref A79, Value.int 0, Value.int 16, Value.int 4, u0, Value.ref A80, Value.ref A81, Value.ref A82, Value.int 0, Value.ref A83, Value.int 0, Value.int 0, Value.int 0])) : Nat × va_E) := by rw [e_ws2]; exact gs_self f_46_ws1
  replace hU : gx_g ws ws2 0 [46] := by rw [e_ws2]; exact hU.put (Or.inl (by simp))
  refine lv_aload_n hx hb d_Mo_done_65 rfl (lv_at hl 3 rfl) ?_
  refine va_get (D := D) (ci := 8) (v := Value.int 0) (C := "CommitLedgerModel") (T := F_Mo) (N := 35) hx hb hts i_Mo hown hK hP 46 f_46_ws2 rfl 1 (by decide) (hts _ kf_Mo_80) (fun _ h9 => h9) rfl d_Mo_done_66 ?_
  refine lv_if_le (tgt := 76) hx hb d_Mo_done_69 (by decide) (fun _ => ?_) (fun c9 => absurd (by decide) c9)
  refine lv_iload_n hx hb d_Mo_done_76 rfl (lv_at hl 4 rfl) ?_
  exact gx_ret (W.iret (v := 0) hx hb hr (gx_post hP hK hD hS (by rw [← hPQ]; exact ⟨rfl, hU, f_46_ws2⟩)) hS.2.2 d_Mo_done_77)

set_option maxHeartbeats 4000000 in
set_option maxRecDepth 100000 in
theorem c_Mo_crash_v1 (l : Launch) (htr : l.stackTraces = false) (D : va_G) (tys : List (ClassId × FieldType)) (z sz : Nat) (ws : va_W) (cV : ClassId) (A46 : Nat) (A47 : Nat) (A48 : Nat) (A49 : Nat) (A50 : Nat) (A51 : Nat) (A52 : Nat) (A53 : Nat) (A54 : Nat) (A62 : Nat) (A70 : Nat) (A78 : Nat) (A79 : Nat) (u0 : Value) (A80 : Nat) (A81 : Nat) (A82 : Nat) (A83 : Nat) (A84 : Nat) (A85 : Nat) (A86 : Nat) (A87 : Nat) (A88 : Nat) (A89 : Nat) (A90 : Nat) (A91 : Nat) (A92 : Nat) (A93 : Nat) (A94 : Nat) (A95 : Nat) (A96 : Nat) (A97 : Nat) (A98 : Nat) (A99 : Nat) (A100 : Nat) (A101 : Nat) (A102 : Nat) (A103 : Nat) (A104 : Nat) (A105 : Nat) (A106 : Nat) (A107 : Nat) (A108 : Nat) (A109 : Nat) (A110 : Nat) (A111 : Nat) (A112 : Nat) (A113 : Nat) (A114 : Nat) (A115 : Nat) (f_46 : ws[46]? = some ((A46, Sum.inr (8, [Value.int 0, Value.int 0, Value.ref A47, Value.ref A48, Value.ref A49, Value.int 0, Value.ref A50, Value.ref A51, Value.ref A52, Value.ref A53, Value.int 0, Value.int 0, Value.int 0, Value.int (-1), Value.int 0, Value.ref A54, Value.ref A62, Value.ref A70, Value.int 0, Value.int 0, Value.int 0, Value.ref A78, Value.ref A79, Value.int 0, Value.int 16, Value.int 4, u0, Value.ref A80, Value.ref A81, Value.ref A82, Value.int 0, Value.ref A83, Value.int 0, Value.int 0, Value.int 0])) : Nat × va_E)) (f_84 : ws[84]? = some ((A84, Sum.inr (9, [Value.ref A85, Value.ref A86, Value.ref A87, Value.ref A88, Value.ref A89, Value.ref A90, Value.ref A91, Value.int 0, Value.int 0, Value.int 0, Value.int 0])) : Nat × va_E)) (f_92 : ws[92]? = some ((A92, Sum.inr (9, [Value.ref A93, Value.ref A94, Value.ref A95, Value.ref A96, Value.ref A97, Value.ref A98, Value.ref A99, Value.int 0, Value.int 0, Value.int 0, Value.int 0])) : Nat × va_E)) (f_100 : ws[100]? = some ((A100, Sum.inr (9, [Value.ref A101, Value.ref A102, Value.ref A103, Value.ref A104, Value.ref A105, Value.ref A106, Value.ref A107, Value.int 0, Value.int 0, Value.int 0, Value.int 0])) : Nat × va_E)) (f_108 : ws[108]? = some ((A108, Sum.inr (9, [Value.ref A109, Value.ref A110, Value.ref A111, Value.ref A112, Value.ref A113, Value.ref A114, Value.ref A115, Value.int 0, Value.int 0, Value.int 0, Value.int 0])) : Nat × va_E)) (f_83 : ws[83]? = some ((A83, Sum.inl (cV, 4, Sum.inr (Sum.inr (Sum.inr (Sum.inr (va_up (va_up (va_up (va_up (fun _ => none) 0 (some A84)) 1 (some A92)) 2 (some A100)) 3 (some A108))))))) : Nat × va_E)) (ht5 : tys[5]? = some ((cV, FieldType.object "CommitLedgerModel$Version") : ClassId × FieldType)) : gx_Met l y_Mo_crash [Cond.code y_Mo_crash b_Mo_crash 2 none] { frames := 3, cells := 0, slots := 0, locals := 58 } (gx_P z sz D classes tys ws [Value.ref A46]) (gx_Q D classes tys (va_A ws sz) (fun r ws' => (r = Sum.inl none ∧ gx_g ws ws' 0 [46, 84, 92, 100, 108] ∧ ws'[46]? = some ((A46, Sum.inr (8, [Value.int 0, Value.int 0, Value.ref A47, Value.ref A48, Value.ref A49, Value.int 0, Value.ref A50, Value.ref A51, Value.ref A52, Value.ref A53, Value.int 0, Value.int 0, Value.int 0, Value.int (-1), Value.int 1, Value.ref A54, Value.ref A62, Value.ref A70, Value.int 0, Value.int 0, Value.int 0, Value.ref A78, Value.ref A79, Value.int 0, Value.int 16, Value.int 4, u0, Value.ref A80, Value.ref A81, Value.ref A82, Value.int 0, Value.ref A83, Value.int 0, Value.int 0, Value.int 0])) : Nat × va_E) ∧ ws'[84]? = some ((A84, Sum.inr (9, [Value.ref A85, Value.ref A86, Value.ref A87, Value.ref A88, Value.ref A89, Value.ref A90, Value.ref A91, Value.int 0, Value.int 0, Value.int 0, Value.int 0])) : Nat × va_E) ∧ ws'[92]? = some ((A92, Sum.inr (9, [Value.ref A93, Value.ref A94, Value.ref A95, Value.ref A96, Value.ref A97, Value.ref A98, Value.ref A99, Value.int 0, Value.int 0, Value.int 0, Value.int 0])) : Nat × va_E) ∧ ws'[100]? = some ((A100, Sum.inr (9, [Value.ref A101, Value.ref A102, Value.ref A103, Value.ref A104, Value.ref A105, Value.ref A106, Value.ref A107, Value.int 0, Value.int 0, Value.int 0, Value.int 0])) : Nat × va_E) ∧ ws'[108]? = some ((A108, Sum.inr (9, [Value.ref A109, Value.ref A110, Value.ref A111, Value.ref A112, Value.ref A113, Value.ref A114, Value.ref A115, Value.int 0, Value.int 0, Value.int 0, Value.int 0])) : Nat × va_E)))) 0 0 (va_A ws sz) := by
  refine gx_ofW (cc := b_Mo_crash) (maxL := 2) (ret := none) (by decide) rfl ?_
  intro p e s m args below meth c s₁ B hml hv
  obtain ⟨rfl, hsz, hz, hP, hK, hD0, hY⟩ := hv
  have hx := B.exec
  have hb := B.bytes
  have hr := B.returns
  have hts := hY.hts (#[Value.ref A46] : Array Value)
  have hown : s.vm.findClass "CommitLedgerModel" = some m.cls := findClass_of_methodNamed B.named
  have hlocks := B.notSynchronized
  have hne : c.exceptionTable.isEmpty = true := B.noHandlers (atoms_spec (ws := [Cond.code y_Mo_crash b_Mo_crash 2 none]) B.pre _ List.mem_cons_self)
  subst hsz
  have hAz := gx_az hD0 hz
  have hD := hD0.self (sz := s.heap.size)
  have hN := gx_ns hP
  have hA : ∀ q : Nat, s.heap.size ≤ q → va_A ws s.heap.size q := fun q h => Or.inr h
  generalize va_A ws s.heap.size = A at hD hN hA hAz ⊢
  generalize hPQ : (fun (r : Option Value ⊕ String) (ws' : va_W) => (r = Sum.inl none ∧ gx_g ws ws' 0 [46, 84, 92, 100, 108] ∧ ws'[46]? = some ((A46, Sum.inr (8, [Value.int 0, Value.int 0, Value.ref A47, Value.ref A48, Value.ref A49, Value.int 0, Value.ref A50, Value.ref A51, Value.ref A52, Value.ref A53, Value.int 0, Value.int 0, Value.int 0, Value.int (-1), Value.int 1, Value.ref A54, Value.ref A62, Value.ref A70, Value.int 0, Value.int 0, Value.int 0, Value.ref A78, Value.ref A79, Value.int 0, Value.int 16, Value.int 4, u0, Value.ref A80, Value.ref A81, Value.ref A82, Value.int 0, Value.ref A83, Value.int 0, Value.int 0, Value.int 0])) : Nat × va_E) ∧ ws'[84]? = some ((A84, Sum.inr (9, [Value.ref A85, Value.ref A86, Value.ref A87, Value.ref A88, Value.ref A89, Value.ref A90, Value.ref A91, Value.int 0, Value.int 0, Value.int 0, Value.int 0])) : Nat × va_E) ∧ ws'[92]? = some ((A92, Sum.inr (9, [Value.ref A93, Value.ref A94, Value.ref A95, Value.ref A96, Value.ref A97, Value.ref A98, Value.ref A99, Value.int 0, Value.int 0, Value.int 0, Value.int 0])) : Nat × va_E) ∧ ws'[100]? = some ((A100, Sum.inr (9, [Value.ref A101, Value.ref A102, Value.ref A103, Value.ref A104, Value.ref A105, Value.ref A106, Value.ref A107, Value.int 0, Value.int 0, Value.int 0, Value.int 0])) : Nat × va_E) ∧ ws'[108]? = some ((A108, Sum.inr (9, [Value.ref A109, Value.ref A110, Value.ref A111, Value.ref A112, Value.ref A113, Value.ref A114, Value.ref A115, Value.int 0, Value.int 0, Value.int 0, Value.int 0])) : Nat × va_E))) = PQ
  have hS : va_S A s.heap s.heap [] := va_S.rf
  have hU : gx_g ws ws 0 [46, 84, 92, 100, 108] := gx_g.rf
  have hl := lv_entry ([Value.ref A46]) (n := 2) (Nat.le_of_ble_eq_true rfl)
  rw [lg_entry_eq]
  generalize (lg_sl ([Value.ref A46]) ++ List.replicate (2 - (lg_sl ([Value.ref A46])).length) Slot.unset).toArray = ls at hl ⊢
  have hl : lv_has ls 2 [(0, Value.ref A46)] := hl
  refine lv_aload_n hx hb d_Mo_crash_0 rfl (lv_at hl 0 rfl) ?_
  refine gx_call (ig := .invokevirtual 87) (c_Mo_lose_v1 l htr D tys z _ ws cV A46 A47 A48 A49 A50 A51 A52 A53 A54 A62 A70 A78 A79 (u0) A80 A81 A82 A83 A84 A85 A86 A87 A88 A89 A90 A91 A92 A93 A94 A95 A96 A97 A98 A99 A100 A101 A102 A103 A104 A105 A106 A107 A108 A109 A110 A111 A112 A113 A114 A115 f_46 f_84 f_92 f_100 f_108 f_83 ht5) (gx_invV (As := []) (rest := []) hx hb hown hts km_Mo_87 kI_Mo_lose kV_Mo_lose kc_Mo_lose (by decide) (show (parseMethodDescriptor y_Mo_lose.desc).map (fun d => d.parameters.length) = some 0 by decide +kernel) (gx_recv (ci := 8) hK hP rfl f_46) rfl rfl d_Mo_crash_1) (gx_cw (z := 0) hts kc_Mo_lose kN_Mo rfl rfl ⟨Nat.le_of_ble_eq_true rfl, Nat.le_of_ble_eq_true rfl⟩) hb hml gx_blind (gx_pre hz hP hK hD hY hS hAz [Value.ref A46]) rfl hl.1 (lv_room (Nat.le_of_ble_eq_true rfl)) d_Mo_crash_1 ⟨Nat.le_of_ble_eq_true rfl, Nat.le_of_ble_eq_true rfl⟩ (fun v1 st1 t1 L1 h0_1 hW_1 hQ_1 hL_1 => ?_) (fun v1 st1 t1 L1 h0_1 hW_1 hQ_1 hL_1 => ?_)
  · obtain ⟨ws2, hp, hP9, -, hD9, hS9⟩ := gx_back h0_1 hW_1 hQ_1 hL_1 hD hS hA
    clear hQ_1 h0_1 hL_1 hW_1 hP hD hS
    have hP := hP9
    have hD := hD9
    have hS := hS9
    clear hP9 hD9 hS9
    rcases hp with ⟨hv9, e_ws2, f_46_ws2, f_84_ws2, f_92_ws2, f_100_ws2, f_108_ws2⟩
    cases hv9
    have f_46_ws2 : ws2[46]? = some ((A46, Sum.inr (8, [Value.int 0, Value.int 0, Value.ref A47, Value.ref A48, Value.ref A49, Value.int 0, Value.ref A50, Value.ref A51, Value.ref A52, Value.ref A53, Value.int 0, Value.int 0, Value.int 0, Value.int (-1), Value.int 1, Value.ref A54, Value.ref A62, Value.ref A70, Value.int 0, Value.int 0, Value.int 0, Value.ref A78, Value.ref A79, Value.int 0, Value.int 16, Value.int 4, u0, Value.ref A80, Value.ref A81, Value.ref A82, Value.int 0, Value.ref A83, Value.int 0, Value.int 0, Value.int 0])) : Nat × va_E) := f_46_ws2
    have f_84_ws2 : ws2[84]? = some ((A84, Sum.inr (9, [Value.ref A85, Value.ref A86, Value.ref A87, Value.ref A88, Value.ref A89, Value.ref A90, Value.ref A91, Value.int 0, Value.int 0, Value.int 0, Value.int 0])) : Nat × va_E) := f_84_ws2
    have f_92_ws2 : ws2[92]? = some ((A92, Sum.inr (9, [Value.ref A93, Value.ref A94, Value.ref A95, Value.ref A96, Value.ref A97, Value.ref A98, Value.ref A99, Value.int 0, Value.int 0, Value.int 0, Value.int 0])) : Nat × va_E) := f_92_ws2
    have f_100_ws2 : ws2[100]? = some ((A100, Sum.inr (9, [Value.ref A101, Value.ref A102, Value.ref A103, Value.ref A104, Value.ref A105, Value.ref A106, Value.ref A107, Value.int 0, Value.int 0, Value.int 0, Value.int 0])) : Nat × va_E) := f_100_ws2
    have f_108_ws2 : ws2[108]? = some ((A108, Sum.inr (9, [Value.ref A109, Value.ref A110, Value.ref A111, Value.ref A112, Value.ref A113, Value.ref A114, Value.ref A115, Value.int 0, Value.int 0, Value.int 0, Value.int 0])) : Nat × va_E) := f_108_ws2
    replace hU : gx_g ws ws2 0 [46, 84, 92, 100, 108] := hU.call e_ws2 (by simp; first | done | omega)
    refine W.eq (g2 := F0 m 4 ls []) rfl ?_
    generalize t1.heap = H at hP hS ⊢
    generalize [] ++ L1 = locs at hS ⊢
    refine lv_aload_n hx hb d_Mo_crash_4 rfl (lv_at hl 0 rfl) ?_
    refine lv_iconst (v := 0) hx hb d_Mo_crash_5 (by decide) ?_
    refine lv_iconst (v := 0) hx hb d_Mo_crash_6 (by decide) ?_
    refine gx_call (ig := .invokevirtual 148) (c_Mo_done_v4 l htr D tys z _ ws2 A46 A47 A48 A49 A50 A51 A52 A53 A54 A62 A70 A78 A79 (u0) A80 A81 A82 A83 f_46_ws2) (gx_invV (As := [Value.int 0, Value.int 0]) (rest := []) hx hb hown hts km_Mo_148 kI_Mo_done kV_Mo_done kc_Mo_done (by decide) (show (parseMethodDescriptor y_Mo_done.desc).map (fun d => d.parameters.length) = some 2 by decide +kernel) (gx_recv (ci := 8) hK hP rfl f_46_ws2) rfl rfl d_Mo_crash_7) (gx_cw (z := 0) hts kc_Mo_done kN_Mo rfl rfl ⟨Nat.le_of_ble_eq_true rfl, Nat.le_of_ble_eq_true rfl⟩) hb hml gx_blind (gx_pre hz hP hK hD hY hS hAz [Value.ref A46, Value.int 0, Value.int 0]) rfl hl.1 (lv_room (Nat.le_of_ble_eq_true rfl)) d_Mo_crash_7 ⟨Nat.le_of_ble_eq_true rfl, Nat.le_of_ble_eq_true rfl⟩ (fun v3 st3 t3 L3 h0_3 hW_3 hQ_3 hL_3 => ?_) (fun v3 st3 t3 L3 h0_3 hW_3 hQ_3 hL_3 => ?_)
    · obtain ⟨ws4, hp, hP9, -, hD9, hS9⟩ := gx_back h0_3 hW_3 hQ_3 hL_3 hD hS hA
      clear hQ_3 h0_3 hL_3 hW_3 hP hD hS
      have hP := hP9
      have hD := hD9
      have hS := hS9
      clear hP9 hD9 hS9
      rcases hp with ⟨hv9, e_ws4, f_46_ws4⟩
      cases hv9
      have f_46_ws4 : ws4[46]? = some ((A46, Sum.inr (8, [Value.int 0, Value.int 0, Value.ref A47, Value.ref A48, Value.ref A49, Value.int 0, Value.ref A50, Value.ref A51, Value.ref A52, Value.ref A53, Value.int 0, Value.int 0, Value.int 0, Value.int (-1), Value.int 1, Value.ref A54, Value.ref A62, Value.ref A70, Value.int 0, Value.int 0, Value.int 0, Value.ref A78, Value.ref A79, Value.int 0, Value.int 16, Value.int 4, u0, Value.ref A80, Value.ref A81, Value.ref A82, Value.int 0, Value.ref A83, Value.int 0, Value.int 0, Value.int 0])) : Nat × va_E) := f_46_ws4
      replace hU : gx_g ws ws4 0 [46, 84, 92, 100, 108] := hU.call e_ws4 (by simp; first | done | omega)
      refine W.eq (g2 := F0 m 10 ls [Value.int 0]) rfl ?_
      generalize t3.heap = H at hP hS ⊢
      generalize locs ++ L3 = locs at hS ⊢
      refine lv_istore_n (lv' := [(1, Value.int 0), (0, Value.ref A46)]) hx hb d_Mo_crash_10 rfl hl (by decide) rfl (fun ls hl => ?_)
      have f_84_ws4 : ws4[84]? = some ((A84, Sum.inr (9, [Value.ref A85, Value.ref A86, Value.ref A87, Value.ref A88, Value.ref A89, Value.ref A90, Value.ref A91, Value.int 0, Value.int 0, Value.int 0, Value.int 0])) : Nat × va_E) := e_ws4.at (by first | decide | (simp; done) | (simp; omega)) f_84_ws2
      clear f_84_ws2
      have f_92_ws4 : ws4[92]? = some ((A92, Sum.inr (9, [Value.ref A93, Value.ref A94, Value.ref A95, Value.ref A96, Value.ref A97, Value.ref A98, Value.ref A99, Value.int 0, Value.int 0, Value.int 0, Value.int 0])) : Nat × va_E) := e_ws4.at (by first | decide | (simp; done) | (simp; omega)) f_92_ws2
      clear f_92_ws2
      have f_100_ws4 : ws4[100]? = some ((A100, Sum.inr (9, [Value.ref A101, Value.ref A102, Value.ref A103, Value.ref A104, Value.ref A105, Value.ref A106, Value.ref A107, Value.int 0, Value.int 0, Value.int 0, Value.int 0])) : Nat × va_E) := e_ws4.at (by first | decide | (simp; done) | (simp; omega)) f_100_ws2
      clear f_100_ws2
      have f_108_ws4 : ws4[108]? = some ((A108, Sum.inr (9, [Value.ref A109, Value.ref A110, Value.ref A111, Value.ref A112, Value.ref A113, Value.ref A114, Value.ref A115, Value.int 0, Value.int 0, Value.int 0, Value.int 0])) : Nat × va_E) := e_ws4.at (by first | decide | (simp; done) | (simp; omega)) f_108_ws2
      clear f_108_ws2
      exact gx_ret (W.vret hx hb hr (gx_post hP hK hD hS (by rw [← hPQ]; exact ⟨rfl, hU, f_46_ws4, f_84_ws4, f_92_ws4, f_100_ws4, f_108_ws4⟩)) hS.2.2 d_Mo_crash_11)
    · obtain ⟨E9, ws5, ce, hp, hce, hP9, -, hD9, hS9⟩ := gx_backT h0_3 hW_3 hQ_3 hL_3 hD hS hA
      clear hQ_3 h0_3 hL_3 hW_3 hP hD hS
      have hP := hP9
      have hD := hD9
      have hS := hS9
      clear hP9 hD9 hS9
      rcases hp with ⟨hv9, e_ws5, f_46_ws5⟩
      cases hv9
  · obtain ⟨E9, ws6, ce, hp, hce, hP9, -, hD9, hS9⟩ := gx_backT h0_1 hW_1 hQ_1 hL_1 hD hS hA
    clear hQ_1 h0_1 hL_1 hW_1 hP hD hS
    have hP := hP9
    have hD := hD9
    have hS := hS9
    clear hP9 hD9 hS9
    rcases hp with ⟨hv9, e_ws6, f_46_ws6, f_84_ws6, f_92_ws6, f_100_ws6, f_108_ws6⟩
    cases hv9

set_option maxHeartbeats 4000000 in
set_option maxRecDepth 100000 in
theorem c_Mo_done_v5 (l : Launch) (htr : l.stackTraces = false) (D : va_G) (tys : List (ClassId × FieldType)) (z sz : Nat) (ws : va_W) (A46 : Nat) (A47 : Nat) (A48 : Nat) (A49 : Nat) (A50 : Nat) (A51 : Nat) (A52 : Nat) (A53 : Nat) (A54 : Nat) (A62 : Nat) (A70 : Nat) (A78 : Nat) (A79 : Nat) (u0 : Value) (A80 : Nat) (A81 : Nat) (A82 : Nat) (A83 : Nat) (f_46 : ws[46]? = some ((A46, Sum.inr (8, [Value.int 1, Value.int 0, Value.ref A47, Value.ref A48, Value.ref A49, Value.int 0, Value.ref A50, Value.ref A51, Value.ref A52, Value.ref A53, Value.int 0, Value.int 0, Value.int 0, Value.int (-1), Value.int 0, Value.ref A54, Value.ref A62, Value.ref A70, Value.int 0, Value.int 0, Value.int 0, Value.ref A78, Value.ref A79, Value.int 0, Value.int 16, Value.int 4, u0, Value.ref A80, Value.ref A81, Value.ref A82, Value.int 0, Value.ref A83, Value.int 0, Value.int 0, Value.int 0])) : Nat × va_E)) : gx_Met l y_Mo_done [Cond.code y_Mo_done b_Mo_done 6 (some .int)] { frames := 1, cells := 0, slots := 0, locals := 12 } (gx_P z sz D classes tys ws [Value.ref A46, Value.int 0, Value.int 124]) (gx_Q D classes tys (va_A ws sz) (fun r ws' => (r = Sum.inl (some (Value.int 0)) ∧ gx_g ws ws' 0 [46] ∧ ws'[46]? = some ((A46, Sum.inr (8, [Value.int 0, Value.int 1, Value.ref A47, Value.ref A48, Value.ref A49, Value.int 0, Value.ref A50, Value.ref A51, Value.ref A52, Value.ref A53, Value.int 0, Value.int 0, Value.int 0, Value.int (-1), Value.int 0, Value.ref A54, Value.ref A62, Value.ref A70, Value.int 0, Value.int 0, Value.int 0, Value.ref A78, Value.ref A79, Value.int 0, Value.int 16, Value.int 4, u0, Value.ref A80, Value.ref A81, Value.ref A82, Value.int 0, Value.ref A83, Value.int 0, Value.int 0, Value.int 0])) : Nat × va_E)))) 0 0 (va_A ws sz) := by
  refine gx_ofW (cc := b_Mo_done) (maxL := 6) (ret := (some .int)) (by decide) rfl ?_
  intro p e s m args below meth c s₁ B hml hv
  obtain ⟨rfl, hsz, hz, hP, hK, hD0, hY⟩ := hv
  have hx := B.exec
  have hb := B.bytes
  have hr := B.returns
  have hts := hY.hts (#[Value.ref A46, Value.int 0, Value.int 124] : Array Value)
  have hown : s.vm.findClass "CommitLedgerModel" = some m.cls := findClass_of_methodNamed B.named
  have hlocks := B.notSynchronized
  have hne : c.exceptionTable.isEmpty = true := B.noHandlers (atoms_spec (ws := [Cond.code y_Mo_done b_Mo_done 6 (some .int)]) B.pre _ List.mem_cons_self)
  subst hsz
  have hAz := gx_az hD0 hz
  have hD := hD0.self (sz := s.heap.size)
  have hN := gx_ns hP
  have hA : ∀ q : Nat, s.heap.size ≤ q → va_A ws s.heap.size q := fun q h => Or.inr h
  generalize va_A ws s.heap.size = A at hD hN hA hAz ⊢
  generalize hPQ : (fun (r : Option Value ⊕ String) (ws' : va_W) => (r = Sum.inl (some (Value.int 0)) ∧ gx_g ws ws' 0 [46] ∧ ws'[46]? = some ((A46, Sum.inr (8, [Value.int 0, Value.int 1, Value.ref A47, Value.ref A48, Value.ref A49, Value.int 0, Value.ref A50, Value.ref A51, Value.ref A52, Value.ref A53, Value.int 0, Value.int 0, Value.int 0, Value.int (-1), Value.int 0, Value.ref A54, Value.ref A62, Value.ref A70, Value.int 0, Value.int 0, Value.int 0, Value.ref A78, Value.ref A79, Value.int 0, Value.int 16, Value.int 4, u0, Value.ref A80, Value.ref A81, Value.ref A82, Value.int 0, Value.ref A83, Value.int 0, Value.int 0, Value.int 0])) : Nat × va_E))) = PQ
  have hS : va_S A s.heap s.heap [] := va_S.rf
  have hU : gx_g ws ws 0 [46] := gx_g.rf
  have hl := lv_entry ([Value.ref A46, Value.int 0, Value.int 124]) (n := 6) (Nat.le_of_ble_eq_true rfl)
  rw [lg_entry_eq]
  generalize (lg_sl ([Value.ref A46, Value.int 0, Value.int 124]) ++ List.replicate (6 - (lg_sl ([Value.ref A46, Value.int 0, Value.int 124])).length) Slot.unset).toArray = ls at hl ⊢
  have hl : lv_has ls 6 [(0, Value.ref A46), (1, Value.int 0), (2, Value.int 124)] := hl
  refine lv_aload_n hx hb d_Mo_done_0 rfl (lv_at hl 0 rfl) ?_
  refine lv_iconst (v := 0) hx hb d_Mo_done_1 (by decide) ?_
  refine va_put (D := D) (ci := 8) (v := Value.int 0) (ty := .int) (C := "CommitLedgerModel") (T := F_Mo) (N := 35) hx hb hts i_Mo t_Mo t_Mo_ok n_Mo hown hK hP hD hS 46 f_46 rfl 1 (by decide) (hts _ kf_Mo_80) (fun _ h9 => h9) rfl (by decide +kernel) rfl rfl (Nat.le_of_ble_eq_true rfl) d_Mo_done_2 (fun H locs hP9 hD9 hS9 => ?_)
  obtain ⟨ws1, e_ws1⟩ : ∃ x : va_W, x = ws.set 46 ((A46, Sum.inr (8, [Value.int 1, Value.int 0, Value.ref A47, Value.ref A48, Value.ref A49, Value.int 0, Value.ref A50, Value.ref A51, Value.ref A52, Value.ref A53, Value.int 0, Value.int 0, Value.int 0, Value.int (-1), Value.int 0, Value.ref A54, Value.ref A62, Value.ref A70, Value.int 0, Value.int 0, Value.int 0, Value.ref A78, Value.ref A79, Value.int 0, Value.int 16, Value.int 4, u0, Value.ref A80, Value.ref A81, Value.ref A82, Value.int 0, Value.ref A83, Value.int 0, Value.int 0, Value.int 0])) : Nat × va_E) := ⟨_, rfl⟩
  replace hP : va_P D classes ws1 H := by rw [e_ws1]; exact hP9
  replace hD : va_D A ws1 := by rw [e_ws1]; exact hD9
  replace hS := hS9
  clear hP9 hD9 hS9
  have f_46_ws1 : ws1[46]? = some ((A46, Sum.inr (8, [Value.int 1, Value.int 0, Value.ref A47, Value.ref A48, Value.ref A49, Value.int 0, Value.ref A50, Value.ref A51, Value.ref A52, Value.ref A53, Value.int 0, Value.int 0, Value.int 0, Value.int (-1), Value.int 0, Value.ref A54, Value.ref A62, Value.ref A70, Value.int 0, Value.int 0, Value.int 0, Value.ref A78, Value.ref A79, Value.int 0, Value.int 16, Value.int 4, u0, Value.ref A80, Value.ref A81, Value.ref A82, Value.int 0, Value.ref A83, Value.int 0, Value.int 0, Value.int 0])) : Nat × va_E) := by rw [e_ws1]; exact gs_self f_46
  replace hU : gx_g ws ws1 0 [46] := by rw [e_ws1]; exact hU.put (Or.inl (by simp))
  refine lv_iconst (v := 0) hx hb d_Mo_done_5 (by decide) ?_
  refine lv_istore_n (lv' := [(3, Value.int 0), (0, Value.ref A46), (1, Value.int 0), (2, Value.int 124)]) hx hb d_Mo_done_6 rfl hl (by decide) rfl (fun ls hl => ?_)
  refine lv_ldc (v := 100000) hx hb hown (hts _ ki_Mo_83) d_Mo_done_7 ?_
  refine lv_istore (lv' := [(4, Value.int 100000), (3, Value.int 0), (0, Value.ref A46), (1, Value.int 0), (2, Value.int 124)]) hx hb d_Mo_done_9 hl (by decide) rfl (fun ls hl => ?_)
  refine lv_iload hx hb d_Mo_done_11 (lv_at hl 0 rfl) ?_
  refine lv_if_le (tgt := 60) hx hb d_Mo_done_13 (by decide) (fun c9 => absurd c9 (by decide)) (fun _ => ?_)
  refine lv_iload_n hx hb d_Mo_done_16 rfl (lv_at hl 4 rfl) ?_
  refine lv_iload hx hb d_Mo_done_17 (lv_at hl 0 rfl) ?_
  refine lv_idiv hx hb d_Mo_done_19 (by decide) ?_
  refine gx_topi (y := 0) (by decide) ?_
  refine lv_bipush (v := 10) hx hb d_Mo_done_20 (by decide) ?_
  refine lv_irem hx hb d_Mo_done_22 (by decide) ?_
  refine gx_topi (y := 0) (by decide) ?_
  refine lv_istore (lv' := [(5, Value.int 0), (4, Value.int 100000), (3, Value.int 0), (0, Value.ref A46), (1, Value.int 0), (2, Value.int 124)]) hx hb d_Mo_done_23 hl (by decide) rfl (fun ls hl => ?_)
  refine lv_iload hx hb d_Mo_done_25 (lv_at hl 0 rfl) ?_
  refine lv_if_ne (tgt := 33) hx hb d_Mo_done_27 (by decide) (fun c9 => absurd (by decide) c9) (fun _ => ?_)
  refine lv_goto (tgt := 50) hx hb d_Mo_done_30 (by decide) ?_
  refine lv_iload hx hb d_Mo_done_50 (lv_at hl 1 rfl) ?_
  refine lv_bipush (v := 10) hx hb d_Mo_done_52 (by decide) ?_
  refine lv_idiv hx hb d_Mo_done_54 (by decide) ?_
  refine gx_topi (y := 10000) (by decide) ?_
  refine lv_istore (lv' := [(4, Value.int 10000), (5, Value.int 0), (3, Value.int 0), (0, Value.ref A46), (1, Value.int 0), (2, Value.int 124)]) hx hb d_Mo_done_55 hl (by decide) rfl (fun ls hl => ?_)
  refine lv_goto (tgt := 11) hx hb d_Mo_done_57 (by decide) ?_
  refine lv_iload hx hb d_Mo_done_11 (lv_at hl 0 rfl) ?_
  refine lv_if_le (tgt := 60) hx hb d_Mo_done_13 (by decide) (fun c9 => absurd c9 (by decide)) (fun _ => ?_)
  refine lv_iload_n hx hb d_Mo_done_16 rfl (lv_at hl 5 rfl) ?_
  refine lv_iload hx hb d_Mo_done_17 (lv_at hl 0 rfl) ?_
  refine lv_idiv hx hb d_Mo_done_19 (by decide) ?_
  refine gx_topi (y := 0) (by decide) ?_
  refine lv_bipush (v := 10) hx hb d_Mo_done_20 (by decide) ?_
  refine lv_irem hx hb d_Mo_done_22 (by decide) ?_
  refine gx_topi (y := 0) (by decide) ?_
  refine lv_istore (lv' := [(5, Value.int 0), (4, Value.int 10000), (3, Value.int 0), (0, Value.ref A46), (1, Value.int 0), (2, Value.int 124)]) hx hb d_Mo_done_23 hl (by decide) rfl (fun ls hl => ?_)
  refine lv_iload hx hb d_Mo_done_25 (lv_at hl 0 rfl) ?_
  refine lv_if_ne (tgt := 33) hx hb d_Mo_done_27 (by decide) (fun c9 => absurd (by decide) c9) (fun _ => ?_)
  refine lv_goto (tgt := 50) hx hb d_Mo_done_30 (by decide) ?_
  refine lv_iload hx hb d_Mo_done_50 (lv_at hl 1 rfl) ?_
  refine lv_bipush (v := 10) hx hb d_Mo_done_52 (by decide) ?_
  refine lv_idiv hx hb d_Mo_done_54 (by decide) ?_
  refine gx_topi (y := 1000) (by decide) ?_
  refine lv_istore (lv' := [(4, Value.int 1000), (5, Value.int 0), (3, Value.int 0), (0, Value.ref A46), (1, Value.int 0), (2, Value.int 124)]) hx hb d_Mo_done_55 hl (by decide) rfl (fun ls hl => ?_)
  refine lv_goto (tgt := 11) hx hb d_Mo_done_57 (by decide) ?_
  refine lv_iload hx hb d_Mo_done_11 (lv_at hl 0 rfl) ?_
  refine lv_if_le (tgt := 60) hx hb d_Mo_done_13 (by decide) (fun c9 => absurd c9 (by decide)) (fun _ => ?_)
  refine lv_iload_n hx hb d_Mo_done_16 rfl (lv_at hl 5 rfl) ?_
  refine lv_iload hx hb d_Mo_done_17 (lv_at hl 0 rfl) ?_
  refine lv_idiv hx hb d_Mo_done_19 (by decide) ?_
  refine gx_topi (y := 0) (by decide) ?_
  refine lv_bipush (v := 10) hx hb d_Mo_done_20 (by decide) ?_
  refine lv_irem hx hb d_Mo_done_22 (by decide) ?_
  refine gx_topi (y := 0) (by decide) ?_
  refine lv_istore (lv' := [(5, Value.int 0), (4, Value.int 1000), (3, Value.int 0), (0, Value.ref A46), (1, Value.int 0), (2, Value.int 124)]) hx hb d_Mo_done_23 hl (by decide) rfl (fun ls hl => ?_)
  refine lv_iload hx hb d_Mo_done_25 (lv_at hl 0 rfl) ?_
  refine lv_if_ne (tgt := 33) hx hb d_Mo_done_27 (by decide) (fun c9 => absurd (by decide) c9) (fun _ => ?_)
  refine lv_goto (tgt := 50) hx hb d_Mo_done_30 (by decide) ?_
  refine lv_iload hx hb d_Mo_done_50 (lv_at hl 1 rfl) ?_
  refine lv_bipush (v := 10) hx hb d_Mo_done_52 (by decide) ?_
  refine lv_idiv hx hb d_Mo_done_54 (by decide) ?_
  refine gx_topi (y := 100) (by decide) ?_
  refine lv_istore (lv' := [(4, Value.int 100), (5, Value.int 0), (3, Value.int 0), (0, Value.ref A46), (1, Value.int 0), (2, Value.int 124)]) hx hb d_Mo_done_55 hl (by decide) rfl (fun ls hl => ?_)
  refine lv_goto (tgt := 11) hx hb d_Mo_done_57 (by decide) ?_
  refine lv_iload hx hb d_Mo_done_11 (lv_at hl 0 rfl) ?_
  refine lv_if_le (tgt := 60) hx hb d_Mo_done_13 (by decide) (fun c9 => absurd c9 (by decide)) (fun _ => ?_)
  refine lv_iload_n hx hb d_Mo_done_16 rfl (lv_at hl 5 rfl) ?_
  refine lv_iload hx hb d_Mo_done_17 (lv_at hl 0 rfl) ?_
  refine lv_idiv hx hb d_Mo_done_19 (by decide) ?_
  refine gx_topi (y := 1) (by decide) ?_
  refine lv_bipush (v := 10) hx hb d_Mo_done_20 (by decide) ?_
  refine lv_irem hx hb d_Mo_done_22 (by decide) ?_
  refine gx_topi (y := 1) (by decide) ?_
  refine lv_istore (lv' := [(5, Value.int 1), (4, Value.int 100), (3, Value.int 0), (0, Value.ref A46), (1, Value.int 0), (2, Value.int 124)]) hx hb d_Mo_done_23 hl (by decide) rfl (fun ls hl => ?_)
  refine lv_iload hx hb d_Mo_done_25 (lv_at hl 0 rfl) ?_
  refine lv_if_ne (tgt := 33) hx hb d_Mo_done_27 (by decide) (fun _ => ?_) (fun c9 => absurd c9 (by decide))
  refine lv_iinc (v := 1) (lv' := [(3, Value.int 1), (5, Value.int 1), (4, Value.int 100), (0, Value.ref A46), (1, Value.int 0), (2, Value.int 124)]) hx hb d_Mo_done_33 hl (k := 2) rfl (by decide) (by decide) rfl (fun ls hl => ?_)
  refine lv_iload hx hb d_Mo_done_36 (lv_at hl 1 rfl) ?_
  refine lv_aload_n hx hb d_Mo_done_38 rfl (lv_at hl 3 rfl) ?_
  refine va_get (D := D) (ci := 8) (v := Value.int 1) (C := "CommitLedgerModel") (T := F_Mo) (N := 35) hx hb hts i_Mo hown hK hP 46 f_46_ws1 rfl 0 (by decide) (hts _ kf_Mo_84) (fun _ h9 => h9) rfl d_Mo_done_39 ?_
  refine lv_icmp_ne (tgt := 50) hx hb d_Mo_done_42 (by decide) (fun c9 => absurd (by decide) c9) (fun _ => ?_)
  refine lv_aload_n hx hb d_Mo_done_45 rfl (lv_at hl 3 rfl) ?_
  refine lv_iload_n hx hb d_Mo_done_46 rfl (lv_at hl 0 rfl) ?_
  refine va_put (D := D) (ci := 8) (v := Value.int 1) (ty := .int) (C := "CommitLedgerModel") (T := F_Mo) (N := 35) hx hb hts i_Mo t_Mo t_Mo_ok n_Mo hown hK hP hD hS 46 f_46_ws1 rfl 1 (by decide) (hts _ kf_Mo_80) (fun _ h9 => h9) rfl (by decide +kernel) rfl rfl (Nat.le_of_ble_eq_true rfl) d_Mo_done_47 (fun H locs hP9 hD9 hS9 => ?_)
  obtain ⟨ws2, e_ws2⟩ : ∃ x : va_W, x = ws1.set 46 ((A46, Sum.inr (8, [Value.int 1, Value.int 1, Value.ref A47, Value.ref A48, Value.ref A49, Value.int 0, Value.ref A50, Value.ref A51, Value.ref A52, Value.ref A53, Value.int 0, Value.int 0, Value.int 0, Value.int (-1), Value.int 0, Value.ref A54, Value.ref A62, Value.ref A70, Value.int 0, Value.int 0, Value.int 0, Value.ref A78, Value.ref A79, Value.int 0, Value.int 16, Value.int 4, u0, Value.ref A80, Value.ref A81, Value.ref A82, Value.int 0, Value.ref A83, Value.int 0, Value.int 0, Value.int 0])) : Nat × va_E) := ⟨_, rfl⟩
  replace hP : va_P D classes ws2 H := by rw [e_ws2]; exact hP9
  replace hD : va_D A ws2 := by rw [e_ws2]; exact hD9
  replace hS := hS9
  clear hP9 hD9 hS9
  have f_46_ws2 : ws2[46]? = some ((A46, Sum.inr (8, [Value.int 1, Value.int 1, Value.ref A47, Value.ref A48, Value.ref A49, Value.int 0, Value.ref A50, Value.ref A51, Value.ref A52, Value.ref A53, Value.int 0, Value.int 0, Value.int 0, Value.int (-1), Value.int 0, Value.ref A54, Value.ref A62, Value.ref A70, Value.int 0, Value.int 0, Value.int 0, Value.ref A78, Value.ref A79, Value.int 0, Value.int 16, Value.int 4, u0, Value.ref A80, Value.ref A81, Value.ref A82, Value.int 0, Value.ref A83, Value.int 0, Value.int 0, Value.int 0])) : Nat × va_E) := by rw [e_ws2]; exact gs_self f_46_ws1
  replace hU : gx_g ws ws2 0 [46] := by rw [e_ws2]; exact hU.put (Or.inl (by simp))
  refine lv_iload hx hb d_Mo_done_50 (lv_at hl 2 rfl) ?_
  refine lv_bipush (v := 10) hx hb d_Mo_done_52 (by decide) ?_
  refine lv_idiv hx hb d_Mo_done_54 (by decide) ?_
  refine gx_topi (y := 10) (by decide) ?_
  refine lv_istore (lv' := [(4, Value.int 10), (3, Value.int 1), (5, Value.int 1), (0, Value.ref A46), (1, Value.int 0), (2, Value.int 124)]) hx hb d_Mo_done_55 hl (by decide) rfl (fun ls hl => ?_)
  refine lv_goto (tgt := 11) hx hb d_Mo_done_57 (by decide) ?_
  refine lv_iload hx hb d_Mo_done_11 (lv_at hl 0 rfl) ?_
  refine lv_if_le (tgt := 60) hx hb d_Mo_done_13 (by decide) (fun c9 => absurd c9 (by decide)) (fun _ => ?_)
  refine lv_iload_n hx hb d_Mo_done_16 rfl (lv_at hl 5 rfl) ?_
  refine lv_iload hx hb d_Mo_done_17 (lv_at hl 0 rfl) ?_
  refine lv_idiv hx hb d_Mo_done_19 (by decide) ?_
  refine gx_topi (y := 12) (by decide) ?_
  refine lv_bipush (v := 10) hx hb d_Mo_done_20 (by decide) ?_
  refine lv_irem hx hb d_Mo_done_22 (by decide) ?_
  refine gx_topi (y := 2) (by decide) ?_
  refine lv_istore (lv' := [(5, Value.int 2), (4, Value.int 10), (3, Value.int 1), (0, Value.ref A46), (1, Value.int 0), (2, Value.int 124)]) hx hb d_Mo_done_23 hl (by decide) rfl (fun ls hl => ?_)
  refine lv_iload hx hb d_Mo_done_25 (lv_at hl 0 rfl) ?_
  refine lv_if_ne (tgt := 33) hx hb d_Mo_done_27 (by decide) (fun _ => ?_) (fun c9 => absurd c9 (by decide))
  refine lv_iinc (v := 2) (lv' := [(3, Value.int 2), (5, Value.int 2), (4, Value.int 10), (0, Value.ref A46), (1, Value.int 0), (2, Value.int 124)]) hx hb d_Mo_done_33 hl (k := 2) rfl (by decide) (by decide) rfl (fun ls hl => ?_)
  refine lv_iload hx hb d_Mo_done_36 (lv_at hl 1 rfl) ?_
  refine lv_aload_n hx hb d_Mo_done_38 rfl (lv_at hl 3 rfl) ?_
  refine va_get (D := D) (ci := 8) (v := Value.int 1) (C := "CommitLedgerModel") (T := F_Mo) (N := 35) hx hb hts i_Mo hown hK hP 46 f_46_ws2 rfl 0 (by decide) (hts _ kf_Mo_84) (fun _ h9 => h9) rfl d_Mo_done_39 ?_
  refine lv_icmp_ne (tgt := 50) hx hb d_Mo_done_42 (by decide) (fun _ => ?_) (fun c9 => absurd c9 (by decide))
  refine lv_iload hx hb d_Mo_done_50 (lv_at hl 2 rfl) ?_
  refine lv_bipush (v := 10) hx hb d_Mo_done_52 (by decide) ?_
  refine lv_idiv hx hb d_Mo_done_54 (by decide) ?_
  refine gx_topi (y := 1) (by decide) ?_
  refine lv_istore (lv' := [(4, Value.int 1), (3, Value.int 2), (5, Value.int 2), (0, Value.ref A46), (1, Value.int 0), (2, Value.int 124)]) hx hb d_Mo_done_55 hl (by decide) rfl (fun ls hl => ?_)
  refine lv_goto (tgt := 11) hx hb d_Mo_done_57 (by decide) ?_
  refine lv_iload hx hb d_Mo_done_11 (lv_at hl 0 rfl) ?_
  refine lv_if_le (tgt := 60) hx hb d_Mo_done_13 (by decide) (fun c9 => absurd c9 (by decide)) (fun _ => ?_)
  refine lv_iload_n hx hb d_Mo_done_16 rfl (lv_at hl 5 rfl) ?_
  refine lv_iload hx hb d_Mo_done_17 (lv_at hl 0 rfl) ?_
  refine lv_idiv hx hb d_Mo_done_19 (by decide) ?_
  refine gx_topi (y := 124) (by decide) ?_
  refine lv_bipush (v := 10) hx hb d_Mo_done_20 (by decide) ?_
  refine lv_irem hx hb d_Mo_done_22 (by decide) ?_
  refine gx_topi (y := 4) (by decide) ?_
  refine lv_istore (lv' := [(5, Value.int 4), (4, Value.int 1), (3, Value.int 2), (0, Value.ref A46), (1, Value.int 0), (2, Value.int 124)]) hx hb d_Mo_done_23 hl (by decide) rfl (fun ls hl => ?_)
  refine lv_iload hx hb d_Mo_done_25 (lv_at hl 0 rfl) ?_
  refine lv_if_ne (tgt := 33) hx hb d_Mo_done_27 (by decide) (fun _ => ?_) (fun c9 => absurd c9 (by decide))
  refine lv_iinc (v := 3) (lv' := [(3, Value.int 3), (5, Value.int 4), (4, Value.int 1), (0, Value.ref A46), (1, Value.int 0), (2, Value.int 124)]) hx hb d_Mo_done_33 hl (k := 2) rfl (by decide) (by decide) rfl (fun ls hl => ?_)
  refine lv_iload hx hb d_Mo_done_36 (lv_at hl 1 rfl) ?_
  refine lv_aload_n hx hb d_Mo_done_38 rfl (lv_at hl 3 rfl) ?_
  refine va_get (D := D) (ci := 8) (v := Value.int 1) (C := "CommitLedgerModel") (T := F_Mo) (N := 35) hx hb hts i_Mo hown hK hP 46 f_46_ws2 rfl 0 (by decide) (hts _ kf_Mo_84) (fun _ h9 => h9) rfl d_Mo_done_39 ?_
  refine lv_icmp_ne (tgt := 50) hx hb d_Mo_done_42 (by decide) (fun _ => ?_) (fun c9 => absurd c9 (by decide))
  refine lv_iload hx hb d_Mo_done_50 (lv_at hl 2 rfl) ?_
  refine lv_bipush (v := 10) hx hb d_Mo_done_52 (by decide) ?_
  refine lv_idiv hx hb d_Mo_done_54 (by decide) ?_
  refine gx_topi (y := 0) (by decide) ?_
  refine lv_istore (lv' := [(4, Value.int 0), (3, Value.int 3), (5, Value.int 4), (0, Value.ref A46), (1, Value.int 0), (2, Value.int 124)]) hx hb d_Mo_done_55 hl (by decide) rfl (fun ls hl => ?_)
  refine lv_goto (tgt := 11) hx hb d_Mo_done_57 (by decide) ?_
  refine lv_iload hx hb d_Mo_done_11 (lv_at hl 0 rfl) ?_
  refine lv_if_le (tgt := 60) hx hb d_Mo_done_13 (by decide) (fun _ => ?_) (fun c9 => absurd (by decide) c9)
  refine lv_aload_n hx hb d_Mo_done_60 rfl (lv_at hl 3 rfl) ?_
  refine lv_iconst (v := 0) hx hb d_Mo_done_61 (by decide) ?_
  refine va_put (D := D) (ci := 8) (v := Value.int 0) (ty := .int) (C := "CommitLedgerModel") (T := F_Mo) (N := 35) hx hb hts i_Mo t_Mo t_Mo_ok n_Mo hown hK hP hD hS 46 f_46_ws2 rfl 0 (by decide) (hts _ kf_Mo_84) (fun _ h9 => h9) rfl (by decide +kernel) rfl rfl (Nat.le_of_ble_eq_true rfl) d_Mo_done_62 (fun H locs hP9 hD9 hS9 => ?_)
  obtain ⟨ws3, e_ws3⟩ : ∃ x : va_W, x = ws2.set 46 ((A46, Sum.inr (8, [Value.int 0, Value.int 1, Value.ref A47, Value.ref A48, Value.ref A49, Value.int 0, Value.ref A50, Value.ref A51, Value.ref A52, Value.ref A53, Value.int 0, Value.int 0, Value.int 0, Value.int (-1), Value.int 0, Value.ref A54, Value.ref A62, Value.ref A70, Value.int 0, Value.int 0, Value.int 0, Value.ref A78, Value.ref A79, Value.int 0, Value.int 16, Value.int 4, u0, Value.ref A80, Value.ref A81, Value.ref A82, Value.int 0, Value.ref A83, Value.int 0, Value.int 0, Value.int 0])) : Nat × va_E) := ⟨_, rfl⟩
  replace hP : va_P D classes ws3 H := by rw [e_ws3]; exact hP9
  replace hD : va_D A ws3 := by rw [e_ws3]; exact hD9
  replace hS := hS9
  clear hP9 hD9 hS9
  have f_46_ws3 : ws3[46]? = some ((A46, Sum.inr (8, [Value.int 0, Value.int 1, Value.ref A47, Value.ref A48, Value.ref A49, Value.int 0, Value.ref A50, Value.ref A51, Value.ref A52, Value.ref A53, Value.int 0, Value.int 0, Value.int 0, Value.int (-1), Value.int 0, Value.ref A54, Value.ref A62, Value.ref A70, Value.int 0, Value.int 0, Value.int 0, Value.ref A78, Value.ref A79, Value.int 0, Value.int 16, Value.int 4, u0, Value.ref A80, Value.ref A81, Value.ref A82, Value.int 0, Value.ref A83, Value.int 0, Value.int 0, Value.int 0])) : Nat × va_E) := by rw [e_ws3]; exact gs_self f_46_ws2
  replace hU : gx_g ws ws3 0 [46] := by rw [e_ws3]; exact hU.put (Or.inl (by simp))
  refine lv_aload_n hx hb d_Mo_done_65 rfl (lv_at hl 3 rfl) ?_
  refine va_get (D := D) (ci := 8) (v := Value.int 1) (C := "CommitLedgerModel") (T := F_Mo) (N := 35) hx hb hts i_Mo hown hK hP 46 f_46_ws3 rfl 1 (by decide) (hts _ kf_Mo_80) (fun _ h9 => h9) rfl d_Mo_done_66 ?_
  refine lv_if_le (tgt := 76) hx hb d_Mo_done_69 (by decide) (fun c9 => absurd c9 (by decide)) (fun _ => ?_)
  refine lv_iconst (v := 0) hx hb d_Mo_done_72 (by decide) ?_
  refine lv_goto (tgt := 77) hx hb d_Mo_done_73 (by decide) ?_
  exact gx_ret (W.iret (v := 0) hx hb hr (gx_post hP hK hD hS (by rw [← hPQ]; exact ⟨rfl, hU, f_46_ws3⟩)) hS.2.2 d_Mo_done_77)

set_option maxHeartbeats 4000000 in
set_option maxRecDepth 100000 in
theorem c_Mo_wrong_v3 (l : Launch) (htr : l.stackTraces = false) (D : va_G) (tys : List (ClassId × FieldType)) (z sz : Nat) (ws : va_W) (A46 : Nat) (A47 : Nat) (A48 : Nat) (A49 : Nat) (A50 : Nat) (A51 : Nat) (A52 : Nat) (A53 : Nat) (A54 : Nat) (A62 : Nat) (A70 : Nat) (A78 : Nat) (A79 : Nat) (u0 : Value) (A80 : Nat) (A81 : Nat) (A82 : Nat) (A83 : Nat) (f_46 : ws[46]? = some ((A46, Sum.inr (8, [Value.int 0, Value.int 0, Value.ref A47, Value.ref A48, Value.ref A49, Value.int 0, Value.ref A50, Value.ref A51, Value.ref A52, Value.ref A53, Value.int 0, Value.int 0, Value.int 0, Value.int (-1), Value.int 0, Value.ref A54, Value.ref A62, Value.ref A70, Value.int 0, Value.int 0, Value.int 0, Value.ref A78, Value.ref A79, Value.int 0, Value.int 16, Value.int 4, u0, Value.ref A80, Value.ref A81, Value.ref A82, Value.int 0, Value.ref A83, Value.int 0, Value.int 0, Value.int 0])) : Nat × va_E)) : gx_Met l y_Mo_wrong [Cond.code y_Mo_wrong b_Mo_wrong 3 (some .boolean)] { frames := 1, cells := 0, slots := 0, locals := 12 } (gx_P z sz D classes tys ws [Value.ref A46, Value.int 0, Value.int 2]) (gx_Q D classes tys (va_A ws sz) (fun r ws' => (r = Sum.inl (some (Value.int 0)) ∧ ws' = ws))) 0 0 (va_A ws sz) := by
  refine gx_ofW (cc := b_Mo_wrong) (maxL := 3) (ret := (some .boolean)) (by decide) rfl ?_
  intro p e s m args below meth c s₁ B hml hv
  obtain ⟨rfl, hsz, hz, hP, hK, hD0, hY⟩ := hv
  have hx := B.exec
  have hb := B.bytes
  have hr := B.returns
  have hts := hY.hts (#[Value.ref A46, Value.int 0, Value.int 2] : Array Value)
  have hown : s.vm.findClass "CommitLedgerModel" = some m.cls := findClass_of_methodNamed B.named
  have hlocks := B.notSynchronized
  have hne : c.exceptionTable.isEmpty = true := B.noHandlers (atoms_spec (ws := [Cond.code y_Mo_wrong b_Mo_wrong 3 (some .boolean)]) B.pre _ List.mem_cons_self)
  subst hsz
  have hAz := gx_az hD0 hz
  have hD := hD0.self (sz := s.heap.size)
  have hN := gx_ns hP
  have hA : ∀ q : Nat, s.heap.size ≤ q → va_A ws s.heap.size q := fun q h => Or.inr h
  generalize va_A ws s.heap.size = A at hD hN hA hAz ⊢
  generalize hPQ : (fun (r : Option Value ⊕ String) (ws' : va_W) => (r = Sum.inl (some (Value.int 0)) ∧ ws' = ws)) = PQ
  have hS : va_S A s.heap s.heap [] := va_S.rf
  have hU : gx_g ws ws 0 [] := gx_g.rf
  have hl := lv_entry ([Value.ref A46, Value.int 0, Value.int 2]) (n := 3) (Nat.le_of_ble_eq_true rfl)
  rw [lg_entry_eq]
  generalize (lg_sl ([Value.ref A46, Value.int 0, Value.int 2]) ++ List.replicate (3 - (lg_sl ([Value.ref A46, Value.int 0, Value.int 2])).length) Slot.unset).toArray = ls at hl ⊢
  have hl : lv_has ls 3 [(0, Value.ref A46), (1, Value.int 0), (2, Value.int 2)] := hl
  refine lv_iload_n hx hb d_Mo_wrong_0 rfl (lv_at hl 1 rfl) ?_
  refine lv_if_eq (tgt := 16) hx hb d_Mo_wrong_1 (by decide) (fun _ => ?_) (fun c9 => absurd (by decide) c9)
  refine lv_aload_n hx hb d_Mo_wrong_16 rfl (lv_at hl 0 rfl) ?_
  refine va_get (D := D) (ci := 8) (v := Value.int 0) (C := "CommitLedgerModel") (T := F_Mo) (N := 35) hx hb hts i_Mo hown hK hP 46 f_46 rfl 0 (by decide) (hts _ kf_Mo_84) (fun _ h9 => h9) rfl d_Mo_wrong_17 ?_
  refine lv_if_eq (tgt := 27) hx hb d_Mo_wrong_20 (by decide) (fun _ => ?_) (fun c9 => absurd (by decide) c9)
  refine lv_iconst (v := 0) hx hb d_Mo_wrong_27 (by decide) ?_
  exact gx_ret (W.zret (v := 0) (ty := .boolean) hx hb hr (rfl) (gx_post hP hK hD hS (by rw [← hPQ]; exact ⟨rfl, rfl⟩)) hS.2.2 d_Mo_wrong_28)

set_option maxHeartbeats 4000000 in
set_option maxRecDepth 100000 in
theorem c_Mo_wrong_v4 (l : Launch) (htr : l.stackTraces = false) (D : va_G) (tys : List (ClassId × FieldType)) (z sz : Nat) (ws : va_W) (A46 : Nat) (A47 : Nat) (A48 : Nat) (A49 : Nat) (A50 : Nat) (A51 : Nat) (A52 : Nat) (A53 : Nat) (A54 : Nat) (A62 : Nat) (A70 : Nat) (A78 : Nat) (A79 : Nat) (u0 : Value) (A80 : Nat) (A81 : Nat) (A82 : Nat) (A83 : Nat) (f_46 : ws[46]? = some ((A46, Sum.inr (8, [Value.int 0, Value.int 0, Value.ref A47, Value.ref A48, Value.ref A49, Value.int 0, Value.ref A50, Value.ref A51, Value.ref A52, Value.ref A53, Value.int 0, Value.int 0, Value.int 0, Value.int (-1), Value.int 0, Value.ref A54, Value.ref A62, Value.ref A70, Value.int 0, Value.int 0, Value.int 0, Value.ref A78, Value.ref A79, Value.int 0, Value.int 16, Value.int 4, u0, Value.ref A80, Value.ref A81, Value.ref A82, Value.int 0, Value.ref A83, Value.int 0, Value.int 0, Value.int 0])) : Nat × va_E)) : gx_Met l y_Mo_wrong [Cond.code y_Mo_wrong b_Mo_wrong 3 (some .boolean)] { frames := 1, cells := 0, slots := 0, locals := 12 } (gx_P z sz D classes tys ws [Value.ref A46, Value.int 0, Value.int 4]) (gx_Q D classes tys (va_A ws sz) (fun r ws' => (r = Sum.inl (some (Value.int 0)) ∧ ws' = ws))) 0 0 (va_A ws sz) := by
  refine gx_ofW (cc := b_Mo_wrong) (maxL := 3) (ret := (some .boolean)) (by decide) rfl ?_
  intro p e s m args below meth c s₁ B hml hv
  obtain ⟨rfl, hsz, hz, hP, hK, hD0, hY⟩ := hv
  have hx := B.exec
  have hb := B.bytes
  have hr := B.returns
  have hts := hY.hts (#[Value.ref A46, Value.int 0, Value.int 4] : Array Value)
  have hown : s.vm.findClass "CommitLedgerModel" = some m.cls := findClass_of_methodNamed B.named
  have hlocks := B.notSynchronized
  have hne : c.exceptionTable.isEmpty = true := B.noHandlers (atoms_spec (ws := [Cond.code y_Mo_wrong b_Mo_wrong 3 (some .boolean)]) B.pre _ List.mem_cons_self)
  subst hsz
  have hAz := gx_az hD0 hz
  have hD := hD0.self (sz := s.heap.size)
  have hN := gx_ns hP
  have hA : ∀ q : Nat, s.heap.size ≤ q → va_A ws s.heap.size q := fun q h => Or.inr h
  generalize va_A ws s.heap.size = A at hD hN hA hAz ⊢
  generalize hPQ : (fun (r : Option Value ⊕ String) (ws' : va_W) => (r = Sum.inl (some (Value.int 0)) ∧ ws' = ws)) = PQ
  have hS : va_S A s.heap s.heap [] := va_S.rf
  have hU : gx_g ws ws 0 [] := gx_g.rf
  have hl := lv_entry ([Value.ref A46, Value.int 0, Value.int 4]) (n := 3) (Nat.le_of_ble_eq_true rfl)
  rw [lg_entry_eq]
  generalize (lg_sl ([Value.ref A46, Value.int 0, Value.int 4]) ++ List.replicate (3 - (lg_sl ([Value.ref A46, Value.int 0, Value.int 4])).length) Slot.unset).toArray = ls at hl ⊢
  have hl : lv_has ls 3 [(0, Value.ref A46), (1, Value.int 0), (2, Value.int 4)] := hl
  refine lv_iload_n hx hb d_Mo_wrong_0 rfl (lv_at hl 1 rfl) ?_
  refine lv_if_eq (tgt := 16) hx hb d_Mo_wrong_1 (by decide) (fun _ => ?_) (fun c9 => absurd (by decide) c9)
  refine lv_aload_n hx hb d_Mo_wrong_16 rfl (lv_at hl 0 rfl) ?_
  refine va_get (D := D) (ci := 8) (v := Value.int 0) (C := "CommitLedgerModel") (T := F_Mo) (N := 35) hx hb hts i_Mo hown hK hP 46 f_46 rfl 0 (by decide) (hts _ kf_Mo_84) (fun _ h9 => h9) rfl d_Mo_wrong_17 ?_
  refine lv_if_eq (tgt := 27) hx hb d_Mo_wrong_20 (by decide) (fun _ => ?_) (fun c9 => absurd (by decide) c9)
  refine lv_iconst (v := 0) hx hb d_Mo_wrong_27 (by decide) ?_
  exact gx_ret (W.zret (v := 0) (ty := .boolean) hx hb hr (rfl) (gx_post hP hK hD hS (by rw [← hPQ]; exact ⟨rfl, rfl⟩)) hS.2.2 d_Mo_wrong_28)

set_option maxHeartbeats 4000000 in
set_option maxRecDepth 100000 in
theorem c_Ve_tidy_v1 (l : Launch) (htr : l.stackTraces = false) (D : va_G) (tys : List (ClassId × FieldType)) (z sz : Nat) (ws : va_W) (A54 : Nat) (A55 : Nat) (A56 : Nat) (A57 : Nat) (A58 : Nat) (A59 : Nat) (A60 : Nat) (A61 : Nat) (f_54 : ws[54]? = some ((A54, Sum.inr (9, [Value.ref A55, Value.ref A56, Value.ref A57, Value.ref A58, Value.ref A59, Value.ref A60, Value.ref A61, Value.int 0, Value.int 0, Value.int 0, Value.int 0])) : Nat × va_E)) : gx_Met l y_Ve_tidy [Cond.code y_Ve_tidy b_Ve_tidy 2 none] { frames := 1, cells := 0, slots := 0, locals := 12 } (gx_P z sz D classes tys ws [Value.ref A54]) (gx_Q D classes tys (va_A ws sz) (fun r ws' => (r = Sum.inl none ∧ ws' = ws))) 0 0 (va_A ws sz) := by
  refine gx_ofW (cc := b_Ve_tidy) (maxL := 2) (ret := none) (by decide) rfl ?_
  intro p e s m args below meth c s₁ B hml hv
  obtain ⟨rfl, hsz, hz, hP, hK, hD0, hY⟩ := hv
  have hx := B.exec
  have hb := B.bytes
  have hr := B.returns
  have hts := hY.hts (#[Value.ref A54] : Array Value)
  have hown : s.vm.findClass "CommitLedgerModel$Version" = some m.cls := findClass_of_methodNamed B.named
  have hlocks := B.notSynchronized
  have hne : c.exceptionTable.isEmpty = true := B.noHandlers (atoms_spec (ws := [Cond.code y_Ve_tidy b_Ve_tidy 2 none]) B.pre _ List.mem_cons_self)
  subst hsz
  have hAz := gx_az hD0 hz
  have hD := hD0.self (sz := s.heap.size)
  have hN := gx_ns hP
  have hA : ∀ q : Nat, s.heap.size ≤ q → va_A ws s.heap.size q := fun q h => Or.inr h
  generalize va_A ws s.heap.size = A at hD hN hA hAz ⊢
  generalize hPQ : (fun (r : Option Value ⊕ String) (ws' : va_W) => (r = Sum.inl none ∧ ws' = ws)) = PQ
  have hS : va_S A s.heap s.heap [] := va_S.rf
  have hU : gx_g ws ws 0 [] := gx_g.rf
  have hl := lv_entry ([Value.ref A54]) (n := 2) (Nat.le_of_ble_eq_true rfl)
  rw [lg_entry_eq]
  generalize (lg_sl ([Value.ref A54]) ++ List.replicate (2 - (lg_sl ([Value.ref A54])).length) Slot.unset).toArray = ls at hl ⊢
  have hl : lv_has ls 2 [(0, Value.ref A54)] := hl
  refine lv_aload_n hx hb d_Ve_tidy_0 rfl (lv_at hl 0 rfl) ?_
  refine va_get (D := D) (ci := 9) (v := Value.int 0) (C := "CommitLedgerModel$Version") (T := F_Ve) (N := 11) hx hb hts i_Ve hown hK hP 54 f_54 rfl 7 (by decide) (hts _ kf_Ve_34) (fun _ h9 => h9) rfl d_Ve_tidy_1 ?_
  refine lv_iconst (v := 1) hx hb d_Ve_tidy_4 (by decide) ?_
  refine lv_isub hx hb d_Ve_tidy_5 ?_
  refine gx_topi (y := (-1)) (by decide) ?_
  refine lv_istore_n (lv' := [(1, Value.int (-1)), (0, Value.ref A54)]) hx hb d_Ve_tidy_6 rfl hl (by decide) rfl (fun ls hl => ?_)
  refine lv_iload_n hx hb d_Ve_tidy_7 rfl (lv_at hl 0 rfl) ?_
  refine lv_if_lt (tgt := 39) hx hb d_Ve_tidy_8 (by decide) (fun _ => ?_) (fun c9 => absurd (by decide) c9)
  exact gx_ret (W.vret hx hb hr (gx_post hP hK hD hS (by rw [← hPQ]; exact ⟨rfl, rfl⟩)) hS.2.2 d_Ve_tidy_39)

set_option maxHeartbeats 4000000 in
set_option maxRecDepth 100000 in
theorem c_Mo_need_v1 (l : Launch) (htr : l.stackTraces = false) (D : va_G) (tys : List (ClassId × FieldType)) (z sz : Nat) (ws : va_W) (A46 : Nat) (A54 : Nat) (A55 : Nat) (A56 : Nat) (A57 : Nat) (A58 : Nat) (A59 : Nat) (A60 : Nat) (A61 : Nat) (f_54 : ws[54]? = some ((A54, Sum.inr (9, [Value.ref A55, Value.ref A56, Value.ref A57, Value.ref A58, Value.ref A59, Value.ref A60, Value.ref A61, Value.int 0, Value.int 0, Value.int 0, Value.int 0])) : Nat × va_E)) : gx_Met l y_Mo_need [Cond.code y_Mo_need b_Mo_need 4 none] { frames := 1, cells := 0, slots := 0, locals := 12 } (gx_P z sz D classes tys ws [Value.ref A46, Value.ref A54, Value.int 1]) (gx_Q D classes tys (va_A ws sz) (fun r ws' => (r = Sum.inl none ∧ ws' = ws))) 0 0 (va_A ws sz) := by
  refine gx_ofW (cc := b_Mo_need) (maxL := 4) (ret := none) (by decide) rfl ?_
  intro p e s m args below meth c s₁ B hml hv
  obtain ⟨rfl, hsz, hz, hP, hK, hD0, hY⟩ := hv
  have hx := B.exec
  have hb := B.bytes
  have hr := B.returns
  have hts := hY.hts (#[Value.ref A46, Value.ref A54, Value.int 1] : Array Value)
  have hown : s.vm.findClass "CommitLedgerModel" = some m.cls := findClass_of_methodNamed B.named
  have hlocks := B.notSynchronized
  have hne : c.exceptionTable.isEmpty = true := B.noHandlers (atoms_spec (ws := [Cond.code y_Mo_need b_Mo_need 4 none]) B.pre _ List.mem_cons_self)
  subst hsz
  have hAz := gx_az hD0 hz
  have hD := hD0.self (sz := s.heap.size)
  have hN := gx_ns hP
  have hA : ∀ q : Nat, s.heap.size ≤ q → va_A ws s.heap.size q := fun q h => Or.inr h
  generalize va_A ws s.heap.size = A at hD hN hA hAz ⊢
  generalize hPQ : (fun (r : Option Value ⊕ String) (ws' : va_W) => (r = Sum.inl none ∧ ws' = ws)) = PQ
  have hS : va_S A s.heap s.heap [] := va_S.rf
  have hU : gx_g ws ws 0 [] := gx_g.rf
  have hl := lv_entry ([Value.ref A46, Value.ref A54, Value.int 1]) (n := 4) (Nat.le_of_ble_eq_true rfl)
  rw [lg_entry_eq]
  generalize (lg_sl ([Value.ref A46, Value.ref A54, Value.int 1]) ++ List.replicate (4 - (lg_sl ([Value.ref A46, Value.ref A54, Value.int 1])).length) Slot.unset).toArray = ls at hl ⊢
  have hl : lv_has ls 4 [(0, Value.ref A46), (1, Value.ref A54), (2, Value.int 1)] := hl
  refine lv_iconst (v := 0) hx hb d_Mo_need_0 (by decide) ?_
  refine lv_istore_n (lv' := [(3, Value.int 0), (0, Value.ref A46), (1, Value.ref A54), (2, Value.int 1)]) hx hb d_Mo_need_1 rfl hl (by decide) rfl (fun ls hl => ?_)
  refine lv_iload_n hx hb d_Mo_need_2 rfl (lv_at hl 0 rfl) ?_
  refine lv_aload_n hx hb d_Mo_need_3 rfl (lv_at hl 2 rfl) ?_
  refine va_get (D := D) (ci := 9) (v := Value.int 0) (C := "CommitLedgerModel$Version") (T := F_Ve) (N := 11) hx hb hts i_Ve hown hK hP 54 f_54 rfl 7 (by decide) (hts _ kf_Mo_122) (fun _ h9 => h9) rfl d_Mo_need_4 ?_
  refine lv_icmp_ge (tgt := 61) hx hb d_Mo_need_7 (by decide) (fun _ => ?_) (fun c9 => absurd (by decide) c9)
  exact gx_ret (W.vret hx hb hr (gx_post hP hK hD hS (by rw [← hPQ]; exact ⟨rfl, rfl⟩)) hS.2.2 d_Mo_need_61)

set_option maxHeartbeats 4000000 in
set_option maxRecDepth 100000 in
theorem c_Mo_keepNeeded_v2 (l : Launch) (htr : l.stackTraces = false) (D : va_G) (tys : List (ClassId × FieldType)) (z sz : Nat) (ws : va_W) (A46 : Nat) (A47 : Nat) (A48 : Nat) (A49 : Nat) (A50 : Nat) (A51 : Nat) (A52 : Nat) (A53 : Nat) (A54 : Nat) (A62 : Nat) (A70 : Nat) (A78 : Nat) (A79 : Nat) (u0 : Value) (A80 : Nat) (A81 : Nat) (A82 : Nat) (A83 : Nat) (f_46 : ws[46]? = some ((A46, Sum.inr (8, [Value.int 0, Value.int 0, Value.ref A47, Value.ref A48, Value.ref A49, Value.int 0, Value.ref A50, Value.ref A51, Value.ref A52, Value.ref A53, Value.int 0, Value.int 0, Value.int 0, Value.int (-1), Value.int 0, Value.ref A54, Value.ref A62, Value.ref A70, Value.int 1, Value.int 0, Value.int 0, Value.ref A78, Value.ref A79, Value.int 0, Value.int 16, Value.int 4, u0, Value.ref A80, Value.ref A81, Value.ref A82, Value.int 0, Value.ref A83, Value.int 0, Value.int 0, Value.int 0])) : Nat × va_E)) : gx_Met l y_Mo_keepNeeded [Cond.code y_Mo_keepNeeded b_Mo_keepNeeded 3 none] { frames := 1, cells := 0, slots := 0, locals := 12 } (gx_P z sz D classes tys ws [Value.ref A46]) (gx_Q D classes tys (va_A ws sz) (fun r ws' => (r = Sum.inl none ∧ gx_g ws ws' 0 [46] ∧ ws'[46]? = some ((A46, Sum.inr (8, [Value.int 0, Value.int 0, Value.ref A47, Value.ref A48, Value.ref A49, Value.int 0, Value.ref A50, Value.ref A51, Value.ref A52, Value.ref A53, Value.int 0, Value.int 0, Value.int 0, Value.int (-1), Value.int 0, Value.ref A54, Value.ref A62, Value.ref A70, Value.int 1, Value.int 0, Value.int 0, Value.ref A78, Value.ref A79, Value.int 0, Value.int 16, Value.int 4, u0, Value.ref A80, Value.ref A81, Value.ref A82, Value.int 0, Value.ref A83, Value.int 0, Value.int 0, Value.int 0])) : Nat × va_E)))) 0 0 (va_A ws sz) := by
  refine gx_ofW (cc := b_Mo_keepNeeded) (maxL := 3) (ret := none) (by decide) rfl ?_
  intro p e s m args below meth c s₁ B hml hv
  obtain ⟨rfl, hsz, hz, hP, hK, hD0, hY⟩ := hv
  have hx := B.exec
  have hb := B.bytes
  have hr := B.returns
  have hts := hY.hts (#[Value.ref A46] : Array Value)
  have hown : s.vm.findClass "CommitLedgerModel" = some m.cls := findClass_of_methodNamed B.named
  have hlocks := B.notSynchronized
  have hne : c.exceptionTable.isEmpty = true := B.noHandlers (atoms_spec (ws := [Cond.code y_Mo_keepNeeded b_Mo_keepNeeded 3 none]) B.pre _ List.mem_cons_self)
  subst hsz
  have hAz := gx_az hD0 hz
  have hD := hD0.self (sz := s.heap.size)
  have hN := gx_ns hP
  have hA : ∀ q : Nat, s.heap.size ≤ q → va_A ws s.heap.size q := fun q h => Or.inr h
  generalize va_A ws s.heap.size = A at hD hN hA hAz ⊢
  generalize hPQ : (fun (r : Option Value ⊕ String) (ws' : va_W) => (r = Sum.inl none ∧ gx_g ws ws' 0 [46] ∧ ws'[46]? = some ((A46, Sum.inr (8, [Value.int 0, Value.int 0, Value.ref A47, Value.ref A48, Value.ref A49, Value.int 0, Value.ref A50, Value.ref A51, Value.ref A52, Value.ref A53, Value.int 0, Value.int 0, Value.int 0, Value.int (-1), Value.int 0, Value.ref A54, Value.ref A62, Value.ref A70, Value.int 1, Value.int 0, Value.int 0, Value.ref A78, Value.ref A79, Value.int 0, Value.int 16, Value.int 4, u0, Value.ref A80, Value.ref A81, Value.ref A82, Value.int 0, Value.ref A83, Value.int 0, Value.int 0, Value.int 0])) : Nat × va_E))) = PQ
  have hS : va_S A s.heap s.heap [] := va_S.rf
  have hU : gx_g ws ws 0 [46] := gx_g.rf
  have hl := lv_entry ([Value.ref A46]) (n := 3) (Nat.le_of_ble_eq_true rfl)
  rw [lg_entry_eq]
  generalize (lg_sl ([Value.ref A46]) ++ List.replicate (3 - (lg_sl ([Value.ref A46])).length) Slot.unset).toArray = ls at hl ⊢
  have hl : lv_has ls 3 [(0, Value.ref A46)] := hl
  refine lv_iconst (v := 0) hx hb d_Mo_keepNeeded_0 (by decide) ?_
  refine lv_istore_n (lv' := [(1, Value.int 0), (0, Value.ref A46)]) hx hb d_Mo_keepNeeded_1 rfl hl (by decide) rfl (fun ls hl => ?_)
  refine lv_iconst (v := 0) hx hb d_Mo_keepNeeded_2 (by decide) ?_
  refine lv_istore_n (lv' := [(2, Value.int 0), (1, Value.int 0), (0, Value.ref A46)]) hx hb d_Mo_keepNeeded_3 rfl hl (by decide) rfl (fun ls hl => ?_)
  refine lv_iload_n hx hb d_Mo_keepNeeded_4 rfl (lv_at hl 0 rfl) ?_
  refine lv_aload_n hx hb d_Mo_keepNeeded_5 rfl (lv_at hl 2 rfl) ?_
  refine va_get (D := D) (ci := 8) (v := Value.int 0) (C := "CommitLedgerModel") (T := F_Mo) (N := 35) hx hb hts i_Mo hown hK hP 46 f_46 rfl 10 (by decide) (hts _ kf_Mo_93) (fun _ h9 => h9) rfl d_Mo_keepNeeded_6 ?_
  refine lv_icmp_ge (tgt := 69) hx hb d_Mo_keepNeeded_9 (by decide) (fun _ => ?_) (fun c9 => absurd (by decide) c9)
  refine lv_aload_n hx hb d_Mo_keepNeeded_69 rfl (lv_at hl 2 rfl) ?_
  refine lv_iload_n hx hb d_Mo_keepNeeded_70 rfl (lv_at hl 1 rfl) ?_
  refine va_put (D := D) (ci := 8) (v := Value.int 0) (ty := .int) (C := "CommitLedgerModel") (T := F_Mo) (N := 35) hx hb hts i_Mo t_Mo t_Mo_ok n_Mo hown hK hP hD hS 46 f_46 rfl 10 (by decide) (hts _ kf_Mo_93) (fun _ h9 => h9) rfl (by decide +kernel) rfl rfl (Nat.le_of_ble_eq_true rfl) d_Mo_keepNeeded_71 (fun H locs hP9 hD9 hS9 => ?_)
  obtain ⟨ws1, e_ws1⟩ : ∃ x : va_W, x = ws.set 46 ((A46, Sum.inr (8, [Value.int 0, Value.int 0, Value.ref A47, Value.ref A48, Value.ref A49, Value.int 0, Value.ref A50, Value.ref A51, Value.ref A52, Value.ref A53, Value.int 0, Value.int 0, Value.int 0, Value.int (-1), Value.int 0, Value.ref A54, Value.ref A62, Value.ref A70, Value.int 1, Value.int 0, Value.int 0, Value.ref A78, Value.ref A79, Value.int 0, Value.int 16, Value.int 4, u0, Value.ref A80, Value.ref A81, Value.ref A82, Value.int 0, Value.ref A83, Value.int 0, Value.int 0, Value.int 0])) : Nat × va_E) := ⟨_, rfl⟩
  replace hP : va_P D classes ws1 H := by rw [e_ws1]; exact hP9
  replace hD : va_D A ws1 := by rw [e_ws1]; exact hD9
  replace hS := hS9
  clear hP9 hD9 hS9
  have f_46_ws1 : ws1[46]? = some ((A46, Sum.inr (8, [Value.int 0, Value.int 0, Value.ref A47, Value.ref A48, Value.ref A49, Value.int 0, Value.ref A50, Value.ref A51, Value.ref A52, Value.ref A53, Value.int 0, Value.int 0, Value.int 0, Value.int (-1), Value.int 0, Value.ref A54, Value.ref A62, Value.ref A70, Value.int 1, Value.int 0, Value.int 0, Value.ref A78, Value.ref A79, Value.int 0, Value.int 16, Value.int 4, u0, Value.ref A80, Value.ref A81, Value.ref A82, Value.int 0, Value.ref A83, Value.int 0, Value.int 0, Value.int 0])) : Nat × va_E) := by rw [e_ws1]; exact gs_self f_46
  replace hU : gx_g ws ws1 0 [46] := by rw [e_ws1]; exact hU.put (Or.inl (by simp))
  exact gx_ret (W.vret hx hb hr (gx_post hP hK hD hS (by rw [← hPQ]; exact ⟨rfl, hU, f_46_ws1⟩)) hS.2.2 d_Mo_keepNeeded_74)

set_option maxHeartbeats 4000000 in
set_option maxRecDepth 100000 in
theorem c_Mo_tidyFiles_v1 (l : Launch) (htr : l.stackTraces = false) (D : va_G) (tys : List (ClassId × FieldType)) (z sz : Nat) (ws : va_W) (cV : ClassId) (A46 : Nat) (A47 : Nat) (A48 : Nat) (A49 : Nat) (A50 : Nat) (A51 : Nat) (A52 : Nat) (A53 : Nat) (A54 : Nat) (A62 : Nat) (A70 : Nat) (A78 : Nat) (A79 : Nat) (u0 : Value) (A80 : Nat) (A81 : Nat) (A82 : Nat) (A83 : Nat) (A55 : Nat) (A56 : Nat) (A57 : Nat) (A58 : Nat) (A59 : Nat) (A60 : Nat) (A61 : Nat) (A84 : Nat) (A85 : Nat) (A86 : Nat) (A87 : Nat) (A88 : Nat) (A89 : Nat) (A90 : Nat) (A91 : Nat) (A92 : Nat) (A93 : Nat) (A94 : Nat) (A95 : Nat) (A96 : Nat) (A97 : Nat) (A98 : Nat) (A99 : Nat) (A100 : Nat) (A101 : Nat) (A102 : Nat) (A103 : Nat) (A104 : Nat) (A105 : Nat) (A106 : Nat) (A107 : Nat) (A108 : Nat) (A109 : Nat) (A110 : Nat) (A111 : Nat) (A112 : Nat) (A113 : Nat) (A114 : Nat) (A115 : Nat) (f_46 : ws[46]? = some ((A46, Sum.inr (8, [Value.int 0, Value.int 0, Value.ref A47, Value.ref A48, Value.ref A49, Value.int 0, Value.ref A50, Value.ref A51, Value.ref A52, Value.ref A53, Value.int 0, Value.int 0, Value.int 0, Value.int (-1), Value.int 0, Value.ref A54, Value.ref A62, Value.ref A70, Value.int 1, Value.int 0, Value.int 0, Value.ref A78, Value.ref A79, Value.int 0, Value.int 16, Value.int 4, u0, Value.ref A80, Value.ref A81, Value.ref A82, Value.int 0, Value.ref A83, Value.int 0, Value.int 0, Value.int 0])) : Nat × va_E)) (f_54 : ws[54]? = some ((A54, Sum.inr (9, [Value.ref A55, Value.ref A56, Value.ref A57, Value.ref A58, Value.ref A59, Value.ref A60, Value.ref A61, Value.int 0, Value.int 0, Value.int 0, Value.int 0])) : Nat × va_E)) (f_84 : ws[84]? = some ((A84, Sum.inr (9, [Value.ref A85, Value.ref A86, Value.ref A87, Value.ref A88, Value.ref A89, Value.ref A90, Value.ref A91, Value.int 0, Value.int 0, Value.int 0, Value.int 0])) : Nat × va_E)) (f_92 : ws[92]? = some ((A92, Sum.inr (9, [Value.ref A93, Value.ref A94, Value.ref A95, Value.ref A96, Value.ref A97, Value.ref A98, Value.ref A99, Value.int 0, Value.int 0, Value.int 0, Value.int 0])) : Nat × va_E)) (f_100 : ws[100]? = some ((A100, Sum.inr (9, [Value.ref A101, Value.ref A102, Value.ref A103, Value.ref A104, Value.ref A105, Value.ref A106, Value.ref A107, Value.int 0, Value.int 0, Value.int 0, Value.int 0])) : Nat × va_E)) (f_108 : ws[108]? = some ((A108, Sum.inr (9, [Value.ref A109, Value.ref A110, Value.ref A111, Value.ref A112, Value.ref A113, Value.ref A114, Value.ref A115, Value.int 0, Value.int 0, Value.int 0, Value.int 0])) : Nat × va_E)) (f_83 : ws[83]? = some ((A83, Sum.inl (cV, 4, Sum.inr (Sum.inr (Sum.inr (Sum.inr (va_up (va_up (va_up (va_up (fun _ => none) 0 (some A84)) 1 (some A92)) 2 (some A100)) 3 (some A108))))))) : Nat × va_E)) (ht5 : tys[5]? = some ((cV, FieldType.object "CommitLedgerModel$Version") : ClassId × FieldType)) : gx_Met l y_Mo_tidyFiles [Cond.code y_Mo_tidyFiles b_Mo_tidyFiles 5 none] { frames := 2, cells := 0, slots := 0, locals := 35 } (gx_P z sz D classes tys ws [Value.ref A46]) (gx_Q D classes tys (va_A ws sz) (fun r ws' => (r = Sum.inl none ∧ gx_g ws ws' 0 [46] ∧ ws'[46]? = some ((A46, Sum.inr (8, [Value.int 0, Value.int 0, Value.ref A47, Value.ref A48, Value.ref A49, Value.int 0, Value.ref A50, Value.ref A51, Value.ref A52, Value.ref A53, Value.int 0, Value.int 0, Value.int 0, Value.int (-1), Value.int 0, Value.ref A54, Value.ref A62, Value.ref A70, Value.int 1, Value.int 0, Value.int 0, Value.ref A78, Value.ref A79, Value.int 0, Value.int 16, Value.int 4, u0, Value.ref A80, Value.ref A81, Value.ref A82, Value.int 0, Value.ref A83, Value.int 0, Value.int 0, Value.int 0])) : Nat × va_E)))) 0 0 (va_A ws sz) := by
  refine gx_ofW (cc := b_Mo_tidyFiles) (maxL := 5) (ret := none) (by decide) rfl ?_
  intro p e s m args below meth c s₁ B hml hv
  obtain ⟨rfl, hsz, hz, hP, hK, hD0, hY⟩ := hv
  have hx := B.exec
  have hb := B.bytes
  have hr := B.returns
  have hts := hY.hts (#[Value.ref A46] : Array Value)
  have hown : s.vm.findClass "CommitLedgerModel" = some m.cls := findClass_of_methodNamed B.named
  have hlocks := B.notSynchronized
  have hne : c.exceptionTable.isEmpty = true := B.noHandlers (atoms_spec (ws := [Cond.code y_Mo_tidyFiles b_Mo_tidyFiles 5 none]) B.pre _ List.mem_cons_self)
  subst hsz
  have hAz := gx_az hD0 hz
  have hD := hD0.self (sz := s.heap.size)
  have hN := gx_ns hP
  have hA : ∀ q : Nat, s.heap.size ≤ q → va_A ws s.heap.size q := fun q h => Or.inr h
  generalize va_A ws s.heap.size = A at hD hN hA hAz ⊢
  generalize hPQ : (fun (r : Option Value ⊕ String) (ws' : va_W) => (r = Sum.inl none ∧ gx_g ws ws' 0 [46] ∧ ws'[46]? = some ((A46, Sum.inr (8, [Value.int 0, Value.int 0, Value.ref A47, Value.ref A48, Value.ref A49, Value.int 0, Value.ref A50, Value.ref A51, Value.ref A52, Value.ref A53, Value.int 0, Value.int 0, Value.int 0, Value.int (-1), Value.int 0, Value.ref A54, Value.ref A62, Value.ref A70, Value.int 1, Value.int 0, Value.int 0, Value.ref A78, Value.ref A79, Value.int 0, Value.int 16, Value.int 4, u0, Value.ref A80, Value.ref A81, Value.ref A82, Value.int 0, Value.ref A83, Value.int 0, Value.int 0, Value.int 0])) : Nat × va_E))) = PQ
  have hS : va_S A s.heap s.heap [] := va_S.rf
  have hU : gx_g ws ws 0 [46] := gx_g.rf
  have hl := lv_entry ([Value.ref A46]) (n := 5) (Nat.le_of_ble_eq_true rfl)
  rw [lg_entry_eq]
  generalize (lg_sl ([Value.ref A46]) ++ List.replicate (5 - (lg_sl ([Value.ref A46])).length) Slot.unset).toArray = ls at hl ⊢
  have hl : lv_has ls 5 [(0, Value.ref A46)] := hl
  refine lv_aload_n hx hb d_Mo_tidyFiles_0 rfl (lv_at hl 0 rfl) ?_
  refine va_get (D := D) (ci := 8) (v := Value.int 0) (C := "CommitLedgerModel") (T := F_Mo) (N := 35) hx hb hts i_Mo hown hK hP 46 f_46 rfl 14 (by decide) (hts _ kf_Mo_112) (fun _ h9 => h9) rfl d_Mo_tidyFiles_1 ?_
  refine lv_if_eq (tgt := 8) hx hb d_Mo_tidyFiles_4 (by decide) (fun _ => ?_) (fun c9 => absurd (by decide) c9)
  refine lv_iconst (v := 0) hx hb d_Mo_tidyFiles_8 (by decide) ?_
  refine lv_istore_n (lv' := [(1, Value.int 0), (0, Value.ref A46)]) hx hb d_Mo_tidyFiles_9 rfl hl (by decide) rfl (fun ls hl => ?_)
  refine lv_iload_n hx hb d_Mo_tidyFiles_10 rfl (lv_at hl 0 rfl) ?_
  refine lv_aload_n hx hb d_Mo_tidyFiles_11 rfl (lv_at hl 1 rfl) ?_
  refine va_get (D := D) (ci := 8) (v := Value.int 0) (C := "CommitLedgerModel") (T := F_Mo) (N := 35) hx hb hts i_Mo hown hK hP 46 f_46 rfl 10 (by decide) (hts _ kf_Mo_93) (fun _ h9 => h9) rfl d_Mo_tidyFiles_12 ?_
  refine lv_icmp_ge (tgt := 31) hx hb d_Mo_tidyFiles_15 (by decide) (fun _ => ?_) (fun c9 => absurd (by decide) c9)
  refine lv_aload_n hx hb d_Mo_tidyFiles_31 rfl (lv_at hl 1 rfl) ?_
  refine va_get (D := D) (ci := 8) (v := Value.int 0) (C := "CommitLedgerModel") (T := F_Mo) (N := 35) hx hb hts i_Mo hown hK hP 46 f_46 rfl 20 (by decide) (hts _ kf_Mo_135) (fun _ h9 => h9) rfl d_Mo_tidyFiles_32 ?_
  refine lv_if_le (tgt := 64) hx hb d_Mo_tidyFiles_35 (by decide) (fun _ => ?_) (fun c9 => absurd (by decide) c9)
  refine lv_aload_n hx hb d_Mo_tidyFiles_64 rfl (lv_at hl 1 rfl) ?_
  refine va_get (D := D) (ci := 8) (v := Value.int 0) (C := "CommitLedgerModel") (T := F_Mo) (N := 35) hx hb hts i_Mo hown hK hP 46 f_46 rfl 19 (by decide) (hts _ kf_Mo_109) (fun _ h9 => h9) rfl d_Mo_tidyFiles_65 ?_
  refine lv_if_eq (tgt := 97) hx hb d_Mo_tidyFiles_68 (by decide) (fun _ => ?_) (fun c9 => absurd (by decide) c9)
  refine lv_aload_n hx hb d_Mo_tidyFiles_97 rfl (lv_at hl 1 rfl) ?_
  refine va_get (D := D) (ci := 8) (v := Value.int 1) (C := "CommitLedgerModel") (T := F_Mo) (N := 35) hx hb hts i_Mo hown hK hP 46 f_46 rfl 18 (by decide) (hts _ kf_Mo_99) (fun _ h9 => h9) rfl d_Mo_tidyFiles_98 ?_
  refine lv_if_eq (tgt := 113) hx hb d_Mo_tidyFiles_101 (by decide) (fun c9 => absurd c9 (by decide)) (fun _ => ?_)
  refine lv_aload_n hx hb d_Mo_tidyFiles_104 rfl (lv_at hl 1 rfl) ?_
  refine lv_aload_n hx hb d_Mo_tidyFiles_105 rfl (lv_at hl 1 rfl) ?_
  refine va_get (D := D) (ci := 8) (v := Value.ref A54) (C := "CommitLedgerModel") (T := F_Mo) (N := 35) hx hb hts i_Mo hown hK hP 46 f_46 rfl 15 (by decide) (hts _ kf_Mo_40) (fun _ h9 => h9) rfl d_Mo_tidyFiles_106 ?_
  refine lv_iconst (v := 1) hx hb d_Mo_tidyFiles_109 (by decide) ?_
  refine gx_call (ig := .invokevirtual 138) (c_Mo_need_v1 l htr D tys z _ ws A46 A54 A55 A56 A57 A58 A59 A60 A61 f_54) (gx_invV (As := [Value.ref A54, Value.int 1]) (rest := []) hx hb hown hts km_Mo_138 kI_Mo_need kV_Mo_need kc_Mo_need (by decide) (show (parseMethodDescriptor y_Mo_need.desc).map (fun d => d.parameters.length) = some 2 by decide +kernel) (gx_recv (ci := 8) hK hP rfl f_46) rfl rfl d_Mo_tidyFiles_110) (gx_cw (z := 0) hts kc_Mo_need kN_Mo rfl rfl ⟨Nat.le_of_ble_eq_true rfl, Nat.le_of_ble_eq_true rfl⟩) hb hml gx_blind (gx_pre hz hP hK hD hY hS hAz [Value.ref A46, Value.ref A54, Value.int 1]) rfl hl.1 (lv_room (Nat.le_of_ble_eq_true rfl)) d_Mo_tidyFiles_110 ⟨Nat.le_of_ble_eq_true rfl, Nat.le_of_ble_eq_true rfl⟩ (fun v1 st1 t1 L1 h0_1 hW_1 hQ_1 hL_1 => ?_) (fun v1 st1 t1 L1 h0_1 hW_1 hQ_1 hL_1 => ?_)
  · obtain ⟨ws2, hp, hP9, -, hD9, hS9⟩ := gx_back h0_1 hW_1 hQ_1 hL_1 hD hS hA
    clear hQ_1 h0_1 hL_1 hW_1 hP hD hS
    have hP := hP9
    have hD := hD9
    have hS := hS9
    clear hP9 hD9 hS9
    rcases hp with ⟨hv9, e_ws2⟩
    cases hv9
    rw [e_ws2] at hP hD
    refine W.eq (g2 := F0 m 113 ls []) rfl ?_
    generalize t1.heap = H at hP hS ⊢
    generalize [] ++ L1 = locs at hS ⊢
    refine lv_iconst (v := 0) hx hb d_Mo_tidyFiles_113 (by decide) ?_
    refine lv_istore_n (lv' := [(1, Value.int 0), (0, Value.ref A46)]) hx hb d_Mo_tidyFiles_114 rfl hl (by decide) rfl (fun ls hl => ?_)
    refine lv_iload_n hx hb d_Mo_tidyFiles_115 rfl (lv_at hl 0 rfl) ?_
    refine lv_aload_n hx hb d_Mo_tidyFiles_116 rfl (lv_at hl 1 rfl) ?_
    refine va_get (D := D) (ci := 8) (v := Value.int 0) (C := "CommitLedgerModel") (T := F_Mo) (N := 35) hx hb hts i_Mo hown hK hP 46 f_46 rfl 30 (by decide) (hts _ kf_Mo_106) (fun _ h9 => h9) rfl d_Mo_tidyFiles_117 ?_
    refine lv_icmp_ge (tgt := 145) hx hb d_Mo_tidyFiles_120 (by decide) (fun _ => ?_) (fun c9 => absurd (by decide) c9)
    refine lv_aload_n hx hb d_Mo_tidyFiles_145 rfl (lv_at hl 1 rfl) ?_
    refine va_get (D := D) (ci := 8) (v := Value.ref A83) (C := "CommitLedgerModel") (T := F_Mo) (N := 35) hx hb hts i_Mo hown hK hP 46 f_46 rfl 31 (by decide) (hts _ kf_Mo_76) (fun _ h9 => h9) rfl d_Mo_tidyFiles_146 ?_
    refine lv_astore_n (lv' := [(1, Value.ref A83), (0, Value.ref A46)]) hx hb d_Mo_tidyFiles_149 rfl hl (by decide) rfl (fun ls hl => ?_)
    refine lv_aload_n hx hb d_Mo_tidyFiles_150 rfl (lv_at hl 0 rfl) ?_
    refine va_alen (D := D) (v := 4) hx hb hK hP 83 5 f_83 ht5 rfl d_Mo_tidyFiles_151 ?_
    refine lv_istore_n (lv' := [(2, Value.int 4), (1, Value.ref A83), (0, Value.ref A46)]) hx hb d_Mo_tidyFiles_152 rfl hl (by decide) rfl (fun ls hl => ?_)
    refine lv_iconst (v := 0) hx hb d_Mo_tidyFiles_153 (by decide) ?_
    refine lv_istore_n (lv' := [(3, Value.int 0), (2, Value.int 4), (1, Value.ref A83), (0, Value.ref A46)]) hx hb d_Mo_tidyFiles_154 rfl hl (by decide) rfl (fun ls hl => ?_)
    refine lv_iload_n hx hb d_Mo_tidyFiles_155 rfl (lv_at hl 0 rfl) ?_
    refine lv_iload_n hx hb d_Mo_tidyFiles_156 rfl (lv_at hl 1 rfl) ?_
    refine lv_icmp_ge (tgt := 186) hx hb d_Mo_tidyFiles_157 (by decide) (fun c9 => absurd c9 (by decide)) (fun _ => ?_)
    refine lv_aload_n hx hb d_Mo_tidyFiles_160 rfl (lv_at hl 2 rfl) ?_
    refine lv_iload_n hx hb d_Mo_tidyFiles_161 rfl (lv_at hl 0 rfl) ?_
    refine gx_aald (D := D) (b := A84) (j := 0) hx hb hK hP 83 5 f_83 ht5 (gx_inl (by decide)) (by decide) (rfl) d_Mo_tidyFiles_162 ?_
    refine lv_astore (lv' := [(4, Value.ref A84), (3, Value.int 0), (2, Value.int 4), (1, Value.ref A83), (0, Value.ref A46)]) hx hb d_Mo_tidyFiles_163 hl (by decide) rfl (fun ls hl => ?_)
    refine lv_aload hx hb d_Mo_tidyFiles_165 (lv_at hl 0 rfl) ?_
    refine va_get (D := D) (ci := 9) (v := Value.int 0) (C := "CommitLedgerModel$Version") (T := F_Ve) (N := 11) hx hb hts i_Ve hown hK hP 84 f_84 rfl 10 (by decide) (hts _ kf_Mo_103) (fun _ h9 => h9) rfl d_Mo_tidyFiles_167 ?_
    refine lv_if_le (tgt := 180) hx hb d_Mo_tidyFiles_170 (by decide) (fun _ => ?_) (fun c9 => absurd (by decide) c9)
    refine lv_iinc (v := 1) (lv' := [(3, Value.int 1), (4, Value.ref A84), (2, Value.int 4), (1, Value.ref A83), (0, Value.ref A46)]) hx hb d_Mo_tidyFiles_180 hl (k := 1) rfl (by decide) (by decide) rfl (fun ls hl => ?_)
    refine lv_goto (tgt := 155) hx hb d_Mo_tidyFiles_183 (by decide) ?_
    refine lv_iload_n hx hb d_Mo_tidyFiles_155 rfl (lv_at hl 0 rfl) ?_
    refine lv_iload_n hx hb d_Mo_tidyFiles_156 rfl (lv_at hl 2 rfl) ?_
    refine lv_icmp_ge (tgt := 186) hx hb d_Mo_tidyFiles_157 (by decide) (fun c9 => absurd c9 (by decide)) (fun _ => ?_)
    refine lv_aload_n hx hb d_Mo_tidyFiles_160 rfl (lv_at hl 3 rfl) ?_
    refine lv_iload_n hx hb d_Mo_tidyFiles_161 rfl (lv_at hl 0 rfl) ?_
    refine gx_aald (D := D) (b := A92) (j := 1) hx hb hK hP 83 5 f_83 ht5 (gx_inl (by decide)) (by decide) (rfl) d_Mo_tidyFiles_162 ?_
    refine lv_astore (lv' := [(4, Value.ref A92), (3, Value.int 1), (2, Value.int 4), (1, Value.ref A83), (0, Value.ref A46)]) hx hb d_Mo_tidyFiles_163 hl (by decide) rfl (fun ls hl => ?_)
    refine lv_aload hx hb d_Mo_tidyFiles_165 (lv_at hl 0 rfl) ?_
    refine va_get (D := D) (ci := 9) (v := Value.int 0) (C := "CommitLedgerModel$Version") (T := F_Ve) (N := 11) hx hb hts i_Ve hown hK hP 92 f_92 rfl 10 (by decide) (hts _ kf_Mo_103) (fun _ h9 => h9) rfl d_Mo_tidyFiles_167 ?_
    refine lv_if_le (tgt := 180) hx hb d_Mo_tidyFiles_170 (by decide) (fun _ => ?_) (fun c9 => absurd (by decide) c9)
    refine lv_iinc (v := 2) (lv' := [(3, Value.int 2), (4, Value.ref A92), (2, Value.int 4), (1, Value.ref A83), (0, Value.ref A46)]) hx hb d_Mo_tidyFiles_180 hl (k := 1) rfl (by decide) (by decide) rfl (fun ls hl => ?_)
    refine lv_goto (tgt := 155) hx hb d_Mo_tidyFiles_183 (by decide) ?_
    refine lv_iload_n hx hb d_Mo_tidyFiles_155 rfl (lv_at hl 0 rfl) ?_
    refine lv_iload_n hx hb d_Mo_tidyFiles_156 rfl (lv_at hl 2 rfl) ?_
    refine lv_icmp_ge (tgt := 186) hx hb d_Mo_tidyFiles_157 (by decide) (fun c9 => absurd c9 (by decide)) (fun _ => ?_)
    refine lv_aload_n hx hb d_Mo_tidyFiles_160 rfl (lv_at hl 3 rfl) ?_
    refine lv_iload_n hx hb d_Mo_tidyFiles_161 rfl (lv_at hl 0 rfl) ?_
    refine gx_aald (D := D) (b := A100) (j := 2) hx hb hK hP 83 5 f_83 ht5 (gx_inl (by decide)) (by decide) (rfl) d_Mo_tidyFiles_162 ?_
    refine lv_astore (lv' := [(4, Value.ref A100), (3, Value.int 2), (2, Value.int 4), (1, Value.ref A83), (0, Value.ref A46)]) hx hb d_Mo_tidyFiles_163 hl (by decide) rfl (fun ls hl => ?_)
    refine lv_aload hx hb d_Mo_tidyFiles_165 (lv_at hl 0 rfl) ?_
    refine va_get (D := D) (ci := 9) (v := Value.int 0) (C := "CommitLedgerModel$Version") (T := F_Ve) (N := 11) hx hb hts i_Ve hown hK hP 100 f_100 rfl 10 (by decide) (hts _ kf_Mo_103) (fun _ h9 => h9) rfl d_Mo_tidyFiles_167 ?_
    refine lv_if_le (tgt := 180) hx hb d_Mo_tidyFiles_170 (by decide) (fun _ => ?_) (fun c9 => absurd (by decide) c9)
    refine lv_iinc (v := 3) (lv' := [(3, Value.int 3), (4, Value.ref A100), (2, Value.int 4), (1, Value.ref A83), (0, Value.ref A46)]) hx hb d_Mo_tidyFiles_180 hl (k := 1) rfl (by decide) (by decide) rfl (fun ls hl => ?_)
    refine lv_goto (tgt := 155) hx hb d_Mo_tidyFiles_183 (by decide) ?_
    refine lv_iload_n hx hb d_Mo_tidyFiles_155 rfl (lv_at hl 0 rfl) ?_
    refine lv_iload_n hx hb d_Mo_tidyFiles_156 rfl (lv_at hl 2 rfl) ?_
    refine lv_icmp_ge (tgt := 186) hx hb d_Mo_tidyFiles_157 (by decide) (fun c9 => absurd c9 (by decide)) (fun _ => ?_)
    refine lv_aload_n hx hb d_Mo_tidyFiles_160 rfl (lv_at hl 3 rfl) ?_
    refine lv_iload_n hx hb d_Mo_tidyFiles_161 rfl (lv_at hl 0 rfl) ?_
    refine gx_aald (D := D) (b := A108) (j := 3) hx hb hK hP 83 5 f_83 ht5 (gx_inl (by decide)) (by decide) (rfl) d_Mo_tidyFiles_162 ?_
    refine lv_astore (lv' := [(4, Value.ref A108), (3, Value.int 3), (2, Value.int 4), (1, Value.ref A83), (0, Value.ref A46)]) hx hb d_Mo_tidyFiles_163 hl (by decide) rfl (fun ls hl => ?_)
    refine lv_aload hx hb d_Mo_tidyFiles_165 (lv_at hl 0 rfl) ?_
    refine va_get (D := D) (ci := 9) (v := Value.int 0) (C := "CommitLedgerModel$Version") (T := F_Ve) (N := 11) hx hb hts i_Ve hown hK hP 108 f_108 rfl 10 (by decide) (hts _ kf_Mo_103) (fun _ h9 => h9) rfl d_Mo_tidyFiles_167 ?_
    refine lv_if_le (tgt := 180) hx hb d_Mo_tidyFiles_170 (by decide) (fun _ => ?_) (fun c9 => absurd (by decide) c9)
    refine lv_iinc (v := 4) (lv' := [(3, Value.int 4), (4, Value.ref A108), (2, Value.int 4), (1, Value.ref A83), (0, Value.ref A46)]) hx hb d_Mo_tidyFiles_180 hl (k := 1) rfl (by decide) (by decide) rfl (fun ls hl => ?_)
    refine lv_goto (tgt := 155) hx hb d_Mo_tidyFiles_183 (by decide) ?_
    refine lv_iload_n hx hb d_Mo_tidyFiles_155 rfl (lv_at hl 0 rfl) ?_
    refine lv_iload_n hx hb d_Mo_tidyFiles_156 rfl (lv_at hl 2 rfl) ?_
    refine lv_icmp_ge (tgt := 186) hx hb d_Mo_tidyFiles_157 (by decide) (fun _ => ?_) (fun c9 => absurd (by decide) c9)
    refine lv_aload_n hx hb d_Mo_tidyFiles_186 rfl (lv_at hl 4 rfl) ?_
    refine gx_call (ig := .invokevirtual 96) (c_Mo_keepNeeded_v2 l htr D tys z _ ws A46 A47 A48 A49 A50 A51 A52 A53 A54 A62 A70 A78 A79 (u0) A80 A81 A82 A83 f_46) (gx_invV (As := []) (rest := []) hx hb hown hts km_Mo_96 kI_Mo_keepNeeded kV_Mo_keepNeeded kc_Mo_keepNeeded (by decide) (show (parseMethodDescriptor y_Mo_keepNeeded.desc).map (fun d => d.parameters.length) = some 0 by decide +kernel) (gx_recv (ci := 8) hK hP rfl f_46) rfl rfl d_Mo_tidyFiles_187) (gx_cw (z := 0) hts kc_Mo_keepNeeded kN_Mo rfl rfl ⟨Nat.le_of_ble_eq_true rfl, Nat.le_of_ble_eq_true rfl⟩) hb hml gx_blind (gx_pre hz hP hK hD hY hS hAz [Value.ref A46]) rfl hl.1 (lv_room (Nat.le_of_ble_eq_true rfl)) d_Mo_tidyFiles_187 ⟨Nat.le_of_ble_eq_true rfl, Nat.le_of_ble_eq_true rfl⟩ (fun v3 st3 t3 L3 h0_3 hW_3 hQ_3 hL_3 => ?_) (fun v3 st3 t3 L3 h0_3 hW_3 hQ_3 hL_3 => ?_)
    · obtain ⟨ws4, hp, hP9, -, hD9, hS9⟩ := gx_back h0_3 hW_3 hQ_3 hL_3 hD hS hA
      clear hQ_3 h0_3 hL_3 hW_3 hP hD hS
      have hP := hP9
      have hD := hD9
      have hS := hS9
      clear hP9 hD9 hS9
      rcases hp with ⟨hv9, e_ws4, f_46_ws4⟩
      cases hv9
      have f_46_ws4 : ws4[46]? = some ((A46, Sum.inr (8, [Value.int 0, Value.int 0, Value.ref A47, Value.ref A48, Value.ref A49, Value.int 0, Value.ref A50, Value.ref A51, Value.ref A52, Value.ref A53, Value.int 0, Value.int 0, Value.int 0, Value.int (-1), Value.int 0, Value.ref A54, Value.ref A62, Value.ref A70, Value.int 1, Value.int 0, Value.int 0, Value.ref A78, Value.ref A79, Value.int 0, Value.int 16, Value.int 4, u0, Value.ref A80, Value.ref A81, Value.ref A82, Value.int 0, Value.ref A83, Value.int 0, Value.int 0, Value.int 0])) : Nat × va_E) := f_46_ws4
      replace hU : gx_g ws ws4 0 [46] := hU.call e_ws4 (by simp; first | done | omega)
      refine W.eq (g2 := F0 m 190 ls []) rfl ?_
      generalize t3.heap = H at hP hS ⊢
      generalize locs ++ L3 = locs at hS ⊢
      exact gx_ret (W.vret hx hb hr (gx_post hP hK hD hS (by rw [← hPQ]; exact ⟨rfl, hU, f_46_ws4⟩)) hS.2.2 d_Mo_tidyFiles_190)
    · obtain ⟨E9, ws5, ce, hp, hce, hP9, -, hD9, hS9⟩ := gx_backT h0_3 hW_3 hQ_3 hL_3 hD hS hA
      clear hQ_3 h0_3 hL_3 hW_3 hP hD hS
      have hP := hP9
      have hD := hD9
      have hS := hS9
      clear hP9 hD9 hS9
      rcases hp with ⟨hv9, e_ws5, f_46_ws5⟩
      cases hv9
  · obtain ⟨E9, ws6, ce, hp, hce, hP9, -, hD9, hS9⟩ := gx_backT h0_1 hW_1 hQ_1 hL_1 hD hS hA
    clear hQ_1 h0_1 hL_1 hW_1 hP hD hS
    have hP := hP9
    have hD := hD9
    have hS := hS9
    clear hP9 hD9 hS9
    rcases hp with ⟨hv9, e_ws6⟩
    cases hv9

set_option maxHeartbeats 4000000 in
set_option maxRecDepth 100000 in
theorem c_Mo_done_v6 (l : Launch) (htr : l.stackTraces = false) (D : va_G) (tys : List (ClassId × FieldType)) (z sz : Nat) (ws : va_W) (A46 : Nat) (A47 : Nat) (A48 : Nat) (A49 : Nat) (A50 : Nat) (A51 : Nat) (A52 : Nat) (A53 : Nat) (A54 : Nat) (A62 : Nat) (A70 : Nat) (A78 : Nat) (A79 : Nat) (u0 : Value) (A80 : Nat) (A81 : Nat) (A82 : Nat) (A83 : Nat) (f_46 : ws[46]? = some ((A46, Sum.inr (8, [Value.int 0, Value.int 0, Value.ref A47, Value.ref A48, Value.ref A49, Value.int 0, Value.ref A50, Value.ref A51, Value.ref A52, Value.ref A53, Value.int 0, Value.int 0, Value.int 0, Value.int (-1), Value.int 0, Value.ref A54, Value.ref A62, Value.ref A70, Value.int 1, Value.int 0, Value.int 0, Value.ref A78, Value.ref A79, Value.int 0, Value.int 16, Value.int 4, u0, Value.ref A80, Value.ref A81, Value.ref A82, Value.int 0, Value.ref A83, Value.int 0, Value.int 0, Value.int 0])) : Nat × va_E)) : gx_Met l y_Mo_done [Cond.code y_Mo_done b_Mo_done 6 (some .int)] { frames := 1, cells := 0, slots := 0, locals := 12 } (gx_P z sz D classes tys ws [Value.ref A46, Value.int 0, Value.int 124]) (gx_Q D classes tys (va_A ws sz) (fun r ws' => (r = Sum.inl (some (Value.int 0)) ∧ gx_g ws ws' 0 [46] ∧ ws'[46]? = some ((A46, Sum.inr (8, [Value.int 0, Value.int 0, Value.ref A47, Value.ref A48, Value.ref A49, Value.int 0, Value.ref A50, Value.ref A51, Value.ref A52, Value.ref A53, Value.int 0, Value.int 0, Value.int 0, Value.int (-1), Value.int 0, Value.ref A54, Value.ref A62, Value.ref A70, Value.int 1, Value.int 0, Value.int 0, Value.ref A78, Value.ref A79, Value.int 0, Value.int 16, Value.int 4, u0, Value.ref A80, Value.ref A81, Value.ref A82, Value.int 0, Value.ref A83, Value.int 0, Value.int 0, Value.int 0])) : Nat × va_E)))) 0 0 (va_A ws sz) := by
  refine gx_ofW (cc := b_Mo_done) (maxL := 6) (ret := (some .int)) (by decide) rfl ?_
  intro p e s m args below meth c s₁ B hml hv
  obtain ⟨rfl, hsz, hz, hP, hK, hD0, hY⟩ := hv
  have hx := B.exec
  have hb := B.bytes
  have hr := B.returns
  have hts := hY.hts (#[Value.ref A46, Value.int 0, Value.int 124] : Array Value)
  have hown : s.vm.findClass "CommitLedgerModel" = some m.cls := findClass_of_methodNamed B.named
  have hlocks := B.notSynchronized
  have hne : c.exceptionTable.isEmpty = true := B.noHandlers (atoms_spec (ws := [Cond.code y_Mo_done b_Mo_done 6 (some .int)]) B.pre _ List.mem_cons_self)
  subst hsz
  have hAz := gx_az hD0 hz
  have hD := hD0.self (sz := s.heap.size)
  have hN := gx_ns hP
  have hA : ∀ q : Nat, s.heap.size ≤ q → va_A ws s.heap.size q := fun q h => Or.inr h
  generalize va_A ws s.heap.size = A at hD hN hA hAz ⊢
  generalize hPQ : (fun (r : Option Value ⊕ String) (ws' : va_W) => (r = Sum.inl (some (Value.int 0)) ∧ gx_g ws ws' 0 [46] ∧ ws'[46]? = some ((A46, Sum.inr (8, [Value.int 0, Value.int 0, Value.ref A47, Value.ref A48, Value.ref A49, Value.int 0, Value.ref A50, Value.ref A51, Value.ref A52, Value.ref A53, Value.int 0, Value.int 0, Value.int 0, Value.int (-1), Value.int 0, Value.ref A54, Value.ref A62, Value.ref A70, Value.int 1, Value.int 0, Value.int 0, Value.ref A78, Value.ref A79, Value.int 0, Value.int 16, Value.int 4, u0, Value.ref A80, Value.ref A81, Value.ref A82, Value.int 0, Value.ref A83, Value.int 0, Value.int 0, Value.int 0])) : Nat × va_E))) = PQ
  have hS : va_S A s.heap s.heap [] := va_S.rf
  have hU : gx_g ws ws 0 [46] := gx_g.rf
  have hl := lv_entry ([Value.ref A46, Value.int 0, Value.int 124]) (n := 6) (Nat.le_of_ble_eq_true rfl)
  rw [lg_entry_eq]
  generalize (lg_sl ([Value.ref A46, Value.int 0, Value.int 124]) ++ List.replicate (6 - (lg_sl ([Value.ref A46, Value.int 0, Value.int 124])).length) Slot.unset).toArray = ls at hl ⊢
  have hl : lv_has ls 6 [(0, Value.ref A46), (1, Value.int 0), (2, Value.int 124)] := hl
  refine lv_aload_n hx hb d_Mo_done_0 rfl (lv_at hl 0 rfl) ?_
  refine lv_iconst (v := 0) hx hb d_Mo_done_1 (by decide) ?_
  refine va_put (D := D) (ci := 8) (v := Value.int 0) (ty := .int) (C := "CommitLedgerModel") (T := F_Mo) (N := 35) hx hb hts i_Mo t_Mo t_Mo_ok n_Mo hown hK hP hD hS 46 f_46 rfl 1 (by decide) (hts _ kf_Mo_80) (fun _ h9 => h9) rfl (by decide +kernel) rfl rfl (Nat.le_of_ble_eq_true rfl) d_Mo_done_2 (fun H locs hP9 hD9 hS9 => ?_)
  obtain ⟨ws1, e_ws1⟩ : ∃ x : va_W, x = ws.set 46 ((A46, Sum.inr (8, [Value.int 0, Value.int 0, Value.ref A47, Value.ref A48, Value.ref A49, Value.int 0, Value.ref A50, Value.ref A51, Value.ref A52, Value.ref A53, Value.int 0, Value.int 0, Value.int 0, Value.int (-1), Value.int 0, Value.ref A54, Value.ref A62, Value.ref A70, Value.int 1, Value.int 0, Value.int 0, Value.ref A78, Value.ref A79, Value.int 0, Value.int 16, Value.int 4, u0, Value.ref A80, Value.ref A81, Value.ref A82, Value.int 0, Value.ref A83, Value.int 0, Value.int 0, Value.int 0])) : Nat × va_E) := ⟨_, rfl⟩
  replace hP : va_P D classes ws1 H := by rw [e_ws1]; exact hP9
  replace hD : va_D A ws1 := by rw [e_ws1]; exact hD9
  replace hS := hS9
  clear hP9 hD9 hS9
  have f_46_ws1 : ws1[46]? = some ((A46, Sum.inr (8, [Value.int 0, Value.int 0, Value.ref A47, Value.ref A48, Value.ref A49, Value.int 0, Value.ref A50, Value.ref A51, Value.ref A52, Value.ref A53, Value.int 0, Value.int 0, Value.int 0, Value.int (-1), Value.int 0, Value.ref A54, Value.ref A62, Value.ref A70, Value.int 1, Value.int 0, Value.int 0, Value.ref A78, Value.ref A79, Value.int 0, Value.int 16, Value.int 4, u0, Value.ref A80, Value.ref A81, Value.ref A82, Value.int 0, Value.ref A83, Value.int 0, Value.int 0, Value.int 0])) : Nat × va_E) := by rw [e_ws1]; exact gs_self f_46
  replace hU : gx_g ws ws1 0 [46] := by rw [e_ws1]; exact hU.put (Or.inl (by simp))
  refine lv_iconst (v := 0) hx hb d_Mo_done_5 (by decide) ?_
  refine lv_istore_n (lv' := [(3, Value.int 0), (0, Value.ref A46), (1, Value.int 0), (2, Value.int 124)]) hx hb d_Mo_done_6 rfl hl (by decide) rfl (fun ls hl => ?_)
  refine lv_ldc (v := 100000) hx hb hown (hts _ ki_Mo_83) d_Mo_done_7 ?_
  refine lv_istore (lv' := [(4, Value.int 100000), (3, Value.int 0), (0, Value.ref A46), (1, Value.int 0), (2, Value.int 124)]) hx hb d_Mo_done_9 hl (by decide) rfl (fun ls hl => ?_)
  refine lv_iload hx hb d_Mo_done_11 (lv_at hl 0 rfl) ?_
  refine lv_if_le (tgt := 60) hx hb d_Mo_done_13 (by decide) (fun c9 => absurd c9 (by decide)) (fun _ => ?_)
  refine lv_iload_n hx hb d_Mo_done_16 rfl (lv_at hl 4 rfl) ?_
  refine lv_iload hx hb d_Mo_done_17 (lv_at hl 0 rfl) ?_
  refine lv_idiv hx hb d_Mo_done_19 (by decide) ?_
  refine gx_topi (y := 0) (by decide) ?_
  refine lv_bipush (v := 10) hx hb d_Mo_done_20 (by decide) ?_
  refine lv_irem hx hb d_Mo_done_22 (by decide) ?_
  refine gx_topi (y := 0) (by decide) ?_
  refine lv_istore (lv' := [(5, Value.int 0), (4, Value.int 100000), (3, Value.int 0), (0, Value.ref A46), (1, Value.int 0), (2, Value.int 124)]) hx hb d_Mo_done_23 hl (by decide) rfl (fun ls hl => ?_)
  refine lv_iload hx hb d_Mo_done_25 (lv_at hl 0 rfl) ?_
  refine lv_if_ne (tgt := 33) hx hb d_Mo_done_27 (by decide) (fun c9 => absurd (by decide) c9) (fun _ => ?_)
  refine lv_goto (tgt := 50) hx hb d_Mo_done_30 (by decide) ?_
  refine lv_iload hx hb d_Mo_done_50 (lv_at hl 1 rfl) ?_
  refine lv_bipush (v := 10) hx hb d_Mo_done_52 (by decide) ?_
  refine lv_idiv hx hb d_Mo_done_54 (by decide) ?_
  refine gx_topi (y := 10000) (by decide) ?_
  refine lv_istore (lv' := [(4, Value.int 10000), (5, Value.int 0), (3, Value.int 0), (0, Value.ref A46), (1, Value.int 0), (2, Value.int 124)]) hx hb d_Mo_done_55 hl (by decide) rfl (fun ls hl => ?_)
  refine lv_goto (tgt := 11) hx hb d_Mo_done_57 (by decide) ?_
  refine lv_iload hx hb d_Mo_done_11 (lv_at hl 0 rfl) ?_
  refine lv_if_le (tgt := 60) hx hb d_Mo_done_13 (by decide) (fun c9 => absurd c9 (by decide)) (fun _ => ?_)
  refine lv_iload_n hx hb d_Mo_done_16 rfl (lv_at hl 5 rfl) ?_
  refine lv_iload hx hb d_Mo_done_17 (lv_at hl 0 rfl) ?_
  refine lv_idiv hx hb d_Mo_done_19 (by decide) ?_
  refine gx_topi (y := 0) (by decide) ?_
  refine lv_bipush (v := 10) hx hb d_Mo_done_20 (by decide) ?_
  refine lv_irem hx hb d_Mo_done_22 (by decide) ?_
  refine gx_topi (y := 0) (by decide) ?_
  refine lv_istore (lv' := [(5, Value.int 0), (4, Value.int 10000), (3, Value.int 0), (0, Value.ref A46), (1, Value.int 0), (2, Value.int 124)]) hx hb d_Mo_done_23 hl (by decide) rfl (fun ls hl => ?_)
  refine lv_iload hx hb d_Mo_done_25 (lv_at hl 0 rfl) ?_
  refine lv_if_ne (tgt := 33) hx hb d_Mo_done_27 (by decide) (fun c9 => absurd (by decide) c9) (fun _ => ?_)
  refine lv_goto (tgt := 50) hx hb d_Mo_done_30 (by decide) ?_
  refine lv_iload hx hb d_Mo_done_50 (lv_at hl 1 rfl) ?_
  refine lv_bipush (v := 10) hx hb d_Mo_done_52 (by decide) ?_
  refine lv_idiv hx hb d_Mo_done_54 (by decide) ?_
  refine gx_topi (y := 1000) (by decide) ?_
  refine lv_istore (lv' := [(4, Value.int 1000), (5, Value.int 0), (3, Value.int 0), (0, Value.ref A46), (1, Value.int 0), (2, Value.int 124)]) hx hb d_Mo_done_55 hl (by decide) rfl (fun ls hl => ?_)
  refine lv_goto (tgt := 11) hx hb d_Mo_done_57 (by decide) ?_
  refine lv_iload hx hb d_Mo_done_11 (lv_at hl 0 rfl) ?_
  refine lv_if_le (tgt := 60) hx hb d_Mo_done_13 (by decide) (fun c9 => absurd c9 (by decide)) (fun _ => ?_)
  refine lv_iload_n hx hb d_Mo_done_16 rfl (lv_at hl 5 rfl) ?_
  refine lv_iload hx hb d_Mo_done_17 (lv_at hl 0 rfl) ?_
  refine lv_idiv hx hb d_Mo_done_19 (by decide) ?_
  refine gx_topi (y := 0) (by decide) ?_
  refine lv_bipush (v := 10) hx hb d_Mo_done_20 (by decide) ?_
  refine lv_irem hx hb d_Mo_done_22 (by decide) ?_
  refine gx_topi (y := 0) (by decide) ?_
  refine lv_istore (lv' := [(5, Value.int 0), (4, Value.int 1000), (3, Value.int 0), (0, Value.ref A46), (1, Value.int 0), (2, Value.int 124)]) hx hb d_Mo_done_23 hl (by decide) rfl (fun ls hl => ?_)
  refine lv_iload hx hb d_Mo_done_25 (lv_at hl 0 rfl) ?_
  refine lv_if_ne (tgt := 33) hx hb d_Mo_done_27 (by decide) (fun c9 => absurd (by decide) c9) (fun _ => ?_)
  refine lv_goto (tgt := 50) hx hb d_Mo_done_30 (by decide) ?_
  refine lv_iload hx hb d_Mo_done_50 (lv_at hl 1 rfl) ?_
  refine lv_bipush (v := 10) hx hb d_Mo_done_52 (by decide) ?_
  refine lv_idiv hx hb d_Mo_done_54 (by decide) ?_
  refine gx_topi (y := 100) (by decide) ?_
  refine lv_istore (lv' := [(4, Value.int 100), (5, Value.int 0), (3, Value.int 0), (0, Value.ref A46), (1, Value.int 0), (2, Value.int 124)]) hx hb d_Mo_done_55 hl (by decide) rfl (fun ls hl => ?_)
  refine lv_goto (tgt := 11) hx hb d_Mo_done_57 (by decide) ?_
  refine lv_iload hx hb d_Mo_done_11 (lv_at hl 0 rfl) ?_
  refine lv_if_le (tgt := 60) hx hb d_Mo_done_13 (by decide) (fun c9 => absurd c9 (by decide)) (fun _ => ?_)
  refine lv_iload_n hx hb d_Mo_done_16 rfl (lv_at hl 5 rfl) ?_
  refine lv_iload hx hb d_Mo_done_17 (lv_at hl 0 rfl) ?_
  refine lv_idiv hx hb d_Mo_done_19 (by decide) ?_
  refine gx_topi (y := 1) (by decide) ?_
  refine lv_bipush (v := 10) hx hb d_Mo_done_20 (by decide) ?_
  refine lv_irem hx hb d_Mo_done_22 (by decide) ?_
  refine gx_topi (y := 1) (by decide) ?_
  refine lv_istore (lv' := [(5, Value.int 1), (4, Value.int 100), (3, Value.int 0), (0, Value.ref A46), (1, Value.int 0), (2, Value.int 124)]) hx hb d_Mo_done_23 hl (by decide) rfl (fun ls hl => ?_)
  refine lv_iload hx hb d_Mo_done_25 (lv_at hl 0 rfl) ?_
  refine lv_if_ne (tgt := 33) hx hb d_Mo_done_27 (by decide) (fun _ => ?_) (fun c9 => absurd c9 (by decide))
  refine lv_iinc (v := 1) (lv' := [(3, Value.int 1), (5, Value.int 1), (4, Value.int 100), (0, Value.ref A46), (1, Value.int 0), (2, Value.int 124)]) hx hb d_Mo_done_33 hl (k := 2) rfl (by decide) (by decide) rfl (fun ls hl => ?_)
  refine lv_iload hx hb d_Mo_done_36 (lv_at hl 1 rfl) ?_
  refine lv_aload_n hx hb d_Mo_done_38 rfl (lv_at hl 3 rfl) ?_
  refine va_get (D := D) (ci := 8) (v := Value.int 0) (C := "CommitLedgerModel") (T := F_Mo) (N := 35) hx hb hts i_Mo hown hK hP 46 f_46_ws1 rfl 0 (by decide) (hts _ kf_Mo_84) (fun _ h9 => h9) rfl d_Mo_done_39 ?_
  refine lv_icmp_ne (tgt := 50) hx hb d_Mo_done_42 (by decide) (fun _ => ?_) (fun c9 => absurd c9 (by decide))
  refine lv_iload hx hb d_Mo_done_50 (lv_at hl 2 rfl) ?_
  refine lv_bipush (v := 10) hx hb d_Mo_done_52 (by decide) ?_
  refine lv_idiv hx hb d_Mo_done_54 (by decide) ?_
  refine gx_topi (y := 10) (by decide) ?_
  refine lv_istore (lv' := [(4, Value.int 10), (3, Value.int 1), (5, Value.int 1), (0, Value.ref A46), (1, Value.int 0), (2, Value.int 124)]) hx hb d_Mo_done_55 hl (by decide) rfl (fun ls hl => ?_)
  refine lv_goto (tgt := 11) hx hb d_Mo_done_57 (by decide) ?_
  refine lv_iload hx hb d_Mo_done_11 (lv_at hl 0 rfl) ?_
  refine lv_if_le (tgt := 60) hx hb d_Mo_done_13 (by decide) (fun c9 => absurd c9 (by decide)) (fun _ => ?_)
  refine lv_iload_n hx hb d_Mo_done_16 rfl (lv_at hl 5 rfl) ?_
  refine lv_iload hx hb d_Mo_done_17 (lv_at hl 0 rfl) ?_
  refine lv_idiv hx hb d_Mo_done_19 (by decide) ?_
  refine gx_topi (y := 12) (by decide) ?_
  refine lv_bipush (v := 10) hx hb d_Mo_done_20 (by decide) ?_
  refine lv_irem hx hb d_Mo_done_22 (by decide) ?_
  refine gx_topi (y := 2) (by decide) ?_
  refine lv_istore (lv' := [(5, Value.int 2), (4, Value.int 10), (3, Value.int 1), (0, Value.ref A46), (1, Value.int 0), (2, Value.int 124)]) hx hb d_Mo_done_23 hl (by decide) rfl (fun ls hl => ?_)
  refine lv_iload hx hb d_Mo_done_25 (lv_at hl 0 rfl) ?_
  refine lv_if_ne (tgt := 33) hx hb d_Mo_done_27 (by decide) (fun _ => ?_) (fun c9 => absurd c9 (by decide))
  refine lv_iinc (v := 2) (lv' := [(3, Value.int 2), (5, Value.int 2), (4, Value.int 10), (0, Value.ref A46), (1, Value.int 0), (2, Value.int 124)]) hx hb d_Mo_done_33 hl (k := 2) rfl (by decide) (by decide) rfl (fun ls hl => ?_)
  refine lv_iload hx hb d_Mo_done_36 (lv_at hl 1 rfl) ?_
  refine lv_aload_n hx hb d_Mo_done_38 rfl (lv_at hl 3 rfl) ?_
  refine va_get (D := D) (ci := 8) (v := Value.int 0) (C := "CommitLedgerModel") (T := F_Mo) (N := 35) hx hb hts i_Mo hown hK hP 46 f_46_ws1 rfl 0 (by decide) (hts _ kf_Mo_84) (fun _ h9 => h9) rfl d_Mo_done_39 ?_
  refine lv_icmp_ne (tgt := 50) hx hb d_Mo_done_42 (by decide) (fun _ => ?_) (fun c9 => absurd c9 (by decide))
  refine lv_iload hx hb d_Mo_done_50 (lv_at hl 2 rfl) ?_
  refine lv_bipush (v := 10) hx hb d_Mo_done_52 (by decide) ?_
  refine lv_idiv hx hb d_Mo_done_54 (by decide) ?_
  refine gx_topi (y := 1) (by decide) ?_
  refine lv_istore (lv' := [(4, Value.int 1), (3, Value.int 2), (5, Value.int 2), (0, Value.ref A46), (1, Value.int 0), (2, Value.int 124)]) hx hb d_Mo_done_55 hl (by decide) rfl (fun ls hl => ?_)
  refine lv_goto (tgt := 11) hx hb d_Mo_done_57 (by decide) ?_
  refine lv_iload hx hb d_Mo_done_11 (lv_at hl 0 rfl) ?_
  refine lv_if_le (tgt := 60) hx hb d_Mo_done_13 (by decide) (fun c9 => absurd c9 (by decide)) (fun _ => ?_)
  refine lv_iload_n hx hb d_Mo_done_16 rfl (lv_at hl 5 rfl) ?_
  refine lv_iload hx hb d_Mo_done_17 (lv_at hl 0 rfl) ?_
  refine lv_idiv hx hb d_Mo_done_19 (by decide) ?_
  refine gx_topi (y := 124) (by decide) ?_
  refine lv_bipush (v := 10) hx hb d_Mo_done_20 (by decide) ?_
  refine lv_irem hx hb d_Mo_done_22 (by decide) ?_
  refine gx_topi (y := 4) (by decide) ?_
  refine lv_istore (lv' := [(5, Value.int 4), (4, Value.int 1), (3, Value.int 2), (0, Value.ref A46), (1, Value.int 0), (2, Value.int 124)]) hx hb d_Mo_done_23 hl (by decide) rfl (fun ls hl => ?_)
  refine lv_iload hx hb d_Mo_done_25 (lv_at hl 0 rfl) ?_
  refine lv_if_ne (tgt := 33) hx hb d_Mo_done_27 (by decide) (fun _ => ?_) (fun c9 => absurd c9 (by decide))
  refine lv_iinc (v := 3) (lv' := [(3, Value.int 3), (5, Value.int 4), (4, Value.int 1), (0, Value.ref A46), (1, Value.int 0), (2, Value.int 124)]) hx hb d_Mo_done_33 hl (k := 2) rfl (by decide) (by decide) rfl (fun ls hl => ?_)
  refine lv_iload hx hb d_Mo_done_36 (lv_at hl 1 rfl) ?_
  refine lv_aload_n hx hb d_Mo_done_38 rfl (lv_at hl 3 rfl) ?_
  refine va_get (D := D) (ci := 8) (v := Value.int 0) (C := "CommitLedgerModel") (T := F_Mo) (N := 35) hx hb hts i_Mo hown hK hP 46 f_46_ws1 rfl 0 (by decide) (hts _ kf_Mo_84) (fun _ h9 => h9) rfl d_Mo_done_39 ?_
  refine lv_icmp_ne (tgt := 50) hx hb d_Mo_done_42 (by decide) (fun _ => ?_) (fun c9 => absurd c9 (by decide))
  refine lv_iload hx hb d_Mo_done_50 (lv_at hl 2 rfl) ?_
  refine lv_bipush (v := 10) hx hb d_Mo_done_52 (by decide) ?_
  refine lv_idiv hx hb d_Mo_done_54 (by decide) ?_
  refine gx_topi (y := 0) (by decide) ?_
  refine lv_istore (lv' := [(4, Value.int 0), (3, Value.int 3), (5, Value.int 4), (0, Value.ref A46), (1, Value.int 0), (2, Value.int 124)]) hx hb d_Mo_done_55 hl (by decide) rfl (fun ls hl => ?_)
  refine lv_goto (tgt := 11) hx hb d_Mo_done_57 (by decide) ?_
  refine lv_iload hx hb d_Mo_done_11 (lv_at hl 0 rfl) ?_
  refine lv_if_le (tgt := 60) hx hb d_Mo_done_13 (by decide) (fun _ => ?_) (fun c9 => absurd (by decide) c9)
  refine lv_aload_n hx hb d_Mo_done_60 rfl (lv_at hl 3 rfl) ?_
  refine lv_iconst (v := 0) hx hb d_Mo_done_61 (by decide) ?_
  refine va_put (D := D) (ci := 8) (v := Value.int 0) (ty := .int) (C := "CommitLedgerModel") (T := F_Mo) (N := 35) hx hb hts i_Mo t_Mo t_Mo_ok n_Mo hown hK hP hD hS 46 f_46_ws1 rfl 0 (by decide) (hts _ kf_Mo_84) (fun _ h9 => h9) rfl (by decide +kernel) rfl rfl (Nat.le_of_ble_eq_true rfl) d_Mo_done_62 (fun H locs hP9 hD9 hS9 => ?_)
  obtain ⟨ws2, e_ws2⟩ : ∃ x : va_W, x = ws1.set 46 ((A46, Sum.inr (8, [Value.int 0, Value.int 0, Value.ref A47, Value.ref A48, Value.ref A49, Value.int 0, Value.ref A50, Value.ref A51, Value.ref A52, Value.ref A53, Value.int 0, Value.int 0, Value.int 0, Value.int (-1), Value.int 0, Value.ref A54, Value.ref A62, Value.ref A70, Value.int 1, Value.int 0, Value.int 0, Value.ref A78, Value.ref A79, Value.int 0, Value.int 16, Value.int 4, u0, Value.ref A80, Value.ref A81, Value.ref A82, Value.int 0, Value.ref A83, Value.int 0, Value.int 0, Value.int 0])) : Nat × va_E) := ⟨_, rfl⟩
  replace hP : va_P D classes ws2 H := by rw [e_ws2]; exact hP9
  replace hD : va_D A ws2 := by rw [e_ws2]; exact hD9
  replace hS := hS9
  clear hP9 hD9 hS9
  have f_46_ws2 : ws2[46]? = some ((A46, Sum.inr (8, [Value.int 0, Value.int 0, Value.ref A47, Value.ref A48, Value.ref A49, Value.int 0, Value.ref A50, Value.ref A51, Value.ref A52, Value.ref A53, Value.int 0, Value.int 0, Value.int 0, Value.int (-1), Value.int 0, Value.ref A54, Value.ref A62, Value.ref A70, Value.int 1, Value.int 0, Value.int 0, Value.ref A78, Value.ref A79, Value.int 0, Value.int 16, Value.int 4, u0, Value.ref A80, Value.ref A81, Value.ref A82, Value.int 0, Value.ref A83, Value.int 0, Value.int 0, Value.int 0])) : Nat × va_E) := by rw [e_ws2]; exact gs_self f_46_ws1
  replace hU : gx_g ws ws2 0 [46] := by rw [e_ws2]; exact hU.put (Or.inl (by simp))
  refine lv_aload_n hx hb d_Mo_done_65 rfl (lv_at hl 3 rfl) ?_
  refine va_get (D := D) (ci := 8) (v := Value.int 0) (C := "CommitLedgerModel") (T := F_Mo) (N := 35) hx hb hts i_Mo hown hK hP 46 f_46_ws2 rfl 1 (by decide) (hts _ kf_Mo_80) (fun _ h9 => h9) rfl d_Mo_done_66 ?_
  refine lv_if_le (tgt := 76) hx hb d_Mo_done_69 (by decide) (fun _ => ?_) (fun c9 => absurd (by decide) c9)
  refine lv_iload_n hx hb d_Mo_done_76 rfl (lv_at hl 4 rfl) ?_
  exact gx_ret (W.iret (v := 0) hx hb hr (gx_post hP hK hD hS (by rw [← hPQ]; exact ⟨rfl, hU, f_46_ws2⟩)) hS.2.2 d_Mo_done_77)

set_option maxHeartbeats 4000000 in
set_option maxRecDepth 100000 in
theorem c_Mo_finished_v1 (l : Launch) (htr : l.stackTraces = false) (D : va_G) (tys : List (ClassId × FieldType)) (z sz : Nat) (ws : va_W) (cV : ClassId) (A46 : Nat) (A47 : Nat) (A48 : Nat) (A49 : Nat) (A50 : Nat) (A51 : Nat) (A52 : Nat) (A53 : Nat) (A54 : Nat) (A62 : Nat) (A70 : Nat) (A78 : Nat) (A79 : Nat) (u0 : Value) (A80 : Nat) (A81 : Nat) (A82 : Nat) (A83 : Nat) (A55 : Nat) (A56 : Nat) (A57 : Nat) (A58 : Nat) (A59 : Nat) (A60 : Nat) (A61 : Nat) (A84 : Nat) (A85 : Nat) (A86 : Nat) (A87 : Nat) (A88 : Nat) (A89 : Nat) (A90 : Nat) (A91 : Nat) (A92 : Nat) (A93 : Nat) (A94 : Nat) (A95 : Nat) (A96 : Nat) (A97 : Nat) (A98 : Nat) (A99 : Nat) (A100 : Nat) (A101 : Nat) (A102 : Nat) (A103 : Nat) (A104 : Nat) (A105 : Nat) (A106 : Nat) (A107 : Nat) (A108 : Nat) (A109 : Nat) (A110 : Nat) (A111 : Nat) (A112 : Nat) (A113 : Nat) (A114 : Nat) (A115 : Nat) (f_46 : ws[46]? = some ((A46, Sum.inr (8, [Value.int 0, Value.int 0, Value.ref A47, Value.ref A48, Value.ref A49, Value.int 0, Value.ref A50, Value.ref A51, Value.ref A52, Value.ref A53, Value.int 0, Value.int 0, Value.int 0, Value.int (-1), Value.int 0, Value.ref A54, Value.ref A62, Value.ref A70, Value.int 1, Value.int 0, Value.int 0, Value.ref A78, Value.ref A79, Value.int 0, Value.int 16, Value.int 4, u0, Value.ref A80, Value.ref A81, Value.ref A82, Value.int 0, Value.ref A83, Value.int 0, Value.int 0, Value.int 0])) : Nat × va_E)) (f_54 : ws[54]? = some ((A54, Sum.inr (9, [Value.ref A55, Value.ref A56, Value.ref A57, Value.ref A58, Value.ref A59, Value.ref A60, Value.ref A61, Value.int 0, Value.int 0, Value.int 0, Value.int 0])) : Nat × va_E)) (f_84 : ws[84]? = some ((A84, Sum.inr (9, [Value.ref A85, Value.ref A86, Value.ref A87, Value.ref A88, Value.ref A89, Value.ref A90, Value.ref A91, Value.int 0, Value.int 0, Value.int 0, Value.int 0])) : Nat × va_E)) (f_92 : ws[92]? = some ((A92, Sum.inr (9, [Value.ref A93, Value.ref A94, Value.ref A95, Value.ref A96, Value.ref A97, Value.ref A98, Value.ref A99, Value.int 0, Value.int 0, Value.int 0, Value.int 0])) : Nat × va_E)) (f_100 : ws[100]? = some ((A100, Sum.inr (9, [Value.ref A101, Value.ref A102, Value.ref A103, Value.ref A104, Value.ref A105, Value.ref A106, Value.ref A107, Value.int 0, Value.int 0, Value.int 0, Value.int 0])) : Nat × va_E)) (f_108 : ws[108]? = some ((A108, Sum.inr (9, [Value.ref A109, Value.ref A110, Value.ref A111, Value.ref A112, Value.ref A113, Value.ref A114, Value.ref A115, Value.int 0, Value.int 0, Value.int 0, Value.int 0])) : Nat × va_E)) (f_83 : ws[83]? = some ((A83, Sum.inl (cV, 4, Sum.inr (Sum.inr (Sum.inr (Sum.inr (va_up (va_up (va_up (va_up (fun _ => none) 0 (some A84)) 1 (some A92)) 2 (some A100)) 3 (some A108))))))) : Nat × va_E)) (ht5 : tys[5]? = some ((cV, FieldType.object "CommitLedgerModel$Version") : ClassId × FieldType)) : gx_Met l y_Mo_finished [Cond.code y_Mo_finished b_Mo_finished 3 (some .int)] { frames := 3, cells := 0, slots := 0, locals := 59 } (gx_P z sz D classes tys ws [Value.ref A46, Value.int 0, Value.int 124]) (gx_Q D classes tys (va_A ws sz) (fun r ws' => (r = Sum.inl (some (Value.int 0)) ∧ gx_g ws ws' 0 [46] ∧ ws'[46]? = some ((A46, Sum.inr (8, [Value.int 0, Value.int 0, Value.ref A47, Value.ref A48, Value.ref A49, Value.int 0, Value.ref A50, Value.ref A51, Value.ref A52, Value.ref A53, Value.int 0, Value.int 0, Value.int 0, Value.int (-1), Value.int 0, Value.ref A54, Value.ref A62, Value.ref A70, Value.int 1, Value.int 0, Value.int 0, Value.ref A78, Value.ref A79, Value.int 0, Value.int 16, Value.int 4, u0, Value.ref A80, Value.ref A81, Value.ref A82, Value.int 0, Value.ref A83, Value.int 0, Value.int 0, Value.int 0])) : Nat × va_E)))) 0 0 (va_A ws sz) := by
  refine gx_ofW (cc := b_Mo_finished) (maxL := 3) (ret := (some .int)) (by decide) rfl ?_
  intro p e s m args below meth c s₁ B hml hv
  obtain ⟨rfl, hsz, hz, hP, hK, hD0, hY⟩ := hv
  have hx := B.exec
  have hb := B.bytes
  have hr := B.returns
  have hts := hY.hts (#[Value.ref A46, Value.int 0, Value.int 124] : Array Value)
  have hown : s.vm.findClass "CommitLedgerModel" = some m.cls := findClass_of_methodNamed B.named
  have hlocks := B.notSynchronized
  have hne : c.exceptionTable.isEmpty = true := B.noHandlers (atoms_spec (ws := [Cond.code y_Mo_finished b_Mo_finished 3 (some .int)]) B.pre _ List.mem_cons_self)
  subst hsz
  have hAz := gx_az hD0 hz
  have hD := hD0.self (sz := s.heap.size)
  have hN := gx_ns hP
  have hA : ∀ q : Nat, s.heap.size ≤ q → va_A ws s.heap.size q := fun q h => Or.inr h
  generalize va_A ws s.heap.size = A at hD hN hA hAz ⊢
  generalize hPQ : (fun (r : Option Value ⊕ String) (ws' : va_W) => (r = Sum.inl (some (Value.int 0)) ∧ gx_g ws ws' 0 [46] ∧ ws'[46]? = some ((A46, Sum.inr (8, [Value.int 0, Value.int 0, Value.ref A47, Value.ref A48, Value.ref A49, Value.int 0, Value.ref A50, Value.ref A51, Value.ref A52, Value.ref A53, Value.int 0, Value.int 0, Value.int 0, Value.int (-1), Value.int 0, Value.ref A54, Value.ref A62, Value.ref A70, Value.int 1, Value.int 0, Value.int 0, Value.ref A78, Value.ref A79, Value.int 0, Value.int 16, Value.int 4, u0, Value.ref A80, Value.ref A81, Value.ref A82, Value.int 0, Value.ref A83, Value.int 0, Value.int 0, Value.int 0])) : Nat × va_E))) = PQ
  have hS : va_S A s.heap s.heap [] := va_S.rf
  have hU : gx_g ws ws 0 [46] := gx_g.rf
  have hl := lv_entry ([Value.ref A46, Value.int 0, Value.int 124]) (n := 3) (Nat.le_of_ble_eq_true rfl)
  rw [lg_entry_eq]
  generalize (lg_sl ([Value.ref A46, Value.int 0, Value.int 124]) ++ List.replicate (3 - (lg_sl ([Value.ref A46, Value.int 0, Value.int 124])).length) Slot.unset).toArray = ls at hl ⊢
  have hl : lv_has ls 3 [(0, Value.ref A46), (1, Value.int 0), (2, Value.int 124)] := hl
  refine lv_aload_n hx hb d_Mo_finished_0 rfl (lv_at hl 0 rfl) ?_
  refine gx_call (ig := .invokevirtual 145) (c_Mo_tidyFiles_v1 l htr D tys z _ ws cV A46 A47 A48 A49 A50 A51 A52 A53 A54 A62 A70 A78 A79 (u0) A80 A81 A82 A83 A55 A56 A57 A58 A59 A60 A61 A84 A85 A86 A87 A88 A89 A90 A91 A92 A93 A94 A95 A96 A97 A98 A99 A100 A101 A102 A103 A104 A105 A106 A107 A108 A109 A110 A111 A112 A113 A114 A115 f_46 f_54 f_84 f_92 f_100 f_108 f_83 ht5) (gx_invV (As := []) (rest := []) hx hb hown hts km_Mo_145 kI_Mo_tidyFiles kV_Mo_tidyFiles kc_Mo_tidyFiles (by decide) (show (parseMethodDescriptor y_Mo_tidyFiles.desc).map (fun d => d.parameters.length) = some 0 by decide +kernel) (gx_recv (ci := 8) hK hP rfl f_46) rfl rfl d_Mo_finished_1) (gx_cw (z := 0) hts kc_Mo_tidyFiles kN_Mo rfl rfl ⟨Nat.le_of_ble_eq_true rfl, Nat.le_of_ble_eq_true rfl⟩) hb hml gx_blind (gx_pre hz hP hK hD hY hS hAz [Value.ref A46]) rfl hl.1 (lv_room (Nat.le_of_ble_eq_true rfl)) d_Mo_finished_1 ⟨Nat.le_of_ble_eq_true rfl, Nat.le_of_ble_eq_true rfl⟩ (fun v1 st1 t1 L1 h0_1 hW_1 hQ_1 hL_1 => ?_) (fun v1 st1 t1 L1 h0_1 hW_1 hQ_1 hL_1 => ?_)
  · obtain ⟨ws2, hp, hP9, -, hD9, hS9⟩ := gx_back h0_1 hW_1 hQ_1 hL_1 hD hS hA
    clear hQ_1 h0_1 hL_1 hW_1 hP hD hS
    have hP := hP9
    have hD := hD9
    have hS := hS9
    clear hP9 hD9 hS9
    rcases hp with ⟨hv9, e_ws2, f_46_ws2⟩
    cases hv9
    have f_46_ws2 : ws2[46]? = some ((A46, Sum.inr (8, [Value.int 0, Value.int 0, Value.ref A47, Value.ref A48, Value.ref A49, Value.int 0, Value.ref A50, Value.ref A51, Value.ref A52, Value.ref A53, Value.int 0, Value.int 0, Value.int 0, Value.int (-1), Value.int 0, Value.ref A54, Value.ref A62, Value.ref A70, Value.int 1, Value.int 0, Value.int 0, Value.ref A78, Value.ref A79, Value.int 0, Value.int 16, Value.int 4, u0, Value.ref A80, Value.ref A81, Value.ref A82, Value.int 0, Value.ref A83, Value.int 0, Value.int 0, Value.int 0])) : Nat × va_E) := f_46_ws2
    replace hU : gx_g ws ws2 0 [46] := hU.call e_ws2 (by simp; first | done | omega)
    refine W.eq (g2 := F0 m 4 ls []) rfl ?_
    generalize t1.heap = H at hP hS ⊢
    generalize [] ++ L1 = locs at hS ⊢
    refine lv_aload_n hx hb d_Mo_finished_4 rfl (lv_at hl 0 rfl) ?_
    refine lv_iload_n hx hb d_Mo_finished_5 rfl (lv_at hl 1 rfl) ?_
    refine lv_iload_n hx hb d_Mo_finished_6 rfl (lv_at hl 2 rfl) ?_
    refine gx_call (ig := .invokevirtual 148) (c_Mo_done_v6 l htr D tys z _ ws2 A46 A47 A48 A49 A50 A51 A52 A53 A54 A62 A70 A78 A79 (u0) A80 A81 A82 A83 f_46_ws2) (gx_invV (As := [Value.int 0, Value.int 124]) (rest := []) hx hb hown hts km_Mo_148 kI_Mo_done kV_Mo_done kc_Mo_done (by decide) (show (parseMethodDescriptor y_Mo_done.desc).map (fun d => d.parameters.length) = some 2 by decide +kernel) (gx_recv (ci := 8) hK hP rfl f_46_ws2) rfl rfl d_Mo_finished_7) (gx_cw (z := 0) hts kc_Mo_done kN_Mo rfl rfl ⟨Nat.le_of_ble_eq_true rfl, Nat.le_of_ble_eq_true rfl⟩) hb hml gx_blind (gx_pre hz hP hK hD hY hS hAz [Value.ref A46, Value.int 0, Value.int 124]) rfl hl.1 (lv_room (Nat.le_of_ble_eq_true rfl)) d_Mo_finished_7 ⟨Nat.le_of_ble_eq_true rfl, Nat.le_of_ble_eq_true rfl⟩ (fun v3 st3 t3 L3 h0_3 hW_3 hQ_3 hL_3 => ?_) (fun v3 st3 t3 L3 h0_3 hW_3 hQ_3 hL_3 => ?_)
    · obtain ⟨ws4, hp, hP9, -, hD9, hS9⟩ := gx_back h0_3 hW_3 hQ_3 hL_3 hD hS hA
      clear hQ_3 h0_3 hL_3 hW_3 hP hD hS
      have hP := hP9
      have hD := hD9
      have hS := hS9
      clear hP9 hD9 hS9
      rcases hp with ⟨hv9, e_ws4, f_46_ws4⟩
      cases hv9
      have f_46_ws4 : ws4[46]? = some ((A46, Sum.inr (8, [Value.int 0, Value.int 0, Value.ref A47, Value.ref A48, Value.ref A49, Value.int 0, Value.ref A50, Value.ref A51, Value.ref A52, Value.ref A53, Value.int 0, Value.int 0, Value.int 0, Value.int (-1), Value.int 0, Value.ref A54, Value.ref A62, Value.ref A70, Value.int 1, Value.int 0, Value.int 0, Value.ref A78, Value.ref A79, Value.int 0, Value.int 16, Value.int 4, u0, Value.ref A80, Value.ref A81, Value.ref A82, Value.int 0, Value.ref A83, Value.int 0, Value.int 0, Value.int 0])) : Nat × va_E) := f_46_ws4
      replace hU : gx_g ws ws4 0 [46] := hU.call e_ws4 (by simp; first | done | omega)
      refine W.eq (g2 := F0 m 10 ls [Value.int 0]) rfl ?_
      generalize t3.heap = H at hP hS ⊢
      generalize locs ++ L3 = locs at hS ⊢
      exact gx_ret (W.iret (v := 0) hx hb hr (gx_post hP hK hD hS (by rw [← hPQ]; exact ⟨rfl, hU, f_46_ws4⟩)) hS.2.2 d_Mo_finished_10)
    · obtain ⟨E9, ws5, ce, hp, hce, hP9, -, hD9, hS9⟩ := gx_backT h0_3 hW_3 hQ_3 hL_3 hD hS hA
      clear hQ_3 h0_3 hL_3 hW_3 hP hD hS
      have hP := hP9
      have hD := hD9
      have hS := hS9
      clear hP9 hD9 hS9
      rcases hp with ⟨hv9, e_ws5, f_46_ws5⟩
      cases hv9
  · obtain ⟨E9, ws6, ce, hp, hce, hP9, -, hD9, hS9⟩ := gx_backT h0_1 hW_1 hQ_1 hL_1 hD hS hA
    clear hQ_1 h0_1 hL_1 hW_1 hP hD hS
    have hP := hP9
    have hD := hD9
    have hS := hS9
    clear hP9 hD9 hS9
    rcases hp with ⟨hv9, e_ws6, f_46_ws6⟩
    cases hv9

set_option maxHeartbeats 4000000 in
set_option maxRecDepth 100000 in
theorem c_Mo_open_v1 (l : Launch) (htr : l.stackTraces = false) (D : va_G) (tys : List (ClassId × FieldType)) (z sz : Nat) (ws : va_W) (cV : ClassId) (A46 : Nat) (p0 : Int32) (A47 : Nat) (A48 : Nat) (A49 : Nat) (A50 : Nat) (A51 : Nat) (A52 : Nat) (A53 : Nat) (A54 : Nat) (A62 : Nat) (A70 : Nat) (A78 : Nat) (A79 : Nat) (u0 : Value) (A80 : Nat) (A81 : Nat) (A82 : Nat) (A83 : Nat) (A55 : Nat) (A56 : Nat) (A57 : Nat) (A58 : Nat) (A59 : Nat) (A60 : Nat) (A61 : Nat) (A84 : Nat) (A85 : Nat) (A86 : Nat) (A87 : Nat) (A88 : Nat) (A89 : Nat) (A90 : Nat) (A91 : Nat) (A92 : Nat) (A93 : Nat) (A94 : Nat) (A95 : Nat) (A96 : Nat) (A97 : Nat) (A98 : Nat) (A99 : Nat) (A100 : Nat) (A101 : Nat) (A102 : Nat) (A103 : Nat) (A104 : Nat) (A105 : Nat) (A106 : Nat) (A107 : Nat) (A108 : Nat) (A109 : Nat) (A110 : Nat) (A111 : Nat) (A112 : Nat) (A113 : Nat) (A114 : Nat) (A115 : Nat) (f_46 : ws[46]? = some ((A46, Sum.inr (8, [Value.int 0, Value.int 0, Value.ref A47, Value.ref A48, Value.ref A49, Value.int 0, Value.ref A50, Value.ref A51, Value.ref A52, Value.ref A53, Value.int 0, Value.int 0, Value.int 0, Value.int (-1), Value.int 0, Value.ref A54, Value.ref A62, Value.ref A70, Value.int 0, Value.int 0, Value.int 0, Value.ref A78, Value.ref A79, Value.int 0, Value.int 16, Value.int 4, u0, Value.ref A80, Value.ref A81, Value.ref A82, Value.int 0, Value.ref A83, Value.int 0, Value.int 0, Value.int 0])) : Nat × va_E)) (f_54 : ws[54]? = some ((A54, Sum.inr (9, [Value.ref A55, Value.ref A56, Value.ref A57, Value.ref A58, Value.ref A59, Value.ref A60, Value.ref A61, Value.int 0, Value.int 0, Value.int 0, Value.int 0])) : Nat × va_E)) (f_84 : ws[84]? = some ((A84, Sum.inr (9, [Value.ref A85, Value.ref A86, Value.ref A87, Value.ref A88, Value.ref A89, Value.ref A90, Value.ref A91, Value.int 0, Value.int 0, Value.int 0, Value.int 0])) : Nat × va_E)) (f_92 : ws[92]? = some ((A92, Sum.inr (9, [Value.ref A93, Value.ref A94, Value.ref A95, Value.ref A96, Value.ref A97, Value.ref A98, Value.ref A99, Value.int 0, Value.int 0, Value.int 0, Value.int 0])) : Nat × va_E)) (f_100 : ws[100]? = some ((A100, Sum.inr (9, [Value.ref A101, Value.ref A102, Value.ref A103, Value.ref A104, Value.ref A105, Value.ref A106, Value.ref A107, Value.int 0, Value.int 0, Value.int 0, Value.int 0])) : Nat × va_E)) (f_108 : ws[108]? = some ((A108, Sum.inr (9, [Value.ref A109, Value.ref A110, Value.ref A111, Value.ref A112, Value.ref A113, Value.ref A114, Value.ref A115, Value.int 0, Value.int 0, Value.int 0, Value.int 0])) : Nat × va_E)) (f_83 : ws[83]? = some ((A83, Sum.inl (cV, 4, Sum.inr (Sum.inr (Sum.inr (Sum.inr (va_up (va_up (va_up (va_up (fun _ => none) 0 (some A84)) 1 (some A92)) 2 (some A100)) 3 (some A108))))))) : Nat × va_E)) (ht5 : tys[5]? = some ((cV, FieldType.object "CommitLedgerModel$Version") : ClassId × FieldType)) : gx_Met l y_Mo_open [Cond.code y_Mo_open b_Mo_open 3 (some .int)] { frames := 4, cells := 0, slots := 0, locals := 81 } (gx_P z sz D classes tys ws [Value.ref A46, Value.int p0]) (gx_Q D classes tys (va_A ws sz) (fun r ws' => (r = Sum.inl (some (Value.int 0)) ∧ gx_g ws ws' 0 [46, 54] ∧ ws'[46]? = some ((A46, Sum.inr (8, [Value.int 0, Value.int 1, Value.ref A47, Value.ref A48, Value.ref A49, Value.int 0, Value.ref A50, Value.ref A51, Value.ref A52, Value.ref A53, Value.int 0, Value.int 0, Value.int 0, Value.int (-1), Value.int 0, Value.ref A54, Value.ref A62, Value.ref A70, Value.int 0, Value.int 0, Value.int 0, Value.ref A78, Value.ref A79, Value.int 0, Value.int 16, Value.int 4, u0, Value.ref A80, Value.ref A81, Value.ref A82, Value.int 0, Value.ref A83, Value.int 0, Value.int 0, Value.int 0])) : Nat × va_E) ∧ ws'[54]? = some ((A54, Sum.inr (9, [Value.ref A55, Value.ref A56, Value.ref A57, Value.ref A58, Value.ref A59, Value.ref A60, Value.ref A61, Value.int 0, Value.int 0, Value.int 0, Value.int 0])) : Nat × va_E) ∧ p0 < 0) ∨ (r = Sum.inl (some (Value.int 0)) ∧ gx_g ws ws' 0 [46, 54] ∧ ws'[46]? = some ((A46, Sum.inr (8, [Value.int 0, Value.int 0, Value.ref A47, Value.ref A48, Value.ref A49, Value.int 0, Value.ref A50, Value.ref A51, Value.ref A52, Value.ref A53, Value.int 0, Value.int 0, Value.int 0, Value.int (-1), Value.int 0, Value.ref A54, Value.ref A62, Value.ref A70, Value.int 1, Value.int 0, Value.int 0, Value.ref A78, Value.ref A79, Value.int 0, Value.int 16, Value.int 4, u0, Value.ref A80, Value.ref A81, Value.ref A82, Value.int 0, Value.ref A83, Value.int 0, Value.int 0, Value.int 0])) : Nat × va_E) ∧ ws'[54]? = some ((A54, Sum.inr (9, [Value.ref A55, Value.ref A56, Value.ref A57, Value.ref A58, Value.ref A59, Value.ref A60, Value.ref A61, Value.int 0, Value.int 0, Value.int 0, Value.int 0])) : Nat × va_E) ∧ ¬ p0 < 0 ∧ p0 ≤ 1 ∧ ¬ p0 = 0) ∨ (r = Sum.inl (some (Value.int 0)) ∧ gx_g ws ws' 0 [46, 54] ∧ ws'[46]? = some ((A46, Sum.inr (8, [Value.int 0, Value.int 0, Value.ref A47, Value.ref A48, Value.ref A49, Value.int 0, Value.ref A50, Value.ref A51, Value.ref A52, Value.ref A53, Value.int 0, Value.int 0, Value.int 0, Value.int (-1), Value.int 0, Value.ref A54, Value.ref A62, Value.ref A70, Value.int 1, Value.int 0, Value.int 0, Value.ref A78, Value.ref A79, Value.int 0, Value.int 16, Value.int 4, u0, Value.ref A80, Value.ref A81, Value.ref A82, Value.int 0, Value.ref A83, Value.int 0, Value.int 0, Value.int 0])) : Nat × va_E) ∧ ws'[54]? = some ((A54, Sum.inr (9, [Value.ref A55, Value.ref A56, Value.ref A57, Value.ref A58, Value.ref A59, Value.ref A60, Value.ref A61, Value.int 0, Value.int 0, Value.int 0, Value.int 0])) : Nat × va_E) ∧ ¬ p0 < 0 ∧ p0 ≤ 1 ∧ p0 = 0) ∨ (r = Sum.inl (some (Value.int 0)) ∧ gx_g ws ws' 0 [46, 54] ∧ ws'[46]? = some ((A46, Sum.inr (8, [Value.int 0, Value.int 1, Value.ref A47, Value.ref A48, Value.ref A49, Value.int 0, Value.ref A50, Value.ref A51, Value.ref A52, Value.ref A53, Value.int 0, Value.int 0, Value.int 0, Value.int (-1), Value.int 0, Value.ref A54, Value.ref A62, Value.ref A70, Value.int 0, Value.int 0, Value.int 0, Value.ref A78, Value.ref A79, Value.int 0, Value.int 16, Value.int 4, u0, Value.ref A80, Value.ref A81, Value.ref A82, Value.int 0, Value.ref A83, Value.int 0, Value.int 0, Value.int 0])) : Nat × va_E) ∧ ws'[54]? = some ((A54, Sum.inr (9, [Value.ref A55, Value.ref A56, Value.ref A57, Value.ref A58, Value.ref A59, Value.ref A60, Value.ref A61, Value.int 0, Value.int 0, Value.int 0, Value.int 0])) : Nat × va_E) ∧ ¬ p0 < 0 ∧ ¬ p0 ≤ 1))) 0 0 (va_A ws sz) := by
  refine gx_ofW (cc := b_Mo_open) (maxL := 3) (ret := (some .int)) (by decide) rfl ?_
  intro p e s m args below meth c s₁ B hml hv
  obtain ⟨rfl, hsz, hz, hP, hK, hD0, hY⟩ := hv
  have hx := B.exec
  have hb := B.bytes
  have hr := B.returns
  have hts := hY.hts (#[Value.ref A46, Value.int p0] : Array Value)
  have hown : s.vm.findClass "CommitLedgerModel" = some m.cls := findClass_of_methodNamed B.named
  have hlocks := B.notSynchronized
  have hne : c.exceptionTable.isEmpty = true := B.noHandlers (atoms_spec (ws := [Cond.code y_Mo_open b_Mo_open 3 (some .int)]) B.pre _ List.mem_cons_self)
  subst hsz
  have hAz := gx_az hD0 hz
  have hD := hD0.self (sz := s.heap.size)
  have hN := gx_ns hP
  have hA : ∀ q : Nat, s.heap.size ≤ q → va_A ws s.heap.size q := fun q h => Or.inr h
  generalize va_A ws s.heap.size = A at hD hN hA hAz ⊢
  generalize hPQ : (fun (r : Option Value ⊕ String) (ws' : va_W) => (r = Sum.inl (some (Value.int 0)) ∧ gx_g ws ws' 0 [46, 54] ∧ ws'[46]? = some ((A46, Sum.inr (8, [Value.int 0, Value.int 1, Value.ref A47, Value.ref A48, Value.ref A49, Value.int 0, Value.ref A50, Value.ref A51, Value.ref A52, Value.ref A53, Value.int 0, Value.int 0, Value.int 0, Value.int (-1), Value.int 0, Value.ref A54, Value.ref A62, Value.ref A70, Value.int 0, Value.int 0, Value.int 0, Value.ref A78, Value.ref A79, Value.int 0, Value.int 16, Value.int 4, u0, Value.ref A80, Value.ref A81, Value.ref A82, Value.int 0, Value.ref A83, Value.int 0, Value.int 0, Value.int 0])) : Nat × va_E) ∧ ws'[54]? = some ((A54, Sum.inr (9, [Value.ref A55, Value.ref A56, Value.ref A57, Value.ref A58, Value.ref A59, Value.ref A60, Value.ref A61, Value.int 0, Value.int 0, Value.int 0, Value.int 0])) : Nat × va_E) ∧ p0 < 0) ∨ (r = Sum.inl (some (Value.int 0)) ∧ gx_g ws ws' 0 [46, 54] ∧ ws'[46]? = some ((A46, Sum.inr (8, [Value.int 0, Value.int 0, Value.ref A47, Value.ref A48, Value.ref A49, Value.int 0, Value.ref A50, Value.ref A51, Value.ref A52, Value.ref A53, Value.int 0, Value.int 0, Value.int 0, Value.int (-1), Value.int 0, Value.ref A54, Value.ref A62, Value.ref A70, Value.int 1, Value.int 0, Value.int 0, Value.ref A78, Value.ref A79, Value.int 0, Value.int 16, Value.int 4, u0, Value.ref A80, Value.ref A81, Value.ref A82, Value.int 0, Value.ref A83, Value.int 0, Value.int 0, Value.int 0])) : Nat × va_E) ∧ ws'[54]? = some ((A54, Sum.inr (9, [Value.ref A55, Value.ref A56, Value.ref A57, Value.ref A58, Value.ref A59, Value.ref A60, Value.ref A61, Value.int 0, Value.int 0, Value.int 0, Value.int 0])) : Nat × va_E) ∧ ¬ p0 < 0 ∧ p0 ≤ 1 ∧ ¬ p0 = 0) ∨ (r = Sum.inl (some (Value.int 0)) ∧ gx_g ws ws' 0 [46, 54] ∧ ws'[46]? = some ((A46, Sum.inr (8, [Value.int 0, Value.int 0, Value.ref A47, Value.ref A48, Value.ref A49, Value.int 0, Value.ref A50, Value.ref A51, Value.ref A52, Value.ref A53, Value.int 0, Value.int 0, Value.int 0, Value.int (-1), Value.int 0, Value.ref A54, Value.ref A62, Value.ref A70, Value.int 1, Value.int 0, Value.int 0, Value.ref A78, Value.ref A79, Value.int 0, Value.int 16, Value.int 4, u0, Value.ref A80, Value.ref A81, Value.ref A82, Value.int 0, Value.ref A83, Value.int 0, Value.int 0, Value.int 0])) : Nat × va_E) ∧ ws'[54]? = some ((A54, Sum.inr (9, [Value.ref A55, Value.ref A56, Value.ref A57, Value.ref A58, Value.ref A59, Value.ref A60, Value.ref A61, Value.int 0, Value.int 0, Value.int 0, Value.int 0])) : Nat × va_E) ∧ ¬ p0 < 0 ∧ p0 ≤ 1 ∧ p0 = 0) ∨ (r = Sum.inl (some (Value.int 0)) ∧ gx_g ws ws' 0 [46, 54] ∧ ws'[46]? = some ((A46, Sum.inr (8, [Value.int 0, Value.int 1, Value.ref A47, Value.ref A48, Value.ref A49, Value.int 0, Value.ref A50, Value.ref A51, Value.ref A52, Value.ref A53, Value.int 0, Value.int 0, Value.int 0, Value.int (-1), Value.int 0, Value.ref A54, Value.ref A62, Value.ref A70, Value.int 0, Value.int 0, Value.int 0, Value.ref A78, Value.ref A79, Value.int 0, Value.int 16, Value.int 4, u0, Value.ref A80, Value.ref A81, Value.ref A82, Value.int 0, Value.ref A83, Value.int 0, Value.int 0, Value.int 0])) : Nat × va_E) ∧ ws'[54]? = some ((A54, Sum.inr (9, [Value.ref A55, Value.ref A56, Value.ref A57, Value.ref A58, Value.ref A59, Value.ref A60, Value.ref A61, Value.int 0, Value.int 0, Value.int 0, Value.int 0])) : Nat × va_E) ∧ ¬ p0 < 0 ∧ ¬ p0 ≤ 1)) = PQ
  have hS : va_S A s.heap s.heap [] := va_S.rf
  have hU : gx_g ws ws 0 [46, 54] := gx_g.rf
  have hl := lv_entry ([Value.ref A46, Value.int p0]) (n := 3) (Nat.le_of_ble_eq_true rfl)
  rw [lg_entry_eq]
  generalize (lg_sl ([Value.ref A46, Value.int p0]) ++ List.replicate (3 - (lg_sl ([Value.ref A46, Value.int p0])).length) Slot.unset).toArray = ls at hl ⊢
  have hl : lv_has ls 3 [(0, Value.ref A46), (1, Value.int p0)] := hl
  refine lv_aload_n hx hb d_Mo_open_0 rfl (lv_at hl 0 rfl) ?_
  refine lv_iload_n hx hb d_Mo_open_1 rfl (lv_at hl 1 rfl) ?_
  refine lv_if_lt (tgt := 10) hx hb d_Mo_open_2 (by decide) (fun c2_1 => ?_) (fun c2_1 => ?_)
  · refine lv_iconst (v := 1) hx hb d_Mo_open_10 (by decide) ?_
    refine lv_goto (tgt := 15) hx hb d_Mo_open_11 (by decide) ?_
    refine lv_iconst (v := 1) hx hb d_Mo_open_15 (by decide) ?_
    refine gx_call (ig := .invokevirtual 152) (c_Mo_wrong_v1 l htr D tys z _ ws A46 A47 A48 A49 A50 A51 A52 A53 A54 A62 A70 A78 A79 (u0) A80 A81 A82 A83 f_46) (gx_invV (As := [Value.int 1, Value.int 1]) (rest := []) hx hb hown hts km_Mo_152 kI_Mo_wrong kV_Mo_wrong kc_Mo_wrong (by decide) (show (parseMethodDescriptor y_Mo_wrong.desc).map (fun d => d.parameters.length) = some 2 by decide +kernel) (gx_recv (ci := 8) hK hP rfl f_46) rfl rfl d_Mo_open_16) (gx_cw (z := 0) hts kc_Mo_wrong kN_Mo rfl rfl ⟨Nat.le_of_ble_eq_true rfl, Nat.le_of_ble_eq_true rfl⟩) hb hml gx_blind (gx_pre hz hP hK hD hY hS hAz [Value.ref A46, Value.int 1, Value.int 1]) rfl hl.1 (lv_room (Nat.le_of_ble_eq_true rfl)) d_Mo_open_16 ⟨Nat.le_of_ble_eq_true rfl, Nat.le_of_ble_eq_true rfl⟩ (fun v2 st2 t2 L2 h0_2 hW_2 hQ_2 hL_2 => ?_) (fun v2 st2 t2 L2 h0_2 hW_2 hQ_2 hL_2 => ?_)
    · obtain ⟨ws3, hp, hP9, -, hD9, hS9⟩ := gx_back h0_2 hW_2 hQ_2 hL_2 hD hS hA
      clear hQ_2 h0_2 hL_2 hW_2 hP hD hS
      have hP := hP9
      have hD := hD9
      have hS := hS9
      clear hP9 hD9 hS9
      rcases hp with ⟨hv9, e_ws3, f_46_ws3⟩
      cases hv9
      have f_46_ws3 : ws3[46]? = some ((A46, Sum.inr (8, [Value.int 1, Value.int 0, Value.ref A47, Value.ref A48, Value.ref A49, Value.int 0, Value.ref A50, Value.ref A51, Value.ref A52, Value.ref A53, Value.int 0, Value.int 0, Value.int 0, Value.int (-1), Value.int 0, Value.ref A54, Value.ref A62, Value.ref A70, Value.int 0, Value.int 0, Value.int 0, Value.ref A78, Value.ref A79, Value.int 0, Value.int 16, Value.int 4, u0, Value.ref A80, Value.ref A81, Value.ref A82, Value.int 0, Value.ref A83, Value.int 0, Value.int 0, Value.int 0])) : Nat × va_E) := f_46_ws3
      replace hU : gx_g ws ws3 0 [46, 54] := hU.call e_ws3 (by simp; first | done | omega)
      refine W.eq (g2 := F0 m 19 ls [Value.int 1]) rfl ?_
      generalize t2.heap = H at hP hS ⊢
      generalize [] ++ L2 = locs at hS ⊢
      refine lv_if_ne (tgt := 65) hx hb d_Mo_open_19 (by decide) (fun _ => ?_) (fun c9 => absurd c9 (by decide))
      refine lv_aload_n hx hb d_Mo_open_65 rfl (lv_at hl 0 rfl) ?_
      refine lv_iconst (v := 0) hx hb d_Mo_open_66 (by decide) ?_
      refine lv_bipush (v := 124) hx hb d_Mo_open_67 (by decide) ?_
      refine gx_call (ig := .invokevirtual 148) (c_Mo_done_v5 l htr D tys z _ ws3 A46 A47 A48 A49 A50 A51 A52 A53 A54 A62 A70 A78 A79 (u0) A80 A81 A82 A83 f_46_ws3) (gx_invV (As := [Value.int 0, Value.int 124]) (rest := []) hx hb hown hts km_Mo_148 kI_Mo_done kV_Mo_done kc_Mo_done (by decide) (show (parseMethodDescriptor y_Mo_done.desc).map (fun d => d.parameters.length) = some 2 by decide +kernel) (gx_recv (ci := 8) hK hP rfl f_46_ws3) rfl rfl d_Mo_open_69) (gx_cw (z := 0) hts kc_Mo_done kN_Mo rfl rfl ⟨Nat.le_of_ble_eq_true rfl, Nat.le_of_ble_eq_true rfl⟩) hb hml gx_blind (gx_pre hz hP hK hD hY hS hAz [Value.ref A46, Value.int 0, Value.int 124]) rfl hl.1 (lv_room (Nat.le_of_ble_eq_true rfl)) d_Mo_open_69 ⟨Nat.le_of_ble_eq_true rfl, Nat.le_of_ble_eq_true rfl⟩ (fun v4 st4 t4 L4 h0_4 hW_4 hQ_4 hL_4 => ?_) (fun v4 st4 t4 L4 h0_4 hW_4 hQ_4 hL_4 => ?_)
      · obtain ⟨ws5, hp, hP9, -, hD9, hS9⟩ := gx_back h0_4 hW_4 hQ_4 hL_4 hD hS hA
        clear hQ_4 h0_4 hL_4 hW_4 hP hD hS
        have hP := hP9
        have hD := hD9
        have hS := hS9
        clear hP9 hD9 hS9
        rcases hp with ⟨hv9, e_ws5, f_46_ws5⟩
        cases hv9
        have f_46_ws5 : ws5[46]? = some ((A46, Sum.inr (8, [Value.int 0, Value.int 1, Value.ref A47, Value.ref A48, Value.ref A49, Value.int 0, Value.ref A50, Value.ref A51, Value.ref A52, Value.ref A53, Value.int 0, Value.int 0, Value.int 0, Value.int (-1), Value.int 0, Value.ref A54, Value.ref A62, Value.ref A70, Value.int 0, Value.int 0, Value.int 0, Value.ref A78, Value.ref A79, Value.int 0, Value.int 16, Value.int 4, u0, Value.ref A80, Value.ref A81, Value.ref A82, Value.int 0, Value.ref A83, Value.int 0, Value.int 0, Value.int 0])) : Nat × va_E) := f_46_ws5
        replace hU : gx_g ws ws5 0 [46, 54] := hU.call e_ws5 (by simp; first | done | omega)
        refine W.eq (g2 := F0 m 72 ls [Value.int 0]) rfl ?_
        generalize t4.heap = H at hP hS ⊢
        generalize locs ++ L4 = locs at hS ⊢
        have f_54_ws3 : ws3[54]? = some ((A54, Sum.inr (9, [Value.ref A55, Value.ref A56, Value.ref A57, Value.ref A58, Value.ref A59, Value.ref A60, Value.ref A61, Value.int 0, Value.int 0, Value.int 0, Value.int 0])) : Nat × va_E) := e_ws3.at (by first | decide | (simp; done) | (simp; omega)) f_54
        clear f_54
        have f_54_ws5 : ws5[54]? = some ((A54, Sum.inr (9, [Value.ref A55, Value.ref A56, Value.ref A57, Value.ref A58, Value.ref A59, Value.ref A60, Value.ref A61, Value.int 0, Value.int 0, Value.int 0, Value.int 0])) : Nat × va_E) := e_ws5.at (by first | decide | (simp; done) | (simp; omega)) f_54_ws3
        clear f_54_ws3
        exact gx_ret (W.iret (v := 0) hx hb hr (gx_post hP hK hD hS (by rw [← hPQ]; exact Or.inl ⟨rfl, hU, f_46_ws5, f_54_ws5, c2_1⟩)) hS.2.2 d_Mo_open_72)
      · obtain ⟨E9, ws6, ce, hp, hce, hP9, -, hD9, hS9⟩ := gx_backT h0_4 hW_4 hQ_4 hL_4 hD hS hA
        clear hQ_4 h0_4 hL_4 hW_4 hP hD hS
        have hP := hP9
        have hD := hD9
        have hS := hS9
        clear hP9 hD9 hS9
        rcases hp with ⟨hv9, e_ws6, f_46_ws6⟩
        cases hv9
    · obtain ⟨E9, ws7, ce, hp, hce, hP9, -, hD9, hS9⟩ := gx_backT h0_2 hW_2 hQ_2 hL_2 hD hS hA
      clear hQ_2 h0_2 hL_2 hW_2 hP hD hS
      have hP := hP9
      have hD := hD9
      have hS := hS9
      clear hP9 hD9 hS9
      rcases hp with ⟨hv9, e_ws7, f_46_ws7⟩
      cases hv9
  · refine lv_iload_n hx hb d_Mo_open_5 rfl (lv_at hl 1 rfl) ?_
    refine lv_iconst (v := 1) hx hb d_Mo_open_6 (by decide) ?_
    refine lv_icmp_le (tgt := 14) hx hb d_Mo_open_7 (by decide) (fun c7_8 => ?_) (fun c7_8 => ?_)
    · refine lv_iconst (v := 0) hx hb d_Mo_open_14 (by decide) ?_
      refine lv_iconst (v := 1) hx hb d_Mo_open_15 (by decide) ?_
      refine gx_call (ig := .invokevirtual 152) (c_Mo_wrong_v2 l htr D tys z _ ws A46 A47 A48 A49 A50 A51 A52 A53 A54 A62 A70 A78 A79 (u0) A80 A81 A82 A83 f_46) (gx_invV (As := [Value.int 0, Value.int 1]) (rest := []) hx hb hown hts km_Mo_152 kI_Mo_wrong kV_Mo_wrong kc_Mo_wrong (by decide) (show (parseMethodDescriptor y_Mo_wrong.desc).map (fun d => d.parameters.length) = some 2 by decide +kernel) (gx_recv (ci := 8) hK hP rfl f_46) rfl rfl d_Mo_open_16) (gx_cw (z := 0) hts kc_Mo_wrong kN_Mo rfl rfl ⟨Nat.le_of_ble_eq_true rfl, Nat.le_of_ble_eq_true rfl⟩) hb hml gx_blind (gx_pre hz hP hK hD hY hS hAz [Value.ref A46, Value.int 0, Value.int 1]) rfl hl.1 (lv_room (Nat.le_of_ble_eq_true rfl)) d_Mo_open_16 ⟨Nat.le_of_ble_eq_true rfl, Nat.le_of_ble_eq_true rfl⟩ (fun v9 st9 t9 L9 h0_9 hW_9 hQ_9 hL_9 => ?_) (fun v9 st9 t9 L9 h0_9 hW_9 hQ_9 hL_9 => ?_)
      · obtain ⟨ws10, hp, hP9, -, hD9, hS9⟩ := gx_back h0_9 hW_9 hQ_9 hL_9 hD hS hA
        clear hQ_9 h0_9 hL_9 hW_9 hP hD hS
        have hP := hP9
        have hD := hD9
        have hS := hS9
        clear hP9 hD9 hS9
        rcases hp with ⟨hv9, e_ws10⟩
        cases hv9
        rw [e_ws10] at hP hD
        refine W.eq (g2 := F0 m 19 ls [Value.int 0]) rfl ?_
        generalize t9.heap = H at hP hS ⊢
        generalize [] ++ L9 = locs at hS ⊢
        refine lv_if_ne (tgt := 65) hx hb d_Mo_open_19 (by decide) (fun c9 => absurd (by decide) c9) (fun _ => ?_)
        refine lv_aload_n hx hb d_Mo_open_22 rfl (lv_at hl 0 rfl) ?_
        refine lv_aload_n hx hb d_Mo_open_23 rfl (lv_at hl 0 rfl) ?_
        refine va_get (D := D) (ci := 8) (v := Value.int 0) (C := "CommitLedgerModel") (T := F_Mo) (N := 35) hx hb hts i_Mo hown hK hP 46 f_46 rfl 18 (by decide) (hts _ kf_Mo_99) (fun _ h9 => h9) rfl d_Mo_open_24 ?_
        refine lv_iconst (v := 2) hx hb d_Mo_open_27 (by decide) ?_
        refine gx_call (ig := .invokevirtual 152) (c_Mo_wrong_v3 l htr D tys z _ ws A46 A47 A48 A49 A50 A51 A52 A53 A54 A62 A70 A78 A79 (u0) A80 A81 A82 A83 f_46) (gx_invV (As := [Value.int 0, Value.int 2]) (rest := []) hx hb hown hts km_Mo_152 kI_Mo_wrong kV_Mo_wrong kc_Mo_wrong (by decide) (show (parseMethodDescriptor y_Mo_wrong.desc).map (fun d => d.parameters.length) = some 2 by decide +kernel) (gx_recv (ci := 8) hK hP rfl f_46) rfl rfl d_Mo_open_28) (gx_cw (z := 0) hts kc_Mo_wrong kN_Mo rfl rfl ⟨Nat.le_of_ble_eq_true rfl, Nat.le_of_ble_eq_true rfl⟩) hb hml gx_blind (gx_pre hz hP hK hD hY hS hAz [Value.ref A46, Value.int 0, Value.int 2]) rfl hl.1 (lv_room (Nat.le_of_ble_eq_true rfl)) d_Mo_open_28 ⟨Nat.le_of_ble_eq_true rfl, Nat.le_of_ble_eq_true rfl⟩ (fun v11 st11 t11 L11 h0_11 hW_11 hQ_11 hL_11 => ?_) (fun v11 st11 t11 L11 h0_11 hW_11 hQ_11 hL_11 => ?_)
        · obtain ⟨ws12, hp, hP9, -, hD9, hS9⟩ := gx_back h0_11 hW_11 hQ_11 hL_11 hD hS hA
          clear hQ_11 h0_11 hL_11 hW_11 hP hD hS
          have hP := hP9
          have hD := hD9
          have hS := hS9
          clear hP9 hD9 hS9
          rcases hp with ⟨hv9, e_ws12⟩
          cases hv9
          rw [e_ws12] at hP hD
          refine W.eq (g2 := F0 m 31 ls [Value.int 0]) rfl ?_
          generalize t11.heap = H at hP hS ⊢
          generalize locs ++ L11 = locs at hS ⊢
          refine lv_if_ne (tgt := 65) hx hb d_Mo_open_31 (by decide) (fun c9 => absurd (by decide) c9) (fun _ => ?_)
          refine lv_aload_n hx hb d_Mo_open_34 rfl (lv_at hl 0 rfl) ?_
          refine lv_iload_n hx hb d_Mo_open_35 rfl (lv_at hl 1 rfl) ?_
          refine lv_if_ne (tgt := 57) hx hb d_Mo_open_36 (by decide) (fun c36_13 => ?_) (fun c36_13 => ?_)
          · refine lv_iconst (v := 0) hx hb d_Mo_open_57 (by decide) ?_
            refine lv_iconst (v := 4) hx hb d_Mo_open_58 (by decide) ?_
            refine gx_call (ig := .invokevirtual 152) (c_Mo_wrong_v4 l htr D tys z _ ws A46 A47 A48 A49 A50 A51 A52 A53 A54 A62 A70 A78 A79 (u0) A80 A81 A82 A83 f_46) (gx_invV (As := [Value.int 0, Value.int 4]) (rest := []) hx hb hown hts km_Mo_152 kI_Mo_wrong kV_Mo_wrong kc_Mo_wrong (by decide) (show (parseMethodDescriptor y_Mo_wrong.desc).map (fun d => d.parameters.length) = some 2 by decide +kernel) (gx_recv (ci := 8) hK hP rfl f_46) rfl rfl d_Mo_open_59) (gx_cw (z := 0) hts kc_Mo_wrong kN_Mo rfl rfl ⟨Nat.le_of_ble_eq_true rfl, Nat.le_of_ble_eq_true rfl⟩) hb hml gx_blind (gx_pre hz hP hK hD hY hS hAz [Value.ref A46, Value.int 0, Value.int 4]) rfl hl.1 (lv_room (Nat.le_of_ble_eq_true rfl)) d_Mo_open_59 ⟨Nat.le_of_ble_eq_true rfl, Nat.le_of_ble_eq_true rfl⟩ (fun v14 st14 t14 L14 h0_14 hW_14 hQ_14 hL_14 => ?_) (fun v14 st14 t14 L14 h0_14 hW_14 hQ_14 hL_14 => ?_)
            · obtain ⟨ws15, hp, hP9, -, hD9, hS9⟩ := gx_back h0_14 hW_14 hQ_14 hL_14 hD hS hA
              clear hQ_14 h0_14 hL_14 hW_14 hP hD hS
              have hP := hP9
              have hD := hD9
              have hS := hS9
              clear hP9 hD9 hS9
              rcases hp with ⟨hv9, e_ws15⟩
              cases hv9
              rw [e_ws15] at hP hD
              refine W.eq (g2 := F0 m 62 ls [Value.int 0]) rfl ?_
              generalize t14.heap = H at hP hS ⊢
              generalize locs ++ L14 = locs at hS ⊢
              refine lv_if_eq (tgt := 73) hx hb d_Mo_open_62 (by decide) (fun _ => ?_) (fun c9 => absurd (by decide) c9)
              refine lv_aload_n hx hb d_Mo_open_73 rfl (lv_at hl 0 rfl) ?_
              refine va_get (D := D) (ci := 8) (v := Value.ref A54) (C := "CommitLedgerModel") (T := F_Mo) (N := 35) hx hb hts i_Mo hown hK hP 46 f_46 rfl 15 (by decide) (hts _ kf_Mo_40) (fun _ h9 => h9) rfl d_Mo_open_74 ?_
              refine lv_iconst (v := 0) hx hb d_Mo_open_77 (by decide) ?_
              refine va_put (D := D) (ci := 9) (v := Value.int 0) (ty := .int) (C := "CommitLedgerModel$Version") (T := F_Ve) (N := 11) hx hb hts i_Ve t_Ve t_Ve_ok n_Ve hown hK hP hD hS 54 f_54 rfl 7 (by decide) (hts _ kf_Mo_122) (fun _ h9 => h9) rfl (by decide +kernel) rfl rfl (Nat.le_of_ble_eq_true rfl) d_Mo_open_78 (fun H locs hP9 hD9 hS9 => ?_)
              obtain ⟨ws16, e_ws16⟩ : ∃ x : va_W, x = ws.set 54 ((A54, Sum.inr (9, [Value.ref A55, Value.ref A56, Value.ref A57, Value.ref A58, Value.ref A59, Value.ref A60, Value.ref A61, Value.int 0, Value.int 0, Value.int 0, Value.int 0])) : Nat × va_E) := ⟨_, rfl⟩
              replace hP : va_P D classes ws16 H := by rw [e_ws16]; exact hP9
              replace hD : va_D A ws16 := by rw [e_ws16]; exact hD9
              replace hS := hS9
              clear hP9 hD9 hS9
              have f_54_ws16 : ws16[54]? = some ((A54, Sum.inr (9, [Value.ref A55, Value.ref A56, Value.ref A57, Value.ref A58, Value.ref A59, Value.ref A60, Value.ref A61, Value.int 0, Value.int 0, Value.int 0, Value.int 0])) : Nat × va_E) := by rw [e_ws16]; exact gs_self f_54
              replace hU : gx_g ws ws16 0 [46, 54] := by rw [e_ws16]; exact hU.put (Or.inl (by simp))
              refine lv_aload_n hx hb d_Mo_open_81 rfl (lv_at hl 0 rfl) ?_
              have f_46_ws16 : ws16[46]? = some ((A46, Sum.inr (8, [Value.int 0, Value.int 0, Value.ref A47, Value.ref A48, Value.ref A49, Value.int 0, Value.ref A50, Value.ref A51, Value.ref A52, Value.ref A53, Value.int 0, Value.int 0, Value.int 0, Value.int (-1), Value.int 0, Value.ref A54, Value.ref A62, Value.ref A70, Value.int 0, Value.int 0, Value.int 0, Value.ref A78, Value.ref A79, Value.int 0, Value.int 16, Value.int 4, u0, Value.ref A80, Value.ref A81, Value.ref A82, Value.int 0, Value.ref A83, Value.int 0, Value.int 0, Value.int 0])) : Nat × va_E) := by rw [e_ws16]; exact gs_ne (by decide) f_46
              clear f_46
              refine va_get (D := D) (ci := 8) (v := Value.ref A54) (C := "CommitLedgerModel") (T := F_Mo) (N := 35) hx hb hts i_Mo hown hK hP 46 f_46_ws16 rfl 15 (by decide) (hts _ kf_Mo_40) (fun _ h9 => h9) rfl d_Mo_open_82 ?_
              refine lv_iconst (v := 0) hx hb d_Mo_open_85 (by decide) ?_
              refine va_put (D := D) (ci := 9) (v := Value.int 0) (ty := .int) (C := "CommitLedgerModel$Version") (T := F_Ve) (N := 11) hx hb hts i_Ve t_Ve t_Ve_ok n_Ve hown hK hP hD hS 54 f_54_ws16 rfl 8 (by decide) (hts _ kf_Mo_159) (fun _ h9 => h9) rfl (by decide +kernel) rfl rfl (Nat.le_of_ble_eq_true rfl) d_Mo_open_86 (fun H locs hP9 hD9 hS9 => ?_)
              obtain ⟨ws17, e_ws17⟩ : ∃ x : va_W, x = ws16.set 54 ((A54, Sum.inr (9, [Value.ref A55, Value.ref A56, Value.ref A57, Value.ref A58, Value.ref A59, Value.ref A60, Value.ref A61, Value.int 0, Value.int 0, Value.int 0, Value.int 0])) : Nat × va_E) := ⟨_, rfl⟩
              replace hP : va_P D classes ws17 H := by rw [e_ws17]; exact hP9
              replace hD : va_D A ws17 := by rw [e_ws17]; exact hD9
              replace hS := hS9
              clear hP9 hD9 hS9
              have f_54_ws17 : ws17[54]? = some ((A54, Sum.inr (9, [Value.ref A55, Value.ref A56, Value.ref A57, Value.ref A58, Value.ref A59, Value.ref A60, Value.ref A61, Value.int 0, Value.int 0, Value.int 0, Value.int 0])) : Nat × va_E) := by rw [e_ws17]; exact gs_self f_54_ws16
              replace hU : gx_g ws ws17 0 [46, 54] := by rw [e_ws17]; exact hU.put (Or.inl (by simp))
              refine lv_iload_n hx hb d_Mo_open_89 rfl (lv_at hl 1 rfl) ?_
              refine lv_if_ne (tgt := 111) hx hb d_Mo_open_90 (by decide) (fun _ => ?_) (fun c9 => absurd c9 c36_13)
              refine lv_iconst (v := 0) hx hb d_Mo_open_111 (by decide) ?_
              refine lv_istore_n (lv' := [(2, Value.int 0), (0, Value.ref A46), (1, Value.int p0)]) hx hb d_Mo_open_112 rfl hl (by decide) rfl (fun ls hl => ?_)
              refine lv_iload_n hx hb d_Mo_open_113 rfl (lv_at hl 0 rfl) ?_
              refine lv_aload_n hx hb d_Mo_open_114 rfl (lv_at hl 1 rfl) ?_
              have f_46_ws17 : ws17[46]? = some ((A46, Sum.inr (8, [Value.int 0, Value.int 0, Value.ref A47, Value.ref A48, Value.ref A49, Value.int 0, Value.ref A50, Value.ref A51, Value.ref A52, Value.ref A53, Value.int 0, Value.int 0, Value.int 0, Value.int (-1), Value.int 0, Value.ref A54, Value.ref A62, Value.ref A70, Value.int 0, Value.int 0, Value.int 0, Value.ref A78, Value.ref A79, Value.int 0, Value.int 16, Value.int 4, u0, Value.ref A80, Value.ref A81, Value.ref A82, Value.int 0, Value.ref A83, Value.int 0, Value.int 0, Value.int 0])) : Nat × va_E) := by rw [e_ws17]; exact gs_ne (by decide) f_46_ws16
              clear f_46_ws16
              refine va_get (D := D) (ci := 8) (v := Value.ref A54) (C := "CommitLedgerModel") (T := F_Mo) (N := 35) hx hb hts i_Mo hown hK hP 46 f_46_ws17 rfl 15 (by decide) (hts _ kf_Mo_40) (fun _ h9 => h9) rfl d_Mo_open_115 ?_
              refine va_get (D := D) (ci := 9) (v := Value.int 0) (C := "CommitLedgerModel$Version") (T := F_Ve) (N := 11) hx hb hts i_Ve hown hK hP 54 f_54_ws17 rfl 7 (by decide) (hts _ kf_Mo_122) (fun _ h9 => h9) rfl d_Mo_open_118 ?_
              refine lv_icmp_ge (tgt := 140) hx hb d_Mo_open_121 (by decide) (fun _ => ?_) (fun c9 => absurd (by decide) c9)
              refine lv_aload_n hx hb d_Mo_open_140 rfl (lv_at hl 1 rfl) ?_
              refine va_get (D := D) (ci := 8) (v := Value.ref A54) (C := "CommitLedgerModel") (T := F_Mo) (N := 35) hx hb hts i_Mo hown hK hP 46 f_46_ws17 rfl 15 (by decide) (hts _ kf_Mo_40) (fun _ h9 => h9) rfl d_Mo_open_141 ?_
              refine gx_call (ig := .invokevirtual 169) (c_Ve_tidy_v1 l htr D tys z _ ws17 A54 A55 A56 A57 A58 A59 A60 A61 f_54_ws17) (gx_invV (As := []) (rest := []) hx hb hown hts km_Mo_169 kI_Ve_tidy kV_Ve_tidy kc_Ve_tidy (by decide) (show (parseMethodDescriptor y_Ve_tidy.desc).map (fun d => d.parameters.length) = some 0 by decide +kernel) (gx_recv (ci := 9) hK hP rfl f_54_ws17) rfl rfl d_Mo_open_144) (gx_cw (z := 0) hts kc_Ve_tidy kN_Ve rfl rfl ⟨Nat.le_of_ble_eq_true rfl, Nat.le_of_ble_eq_true rfl⟩) hb hml gx_blind (gx_pre hz hP hK hD hY hS hAz [Value.ref A54]) rfl hl.1 (lv_room (Nat.le_of_ble_eq_true rfl)) d_Mo_open_144 ⟨Nat.le_of_ble_eq_true rfl, Nat.le_of_ble_eq_true rfl⟩ (fun v19 st19 t19 L19 h0_19 hW_19 hQ_19 hL_19 => ?_) (fun v19 st19 t19 L19 h0_19 hW_19 hQ_19 hL_19 => ?_)
              · obtain ⟨ws20, hp, hP9, -, hD9, hS9⟩ := gx_back h0_19 hW_19 hQ_19 hL_19 hD hS hA
                clear hQ_19 h0_19 hL_19 hW_19 hP hD hS
                have hP := hP9
                have hD := hD9
                have hS := hS9
                clear hP9 hD9 hS9
                rcases hp with ⟨hv9, e_ws20⟩
                cases hv9
                rw [e_ws20] at hP hD
                refine W.eq (g2 := F0 m 147 ls []) rfl ?_
                generalize t19.heap = H at hP hS ⊢
                generalize locs ++ L19 = locs at hS ⊢
                refine lv_aload_n hx hb d_Mo_open_147 rfl (lv_at hl 1 rfl) ?_
                refine lv_iconst (v := 1) hx hb d_Mo_open_148 (by decide) ?_
                refine va_put (D := D) (ci := 8) (v := Value.int 1) (ty := .boolean) (C := "CommitLedgerModel") (T := F_Mo) (N := 35) hx hb hts i_Mo t_Mo t_Mo_ok n_Mo hown hK hP hD hS 46 f_46_ws17 rfl 18 (by decide) (hts _ kf_Mo_99) (fun _ h9 => h9) rfl (by decide +kernel) rfl rfl (Nat.le_of_ble_eq_true rfl) d_Mo_open_149 (fun H locs hP9 hD9 hS9 => ?_)
                obtain ⟨ws21, e_ws21⟩ : ∃ x : va_W, x = ws17.set 46 ((A46, Sum.inr (8, [Value.int 0, Value.int 0, Value.ref A47, Value.ref A48, Value.ref A49, Value.int 0, Value.ref A50, Value.ref A51, Value.ref A52, Value.ref A53, Value.int 0, Value.int 0, Value.int 0, Value.int (-1), Value.int 0, Value.ref A54, Value.ref A62, Value.ref A70, Value.int 1, Value.int 0, Value.int 0, Value.ref A78, Value.ref A79, Value.int 0, Value.int 16, Value.int 4, u0, Value.ref A80, Value.ref A81, Value.ref A82, Value.int 0, Value.ref A83, Value.int 0, Value.int 0, Value.int 0])) : Nat × va_E) := ⟨_, rfl⟩
                replace hP : va_P D classes ws21 H := by rw [e_ws21]; exact hP9
                replace hD : va_D A ws21 := by rw [e_ws21]; exact hD9
                replace hS := hS9
                clear hP9 hD9 hS9
                have f_46_ws21 : ws21[46]? = some ((A46, Sum.inr (8, [Value.int 0, Value.int 0, Value.ref A47, Value.ref A48, Value.ref A49, Value.int 0, Value.ref A50, Value.ref A51, Value.ref A52, Value.ref A53, Value.int 0, Value.int 0, Value.int 0, Value.int (-1), Value.int 0, Value.ref A54, Value.ref A62, Value.ref A70, Value.int 1, Value.int 0, Value.int 0, Value.ref A78, Value.ref A79, Value.int 0, Value.int 16, Value.int 4, u0, Value.ref A80, Value.ref A81, Value.ref A82, Value.int 0, Value.ref A83, Value.int 0, Value.int 0, Value.int 0])) : Nat × va_E) := by rw [e_ws21]; exact gs_self f_46_ws17
                replace hU : gx_g ws ws21 0 [46, 54] := by rw [e_ws21]; exact hU.put (Or.inl (by simp))
                refine lv_aload_n hx hb d_Mo_open_152 rfl (lv_at hl 1 rfl) ?_
                refine lv_iconst (v := 0) hx hb d_Mo_open_153 (by decide) ?_
                refine va_put (D := D) (ci := 8) (v := Value.int 0) (ty := .boolean) (C := "CommitLedgerModel") (T := F_Mo) (N := 35) hx hb hts i_Mo t_Mo t_Mo_ok n_Mo hown hK hP hD hS 46 f_46_ws21 rfl 14 (by decide) (hts _ kf_Mo_112) (fun _ h9 => h9) rfl (by decide +kernel) rfl rfl (Nat.le_of_ble_eq_true rfl) d_Mo_open_154 (fun H locs hP9 hD9 hS9 => ?_)
                obtain ⟨ws22, e_ws22⟩ : ∃ x : va_W, x = ws21.set 46 ((A46, Sum.inr (8, [Value.int 0, Value.int 0, Value.ref A47, Value.ref A48, Value.ref A49, Value.int 0, Value.ref A50, Value.ref A51, Value.ref A52, Value.ref A53, Value.int 0, Value.int 0, Value.int 0, Value.int (-1), Value.int 0, Value.ref A54, Value.ref A62, Value.ref A70, Value.int 1, Value.int 0, Value.int 0, Value.ref A78, Value.ref A79, Value.int 0, Value.int 16, Value.int 4, u0, Value.ref A80, Value.ref A81, Value.ref A82, Value.int 0, Value.ref A83, Value.int 0, Value.int 0, Value.int 0])) : Nat × va_E) := ⟨_, rfl⟩
                replace hP : va_P D classes ws22 H := by rw [e_ws22]; exact hP9
                replace hD : va_D A ws22 := by rw [e_ws22]; exact hD9
                replace hS := hS9
                clear hP9 hD9 hS9
                have f_46_ws22 : ws22[46]? = some ((A46, Sum.inr (8, [Value.int 0, Value.int 0, Value.ref A47, Value.ref A48, Value.ref A49, Value.int 0, Value.ref A50, Value.ref A51, Value.ref A52, Value.ref A53, Value.int 0, Value.int 0, Value.int 0, Value.int (-1), Value.int 0, Value.ref A54, Value.ref A62, Value.ref A70, Value.int 1, Value.int 0, Value.int 0, Value.ref A78, Value.ref A79, Value.int 0, Value.int 16, Value.int 4, u0, Value.ref A80, Value.ref A81, Value.ref A82, Value.int 0, Value.ref A83, Value.int 0, Value.int 0, Value.int 0])) : Nat × va_E) := by rw [e_ws22]; exact gs_self f_46_ws21
                replace hU : gx_g ws ws22 0 [46, 54] := by rw [e_ws22]; exact hU.put (Or.inl (by simp))
                refine lv_aload_n hx hb d_Mo_open_157 rfl (lv_at hl 1 rfl) ?_
                refine lv_iconst (v := 0) hx hb d_Mo_open_158 (by decide) ?_
                refine va_put (D := D) (ci := 8) (v := Value.int 0) (ty := .int) (C := "CommitLedgerModel") (T := F_Mo) (N := 35) hx hb hts i_Mo t_Mo t_Mo_ok n_Mo hown hK hP hD hS 46 f_46_ws22 rfl 23 (by decide) (hts _ kf_Mo_172) (fun _ h9 => h9) rfl (by decide +kernel) rfl rfl (Nat.le_of_ble_eq_true rfl) d_Mo_open_159 (fun H locs hP9 hD9 hS9 => ?_)
                obtain ⟨ws23, e_ws23⟩ : ∃ x : va_W, x = ws22.set 46 ((A46, Sum.inr (8, [Value.int 0, Value.int 0, Value.ref A47, Value.ref A48, Value.ref A49, Value.int 0, Value.ref A50, Value.ref A51, Value.ref A52, Value.ref A53, Value.int 0, Value.int 0, Value.int 0, Value.int (-1), Value.int 0, Value.ref A54, Value.ref A62, Value.ref A70, Value.int 1, Value.int 0, Value.int 0, Value.ref A78, Value.ref A79, Value.int 0, Value.int 16, Value.int 4, u0, Value.ref A80, Value.ref A81, Value.ref A82, Value.int 0, Value.ref A83, Value.int 0, Value.int 0, Value.int 0])) : Nat × va_E) := ⟨_, rfl⟩
                replace hP : va_P D classes ws23 H := by rw [e_ws23]; exact hP9
                replace hD : va_D A ws23 := by rw [e_ws23]; exact hD9
                replace hS := hS9
                clear hP9 hD9 hS9
                have f_46_ws23 : ws23[46]? = some ((A46, Sum.inr (8, [Value.int 0, Value.int 0, Value.ref A47, Value.ref A48, Value.ref A49, Value.int 0, Value.ref A50, Value.ref A51, Value.ref A52, Value.ref A53, Value.int 0, Value.int 0, Value.int 0, Value.int (-1), Value.int 0, Value.ref A54, Value.ref A62, Value.ref A70, Value.int 1, Value.int 0, Value.int 0, Value.ref A78, Value.ref A79, Value.int 0, Value.int 16, Value.int 4, u0, Value.ref A80, Value.ref A81, Value.ref A82, Value.int 0, Value.ref A83, Value.int 0, Value.int 0, Value.int 0])) : Nat × va_E) := by rw [e_ws23]; exact gs_self f_46_ws22
                replace hU : gx_g ws ws23 0 [46, 54] := by rw [e_ws23]; exact hU.put (Or.inl (by simp))
                refine lv_aload_n hx hb d_Mo_open_162 rfl (lv_at hl 1 rfl) ?_
                refine lv_iconst (v := 0) hx hb d_Mo_open_163 (by decide) ?_
                refine va_put (D := D) (ci := 8) (v := Value.int 0) (ty := .int) (C := "CommitLedgerModel") (T := F_Mo) (N := 35) hx hb hts i_Mo t_Mo t_Mo_ok n_Mo hown hK hP hD hS 46 f_46_ws23 rfl 30 (by decide) (hts _ kf_Mo_106) (fun _ h9 => h9) rfl (by decide +kernel) rfl rfl (Nat.le_of_ble_eq_true rfl) d_Mo_open_164 (fun H locs hP9 hD9 hS9 => ?_)
                obtain ⟨ws24, e_ws24⟩ : ∃ x : va_W, x = ws23.set 46 ((A46, Sum.inr (8, [Value.int 0, Value.int 0, Value.ref A47, Value.ref A48, Value.ref A49, Value.int 0, Value.ref A50, Value.ref A51, Value.ref A52, Value.ref A53, Value.int 0, Value.int 0, Value.int 0, Value.int (-1), Value.int 0, Value.ref A54, Value.ref A62, Value.ref A70, Value.int 1, Value.int 0, Value.int 0, Value.ref A78, Value.ref A79, Value.int 0, Value.int 16, Value.int 4, u0, Value.ref A80, Value.ref A81, Value.ref A82, Value.int 0, Value.ref A83, Value.int 0, Value.int 0, Value.int 0])) : Nat × va_E) := ⟨_, rfl⟩
                replace hP : va_P D classes ws24 H := by rw [e_ws24]; exact hP9
                replace hD : va_D A ws24 := by rw [e_ws24]; exact hD9
                replace hS := hS9
                clear hP9 hD9 hS9
                have f_46_ws24 : ws24[46]? = some ((A46, Sum.inr (8, [Value.int 0, Value.int 0, Value.ref A47, Value.ref A48, Value.ref A49, Value.int 0, Value.ref A50, Value.ref A51, Value.ref A52, Value.ref A53, Value.int 0, Value.int 0, Value.int 0, Value.int (-1), Value.int 0, Value.ref A54, Value.ref A62, Value.ref A70, Value.int 1, Value.int 0, Value.int 0, Value.ref A78, Value.ref A79, Value.int 0, Value.int 16, Value.int 4, u0, Value.ref A80, Value.ref A81, Value.ref A82, Value.int 0, Value.ref A83, Value.int 0, Value.int 0, Value.int 0])) : Nat × va_E) := by rw [e_ws24]; exact gs_self f_46_ws23
                replace hU : gx_g ws ws24 0 [46, 54] := by rw [e_ws24]; exact hU.put (Or.inl (by simp))
                refine lv_aload_n hx hb d_Mo_open_167 rfl (lv_at hl 1 rfl) ?_
                refine lv_iconst (v := 0) hx hb d_Mo_open_168 (by decide) ?_
                refine va_put (D := D) (ci := 8) (v := Value.int 0) (ty := .boolean) (C := "CommitLedgerModel") (T := F_Mo) (N := 35) hx hb hts i_Mo t_Mo t_Mo_ok n_Mo hown hK hP hD hS 46 f_46_ws24 rfl 19 (by decide) (hts _ kf_Mo_109) (fun _ h9 => h9) rfl (by decide +kernel) rfl rfl (Nat.le_of_ble_eq_true rfl) d_Mo_open_169 (fun H locs hP9 hD9 hS9 => ?_)
                obtain ⟨ws25, e_ws25⟩ : ∃ x : va_W, x = ws24.set 46 ((A46, Sum.inr (8, [Value.int 0, Value.int 0, Value.ref A47, Value.ref A48, Value.ref A49, Value.int 0, Value.ref A50, Value.ref A51, Value.ref A52, Value.ref A53, Value.int 0, Value.int 0, Value.int 0, Value.int (-1), Value.int 0, Value.ref A54, Value.ref A62, Value.ref A70, Value.int 1, Value.int 0, Value.int 0, Value.ref A78, Value.ref A79, Value.int 0, Value.int 16, Value.int 4, u0, Value.ref A80, Value.ref A81, Value.ref A82, Value.int 0, Value.ref A83, Value.int 0, Value.int 0, Value.int 0])) : Nat × va_E) := ⟨_, rfl⟩
                replace hP : va_P D classes ws25 H := by rw [e_ws25]; exact hP9
                replace hD : va_D A ws25 := by rw [e_ws25]; exact hD9
                replace hS := hS9
                clear hP9 hD9 hS9
                have f_46_ws25 : ws25[46]? = some ((A46, Sum.inr (8, [Value.int 0, Value.int 0, Value.ref A47, Value.ref A48, Value.ref A49, Value.int 0, Value.ref A50, Value.ref A51, Value.ref A52, Value.ref A53, Value.int 0, Value.int 0, Value.int 0, Value.int (-1), Value.int 0, Value.ref A54, Value.ref A62, Value.ref A70, Value.int 1, Value.int 0, Value.int 0, Value.ref A78, Value.ref A79, Value.int 0, Value.int 16, Value.int 4, u0, Value.ref A80, Value.ref A81, Value.ref A82, Value.int 0, Value.ref A83, Value.int 0, Value.int 0, Value.int 0])) : Nat × va_E) := by rw [e_ws25]; exact gs_self f_46_ws24
                replace hU : gx_g ws ws25 0 [46, 54] := by rw [e_ws25]; exact hU.put (Or.inl (by simp))
                refine lv_aload_n hx hb d_Mo_open_172 rfl (lv_at hl 1 rfl) ?_
                refine lv_aload_n hx hb d_Mo_open_173 rfl (lv_at hl 1 rfl) ?_
                refine va_get (D := D) (ci := 8) (v := Value.ref A54) (C := "CommitLedgerModel") (T := F_Mo) (N := 35) hx hb hts i_Mo hown hK hP 46 f_46_ws25 rfl 15 (by decide) (hts _ kf_Mo_40) (fun _ h9 => h9) rfl d_Mo_open_174 ?_
                have f_54_ws21 : ws21[54]? = some ((A54, Sum.inr (9, [Value.ref A55, Value.ref A56, Value.ref A57, Value.ref A58, Value.ref A59, Value.ref A60, Value.ref A61, Value.int 0, Value.int 0, Value.int 0, Value.int 0])) : Nat × va_E) := by rw [e_ws21]; exact gs_ne (by decide) f_54_ws17
                clear f_54_ws17
                have f_54_ws22 : ws22[54]? = some ((A54, Sum.inr (9, [Value.ref A55, Value.ref A56, Value.ref A57, Value.ref A58, Value.ref A59, Value.ref A60, Value.ref A61, Value.int 0, Value.int 0, Value.int 0, Value.int 0])) : Nat × va_E) := by rw [e_ws22]; exact gs_ne (by decide) f_54_ws21
                clear f_54_ws21
                have f_54_ws23 : ws23[54]? = some ((A54, Sum.inr (9, [Value.ref A55, Value.ref A56, Value.ref A57, Value.ref A58, Value.ref A59, Value.ref A60, Value.ref A61, Value.int 0, Value.int 0, Value.int 0, Value.int 0])) : Nat × va_E) := by rw [e_ws23]; exact gs_ne (by decide) f_54_ws22
                clear f_54_ws22
                have f_54_ws24 : ws24[54]? = some ((A54, Sum.inr (9, [Value.ref A55, Value.ref A56, Value.ref A57, Value.ref A58, Value.ref A59, Value.ref A60, Value.ref A61, Value.int 0, Value.int 0, Value.int 0, Value.int 0])) : Nat × va_E) := by rw [e_ws24]; exact gs_ne (by decide) f_54_ws23
                clear f_54_ws23
                have f_54_ws25 : ws25[54]? = some ((A54, Sum.inr (9, [Value.ref A55, Value.ref A56, Value.ref A57, Value.ref A58, Value.ref A59, Value.ref A60, Value.ref A61, Value.int 0, Value.int 0, Value.int 0, Value.int 0])) : Nat × va_E) := by rw [e_ws25]; exact gs_ne (by decide) f_54_ws24
                clear f_54_ws24
                refine va_get (D := D) (ci := 9) (v := Value.int 0) (C := "CommitLedgerModel$Version") (T := F_Ve) (N := 11) hx hb hts i_Ve hown hK hP 54 f_54_ws25 rfl 7 (by decide) (hts _ kf_Mo_122) (fun _ h9 => h9) rfl d_Mo_open_177 ?_
                refine lv_bipush (v := 124) hx hb d_Mo_open_180 (by decide) ?_
                have f_84_ws16 : ws16[84]? = some ((A84, Sum.inr (9, [Value.ref A85, Value.ref A86, Value.ref A87, Value.ref A88, Value.ref A89, Value.ref A90, Value.ref A91, Value.int 0, Value.int 0, Value.int 0, Value.int 0])) : Nat × va_E) := by rw [e_ws16]; exact gs_ne (by decide) f_84
                clear f_84
                have f_84_ws17 : ws17[84]? = some ((A84, Sum.inr (9, [Value.ref A85, Value.ref A86, Value.ref A87, Value.ref A88, Value.ref A89, Value.ref A90, Value.ref A91, Value.int 0, Value.int 0, Value.int 0, Value.int 0])) : Nat × va_E) := by rw [e_ws17]; exact gs_ne (by decide) f_84_ws16
                clear f_84_ws16
                have f_84_ws21 : ws21[84]? = some ((A84, Sum.inr (9, [Value.ref A85, Value.ref A86, Value.ref A87, Value.ref A88, Value.ref A89, Value.ref A90, Value.ref A91, Value.int 0, Value.int 0, Value.int 0, Value.int 0])) : Nat × va_E) := by rw [e_ws21]; exact gs_ne (by decide) f_84_ws17
                clear f_84_ws17
                have f_84_ws22 : ws22[84]? = some ((A84, Sum.inr (9, [Value.ref A85, Value.ref A86, Value.ref A87, Value.ref A88, Value.ref A89, Value.ref A90, Value.ref A91, Value.int 0, Value.int 0, Value.int 0, Value.int 0])) : Nat × va_E) := by rw [e_ws22]; exact gs_ne (by decide) f_84_ws21
                clear f_84_ws21
                have f_84_ws23 : ws23[84]? = some ((A84, Sum.inr (9, [Value.ref A85, Value.ref A86, Value.ref A87, Value.ref A88, Value.ref A89, Value.ref A90, Value.ref A91, Value.int 0, Value.int 0, Value.int 0, Value.int 0])) : Nat × va_E) := by rw [e_ws23]; exact gs_ne (by decide) f_84_ws22
                clear f_84_ws22
                have f_84_ws24 : ws24[84]? = some ((A84, Sum.inr (9, [Value.ref A85, Value.ref A86, Value.ref A87, Value.ref A88, Value.ref A89, Value.ref A90, Value.ref A91, Value.int 0, Value.int 0, Value.int 0, Value.int 0])) : Nat × va_E) := by rw [e_ws24]; exact gs_ne (by decide) f_84_ws23
                clear f_84_ws23
                have f_84_ws25 : ws25[84]? = some ((A84, Sum.inr (9, [Value.ref A85, Value.ref A86, Value.ref A87, Value.ref A88, Value.ref A89, Value.ref A90, Value.ref A91, Value.int 0, Value.int 0, Value.int 0, Value.int 0])) : Nat × va_E) := by rw [e_ws25]; exact gs_ne (by decide) f_84_ws24
                clear f_84_ws24
                have f_92_ws16 : ws16[92]? = some ((A92, Sum.inr (9, [Value.ref A93, Value.ref A94, Value.ref A95, Value.ref A96, Value.ref A97, Value.ref A98, Value.ref A99, Value.int 0, Value.int 0, Value.int 0, Value.int 0])) : Nat × va_E) := by rw [e_ws16]; exact gs_ne (by decide) f_92
                clear f_92
                have f_92_ws17 : ws17[92]? = some ((A92, Sum.inr (9, [Value.ref A93, Value.ref A94, Value.ref A95, Value.ref A96, Value.ref A97, Value.ref A98, Value.ref A99, Value.int 0, Value.int 0, Value.int 0, Value.int 0])) : Nat × va_E) := by rw [e_ws17]; exact gs_ne (by decide) f_92_ws16
                clear f_92_ws16
                have f_92_ws21 : ws21[92]? = some ((A92, Sum.inr (9, [Value.ref A93, Value.ref A94, Value.ref A95, Value.ref A96, Value.ref A97, Value.ref A98, Value.ref A99, Value.int 0, Value.int 0, Value.int 0, Value.int 0])) : Nat × va_E) := by rw [e_ws21]; exact gs_ne (by decide) f_92_ws17
                clear f_92_ws17
                have f_92_ws22 : ws22[92]? = some ((A92, Sum.inr (9, [Value.ref A93, Value.ref A94, Value.ref A95, Value.ref A96, Value.ref A97, Value.ref A98, Value.ref A99, Value.int 0, Value.int 0, Value.int 0, Value.int 0])) : Nat × va_E) := by rw [e_ws22]; exact gs_ne (by decide) f_92_ws21
                clear f_92_ws21
                have f_92_ws23 : ws23[92]? = some ((A92, Sum.inr (9, [Value.ref A93, Value.ref A94, Value.ref A95, Value.ref A96, Value.ref A97, Value.ref A98, Value.ref A99, Value.int 0, Value.int 0, Value.int 0, Value.int 0])) : Nat × va_E) := by rw [e_ws23]; exact gs_ne (by decide) f_92_ws22
                clear f_92_ws22
                have f_92_ws24 : ws24[92]? = some ((A92, Sum.inr (9, [Value.ref A93, Value.ref A94, Value.ref A95, Value.ref A96, Value.ref A97, Value.ref A98, Value.ref A99, Value.int 0, Value.int 0, Value.int 0, Value.int 0])) : Nat × va_E) := by rw [e_ws24]; exact gs_ne (by decide) f_92_ws23
                clear f_92_ws23
                have f_92_ws25 : ws25[92]? = some ((A92, Sum.inr (9, [Value.ref A93, Value.ref A94, Value.ref A95, Value.ref A96, Value.ref A97, Value.ref A98, Value.ref A99, Value.int 0, Value.int 0, Value.int 0, Value.int 0])) : Nat × va_E) := by rw [e_ws25]; exact gs_ne (by decide) f_92_ws24
                clear f_92_ws24
                have f_100_ws16 : ws16[100]? = some ((A100, Sum.inr (9, [Value.ref A101, Value.ref A102, Value.ref A103, Value.ref A104, Value.ref A105, Value.ref A106, Value.ref A107, Value.int 0, Value.int 0, Value.int 0, Value.int 0])) : Nat × va_E) := by rw [e_ws16]; exact gs_ne (by decide) f_100
                clear f_100
                have f_100_ws17 : ws17[100]? = some ((A100, Sum.inr (9, [Value.ref A101, Value.ref A102, Value.ref A103, Value.ref A104, Value.ref A105, Value.ref A106, Value.ref A107, Value.int 0, Value.int 0, Value.int 0, Value.int 0])) : Nat × va_E) := by rw [e_ws17]; exact gs_ne (by decide) f_100_ws16
                clear f_100_ws16
                have f_100_ws21 : ws21[100]? = some ((A100, Sum.inr (9, [Value.ref A101, Value.ref A102, Value.ref A103, Value.ref A104, Value.ref A105, Value.ref A106, Value.ref A107, Value.int 0, Value.int 0, Value.int 0, Value.int 0])) : Nat × va_E) := by rw [e_ws21]; exact gs_ne (by decide) f_100_ws17
                clear f_100_ws17
                have f_100_ws22 : ws22[100]? = some ((A100, Sum.inr (9, [Value.ref A101, Value.ref A102, Value.ref A103, Value.ref A104, Value.ref A105, Value.ref A106, Value.ref A107, Value.int 0, Value.int 0, Value.int 0, Value.int 0])) : Nat × va_E) := by rw [e_ws22]; exact gs_ne (by decide) f_100_ws21
                clear f_100_ws21
                have f_100_ws23 : ws23[100]? = some ((A100, Sum.inr (9, [Value.ref A101, Value.ref A102, Value.ref A103, Value.ref A104, Value.ref A105, Value.ref A106, Value.ref A107, Value.int 0, Value.int 0, Value.int 0, Value.int 0])) : Nat × va_E) := by rw [e_ws23]; exact gs_ne (by decide) f_100_ws22
                clear f_100_ws22
                have f_100_ws24 : ws24[100]? = some ((A100, Sum.inr (9, [Value.ref A101, Value.ref A102, Value.ref A103, Value.ref A104, Value.ref A105, Value.ref A106, Value.ref A107, Value.int 0, Value.int 0, Value.int 0, Value.int 0])) : Nat × va_E) := by rw [e_ws24]; exact gs_ne (by decide) f_100_ws23
                clear f_100_ws23
                have f_100_ws25 : ws25[100]? = some ((A100, Sum.inr (9, [Value.ref A101, Value.ref A102, Value.ref A103, Value.ref A104, Value.ref A105, Value.ref A106, Value.ref A107, Value.int 0, Value.int 0, Value.int 0, Value.int 0])) : Nat × va_E) := by rw [e_ws25]; exact gs_ne (by decide) f_100_ws24
                clear f_100_ws24
                have f_108_ws16 : ws16[108]? = some ((A108, Sum.inr (9, [Value.ref A109, Value.ref A110, Value.ref A111, Value.ref A112, Value.ref A113, Value.ref A114, Value.ref A115, Value.int 0, Value.int 0, Value.int 0, Value.int 0])) : Nat × va_E) := by rw [e_ws16]; exact gs_ne (by decide) f_108
                clear f_108
                have f_108_ws17 : ws17[108]? = some ((A108, Sum.inr (9, [Value.ref A109, Value.ref A110, Value.ref A111, Value.ref A112, Value.ref A113, Value.ref A114, Value.ref A115, Value.int 0, Value.int 0, Value.int 0, Value.int 0])) : Nat × va_E) := by rw [e_ws17]; exact gs_ne (by decide) f_108_ws16
                clear f_108_ws16
                have f_108_ws21 : ws21[108]? = some ((A108, Sum.inr (9, [Value.ref A109, Value.ref A110, Value.ref A111, Value.ref A112, Value.ref A113, Value.ref A114, Value.ref A115, Value.int 0, Value.int 0, Value.int 0, Value.int 0])) : Nat × va_E) := by rw [e_ws21]; exact gs_ne (by decide) f_108_ws17
                clear f_108_ws17
                have f_108_ws22 : ws22[108]? = some ((A108, Sum.inr (9, [Value.ref A109, Value.ref A110, Value.ref A111, Value.ref A112, Value.ref A113, Value.ref A114, Value.ref A115, Value.int 0, Value.int 0, Value.int 0, Value.int 0])) : Nat × va_E) := by rw [e_ws22]; exact gs_ne (by decide) f_108_ws21
                clear f_108_ws21
                have f_108_ws23 : ws23[108]? = some ((A108, Sum.inr (9, [Value.ref A109, Value.ref A110, Value.ref A111, Value.ref A112, Value.ref A113, Value.ref A114, Value.ref A115, Value.int 0, Value.int 0, Value.int 0, Value.int 0])) : Nat × va_E) := by rw [e_ws23]; exact gs_ne (by decide) f_108_ws22
                clear f_108_ws22
                have f_108_ws24 : ws24[108]? = some ((A108, Sum.inr (9, [Value.ref A109, Value.ref A110, Value.ref A111, Value.ref A112, Value.ref A113, Value.ref A114, Value.ref A115, Value.int 0, Value.int 0, Value.int 0, Value.int 0])) : Nat × va_E) := by rw [e_ws24]; exact gs_ne (by decide) f_108_ws23
                clear f_108_ws23
                have f_108_ws25 : ws25[108]? = some ((A108, Sum.inr (9, [Value.ref A109, Value.ref A110, Value.ref A111, Value.ref A112, Value.ref A113, Value.ref A114, Value.ref A115, Value.int 0, Value.int 0, Value.int 0, Value.int 0])) : Nat × va_E) := by rw [e_ws25]; exact gs_ne (by decide) f_108_ws24
                clear f_108_ws24
                have f_83_ws16 : ws16[83]? = some ((A83, Sum.inl (cV, 4, Sum.inr (Sum.inr (Sum.inr (Sum.inr (va_up (va_up (va_up (va_up (fun _ => none) 0 (some A84)) 1 (some A92)) 2 (some A100)) 3 (some A108))))))) : Nat × va_E) := by rw [e_ws16]; exact gs_ne (by decide) f_83
                clear f_83
                have f_83_ws17 : ws17[83]? = some ((A83, Sum.inl (cV, 4, Sum.inr (Sum.inr (Sum.inr (Sum.inr (va_up (va_up (va_up (va_up (fun _ => none) 0 (some A84)) 1 (some A92)) 2 (some A100)) 3 (some A108))))))) : Nat × va_E) := by rw [e_ws17]; exact gs_ne (by decide) f_83_ws16
                clear f_83_ws16
                have f_83_ws21 : ws21[83]? = some ((A83, Sum.inl (cV, 4, Sum.inr (Sum.inr (Sum.inr (Sum.inr (va_up (va_up (va_up (va_up (fun _ => none) 0 (some A84)) 1 (some A92)) 2 (some A100)) 3 (some A108))))))) : Nat × va_E) := by rw [e_ws21]; exact gs_ne (by decide) f_83_ws17
                clear f_83_ws17
                have f_83_ws22 : ws22[83]? = some ((A83, Sum.inl (cV, 4, Sum.inr (Sum.inr (Sum.inr (Sum.inr (va_up (va_up (va_up (va_up (fun _ => none) 0 (some A84)) 1 (some A92)) 2 (some A100)) 3 (some A108))))))) : Nat × va_E) := by rw [e_ws22]; exact gs_ne (by decide) f_83_ws21
                clear f_83_ws21
                have f_83_ws23 : ws23[83]? = some ((A83, Sum.inl (cV, 4, Sum.inr (Sum.inr (Sum.inr (Sum.inr (va_up (va_up (va_up (va_up (fun _ => none) 0 (some A84)) 1 (some A92)) 2 (some A100)) 3 (some A108))))))) : Nat × va_E) := by rw [e_ws23]; exact gs_ne (by decide) f_83_ws22
                clear f_83_ws22
                have f_83_ws24 : ws24[83]? = some ((A83, Sum.inl (cV, 4, Sum.inr (Sum.inr (Sum.inr (Sum.inr (va_up (va_up (va_up (va_up (fun _ => none) 0 (some A84)) 1 (some A92)) 2 (some A100)) 3 (some A108))))))) : Nat × va_E) := by rw [e_ws24]; exact gs_ne (by decide) f_83_ws23
                clear f_83_ws23
                have f_83_ws25 : ws25[83]? = some ((A83, Sum.inl (cV, 4, Sum.inr (Sum.inr (Sum.inr (Sum.inr (va_up (va_up (va_up (va_up (fun _ => none) 0 (some A84)) 1 (some A92)) 2 (some A100)) 3 (some A108))))))) : Nat × va_E) := by rw [e_ws25]; exact gs_ne (by decide) f_83_ws24
                clear f_83_ws24
                refine gx_call (ig := .invokevirtual 175) (c_Mo_finished_v1 l htr D tys z _ ws25 cV A46 A47 A48 A49 A50 A51 A52 A53 A54 A62 A70 A78 A79 (u0) A80 A81 A82 A83 A55 A56 A57 A58 A59 A60 A61 A84 A85 A86 A87 A88 A89 A90 A91 A92 A93 A94 A95 A96 A97 A98 A99 A100 A101 A102 A103 A104 A105 A106 A107 A108 A109 A110 A111 A112 A113 A114 A115 f_46_ws25 f_54_ws25 f_84_ws25 f_92_ws25 f_100_ws25 f_108_ws25 f_83_ws25 ht5) (gx_invV (As := [Value.int 0, Value.int 124]) (rest := []) hx hb hown hts km_Mo_175 kI_Mo_finished kV_Mo_finished kc_Mo_finished (by decide) (show (parseMethodDescriptor y_Mo_finished.desc).map (fun d => d.parameters.length) = some 2 by decide +kernel) (gx_recv (ci := 8) hK hP rfl f_46_ws25) rfl rfl d_Mo_open_182) (gx_cw (z := 0) hts kc_Mo_finished kN_Mo rfl rfl ⟨Nat.le_of_ble_eq_true rfl, Nat.le_of_ble_eq_true rfl⟩) hb hml gx_blind (gx_pre hz hP hK hD hY hS hAz [Value.ref A46, Value.int 0, Value.int 124]) rfl hl.1 (lv_room (Nat.le_of_ble_eq_true rfl)) d_Mo_open_182 ⟨Nat.le_of_ble_eq_true rfl, Nat.le_of_ble_eq_true rfl⟩ (fun v26 st26 t26 L26 h0_26 hW_26 hQ_26 hL_26 => ?_) (fun v26 st26 t26 L26 h0_26 hW_26 hQ_26 hL_26 => ?_)
                · obtain ⟨ws27, hp, hP9, -, hD9, hS9⟩ := gx_back h0_26 hW_26 hQ_26 hL_26 hD hS hA
                  clear hQ_26 h0_26 hL_26 hW_26 hP hD hS
                  have hP := hP9
                  have hD := hD9
                  have hS := hS9
                  clear hP9 hD9 hS9
                  rcases hp with ⟨hv9, e_ws27, f_46_ws27⟩
                  cases hv9
                  have f_46_ws27 : ws27[46]? = some ((A46, Sum.inr (8, [Value.int 0, Value.int 0, Value.ref A47, Value.ref A48, Value.ref A49, Value.int 0, Value.ref A50, Value.ref A51, Value.ref A52, Value.ref A53, Value.int 0, Value.int 0, Value.int 0, Value.int (-1), Value.int 0, Value.ref A54, Value.ref A62, Value.ref A70, Value.int 1, Value.int 0, Value.int 0, Value.ref A78, Value.ref A79, Value.int 0, Value.int 16, Value.int 4, u0, Value.ref A80, Value.ref A81, Value.ref A82, Value.int 0, Value.ref A83, Value.int 0, Value.int 0, Value.int 0])) : Nat × va_E) := f_46_ws27
                  replace hU : gx_g ws ws27 0 [46, 54] := hU.call e_ws27 (by simp; first | done | omega)
                  refine W.eq (g2 := F0 m 185 ls [Value.int 0]) rfl ?_
                  generalize t26.heap = H at hP hS ⊢
                  generalize locs ++ L26 = locs at hS ⊢
                  have f_54_ws27 : ws27[54]? = some ((A54, Sum.inr (9, [Value.ref A55, Value.ref A56, Value.ref A57, Value.ref A58, Value.ref A59, Value.ref A60, Value.ref A61, Value.int 0, Value.int 0, Value.int 0, Value.int 0])) : Nat × va_E) := e_ws27.at (by first | decide | (simp; done) | (simp; omega)) f_54_ws25
                  clear f_54_ws25
                  exact gx_ret (W.iret (v := 0) hx hb hr (gx_post hP hK hD hS (by rw [← hPQ]; exact Or.inr (Or.inl ⟨rfl, hU, f_46_ws27, f_54_ws27, c2_1, c7_8, c36_13⟩))) hS.2.2 d_Mo_open_185)
                · obtain ⟨E9, ws28, ce, hp, hce, hP9, -, hD9, hS9⟩ := gx_backT h0_26 hW_26 hQ_26 hL_26 hD hS hA
                  clear hQ_26 h0_26 hL_26 hW_26 hP hD hS
                  have hP := hP9
                  have hD := hD9
                  have hS := hS9
                  clear hP9 hD9 hS9
                  rcases hp with ⟨hv9, e_ws28, f_46_ws28⟩
                  cases hv9
              · obtain ⟨E9, ws29, ce, hp, hce, hP9, -, hD9, hS9⟩ := gx_backT h0_19 hW_19 hQ_19 hL_19 hD hS hA
                clear hQ_19 h0_19 hL_19 hW_19 hP hD hS
                have hP := hP9
                have hD := hD9
                have hS := hS9
                clear hP9 hD9 hS9
                rcases hp with ⟨hv9, e_ws29⟩
                cases hv9
            · obtain ⟨E9, ws30, ce, hp, hce, hP9, -, hD9, hS9⟩ := gx_backT h0_14 hW_14 hQ_14 hL_14 hD hS hA
              clear hQ_14 h0_14 hL_14 hW_14 hP hD hS
              have hP := hP9
              have hD := hD9
              have hS := hS9
              clear hP9 hD9 hS9
              rcases hp with ⟨hv9, e_ws30⟩
              cases hv9
          · refine lv_aload_n hx hb d_Mo_open_39 rfl (lv_at hl 0 rfl) ?_
            refine va_get (D := D) (ci := 8) (v := Value.int 0) (C := "CommitLedgerModel") (T := F_Mo) (N := 35) hx hb hts i_Mo hown hK hP 46 f_46 rfl 20 (by decide) (hts _ kf_Mo_135) (fun _ h9 => h9) rfl d_Mo_open_40 ?_
            refine lv_if_le (tgt := 57) hx hb d_Mo_open_43 (by decide) (fun _ => ?_) (fun c9 => absurd (by decide) c9)
            refine lv_iconst (v := 0) hx hb d_Mo_open_57 (by decide) ?_
            refine lv_iconst (v := 4) hx hb d_Mo_open_58 (by decide) ?_
            refine gx_call (ig := .invokevirtual 152) (c_Mo_wrong_v4 l htr D tys z _ ws A46 A47 A48 A49 A50 A51 A52 A53 A54 A62 A70 A78 A79 (u0) A80 A81 A82 A83 f_46) (gx_invV (As := [Value.int 0, Value.int 4]) (rest := []) hx hb hown hts km_Mo_152 kI_Mo_wrong kV_Mo_wrong kc_Mo_wrong (by decide) (show (parseMethodDescriptor y_Mo_wrong.desc).map (fun d => d.parameters.length) = some 2 by decide +kernel) (gx_recv (ci := 8) hK hP rfl f_46) rfl rfl d_Mo_open_59) (gx_cw (z := 0) hts kc_Mo_wrong kN_Mo rfl rfl ⟨Nat.le_of_ble_eq_true rfl, Nat.le_of_ble_eq_true rfl⟩) hb hml gx_blind (gx_pre hz hP hK hD hY hS hAz [Value.ref A46, Value.int 0, Value.int 4]) rfl hl.1 (lv_room (Nat.le_of_ble_eq_true rfl)) d_Mo_open_59 ⟨Nat.le_of_ble_eq_true rfl, Nat.le_of_ble_eq_true rfl⟩ (fun v31 st31 t31 L31 h0_31 hW_31 hQ_31 hL_31 => ?_) (fun v31 st31 t31 L31 h0_31 hW_31 hQ_31 hL_31 => ?_)
            · obtain ⟨ws32, hp, hP9, -, hD9, hS9⟩ := gx_back h0_31 hW_31 hQ_31 hL_31 hD hS hA
              clear hQ_31 h0_31 hL_31 hW_31 hP hD hS
              have hP := hP9
              have hD := hD9
              have hS := hS9
              clear hP9 hD9 hS9
              rcases hp with ⟨hv9, e_ws32⟩
              cases hv9
              rw [e_ws32] at hP hD
              refine W.eq (g2 := F0 m 62 ls [Value.int 0]) rfl ?_
              generalize t31.heap = H at hP hS ⊢
              generalize locs ++ L31 = locs at hS ⊢
              refine lv_if_eq (tgt := 73) hx hb d_Mo_open_62 (by decide) (fun _ => ?_) (fun c9 => absurd (by decide) c9)
              refine lv_aload_n hx hb d_Mo_open_73 rfl (lv_at hl 0 rfl) ?_
              refine va_get (D := D) (ci := 8) (v := Value.ref A54) (C := "CommitLedgerModel") (T := F_Mo) (N := 35) hx hb hts i_Mo hown hK hP 46 f_46 rfl 15 (by decide) (hts _ kf_Mo_40) (fun _ h9 => h9) rfl d_Mo_open_74 ?_
              refine lv_iconst (v := 0) hx hb d_Mo_open_77 (by decide) ?_
              refine va_put (D := D) (ci := 9) (v := Value.int 0) (ty := .int) (C := "CommitLedgerModel$Version") (T := F_Ve) (N := 11) hx hb hts i_Ve t_Ve t_Ve_ok n_Ve hown hK hP hD hS 54 f_54 rfl 7 (by decide) (hts _ kf_Mo_122) (fun _ h9 => h9) rfl (by decide +kernel) rfl rfl (Nat.le_of_ble_eq_true rfl) d_Mo_open_78 (fun H locs hP9 hD9 hS9 => ?_)
              obtain ⟨ws33, e_ws33⟩ : ∃ x : va_W, x = ws.set 54 ((A54, Sum.inr (9, [Value.ref A55, Value.ref A56, Value.ref A57, Value.ref A58, Value.ref A59, Value.ref A60, Value.ref A61, Value.int 0, Value.int 0, Value.int 0, Value.int 0])) : Nat × va_E) := ⟨_, rfl⟩
              replace hP : va_P D classes ws33 H := by rw [e_ws33]; exact hP9
              replace hD : va_D A ws33 := by rw [e_ws33]; exact hD9
              replace hS := hS9
              clear hP9 hD9 hS9
              have f_54_ws33 : ws33[54]? = some ((A54, Sum.inr (9, [Value.ref A55, Value.ref A56, Value.ref A57, Value.ref A58, Value.ref A59, Value.ref A60, Value.ref A61, Value.int 0, Value.int 0, Value.int 0, Value.int 0])) : Nat × va_E) := by rw [e_ws33]; exact gs_self f_54
              replace hU : gx_g ws ws33 0 [46, 54] := by rw [e_ws33]; exact hU.put (Or.inl (by simp))
              refine lv_aload_n hx hb d_Mo_open_81 rfl (lv_at hl 0 rfl) ?_
              have f_46_ws33 : ws33[46]? = some ((A46, Sum.inr (8, [Value.int 0, Value.int 0, Value.ref A47, Value.ref A48, Value.ref A49, Value.int 0, Value.ref A50, Value.ref A51, Value.ref A52, Value.ref A53, Value.int 0, Value.int 0, Value.int 0, Value.int (-1), Value.int 0, Value.ref A54, Value.ref A62, Value.ref A70, Value.int 0, Value.int 0, Value.int 0, Value.ref A78, Value.ref A79, Value.int 0, Value.int 16, Value.int 4, u0, Value.ref A80, Value.ref A81, Value.ref A82, Value.int 0, Value.ref A83, Value.int 0, Value.int 0, Value.int 0])) : Nat × va_E) := by rw [e_ws33]; exact gs_ne (by decide) f_46
              clear f_46
              refine va_get (D := D) (ci := 8) (v := Value.ref A54) (C := "CommitLedgerModel") (T := F_Mo) (N := 35) hx hb hts i_Mo hown hK hP 46 f_46_ws33 rfl 15 (by decide) (hts _ kf_Mo_40) (fun _ h9 => h9) rfl d_Mo_open_82 ?_
              refine lv_iconst (v := 0) hx hb d_Mo_open_85 (by decide) ?_
              refine va_put (D := D) (ci := 9) (v := Value.int 0) (ty := .int) (C := "CommitLedgerModel$Version") (T := F_Ve) (N := 11) hx hb hts i_Ve t_Ve t_Ve_ok n_Ve hown hK hP hD hS 54 f_54_ws33 rfl 8 (by decide) (hts _ kf_Mo_159) (fun _ h9 => h9) rfl (by decide +kernel) rfl rfl (Nat.le_of_ble_eq_true rfl) d_Mo_open_86 (fun H locs hP9 hD9 hS9 => ?_)
              obtain ⟨ws34, e_ws34⟩ : ∃ x : va_W, x = ws33.set 54 ((A54, Sum.inr (9, [Value.ref A55, Value.ref A56, Value.ref A57, Value.ref A58, Value.ref A59, Value.ref A60, Value.ref A61, Value.int 0, Value.int 0, Value.int 0, Value.int 0])) : Nat × va_E) := ⟨_, rfl⟩
              replace hP : va_P D classes ws34 H := by rw [e_ws34]; exact hP9
              replace hD : va_D A ws34 := by rw [e_ws34]; exact hD9
              replace hS := hS9
              clear hP9 hD9 hS9
              have f_54_ws34 : ws34[54]? = some ((A54, Sum.inr (9, [Value.ref A55, Value.ref A56, Value.ref A57, Value.ref A58, Value.ref A59, Value.ref A60, Value.ref A61, Value.int 0, Value.int 0, Value.int 0, Value.int 0])) : Nat × va_E) := by rw [e_ws34]; exact gs_self f_54_ws33
              replace hU : gx_g ws ws34 0 [46, 54] := by rw [e_ws34]; exact hU.put (Or.inl (by simp))
              refine lv_iload_n hx hb d_Mo_open_89 rfl (lv_at hl 1 rfl) ?_
              refine lv_if_ne (tgt := 111) hx hb d_Mo_open_90 (by decide) (fun c9 => absurd c36_13 c9) (fun _ => ?_)
              refine lv_aload_n hx hb d_Mo_open_93 rfl (lv_at hl 0 rfl) ?_
              have f_46_ws34 : ws34[46]? = some ((A46, Sum.inr (8, [Value.int 0, Value.int 0, Value.ref A47, Value.ref A48, Value.ref A49, Value.int 0, Value.ref A50, Value.ref A51, Value.ref A52, Value.ref A53, Value.int 0, Value.int 0, Value.int 0, Value.int (-1), Value.int 0, Value.ref A54, Value.ref A62, Value.ref A70, Value.int 0, Value.int 0, Value.int 0, Value.ref A78, Value.ref A79, Value.int 0, Value.int 16, Value.int 4, u0, Value.ref A80, Value.ref A81, Value.ref A82, Value.int 0, Value.ref A83, Value.int 0, Value.int 0, Value.int 0])) : Nat × va_E) := by rw [e_ws34]; exact gs_ne (by decide) f_46_ws33
              clear f_46_ws33
              refine va_get (D := D) (ci := 8) (v := Value.int 0) (C := "CommitLedgerModel") (T := F_Mo) (N := 35) hx hb hts i_Mo hown hK hP 46 f_46_ws34 rfl 20 (by decide) (hts _ kf_Mo_135) (fun _ h9 => h9) rfl d_Mo_open_94 ?_
              refine lv_if_le (tgt := 111) hx hb d_Mo_open_97 (by decide) (fun _ => ?_) (fun c9 => absurd (by decide) c9)
              refine lv_iconst (v := 0) hx hb d_Mo_open_111 (by decide) ?_
              refine lv_istore_n (lv' := [(2, Value.int 0), (0, Value.ref A46), (1, Value.int p0)]) hx hb d_Mo_open_112 rfl hl (by decide) rfl (fun ls hl => ?_)
              refine lv_iload_n hx hb d_Mo_open_113 rfl (lv_at hl 0 rfl) ?_
              refine lv_aload_n hx hb d_Mo_open_114 rfl (lv_at hl 1 rfl) ?_
              refine va_get (D := D) (ci := 8) (v := Value.ref A54) (C := "CommitLedgerModel") (T := F_Mo) (N := 35) hx hb hts i_Mo hown hK hP 46 f_46_ws34 rfl 15 (by decide) (hts _ kf_Mo_40) (fun _ h9 => h9) rfl d_Mo_open_115 ?_
              refine va_get (D := D) (ci := 9) (v := Value.int 0) (C := "CommitLedgerModel$Version") (T := F_Ve) (N := 11) hx hb hts i_Ve hown hK hP 54 f_54_ws34 rfl 7 (by decide) (hts _ kf_Mo_122) (fun _ h9 => h9) rfl d_Mo_open_118 ?_
              refine lv_icmp_ge (tgt := 140) hx hb d_Mo_open_121 (by decide) (fun _ => ?_) (fun c9 => absurd (by decide) c9)
              refine lv_aload_n hx hb d_Mo_open_140 rfl (lv_at hl 1 rfl) ?_
              refine va_get (D := D) (ci := 8) (v := Value.ref A54) (C := "CommitLedgerModel") (T := F_Mo) (N := 35) hx hb hts i_Mo hown hK hP 46 f_46_ws34 rfl 15 (by decide) (hts _ kf_Mo_40) (fun _ h9 => h9) rfl d_Mo_open_141 ?_
              refine gx_call (ig := .invokevirtual 169) (c_Ve_tidy_v1 l htr D tys z _ ws34 A54 A55 A56 A57 A58 A59 A60 A61 f_54_ws34) (gx_invV (As := []) (rest := []) hx hb hown hts km_Mo_169 kI_Ve_tidy kV_Ve_tidy kc_Ve_tidy (by decide) (show (parseMethodDescriptor y_Ve_tidy.desc).map (fun d => d.parameters.length) = some 0 by decide +kernel) (gx_recv (ci := 9) hK hP rfl f_54_ws34) rfl rfl d_Mo_open_144) (gx_cw (z := 0) hts kc_Ve_tidy kN_Ve rfl rfl ⟨Nat.le_of_ble_eq_true rfl, Nat.le_of_ble_eq_true rfl⟩) hb hml gx_blind (gx_pre hz hP hK hD hY hS hAz [Value.ref A54]) rfl hl.1 (lv_room (Nat.le_of_ble_eq_true rfl)) d_Mo_open_144 ⟨Nat.le_of_ble_eq_true rfl, Nat.le_of_ble_eq_true rfl⟩ (fun v36 st36 t36 L36 h0_36 hW_36 hQ_36 hL_36 => ?_) (fun v36 st36 t36 L36 h0_36 hW_36 hQ_36 hL_36 => ?_)
              · obtain ⟨ws37, hp, hP9, -, hD9, hS9⟩ := gx_back h0_36 hW_36 hQ_36 hL_36 hD hS hA
                clear hQ_36 h0_36 hL_36 hW_36 hP hD hS
                have hP := hP9
                have hD := hD9
                have hS := hS9
                clear hP9 hD9 hS9
                rcases hp with ⟨hv9, e_ws37⟩
                cases hv9
                rw [e_ws37] at hP hD
                refine W.eq (g2 := F0 m 147 ls []) rfl ?_
                generalize t36.heap = H at hP hS ⊢
                generalize locs ++ L36 = locs at hS ⊢
                refine lv_aload_n hx hb d_Mo_open_147 rfl (lv_at hl 1 rfl) ?_
                refine lv_iconst (v := 1) hx hb d_Mo_open_148 (by decide) ?_
                refine va_put (D := D) (ci := 8) (v := Value.int 1) (ty := .boolean) (C := "CommitLedgerModel") (T := F_Mo) (N := 35) hx hb hts i_Mo t_Mo t_Mo_ok n_Mo hown hK hP hD hS 46 f_46_ws34 rfl 18 (by decide) (hts _ kf_Mo_99) (fun _ h9 => h9) rfl (by decide +kernel) rfl rfl (Nat.le_of_ble_eq_true rfl) d_Mo_open_149 (fun H locs hP9 hD9 hS9 => ?_)
                obtain ⟨ws38, e_ws38⟩ : ∃ x : va_W, x = ws34.set 46 ((A46, Sum.inr (8, [Value.int 0, Value.int 0, Value.ref A47, Value.ref A48, Value.ref A49, Value.int 0, Value.ref A50, Value.ref A51, Value.ref A52, Value.ref A53, Value.int 0, Value.int 0, Value.int 0, Value.int (-1), Value.int 0, Value.ref A54, Value.ref A62, Value.ref A70, Value.int 1, Value.int 0, Value.int 0, Value.ref A78, Value.ref A79, Value.int 0, Value.int 16, Value.int 4, u0, Value.ref A80, Value.ref A81, Value.ref A82, Value.int 0, Value.ref A83, Value.int 0, Value.int 0, Value.int 0])) : Nat × va_E) := ⟨_, rfl⟩
                replace hP : va_P D classes ws38 H := by rw [e_ws38]; exact hP9
                replace hD : va_D A ws38 := by rw [e_ws38]; exact hD9
                replace hS := hS9
                clear hP9 hD9 hS9
                have f_46_ws38 : ws38[46]? = some ((A46, Sum.inr (8, [Value.int 0, Value.int 0, Value.ref A47, Value.ref A48, Value.ref A49, Value.int 0, Value.ref A50, Value.ref A51, Value.ref A52, Value.ref A53, Value.int 0, Value.int 0, Value.int 0, Value.int (-1), Value.int 0, Value.ref A54, Value.ref A62, Value.ref A70, Value.int 1, Value.int 0, Value.int 0, Value.ref A78, Value.ref A79, Value.int 0, Value.int 16, Value.int 4, u0, Value.ref A80, Value.ref A81, Value.ref A82, Value.int 0, Value.ref A83, Value.int 0, Value.int 0, Value.int 0])) : Nat × va_E) := by rw [e_ws38]; exact gs_self f_46_ws34
                replace hU : gx_g ws ws38 0 [46, 54] := by rw [e_ws38]; exact hU.put (Or.inl (by simp))
                refine lv_aload_n hx hb d_Mo_open_152 rfl (lv_at hl 1 rfl) ?_
                refine lv_iconst (v := 0) hx hb d_Mo_open_153 (by decide) ?_
                refine va_put (D := D) (ci := 8) (v := Value.int 0) (ty := .boolean) (C := "CommitLedgerModel") (T := F_Mo) (N := 35) hx hb hts i_Mo t_Mo t_Mo_ok n_Mo hown hK hP hD hS 46 f_46_ws38 rfl 14 (by decide) (hts _ kf_Mo_112) (fun _ h9 => h9) rfl (by decide +kernel) rfl rfl (Nat.le_of_ble_eq_true rfl) d_Mo_open_154 (fun H locs hP9 hD9 hS9 => ?_)
                obtain ⟨ws39, e_ws39⟩ : ∃ x : va_W, x = ws38.set 46 ((A46, Sum.inr (8, [Value.int 0, Value.int 0, Value.ref A47, Value.ref A48, Value.ref A49, Value.int 0, Value.ref A50, Value.ref A51, Value.ref A52, Value.ref A53, Value.int 0, Value.int 0, Value.int 0, Value.int (-1), Value.int 0, Value.ref A54, Value.ref A62, Value.ref A70, Value.int 1, Value.int 0, Value.int 0, Value.ref A78, Value.ref A79, Value.int 0, Value.int 16, Value.int 4, u0, Value.ref A80, Value.ref A81, Value.ref A82, Value.int 0, Value.ref A83, Value.int 0, Value.int 0, Value.int 0])) : Nat × va_E) := ⟨_, rfl⟩
                replace hP : va_P D classes ws39 H := by rw [e_ws39]; exact hP9
                replace hD : va_D A ws39 := by rw [e_ws39]; exact hD9
                replace hS := hS9
                clear hP9 hD9 hS9
                have f_46_ws39 : ws39[46]? = some ((A46, Sum.inr (8, [Value.int 0, Value.int 0, Value.ref A47, Value.ref A48, Value.ref A49, Value.int 0, Value.ref A50, Value.ref A51, Value.ref A52, Value.ref A53, Value.int 0, Value.int 0, Value.int 0, Value.int (-1), Value.int 0, Value.ref A54, Value.ref A62, Value.ref A70, Value.int 1, Value.int 0, Value.int 0, Value.ref A78, Value.ref A79, Value.int 0, Value.int 16, Value.int 4, u0, Value.ref A80, Value.ref A81, Value.ref A82, Value.int 0, Value.ref A83, Value.int 0, Value.int 0, Value.int 0])) : Nat × va_E) := by rw [e_ws39]; exact gs_self f_46_ws38
                replace hU : gx_g ws ws39 0 [46, 54] := by rw [e_ws39]; exact hU.put (Or.inl (by simp))
                refine lv_aload_n hx hb d_Mo_open_157 rfl (lv_at hl 1 rfl) ?_
                refine lv_iconst (v := 0) hx hb d_Mo_open_158 (by decide) ?_
                refine va_put (D := D) (ci := 8) (v := Value.int 0) (ty := .int) (C := "CommitLedgerModel") (T := F_Mo) (N := 35) hx hb hts i_Mo t_Mo t_Mo_ok n_Mo hown hK hP hD hS 46 f_46_ws39 rfl 23 (by decide) (hts _ kf_Mo_172) (fun _ h9 => h9) rfl (by decide +kernel) rfl rfl (Nat.le_of_ble_eq_true rfl) d_Mo_open_159 (fun H locs hP9 hD9 hS9 => ?_)
                obtain ⟨ws40, e_ws40⟩ : ∃ x : va_W, x = ws39.set 46 ((A46, Sum.inr (8, [Value.int 0, Value.int 0, Value.ref A47, Value.ref A48, Value.ref A49, Value.int 0, Value.ref A50, Value.ref A51, Value.ref A52, Value.ref A53, Value.int 0, Value.int 0, Value.int 0, Value.int (-1), Value.int 0, Value.ref A54, Value.ref A62, Value.ref A70, Value.int 1, Value.int 0, Value.int 0, Value.ref A78, Value.ref A79, Value.int 0, Value.int 16, Value.int 4, u0, Value.ref A80, Value.ref A81, Value.ref A82, Value.int 0, Value.ref A83, Value.int 0, Value.int 0, Value.int 0])) : Nat × va_E) := ⟨_, rfl⟩
                replace hP : va_P D classes ws40 H := by rw [e_ws40]; exact hP9
                replace hD : va_D A ws40 := by rw [e_ws40]; exact hD9
                replace hS := hS9
                clear hP9 hD9 hS9
                have f_46_ws40 : ws40[46]? = some ((A46, Sum.inr (8, [Value.int 0, Value.int 0, Value.ref A47, Value.ref A48, Value.ref A49, Value.int 0, Value.ref A50, Value.ref A51, Value.ref A52, Value.ref A53, Value.int 0, Value.int 0, Value.int 0, Value.int (-1), Value.int 0, Value.ref A54, Value.ref A62, Value.ref A70, Value.int 1, Value.int 0, Value.int 0, Value.ref A78, Value.ref A79, Value.int 0, Value.int 16, Value.int 4, u0, Value.ref A80, Value.ref A81, Value.ref A82, Value.int 0, Value.ref A83, Value.int 0, Value.int 0, Value.int 0])) : Nat × va_E) := by rw [e_ws40]; exact gs_self f_46_ws39
                replace hU : gx_g ws ws40 0 [46, 54] := by rw [e_ws40]; exact hU.put (Or.inl (by simp))
                refine lv_aload_n hx hb d_Mo_open_162 rfl (lv_at hl 1 rfl) ?_
                refine lv_iconst (v := 0) hx hb d_Mo_open_163 (by decide) ?_
                refine va_put (D := D) (ci := 8) (v := Value.int 0) (ty := .int) (C := "CommitLedgerModel") (T := F_Mo) (N := 35) hx hb hts i_Mo t_Mo t_Mo_ok n_Mo hown hK hP hD hS 46 f_46_ws40 rfl 30 (by decide) (hts _ kf_Mo_106) (fun _ h9 => h9) rfl (by decide +kernel) rfl rfl (Nat.le_of_ble_eq_true rfl) d_Mo_open_164 (fun H locs hP9 hD9 hS9 => ?_)
                obtain ⟨ws41, e_ws41⟩ : ∃ x : va_W, x = ws40.set 46 ((A46, Sum.inr (8, [Value.int 0, Value.int 0, Value.ref A47, Value.ref A48, Value.ref A49, Value.int 0, Value.ref A50, Value.ref A51, Value.ref A52, Value.ref A53, Value.int 0, Value.int 0, Value.int 0, Value.int (-1), Value.int 0, Value.ref A54, Value.ref A62, Value.ref A70, Value.int 1, Value.int 0, Value.int 0, Value.ref A78, Value.ref A79, Value.int 0, Value.int 16, Value.int 4, u0, Value.ref A80, Value.ref A81, Value.ref A82, Value.int 0, Value.ref A83, Value.int 0, Value.int 0, Value.int 0])) : Nat × va_E) := ⟨_, rfl⟩
                replace hP : va_P D classes ws41 H := by rw [e_ws41]; exact hP9
                replace hD : va_D A ws41 := by rw [e_ws41]; exact hD9
                replace hS := hS9
                clear hP9 hD9 hS9
                have f_46_ws41 : ws41[46]? = some ((A46, Sum.inr (8, [Value.int 0, Value.int 0, Value.ref A47, Value.ref A48, Value.ref A49, Value.int 0, Value.ref A50, Value.ref A51, Value.ref A52, Value.ref A53, Value.int 0, Value.int 0, Value.int 0, Value.int (-1), Value.int 0, Value.ref A54, Value.ref A62, Value.ref A70, Value.int 1, Value.int 0, Value.int 0, Value.ref A78, Value.ref A79, Value.int 0, Value.int 16, Value.int 4, u0, Value.ref A80, Value.ref A81, Value.ref A82, Value.int 0, Value.ref A83, Value.int 0, Value.int 0, Value.int 0])) : Nat × va_E) := by rw [e_ws41]; exact gs_self f_46_ws40
                replace hU : gx_g ws ws41 0 [46, 54] := by rw [e_ws41]; exact hU.put (Or.inl (by simp))
                refine lv_aload_n hx hb d_Mo_open_167 rfl (lv_at hl 1 rfl) ?_
                refine lv_iconst (v := 0) hx hb d_Mo_open_168 (by decide) ?_
                refine va_put (D := D) (ci := 8) (v := Value.int 0) (ty := .boolean) (C := "CommitLedgerModel") (T := F_Mo) (N := 35) hx hb hts i_Mo t_Mo t_Mo_ok n_Mo hown hK hP hD hS 46 f_46_ws41 rfl 19 (by decide) (hts _ kf_Mo_109) (fun _ h9 => h9) rfl (by decide +kernel) rfl rfl (Nat.le_of_ble_eq_true rfl) d_Mo_open_169 (fun H locs hP9 hD9 hS9 => ?_)
                obtain ⟨ws42, e_ws42⟩ : ∃ x : va_W, x = ws41.set 46 ((A46, Sum.inr (8, [Value.int 0, Value.int 0, Value.ref A47, Value.ref A48, Value.ref A49, Value.int 0, Value.ref A50, Value.ref A51, Value.ref A52, Value.ref A53, Value.int 0, Value.int 0, Value.int 0, Value.int (-1), Value.int 0, Value.ref A54, Value.ref A62, Value.ref A70, Value.int 1, Value.int 0, Value.int 0, Value.ref A78, Value.ref A79, Value.int 0, Value.int 16, Value.int 4, u0, Value.ref A80, Value.ref A81, Value.ref A82, Value.int 0, Value.ref A83, Value.int 0, Value.int 0, Value.int 0])) : Nat × va_E) := ⟨_, rfl⟩
                replace hP : va_P D classes ws42 H := by rw [e_ws42]; exact hP9
                replace hD : va_D A ws42 := by rw [e_ws42]; exact hD9
                replace hS := hS9
                clear hP9 hD9 hS9
                have f_46_ws42 : ws42[46]? = some ((A46, Sum.inr (8, [Value.int 0, Value.int 0, Value.ref A47, Value.ref A48, Value.ref A49, Value.int 0, Value.ref A50, Value.ref A51, Value.ref A52, Value.ref A53, Value.int 0, Value.int 0, Value.int 0, Value.int (-1), Value.int 0, Value.ref A54, Value.ref A62, Value.ref A70, Value.int 1, Value.int 0, Value.int 0, Value.ref A78, Value.ref A79, Value.int 0, Value.int 16, Value.int 4, u0, Value.ref A80, Value.ref A81, Value.ref A82, Value.int 0, Value.ref A83, Value.int 0, Value.int 0, Value.int 0])) : Nat × va_E) := by rw [e_ws42]; exact gs_self f_46_ws41
                replace hU : gx_g ws ws42 0 [46, 54] := by rw [e_ws42]; exact hU.put (Or.inl (by simp))
                refine lv_aload_n hx hb d_Mo_open_172 rfl (lv_at hl 1 rfl) ?_
                refine lv_aload_n hx hb d_Mo_open_173 rfl (lv_at hl 1 rfl) ?_
                refine va_get (D := D) (ci := 8) (v := Value.ref A54) (C := "CommitLedgerModel") (T := F_Mo) (N := 35) hx hb hts i_Mo hown hK hP 46 f_46_ws42 rfl 15 (by decide) (hts _ kf_Mo_40) (fun _ h9 => h9) rfl d_Mo_open_174 ?_
                have f_54_ws38 : ws38[54]? = some ((A54, Sum.inr (9, [Value.ref A55, Value.ref A56, Value.ref A57, Value.ref A58, Value.ref A59, Value.ref A60, Value.ref A61, Value.int 0, Value.int 0, Value.int 0, Value.int 0])) : Nat × va_E) := by rw [e_ws38]; exact gs_ne (by decide) f_54_ws34
                clear f_54_ws34
                have f_54_ws39 : ws39[54]? = some ((A54, Sum.inr (9, [Value.ref A55, Value.ref A56, Value.ref A57, Value.ref A58, Value.ref A59, Value.ref A60, Value.ref A61, Value.int 0, Value.int 0, Value.int 0, Value.int 0])) : Nat × va_E) := by rw [e_ws39]; exact gs_ne (by decide) f_54_ws38
                clear f_54_ws38
                have f_54_ws40 : ws40[54]? = some ((A54, Sum.inr (9, [Value.ref A55, Value.ref A56, Value.ref A57, Value.ref A58, Value.ref A59, Value.ref A60, Value.ref A61, Value.int 0, Value.int 0, Value.int 0, Value.int 0])) : Nat × va_E) := by rw [e_ws40]; exact gs_ne (by decide) f_54_ws39
                clear f_54_ws39
                have f_54_ws41 : ws41[54]? = some ((A54, Sum.inr (9, [Value.ref A55, Value.ref A56, Value.ref A57, Value.ref A58, Value.ref A59, Value.ref A60, Value.ref A61, Value.int 0, Value.int 0, Value.int 0, Value.int 0])) : Nat × va_E) := by rw [e_ws41]; exact gs_ne (by decide) f_54_ws40
                clear f_54_ws40
                have f_54_ws42 : ws42[54]? = some ((A54, Sum.inr (9, [Value.ref A55, Value.ref A56, Value.ref A57, Value.ref A58, Value.ref A59, Value.ref A60, Value.ref A61, Value.int 0, Value.int 0, Value.int 0, Value.int 0])) : Nat × va_E) := by rw [e_ws42]; exact gs_ne (by decide) f_54_ws41
                clear f_54_ws41
                refine va_get (D := D) (ci := 9) (v := Value.int 0) (C := "CommitLedgerModel$Version") (T := F_Ve) (N := 11) hx hb hts i_Ve hown hK hP 54 f_54_ws42 rfl 7 (by decide) (hts _ kf_Mo_122) (fun _ h9 => h9) rfl d_Mo_open_177 ?_
                refine lv_bipush (v := 124) hx hb d_Mo_open_180 (by decide) ?_
                have f_84_ws33 : ws33[84]? = some ((A84, Sum.inr (9, [Value.ref A85, Value.ref A86, Value.ref A87, Value.ref A88, Value.ref A89, Value.ref A90, Value.ref A91, Value.int 0, Value.int 0, Value.int 0, Value.int 0])) : Nat × va_E) := by rw [e_ws33]; exact gs_ne (by decide) f_84
                clear f_84
                have f_84_ws34 : ws34[84]? = some ((A84, Sum.inr (9, [Value.ref A85, Value.ref A86, Value.ref A87, Value.ref A88, Value.ref A89, Value.ref A90, Value.ref A91, Value.int 0, Value.int 0, Value.int 0, Value.int 0])) : Nat × va_E) := by rw [e_ws34]; exact gs_ne (by decide) f_84_ws33
                clear f_84_ws33
                have f_84_ws38 : ws38[84]? = some ((A84, Sum.inr (9, [Value.ref A85, Value.ref A86, Value.ref A87, Value.ref A88, Value.ref A89, Value.ref A90, Value.ref A91, Value.int 0, Value.int 0, Value.int 0, Value.int 0])) : Nat × va_E) := by rw [e_ws38]; exact gs_ne (by decide) f_84_ws34
                clear f_84_ws34
                have f_84_ws39 : ws39[84]? = some ((A84, Sum.inr (9, [Value.ref A85, Value.ref A86, Value.ref A87, Value.ref A88, Value.ref A89, Value.ref A90, Value.ref A91, Value.int 0, Value.int 0, Value.int 0, Value.int 0])) : Nat × va_E) := by rw [e_ws39]; exact gs_ne (by decide) f_84_ws38
                clear f_84_ws38
                have f_84_ws40 : ws40[84]? = some ((A84, Sum.inr (9, [Value.ref A85, Value.ref A86, Value.ref A87, Value.ref A88, Value.ref A89, Value.ref A90, Value.ref A91, Value.int 0, Value.int 0, Value.int 0, Value.int 0])) : Nat × va_E) := by rw [e_ws40]; exact gs_ne (by decide) f_84_ws39
                clear f_84_ws39
                have f_84_ws41 : ws41[84]? = some ((A84, Sum.inr (9, [Value.ref A85, Value.ref A86, Value.ref A87, Value.ref A88, Value.ref A89, Value.ref A90, Value.ref A91, Value.int 0, Value.int 0, Value.int 0, Value.int 0])) : Nat × va_E) := by rw [e_ws41]; exact gs_ne (by decide) f_84_ws40
                clear f_84_ws40
                have f_84_ws42 : ws42[84]? = some ((A84, Sum.inr (9, [Value.ref A85, Value.ref A86, Value.ref A87, Value.ref A88, Value.ref A89, Value.ref A90, Value.ref A91, Value.int 0, Value.int 0, Value.int 0, Value.int 0])) : Nat × va_E) := by rw [e_ws42]; exact gs_ne (by decide) f_84_ws41
                clear f_84_ws41
                have f_92_ws33 : ws33[92]? = some ((A92, Sum.inr (9, [Value.ref A93, Value.ref A94, Value.ref A95, Value.ref A96, Value.ref A97, Value.ref A98, Value.ref A99, Value.int 0, Value.int 0, Value.int 0, Value.int 0])) : Nat × va_E) := by rw [e_ws33]; exact gs_ne (by decide) f_92
                clear f_92
                have f_92_ws34 : ws34[92]? = some ((A92, Sum.inr (9, [Value.ref A93, Value.ref A94, Value.ref A95, Value.ref A96, Value.ref A97, Value.ref A98, Value.ref A99, Value.int 0, Value.int 0, Value.int 0, Value.int 0])) : Nat × va_E) := by rw [e_ws34]; exact gs_ne (by decide) f_92_ws33
                clear f_92_ws33
                have f_92_ws38 : ws38[92]? = some ((A92, Sum.inr (9, [Value.ref A93, Value.ref A94, Value.ref A95, Value.ref A96, Value.ref A97, Value.ref A98, Value.ref A99, Value.int 0, Value.int 0, Value.int 0, Value.int 0])) : Nat × va_E) := by rw [e_ws38]; exact gs_ne (by decide) f_92_ws34
                clear f_92_ws34
                have f_92_ws39 : ws39[92]? = some ((A92, Sum.inr (9, [Value.ref A93, Value.ref A94, Value.ref A95, Value.ref A96, Value.ref A97, Value.ref A98, Value.ref A99, Value.int 0, Value.int 0, Value.int 0, Value.int 0])) : Nat × va_E) := by rw [e_ws39]; exact gs_ne (by decide) f_92_ws38
                clear f_92_ws38
                have f_92_ws40 : ws40[92]? = some ((A92, Sum.inr (9, [Value.ref A93, Value.ref A94, Value.ref A95, Value.ref A96, Value.ref A97, Value.ref A98, Value.ref A99, Value.int 0, Value.int 0, Value.int 0, Value.int 0])) : Nat × va_E) := by rw [e_ws40]; exact gs_ne (by decide) f_92_ws39
                clear f_92_ws39
                have f_92_ws41 : ws41[92]? = some ((A92, Sum.inr (9, [Value.ref A93, Value.ref A94, Value.ref A95, Value.ref A96, Value.ref A97, Value.ref A98, Value.ref A99, Value.int 0, Value.int 0, Value.int 0, Value.int 0])) : Nat × va_E) := by rw [e_ws41]; exact gs_ne (by decide) f_92_ws40
                clear f_92_ws40
                have f_92_ws42 : ws42[92]? = some ((A92, Sum.inr (9, [Value.ref A93, Value.ref A94, Value.ref A95, Value.ref A96, Value.ref A97, Value.ref A98, Value.ref A99, Value.int 0, Value.int 0, Value.int 0, Value.int 0])) : Nat × va_E) := by rw [e_ws42]; exact gs_ne (by decide) f_92_ws41
                clear f_92_ws41
                have f_100_ws33 : ws33[100]? = some ((A100, Sum.inr (9, [Value.ref A101, Value.ref A102, Value.ref A103, Value.ref A104, Value.ref A105, Value.ref A106, Value.ref A107, Value.int 0, Value.int 0, Value.int 0, Value.int 0])) : Nat × va_E) := by rw [e_ws33]; exact gs_ne (by decide) f_100
                clear f_100
                have f_100_ws34 : ws34[100]? = some ((A100, Sum.inr (9, [Value.ref A101, Value.ref A102, Value.ref A103, Value.ref A104, Value.ref A105, Value.ref A106, Value.ref A107, Value.int 0, Value.int 0, Value.int 0, Value.int 0])) : Nat × va_E) := by rw [e_ws34]; exact gs_ne (by decide) f_100_ws33
                clear f_100_ws33
                have f_100_ws38 : ws38[100]? = some ((A100, Sum.inr (9, [Value.ref A101, Value.ref A102, Value.ref A103, Value.ref A104, Value.ref A105, Value.ref A106, Value.ref A107, Value.int 0, Value.int 0, Value.int 0, Value.int 0])) : Nat × va_E) := by rw [e_ws38]; exact gs_ne (by decide) f_100_ws34
                clear f_100_ws34
                have f_100_ws39 : ws39[100]? = some ((A100, Sum.inr (9, [Value.ref A101, Value.ref A102, Value.ref A103, Value.ref A104, Value.ref A105, Value.ref A106, Value.ref A107, Value.int 0, Value.int 0, Value.int 0, Value.int 0])) : Nat × va_E) := by rw [e_ws39]; exact gs_ne (by decide) f_100_ws38
                clear f_100_ws38
                have f_100_ws40 : ws40[100]? = some ((A100, Sum.inr (9, [Value.ref A101, Value.ref A102, Value.ref A103, Value.ref A104, Value.ref A105, Value.ref A106, Value.ref A107, Value.int 0, Value.int 0, Value.int 0, Value.int 0])) : Nat × va_E) := by rw [e_ws40]; exact gs_ne (by decide) f_100_ws39
                clear f_100_ws39
                have f_100_ws41 : ws41[100]? = some ((A100, Sum.inr (9, [Value.ref A101, Value.ref A102, Value.ref A103, Value.ref A104, Value.ref A105, Value.ref A106, Value.ref A107, Value.int 0, Value.int 0, Value.int 0, Value.int 0])) : Nat × va_E) := by rw [e_ws41]; exact gs_ne (by decide) f_100_ws40
                clear f_100_ws40
                have f_100_ws42 : ws42[100]? = some ((A100, Sum.inr (9, [Value.ref A101, Value.ref A102, Value.ref A103, Value.ref A104, Value.ref A105, Value.ref A106, Value.ref A107, Value.int 0, Value.int 0, Value.int 0, Value.int 0])) : Nat × va_E) := by rw [e_ws42]; exact gs_ne (by decide) f_100_ws41
                clear f_100_ws41
                have f_108_ws33 : ws33[108]? = some ((A108, Sum.inr (9, [Value.ref A109, Value.ref A110, Value.ref A111, Value.ref A112, Value.ref A113, Value.ref A114, Value.ref A115, Value.int 0, Value.int 0, Value.int 0, Value.int 0])) : Nat × va_E) := by rw [e_ws33]; exact gs_ne (by decide) f_108
                clear f_108
                have f_108_ws34 : ws34[108]? = some ((A108, Sum.inr (9, [Value.ref A109, Value.ref A110, Value.ref A111, Value.ref A112, Value.ref A113, Value.ref A114, Value.ref A115, Value.int 0, Value.int 0, Value.int 0, Value.int 0])) : Nat × va_E) := by rw [e_ws34]; exact gs_ne (by decide) f_108_ws33
                clear f_108_ws33
                have f_108_ws38 : ws38[108]? = some ((A108, Sum.inr (9, [Value.ref A109, Value.ref A110, Value.ref A111, Value.ref A112, Value.ref A113, Value.ref A114, Value.ref A115, Value.int 0, Value.int 0, Value.int 0, Value.int 0])) : Nat × va_E) := by rw [e_ws38]; exact gs_ne (by decide) f_108_ws34
                clear f_108_ws34
                have f_108_ws39 : ws39[108]? = some ((A108, Sum.inr (9, [Value.ref A109, Value.ref A110, Value.ref A111, Value.ref A112, Value.ref A113, Value.ref A114, Value.ref A115, Value.int 0, Value.int 0, Value.int 0, Value.int 0])) : Nat × va_E) := by rw [e_ws39]; exact gs_ne (by decide) f_108_ws38
                clear f_108_ws38
                have f_108_ws40 : ws40[108]? = some ((A108, Sum.inr (9, [Value.ref A109, Value.ref A110, Value.ref A111, Value.ref A112, Value.ref A113, Value.ref A114, Value.ref A115, Value.int 0, Value.int 0, Value.int 0, Value.int 0])) : Nat × va_E) := by rw [e_ws40]; exact gs_ne (by decide) f_108_ws39
                clear f_108_ws39
                have f_108_ws41 : ws41[108]? = some ((A108, Sum.inr (9, [Value.ref A109, Value.ref A110, Value.ref A111, Value.ref A112, Value.ref A113, Value.ref A114, Value.ref A115, Value.int 0, Value.int 0, Value.int 0, Value.int 0])) : Nat × va_E) := by rw [e_ws41]; exact gs_ne (by decide) f_108_ws40
                clear f_108_ws40
                have f_108_ws42 : ws42[108]? = some ((A108, Sum.inr (9, [Value.ref A109, Value.ref A110, Value.ref A111, Value.ref A112, Value.ref A113, Value.ref A114, Value.ref A115, Value.int 0, Value.int 0, Value.int 0, Value.int 0])) : Nat × va_E) := by rw [e_ws42]; exact gs_ne (by decide) f_108_ws41
                clear f_108_ws41
                have f_83_ws33 : ws33[83]? = some ((A83, Sum.inl (cV, 4, Sum.inr (Sum.inr (Sum.inr (Sum.inr (va_up (va_up (va_up (va_up (fun _ => none) 0 (some A84)) 1 (some A92)) 2 (some A100)) 3 (some A108))))))) : Nat × va_E) := by rw [e_ws33]; exact gs_ne (by decide) f_83
                clear f_83
                have f_83_ws34 : ws34[83]? = some ((A83, Sum.inl (cV, 4, Sum.inr (Sum.inr (Sum.inr (Sum.inr (va_up (va_up (va_up (va_up (fun _ => none) 0 (some A84)) 1 (some A92)) 2 (some A100)) 3 (some A108))))))) : Nat × va_E) := by rw [e_ws34]; exact gs_ne (by decide) f_83_ws33
                clear f_83_ws33
                have f_83_ws38 : ws38[83]? = some ((A83, Sum.inl (cV, 4, Sum.inr (Sum.inr (Sum.inr (Sum.inr (va_up (va_up (va_up (va_up (fun _ => none) 0 (some A84)) 1 (some A92)) 2 (some A100)) 3 (some A108))))))) : Nat × va_E) := by rw [e_ws38]; exact gs_ne (by decide) f_83_ws34
                clear f_83_ws34
                have f_83_ws39 : ws39[83]? = some ((A83, Sum.inl (cV, 4, Sum.inr (Sum.inr (Sum.inr (Sum.inr (va_up (va_up (va_up (va_up (fun _ => none) 0 (some A84)) 1 (some A92)) 2 (some A100)) 3 (some A108))))))) : Nat × va_E) := by rw [e_ws39]; exact gs_ne (by decide) f_83_ws38
                clear f_83_ws38
                have f_83_ws40 : ws40[83]? = some ((A83, Sum.inl (cV, 4, Sum.inr (Sum.inr (Sum.inr (Sum.inr (va_up (va_up (va_up (va_up (fun _ => none) 0 (some A84)) 1 (some A92)) 2 (some A100)) 3 (some A108))))))) : Nat × va_E) := by rw [e_ws40]; exact gs_ne (by decide) f_83_ws39
                clear f_83_ws39
                have f_83_ws41 : ws41[83]? = some ((A83, Sum.inl (cV, 4, Sum.inr (Sum.inr (Sum.inr (Sum.inr (va_up (va_up (va_up (va_up (fun _ => none) 0 (some A84)) 1 (some A92)) 2 (some A100)) 3 (some A108))))))) : Nat × va_E) := by rw [e_ws41]; exact gs_ne (by decide) f_83_ws40
                clear f_83_ws40
                have f_83_ws42 : ws42[83]? = some ((A83, Sum.inl (cV, 4, Sum.inr (Sum.inr (Sum.inr (Sum.inr (va_up (va_up (va_up (va_up (fun _ => none) 0 (some A84)) 1 (some A92)) 2 (some A100)) 3 (some A108))))))) : Nat × va_E) := by rw [e_ws42]; exact gs_ne (by decide) f_83_ws41
                clear f_83_ws41
                refine gx_call (ig := .invokevirtual 175) (c_Mo_finished_v1 l htr D tys z _ ws42 cV A46 A47 A48 A49 A50 A51 A52 A53 A54 A62 A70 A78 A79 (u0) A80 A81 A82 A83 A55 A56 A57 A58 A59 A60 A61 A84 A85 A86 A87 A88 A89 A90 A91 A92 A93 A94 A95 A96 A97 A98 A99 A100 A101 A102 A103 A104 A105 A106 A107 A108 A109 A110 A111 A112 A113 A114 A115 f_46_ws42 f_54_ws42 f_84_ws42 f_92_ws42 f_100_ws42 f_108_ws42 f_83_ws42 ht5) (gx_invV (As := [Value.int 0, Value.int 124]) (rest := []) hx hb hown hts km_Mo_175 kI_Mo_finished kV_Mo_finished kc_Mo_finished (by decide) (show (parseMethodDescriptor y_Mo_finished.desc).map (fun d => d.parameters.length) = some 2 by decide +kernel) (gx_recv (ci := 8) hK hP rfl f_46_ws42) rfl rfl d_Mo_open_182) (gx_cw (z := 0) hts kc_Mo_finished kN_Mo rfl rfl ⟨Nat.le_of_ble_eq_true rfl, Nat.le_of_ble_eq_true rfl⟩) hb hml gx_blind (gx_pre hz hP hK hD hY hS hAz [Value.ref A46, Value.int 0, Value.int 124]) rfl hl.1 (lv_room (Nat.le_of_ble_eq_true rfl)) d_Mo_open_182 ⟨Nat.le_of_ble_eq_true rfl, Nat.le_of_ble_eq_true rfl⟩ (fun v43 st43 t43 L43 h0_43 hW_43 hQ_43 hL_43 => ?_) (fun v43 st43 t43 L43 h0_43 hW_43 hQ_43 hL_43 => ?_)
                · obtain ⟨ws44, hp, hP9, -, hD9, hS9⟩ := gx_back h0_43 hW_43 hQ_43 hL_43 hD hS hA
                  clear hQ_43 h0_43 hL_43 hW_43 hP hD hS
                  have hP := hP9
                  have hD := hD9
                  have hS := hS9
                  clear hP9 hD9 hS9
                  rcases hp with ⟨hv9, e_ws44, f_46_ws44⟩
                  cases hv9
                  have f_46_ws44 : ws44[46]? = some ((A46, Sum.inr (8, [Value.int 0, Value.int 0, Value.ref A47, Value.ref A48, Value.ref A49, Value.int 0, Value.ref A50, Value.ref A51, Value.ref A52, Value.ref A53, Value.int 0, Value.int 0, Value.int 0, Value.int (-1), Value.int 0, Value.ref A54, Value.ref A62, Value.ref A70, Value.int 1, Value.int 0, Value.int 0, Value.ref A78, Value.ref A79, Value.int 0, Value.int 16, Value.int 4, u0, Value.ref A80, Value.ref A81, Value.ref A82, Value.int 0, Value.ref A83, Value.int 0, Value.int 0, Value.int 0])) : Nat × va_E) := f_46_ws44
                  replace hU : gx_g ws ws44 0 [46, 54] := hU.call e_ws44 (by simp; first | done | omega)
                  refine W.eq (g2 := F0 m 185 ls [Value.int 0]) rfl ?_
                  generalize t43.heap = H at hP hS ⊢
                  generalize locs ++ L43 = locs at hS ⊢
                  have f_54_ws44 : ws44[54]? = some ((A54, Sum.inr (9, [Value.ref A55, Value.ref A56, Value.ref A57, Value.ref A58, Value.ref A59, Value.ref A60, Value.ref A61, Value.int 0, Value.int 0, Value.int 0, Value.int 0])) : Nat × va_E) := e_ws44.at (by first | decide | (simp; done) | (simp; omega)) f_54_ws42
                  clear f_54_ws42
                  exact gx_ret (W.iret (v := 0) hx hb hr (gx_post hP hK hD hS (by rw [← hPQ]; exact Or.inr (Or.inr (Or.inl ⟨rfl, hU, f_46_ws44, f_54_ws44, c2_1, c7_8, c36_13⟩)))) hS.2.2 d_Mo_open_185)
                · obtain ⟨E9, ws45, ce, hp, hce, hP9, -, hD9, hS9⟩ := gx_backT h0_43 hW_43 hQ_43 hL_43 hD hS hA
                  clear hQ_43 h0_43 hL_43 hW_43 hP hD hS
                  have hP := hP9
                  have hD := hD9
                  have hS := hS9
                  clear hP9 hD9 hS9
                  rcases hp with ⟨hv9, e_ws45, f_46_ws45⟩
                  cases hv9
              · obtain ⟨E9, ws46, ce, hp, hce, hP9, -, hD9, hS9⟩ := gx_backT h0_36 hW_36 hQ_36 hL_36 hD hS hA
                clear hQ_36 h0_36 hL_36 hW_36 hP hD hS
                have hP := hP9
                have hD := hD9
                have hS := hS9
                clear hP9 hD9 hS9
                rcases hp with ⟨hv9, e_ws46⟩
                cases hv9
            · obtain ⟨E9, ws47, ce, hp, hce, hP9, -, hD9, hS9⟩ := gx_backT h0_31 hW_31 hQ_31 hL_31 hD hS hA
              clear hQ_31 h0_31 hL_31 hW_31 hP hD hS
              have hP := hP9
              have hD := hD9
              have hS := hS9
              clear hP9 hD9 hS9
              rcases hp with ⟨hv9, e_ws47⟩
              cases hv9
        · obtain ⟨E9, ws48, ce, hp, hce, hP9, -, hD9, hS9⟩ := gx_backT h0_11 hW_11 hQ_11 hL_11 hD hS hA
          clear hQ_11 h0_11 hL_11 hW_11 hP hD hS
          have hP := hP9
          have hD := hD9
          have hS := hS9
          clear hP9 hD9 hS9
          rcases hp with ⟨hv9, e_ws48⟩
          cases hv9
      · obtain ⟨E9, ws49, ce, hp, hce, hP9, -, hD9, hS9⟩ := gx_backT h0_9 hW_9 hQ_9 hL_9 hD hS hA
        clear hQ_9 h0_9 hL_9 hW_9 hP hD hS
        have hP := hP9
        have hD := hD9
        have hS := hS9
        clear hP9 hD9 hS9
        rcases hp with ⟨hv9, e_ws49⟩
        cases hv9
    · refine lv_iconst (v := 1) hx hb d_Mo_open_10 (by decide) ?_
      refine lv_goto (tgt := 15) hx hb d_Mo_open_11 (by decide) ?_
      refine lv_iconst (v := 1) hx hb d_Mo_open_15 (by decide) ?_
      refine gx_call (ig := .invokevirtual 152) (c_Mo_wrong_v1 l htr D tys z _ ws A46 A47 A48 A49 A50 A51 A52 A53 A54 A62 A70 A78 A79 (u0) A80 A81 A82 A83 f_46) (gx_invV (As := [Value.int 1, Value.int 1]) (rest := []) hx hb hown hts km_Mo_152 kI_Mo_wrong kV_Mo_wrong kc_Mo_wrong (by decide) (show (parseMethodDescriptor y_Mo_wrong.desc).map (fun d => d.parameters.length) = some 2 by decide +kernel) (gx_recv (ci := 8) hK hP rfl f_46) rfl rfl d_Mo_open_16) (gx_cw (z := 0) hts kc_Mo_wrong kN_Mo rfl rfl ⟨Nat.le_of_ble_eq_true rfl, Nat.le_of_ble_eq_true rfl⟩) hb hml gx_blind (gx_pre hz hP hK hD hY hS hAz [Value.ref A46, Value.int 1, Value.int 1]) rfl hl.1 (lv_room (Nat.le_of_ble_eq_true rfl)) d_Mo_open_16 ⟨Nat.le_of_ble_eq_true rfl, Nat.le_of_ble_eq_true rfl⟩ (fun v50 st50 t50 L50 h0_50 hW_50 hQ_50 hL_50 => ?_) (fun v50 st50 t50 L50 h0_50 hW_50 hQ_50 hL_50 => ?_)
      · obtain ⟨ws51, hp, hP9, -, hD9, hS9⟩ := gx_back h0_50 hW_50 hQ_50 hL_50 hD hS hA
        clear hQ_50 h0_50 hL_50 hW_50 hP hD hS
        have hP := hP9
        have hD := hD9
        have hS := hS9
        clear hP9 hD9 hS9
        rcases hp with ⟨hv9, e_ws51, f_46_ws51⟩
        cases hv9
        have f_46_ws51 : ws51[46]? = some ((A46, Sum.inr (8, [Value.int 1, Value.int 0, Value.ref A47, Value.ref A48, Value.ref A49, Value.int 0, Value.ref A50, Value.ref A51, Value.ref A52, Value.ref A53, Value.int 0, Value.int 0, Value.int 0, Value.int (-1), Value.int 0, Value.ref A54, Value.ref A62, Value.ref A70, Value.int 0, Value.int 0, Value.int 0, Value.ref A78, Value.ref A79, Value.int 0, Value.int 16, Value.int 4, u0, Value.ref A80, Value.ref A81, Value.ref A82, Value.int 0, Value.ref A83, Value.int 0, Value.int 0, Value.int 0])) : Nat × va_E) := f_46_ws51
        replace hU : gx_g ws ws51 0 [46, 54] := hU.call e_ws51 (by simp; first | done | omega)
        refine W.eq (g2 := F0 m 19 ls [Value.int 1]) rfl ?_
        generalize t50.heap = H at hP hS ⊢
        generalize [] ++ L50 = locs at hS ⊢
        refine lv_if_ne (tgt := 65) hx hb d_Mo_open_19 (by decide) (fun _ => ?_) (fun c9 => absurd c9 (by decide))
        refine lv_aload_n hx hb d_Mo_open_65 rfl (lv_at hl 0 rfl) ?_
        refine lv_iconst (v := 0) hx hb d_Mo_open_66 (by decide) ?_
        refine lv_bipush (v := 124) hx hb d_Mo_open_67 (by decide) ?_
        refine gx_call (ig := .invokevirtual 148) (c_Mo_done_v5 l htr D tys z _ ws51 A46 A47 A48 A49 A50 A51 A52 A53 A54 A62 A70 A78 A79 (u0) A80 A81 A82 A83 f_46_ws51) (gx_invV (As := [Value.int 0, Value.int 124]) (rest := []) hx hb hown hts km_Mo_148 kI_Mo_done kV_Mo_done kc_Mo_done (by decide) (show (parseMethodDescriptor y_Mo_done.desc).map (fun d => d.parameters.length) = some 2 by decide +kernel) (gx_recv (ci := 8) hK hP rfl f_46_ws51) rfl rfl d_Mo_open_69) (gx_cw (z := 0) hts kc_Mo_done kN_Mo rfl rfl ⟨Nat.le_of_ble_eq_true rfl, Nat.le_of_ble_eq_true rfl⟩) hb hml gx_blind (gx_pre hz hP hK hD hY hS hAz [Value.ref A46, Value.int 0, Value.int 124]) rfl hl.1 (lv_room (Nat.le_of_ble_eq_true rfl)) d_Mo_open_69 ⟨Nat.le_of_ble_eq_true rfl, Nat.le_of_ble_eq_true rfl⟩ (fun v52 st52 t52 L52 h0_52 hW_52 hQ_52 hL_52 => ?_) (fun v52 st52 t52 L52 h0_52 hW_52 hQ_52 hL_52 => ?_)
        · obtain ⟨ws53, hp, hP9, -, hD9, hS9⟩ := gx_back h0_52 hW_52 hQ_52 hL_52 hD hS hA
          clear hQ_52 h0_52 hL_52 hW_52 hP hD hS
          have hP := hP9
          have hD := hD9
          have hS := hS9
          clear hP9 hD9 hS9
          rcases hp with ⟨hv9, e_ws53, f_46_ws53⟩
          cases hv9
          have f_46_ws53 : ws53[46]? = some ((A46, Sum.inr (8, [Value.int 0, Value.int 1, Value.ref A47, Value.ref A48, Value.ref A49, Value.int 0, Value.ref A50, Value.ref A51, Value.ref A52, Value.ref A53, Value.int 0, Value.int 0, Value.int 0, Value.int (-1), Value.int 0, Value.ref A54, Value.ref A62, Value.ref A70, Value.int 0, Value.int 0, Value.int 0, Value.ref A78, Value.ref A79, Value.int 0, Value.int 16, Value.int 4, u0, Value.ref A80, Value.ref A81, Value.ref A82, Value.int 0, Value.ref A83, Value.int 0, Value.int 0, Value.int 0])) : Nat × va_E) := f_46_ws53
          replace hU : gx_g ws ws53 0 [46, 54] := hU.call e_ws53 (by simp; first | done | omega)
          refine W.eq (g2 := F0 m 72 ls [Value.int 0]) rfl ?_
          generalize t52.heap = H at hP hS ⊢
          generalize locs ++ L52 = locs at hS ⊢
          have f_54_ws51 : ws51[54]? = some ((A54, Sum.inr (9, [Value.ref A55, Value.ref A56, Value.ref A57, Value.ref A58, Value.ref A59, Value.ref A60, Value.ref A61, Value.int 0, Value.int 0, Value.int 0, Value.int 0])) : Nat × va_E) := e_ws51.at (by first | decide | (simp; done) | (simp; omega)) f_54
          clear f_54
          have f_54_ws53 : ws53[54]? = some ((A54, Sum.inr (9, [Value.ref A55, Value.ref A56, Value.ref A57, Value.ref A58, Value.ref A59, Value.ref A60, Value.ref A61, Value.int 0, Value.int 0, Value.int 0, Value.int 0])) : Nat × va_E) := e_ws53.at (by first | decide | (simp; done) | (simp; omega)) f_54_ws51
          clear f_54_ws51
          exact gx_ret (W.iret (v := 0) hx hb hr (gx_post hP hK hD hS (by rw [← hPQ]; exact Or.inr (Or.inr (Or.inr (⟨rfl, hU, f_46_ws53, f_54_ws53, c2_1, c7_8⟩))))) hS.2.2 d_Mo_open_72)
        · obtain ⟨E9, ws54, ce, hp, hce, hP9, -, hD9, hS9⟩ := gx_backT h0_52 hW_52 hQ_52 hL_52 hD hS hA
          clear hQ_52 h0_52 hL_52 hW_52 hP hD hS
          have hP := hP9
          have hD := hD9
          have hS := hS9
          clear hP9 hD9 hS9
          rcases hp with ⟨hv9, e_ws54, f_46_ws54⟩
          cases hv9
      · obtain ⟨E9, ws55, ce, hp, hce, hP9, -, hD9, hS9⟩ := gx_backT h0_50 hW_50 hQ_50 hL_50 hD hS hA
        clear hQ_50 h0_50 hL_50 hW_50 hP hD hS
        have hP := hP9
        have hD := hD9
        have hS := hS9
        clear hP9 hD9 hS9
        rcases hp with ⟨hv9, e_ws55, f_46_ws55⟩
        cases hv9
