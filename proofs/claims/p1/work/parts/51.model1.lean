/-! CONTRACTS of the reference on a new object, rows printed by an own text program -/
set_option maxHeartbeats 4000000 in
set_option maxRecDepth 100000 in
theorem c_Mo_done_v7 (l : Launch) (htr : l.stackTraces = false) (D : va_G) (tys : List (ClassId × FieldType)) (z sz : Nat) (ws : va_W) (A46 : Nat) (A47 : Nat) (A48 : Nat) (A49 : Nat) (A50 : Nat) (A51 : Nat) (A52 : Nat) (A53 : Nat) (A54 : Nat) (A62 : Nat) (A70 : Nat) (A78 : Nat) (A79 : Nat) (u0 : Value) (A80 : Nat) (A81 : Nat) (A82 : Nat) (A83 : Nat) (f_46 : ws[46]? = some ((A46, Sum.inr (8, [Value.int 1, Value.int 0, Value.ref A47, Value.ref A48, Value.ref A49, Value.int 0, Value.ref A50, Value.ref A51, Value.ref A52, Value.ref A53, Value.int 0, Value.int 0, Value.int 0, Value.int (-1), Value.int 0, Value.ref A54, Value.ref A62, Value.ref A70, Value.int 0, Value.int 0, Value.int 0, Value.ref A78, Value.ref A79, Value.int 0, Value.int 16, Value.int 4, u0, Value.ref A80, Value.ref A81, Value.ref A82, Value.int 0, Value.ref A83, Value.int 0, Value.int 0, Value.int 0])) : Nat × va_E)) : gx_Met l y_Mo_done [Cond.code y_Mo_done b_Mo_done 6 (some .int)] { frames := 1, cells := 0, slots := 0, locals := 12 } (gx_P z sz D classes tys ws [Value.ref A46, Value.int 0, Value.int 1256]) (gx_Q D classes tys (va_A ws sz) (fun r ws' => (r = Sum.inl (some (Value.int 0)) ∧ gx_g ws ws' 0 [46] ∧ ws'[46]? = some ((A46, Sum.inr (8, [Value.int 0, Value.int 1, Value.ref A47, Value.ref A48, Value.ref A49, Value.int 0, Value.ref A50, Value.ref A51, Value.ref A52, Value.ref A53, Value.int 0, Value.int 0, Value.int 0, Value.int (-1), Value.int 0, Value.ref A54, Value.ref A62, Value.ref A70, Value.int 0, Value.int 0, Value.int 0, Value.ref A78, Value.ref A79, Value.int 0, Value.int 16, Value.int 4, u0, Value.ref A80, Value.ref A81, Value.ref A82, Value.int 0, Value.ref A83, Value.int 0, Value.int 0, Value.int 0])) : Nat × va_E)))) 0 0 (va_A ws sz) := by
  refine gx_ofW (cc := b_Mo_done) (maxL := 6) (ret := (some .int)) (by decide) rfl ?_
  intro p e s m args below meth c s₁ B hml hv
  obtain ⟨rfl, hsz, hz, hP, hK, hD0, hY⟩ := hv
  have hx := B.exec
  have hb := B.bytes
  have hr := B.returns
  have hts := hY.hts (#[Value.ref A46, Value.int 0, Value.int 1256] : Array Value)
  have hown : s.vm.findClass "CommitLedgerModel" = some m.cls := findClass_of_methodNamed B.named
  have hlocks := B.notSynchronized
  have hne : c.exceptionTable.isEmpty = true := B.noHandlers (atoms_spec (ws := [Cond.code y_Mo_done b_Mo_done 6 (some .int)]) B.pre _ List.mem_cons_self)
  subst hsz
  have hAz := gx_az hD0 hz
  have hD := hD0.self (sz := s.heap.size)
  have hN := gx_ns hP
  have hA : ∀ q : Nat, s.heap.size ≤ q → va_A ws s.heap.size q := fun q h => Or.inr h
  generalize va_A ws s.heap.size = A at hD hN hA hAz ⊢
  generalize hPQ : (fun (r : Option Value ⊕ String) (ws' : va_W) => (r = Sum.inl (some (Value.int 0)) ∧ gx_g ws ws' 0 [46] ∧ ws'[46]? = some ((A46, Sum.inr (8, [Value.int 0, Value.int 1, Value.ref A47, Value.ref A48, Value.ref A49, Value.int 0, Value.ref A50, Value.ref A51, Value.ref A52, Value.ref A53, Value.int 0, Value.int 0, Value.int 0, Value.int (-1), Value.int 0, Value.ref A54, Value.ref A62, Value.ref A70, Value.int 0, Value.int 0, Value.int 0, Value.ref A78, Value.ref A79, Value.int 0, Value.int 16, Value.int 4, u0, Value.ref A80, Value.ref A81, Value.ref A82, Value.int 0, Value.ref A83, Value.int 0, Value.int 0, Value.int 0])) : Nat × va_E))) = PQ
  have hS : va_S A s.heap s.heap [] := va_S.rf
  have hU : gx_g ws ws 0 [46] := gx_g.rf
  have hl := lv_entry ([Value.ref A46, Value.int 0, Value.int 1256]) (n := 6) (Nat.le_of_ble_eq_true rfl)
  rw [lg_entry_eq]
  generalize (lg_sl ([Value.ref A46, Value.int 0, Value.int 1256]) ++ List.replicate (6 - (lg_sl ([Value.ref A46, Value.int 0, Value.int 1256])).length) Slot.unset).toArray = ls at hl ⊢
  have hl : lv_has ls 6 [(0, Value.ref A46), (1, Value.int 0), (2, Value.int 1256)] := hl
  refine lv_aload_n hx hb d_Mo_done_0 rfl (lv_at hl 0 rfl) ?_
  refine lv_iconst (v := 0) hx hb d_Mo_done_1 (by decide) ?_
  refine va_put (D := D) (ci := 8) (v := Value.int 0) (ty := .int) (C := "CommitLedgerModel") (T := F_Mo) (N := 35) hx hb hts i_Mo t_Mo t_Mo_ok n_Mo hown hK hP hD hS 46 f_46 rfl 1 (by decide) (hts _ kf_Mo_80) (fun _ h9 => h9) rfl (by decide +kernel) rfl rfl (Nat.le_of_ble_eq_true rfl) d_Mo_done_2 (fun H locs hP9 hD9 hS9 => ?_)
  obtain ⟨ws1, e_ws1⟩ : ∃ x : va_W, x = ws.set 46 ((A46, Sum.inr (8, [Value.int 1, Value.int 0, Value.ref A47, Value.ref A48, Value.ref A49, Value.int 0, Value.ref A50, Value.ref A51, Value.ref A52, Value.ref A53, Value.int 0, Value.int 0, Value.int 0, Value.int (-1), Value.int 0, Value.ref A54, Value.ref A62, Value.ref A70, Value.int 0, Value.int 0, Value.int 0, Value.ref A78, Value.ref A79, Value.int 0, Value.int 16, Value.int 4, u0, Value.ref A80, Value.ref A81, Value.ref A82, Value.int 0, Value.ref A83, Value.int 0, Value.int 0, Value.int 0])) : Nat × va_E) := ⟨_, rfl⟩
  replace hP : va_P D classes ws1 H := by rw [e_ws1]; exact hP9
  replace hD : va_D A ws1 := by rw [e_ws1]; exact hD9
  replace hS := hS9
  clear hP9 hD9 hS9
  have f_46_ws1 : ws1[46]? = some ((A46, Sum.inr (8, [Value.int 1, Value.int 0, Value.ref A47, Value.ref A48, Value.ref A49, Value.int 0, Value.ref A50, Value.ref A51, Value.ref A52, Value.ref A53, Value.int 0, Value.int 0, Value.int 0, Value.int (-1), Value.int 0, Value.ref A54, Value.ref A62, Value.ref A70, Value.int 0, Value.int 0, Value.int 0, Value.ref A78, Value.ref A79, Value.int 0, Value.int 16, Value.int 4, u0, Value.ref A80, Value.ref A81, Value.ref A82, Value.int 0, Value.ref A83, Value.int 0, Value.int 0, Value.int 0])) : Nat × va_E) := by rw [e_ws1]; exact gs_self f_46
  replace hU : gx_g ws ws1 0 [46] := by rw [e_ws1]; exact hU.put (Or.inl (by simp))
  refine lv_iconst (v := 0) hx hb d_Mo_done_5 (by decide) ?_
  refine lv_istore_n (lv' := [(3, Value.int 0), (0, Value.ref A46), (1, Value.int 0), (2, Value.int 1256)]) hx hb d_Mo_done_6 rfl hl (by decide) rfl (fun ls hl => ?_)
  refine lv_ldc (v := 100000) hx hb hown (hts _ ki_Mo_83) d_Mo_done_7 ?_
  refine lv_istore (lv' := [(4, Value.int 100000), (3, Value.int 0), (0, Value.ref A46), (1, Value.int 0), (2, Value.int 1256)]) hx hb d_Mo_done_9 hl (by decide) rfl (fun ls hl => ?_)
  refine lv_iload hx hb d_Mo_done_11 (lv_at hl 0 rfl) ?_
  refine lv_if_le (tgt := 60) hx hb d_Mo_done_13 (by decide) (fun c9 => absurd c9 (by decide)) (fun _ => ?_)
  refine lv_iload_n hx hb d_Mo_done_16 rfl (lv_at hl 4 rfl) ?_
  refine lv_iload hx hb d_Mo_done_17 (lv_at hl 0 rfl) ?_
  refine lv_idiv hx hb d_Mo_done_19 (by decide) ?_
  refine gx_topi (y := 0) (by decide) ?_
  refine lv_bipush (v := 10) hx hb d_Mo_done_20 (by decide) ?_
  refine lv_irem hx hb d_Mo_done_22 (by decide) ?_
  refine gx_topi (y := 0) (by decide) ?_
  refine lv_istore (lv' := [(5, Value.int 0), (4, Value.int 100000), (3, Value.int 0), (0, Value.ref A46), (1, Value.int 0), (2, Value.int 1256)]) hx hb d_Mo_done_23 hl (by decide) rfl (fun ls hl => ?_)
  refine lv_iload hx hb d_Mo_done_25 (lv_at hl 0 rfl) ?_
  refine lv_if_ne (tgt := 33) hx hb d_Mo_done_27 (by decide) (fun c9 => absurd (by decide) c9) (fun _ => ?_)
  refine lv_goto (tgt := 50) hx hb d_Mo_done_30 (by decide) ?_
  refine lv_iload hx hb d_Mo_done_50 (lv_at hl 1 rfl) ?_
  refine lv_bipush (v := 10) hx hb d_Mo_done_52 (by decide) ?_
  refine lv_idiv hx hb d_Mo_done_54 (by decide) ?_
  refine gx_topi (y := 10000) (by decide) ?_
  refine lv_istore (lv' := [(4, Value.int 10000), (5, Value.int 0), (3, Value.int 0), (0, Value.ref A46), (1, Value.int 0), (2, Value.int 1256)]) hx hb d_Mo_done_55 hl (by decide) rfl (fun ls hl => ?_)
  refine lv_goto (tgt := 11) hx hb d_Mo_done_57 (by decide) ?_
  refine lv_iload hx hb d_Mo_done_11 (lv_at hl 0 rfl) ?_
  refine lv_if_le (tgt := 60) hx hb d_Mo_done_13 (by decide) (fun c9 => absurd c9 (by decide)) (fun _ => ?_)
  refine lv_iload_n hx hb d_Mo_done_16 rfl (lv_at hl 5 rfl) ?_
  refine lv_iload hx hb d_Mo_done_17 (lv_at hl 0 rfl) ?_
  refine lv_idiv hx hb d_Mo_done_19 (by decide) ?_
  refine gx_topi (y := 0) (by decide) ?_
  refine lv_bipush (v := 10) hx hb d_Mo_done_20 (by decide) ?_
  refine lv_irem hx hb d_Mo_done_22 (by decide) ?_
  refine gx_topi (y := 0) (by decide) ?_
  refine lv_istore (lv' := [(5, Value.int 0), (4, Value.int 10000), (3, Value.int 0), (0, Value.ref A46), (1, Value.int 0), (2, Value.int 1256)]) hx hb d_Mo_done_23 hl (by decide) rfl (fun ls hl => ?_)
  refine lv_iload hx hb d_Mo_done_25 (lv_at hl 0 rfl) ?_
  refine lv_if_ne (tgt := 33) hx hb d_Mo_done_27 (by decide) (fun c9 => absurd (by decide) c9) (fun _ => ?_)
  refine lv_goto (tgt := 50) hx hb d_Mo_done_30 (by decide) ?_
  refine lv_iload hx hb d_Mo_done_50 (lv_at hl 1 rfl) ?_
  refine lv_bipush (v := 10) hx hb d_Mo_done_52 (by decide) ?_
  refine lv_idiv hx hb d_Mo_done_54 (by decide) ?_
  refine gx_topi (y := 1000) (by decide) ?_
  refine lv_istore (lv' := [(4, Value.int 1000), (5, Value.int 0), (3, Value.int 0), (0, Value.ref A46), (1, Value.int 0), (2, Value.int 1256)]) hx hb d_Mo_done_55 hl (by decide) rfl (fun ls hl => ?_)
  refine lv_goto (tgt := 11) hx hb d_Mo_done_57 (by decide) ?_
  refine lv_iload hx hb d_Mo_done_11 (lv_at hl 0 rfl) ?_
  refine lv_if_le (tgt := 60) hx hb d_Mo_done_13 (by decide) (fun c9 => absurd c9 (by decide)) (fun _ => ?_)
  refine lv_iload_n hx hb d_Mo_done_16 rfl (lv_at hl 5 rfl) ?_
  refine lv_iload hx hb d_Mo_done_17 (lv_at hl 0 rfl) ?_
  refine lv_idiv hx hb d_Mo_done_19 (by decide) ?_
  refine gx_topi (y := 1) (by decide) ?_
  refine lv_bipush (v := 10) hx hb d_Mo_done_20 (by decide) ?_
  refine lv_irem hx hb d_Mo_done_22 (by decide) ?_
  refine gx_topi (y := 1) (by decide) ?_
  refine lv_istore (lv' := [(5, Value.int 1), (4, Value.int 1000), (3, Value.int 0), (0, Value.ref A46), (1, Value.int 0), (2, Value.int 1256)]) hx hb d_Mo_done_23 hl (by decide) rfl (fun ls hl => ?_)
  refine lv_iload hx hb d_Mo_done_25 (lv_at hl 0 rfl) ?_
  refine lv_if_ne (tgt := 33) hx hb d_Mo_done_27 (by decide) (fun _ => ?_) (fun c9 => absurd c9 (by decide))
  refine lv_iinc (v := 1) (lv' := [(3, Value.int 1), (5, Value.int 1), (4, Value.int 1000), (0, Value.ref A46), (1, Value.int 0), (2, Value.int 1256)]) hx hb d_Mo_done_33 hl (k := 2) rfl (by decide) (by decide) rfl (fun ls hl => ?_)
  refine lv_iload hx hb d_Mo_done_36 (lv_at hl 1 rfl) ?_
  refine lv_aload_n hx hb d_Mo_done_38 rfl (lv_at hl 3 rfl) ?_
  refine va_get (D := D) (ci := 8) (v := Value.int 1) (C := "CommitLedgerModel") (T := F_Mo) (N := 35) hx hb hts i_Mo hown hK hP 46 f_46_ws1 rfl 0 (by decide) (hts _ kf_Mo_84) (fun _ h9 => h9) rfl d_Mo_done_39 ?_
  refine lv_icmp_ne (tgt := 50) hx hb d_Mo_done_42 (by decide) (fun c9 => absurd (by decide) c9) (fun _ => ?_)
  refine lv_aload_n hx hb d_Mo_done_45 rfl (lv_at hl 3 rfl) ?_
  refine lv_iload_n hx hb d_Mo_done_46 rfl (lv_at hl 0 rfl) ?_
  refine va_put (D := D) (ci := 8) (v := Value.int 1) (ty := .int) (C := "CommitLedgerModel") (T := F_Mo) (N := 35) hx hb hts i_Mo t_Mo t_Mo_ok n_Mo hown hK hP hD hS 46 f_46_ws1 rfl 1 (by decide) (hts _ kf_Mo_80) (fun _ h9 => h9) rfl (by decide +kernel) rfl rfl (Nat.le_of_ble_eq_true rfl) d_Mo_done_47 (fun H locs hP9 hD9 hS9 => ?_)
  obtain ⟨ws2, e_ws2⟩ : ∃ x : va_W, x = ws1.set 46 ((A46, Sum.inr (8, [Value.int 1, Value.int 1, Value.ref A47, Value.ref A48, Value.ref A49, Value.int 0, Value.ref A50, Value.ref A51, Value.ref A52, Value.ref A53, Value.int 0, Value.int 0, Value.int 0, Value.int (-1), Value.int 0, Value.ref A54, Value.ref A62, Value.ref A70, Value.int 0, Value.int 0, Value.int 0, Value.ref A78, Value.ref A79, Value.int 0, Value.int 16, Value.int 4, u0, Value.ref A80, Value.ref A81, Value.ref A82, Value.int 0, Value.ref A83, Value.int 0, Value.int 0, Value.int 0])) : Nat × va_E) := ⟨_, rfl⟩
  replace hP : va_P D classes ws2 H := by rw [e_ws2]; exact hP9
  replace hD : va_D A ws2 := by rw [e_ws2]; exact hD9
  replace hS := hS9
  clear hP9 hD9 hS9
  have f_46_ws2 : ws2[46]? = some ((A46, Sum.inr (8, [Value.int 1, Value.int 1, Value.ref A47, Value.ref A48, Value.ref A49, Value.int 0, Value.ref A50, Value.ref A51, Value.ref A52, Value.ref A53, Value.int 0, Value.int 0, Value.int 0, Value.int (-1), Value.int 0, Value.ref A54, Value.ref A62, Value.ref A70, Value.int 0, Value.int 0, Value.int 0, Value.ref A78, Value.ref A79, Value.int 0, Value.int 16, Value.int 4, u0, Value.ref A80, Value.ref A81, Value.ref A82, Value.int 0, Value.ref A83, Value.int 0, Value.int 0, Value.int 0])) : Nat × va_E) := by rw [e_ws2]; exact gs_self f_46_ws1
  replace hU : gx_g ws ws2 0 [46] := by rw [e_ws2]; exact hU.put (Or.inl (by simp))
  refine lv_iload hx hb d_Mo_done_50 (lv_at hl 2 rfl) ?_
  refine lv_bipush (v := 10) hx hb d_Mo_done_52 (by decide) ?_
  refine lv_idiv hx hb d_Mo_done_54 (by decide) ?_
  refine gx_topi (y := 100) (by decide) ?_
  refine lv_istore (lv' := [(4, Value.int 100), (3, Value.int 1), (5, Value.int 1), (0, Value.ref A46), (1, Value.int 0), (2, Value.int 1256)]) hx hb d_Mo_done_55 hl (by decide) rfl (fun ls hl => ?_)
  refine lv_goto (tgt := 11) hx hb d_Mo_done_57 (by decide) ?_
  refine lv_iload hx hb d_Mo_done_11 (lv_at hl 0 rfl) ?_
  refine lv_if_le (tgt := 60) hx hb d_Mo_done_13 (by decide) (fun c9 => absurd c9 (by decide)) (fun _ => ?_)
  refine lv_iload_n hx hb d_Mo_done_16 rfl (lv_at hl 5 rfl) ?_
  refine lv_iload hx hb d_Mo_done_17 (lv_at hl 0 rfl) ?_
  refine lv_idiv hx hb d_Mo_done_19 (by decide) ?_
  refine gx_topi (y := 12) (by decide) ?_
  refine lv_bipush (v := 10) hx hb d_Mo_done_20 (by decide) ?_
  refine lv_irem hx hb d_Mo_done_22 (by decide) ?_
  refine gx_topi (y := 2) (by decide) ?_
  refine lv_istore (lv' := [(5, Value.int 2), (4, Value.int 100), (3, Value.int 1), (0, Value.ref A46), (1, Value.int 0), (2, Value.int 1256)]) hx hb d_Mo_done_23 hl (by decide) rfl (fun ls hl => ?_)
  refine lv_iload hx hb d_Mo_done_25 (lv_at hl 0 rfl) ?_
  refine lv_if_ne (tgt := 33) hx hb d_Mo_done_27 (by decide) (fun _ => ?_) (fun c9 => absurd c9 (by decide))
  refine lv_iinc (v := 2) (lv' := [(3, Value.int 2), (5, Value.int 2), (4, Value.int 100), (0, Value.ref A46), (1, Value.int 0), (2, Value.int 1256)]) hx hb d_Mo_done_33 hl (k := 2) rfl (by decide) (by decide) rfl (fun ls hl => ?_)
  refine lv_iload hx hb d_Mo_done_36 (lv_at hl 1 rfl) ?_
  refine lv_aload_n hx hb d_Mo_done_38 rfl (lv_at hl 3 rfl) ?_
  refine va_get (D := D) (ci := 8) (v := Value.int 1) (C := "CommitLedgerModel") (T := F_Mo) (N := 35) hx hb hts i_Mo hown hK hP 46 f_46_ws2 rfl 0 (by decide) (hts _ kf_Mo_84) (fun _ h9 => h9) rfl d_Mo_done_39 ?_
  refine lv_icmp_ne (tgt := 50) hx hb d_Mo_done_42 (by decide) (fun _ => ?_) (fun c9 => absurd c9 (by decide))
  refine lv_iload hx hb d_Mo_done_50 (lv_at hl 2 rfl) ?_
  refine lv_bipush (v := 10) hx hb d_Mo_done_52 (by decide) ?_
  refine lv_idiv hx hb d_Mo_done_54 (by decide) ?_
  refine gx_topi (y := 10) (by decide) ?_
  refine lv_istore (lv' := [(4, Value.int 10), (3, Value.int 2), (5, Value.int 2), (0, Value.ref A46), (1, Value.int 0), (2, Value.int 1256)]) hx hb d_Mo_done_55 hl (by decide) rfl (fun ls hl => ?_)
  refine lv_goto (tgt := 11) hx hb d_Mo_done_57 (by decide) ?_
  refine lv_iload hx hb d_Mo_done_11 (lv_at hl 0 rfl) ?_
  refine lv_if_le (tgt := 60) hx hb d_Mo_done_13 (by decide) (fun c9 => absurd c9 (by decide)) (fun _ => ?_)
  refine lv_iload_n hx hb d_Mo_done_16 rfl (lv_at hl 5 rfl) ?_
  refine lv_iload hx hb d_Mo_done_17 (lv_at hl 0 rfl) ?_
  refine lv_idiv hx hb d_Mo_done_19 (by decide) ?_
  refine gx_topi (y := 125) (by decide) ?_
  refine lv_bipush (v := 10) hx hb d_Mo_done_20 (by decide) ?_
  refine lv_irem hx hb d_Mo_done_22 (by decide) ?_
  refine gx_topi (y := 5) (by decide) ?_
  refine lv_istore (lv' := [(5, Value.int 5), (4, Value.int 10), (3, Value.int 2), (0, Value.ref A46), (1, Value.int 0), (2, Value.int 1256)]) hx hb d_Mo_done_23 hl (by decide) rfl (fun ls hl => ?_)
  refine lv_iload hx hb d_Mo_done_25 (lv_at hl 0 rfl) ?_
  refine lv_if_ne (tgt := 33) hx hb d_Mo_done_27 (by decide) (fun _ => ?_) (fun c9 => absurd c9 (by decide))
  refine lv_iinc (v := 3) (lv' := [(3, Value.int 3), (5, Value.int 5), (4, Value.int 10), (0, Value.ref A46), (1, Value.int 0), (2, Value.int 1256)]) hx hb d_Mo_done_33 hl (k := 2) rfl (by decide) (by decide) rfl (fun ls hl => ?_)
  refine lv_iload hx hb d_Mo_done_36 (lv_at hl 1 rfl) ?_
  refine lv_aload_n hx hb d_Mo_done_38 rfl (lv_at hl 3 rfl) ?_
  refine va_get (D := D) (ci := 8) (v := Value.int 1) (C := "CommitLedgerModel") (T := F_Mo) (N := 35) hx hb hts i_Mo hown hK hP 46 f_46_ws2 rfl 0 (by decide) (hts _ kf_Mo_84) (fun _ h9 => h9) rfl d_Mo_done_39 ?_
  refine lv_icmp_ne (tgt := 50) hx hb d_Mo_done_42 (by decide) (fun _ => ?_) (fun c9 => absurd c9 (by decide))
  refine lv_iload hx hb d_Mo_done_50 (lv_at hl 2 rfl) ?_
  refine lv_bipush (v := 10) hx hb d_Mo_done_52 (by decide) ?_
  refine lv_idiv hx hb d_Mo_done_54 (by decide) ?_
  refine gx_topi (y := 1) (by decide) ?_
  refine lv_istore (lv' := [(4, Value.int 1), (3, Value.int 3), (5, Value.int 5), (0, Value.ref A46), (1, Value.int 0), (2, Value.int 1256)]) hx hb d_Mo_done_55 hl (by decide) rfl (fun ls hl => ?_)
  refine lv_goto (tgt := 11) hx hb d_Mo_done_57 (by decide) ?_
  refine lv_iload hx hb d_Mo_done_11 (lv_at hl 0 rfl) ?_
  refine lv_if_le (tgt := 60) hx hb d_Mo_done_13 (by decide) (fun c9 => absurd c9 (by decide)) (fun _ => ?_)
  refine lv_iload_n hx hb d_Mo_done_16 rfl (lv_at hl 5 rfl) ?_
  refine lv_iload hx hb d_Mo_done_17 (lv_at hl 0 rfl) ?_
  refine lv_idiv hx hb d_Mo_done_19 (by decide) ?_
  refine gx_topi (y := 1256) (by decide) ?_
  refine lv_bipush (v := 10) hx hb d_Mo_done_20 (by decide) ?_
  refine lv_irem hx hb d_Mo_done_22 (by decide) ?_
  refine gx_topi (y := 6) (by decide) ?_
  refine lv_istore (lv' := [(5, Value.int 6), (4, Value.int 1), (3, Value.int 3), (0, Value.ref A46), (1, Value.int 0), (2, Value.int 1256)]) hx hb d_Mo_done_23 hl (by decide) rfl (fun ls hl => ?_)
  refine lv_iload hx hb d_Mo_done_25 (lv_at hl 0 rfl) ?_
  refine lv_if_ne (tgt := 33) hx hb d_Mo_done_27 (by decide) (fun _ => ?_) (fun c9 => absurd c9 (by decide))
  refine lv_iinc (v := 4) (lv' := [(3, Value.int 4), (5, Value.int 6), (4, Value.int 1), (0, Value.ref A46), (1, Value.int 0), (2, Value.int 1256)]) hx hb d_Mo_done_33 hl (k := 2) rfl (by decide) (by decide) rfl (fun ls hl => ?_)
  refine lv_iload hx hb d_Mo_done_36 (lv_at hl 1 rfl) ?_
  refine lv_aload_n hx hb d_Mo_done_38 rfl (lv_at hl 3 rfl) ?_
  refine va_get (D := D) (ci := 8) (v := Value.int 1) (C := "CommitLedgerModel") (T := F_Mo) (N := 35) hx hb hts i_Mo hown hK hP 46 f_46_ws2 rfl 0 (by decide) (hts _ kf_Mo_84) (fun _ h9 => h9) rfl d_Mo_done_39 ?_
  refine lv_icmp_ne (tgt := 50) hx hb d_Mo_done_42 (by decide) (fun _ => ?_) (fun c9 => absurd c9 (by decide))
  refine lv_iload hx hb d_Mo_done_50 (lv_at hl 2 rfl) ?_
  refine lv_bipush (v := 10) hx hb d_Mo_done_52 (by decide) ?_
  refine lv_idiv hx hb d_Mo_done_54 (by decide) ?_
  refine gx_topi (y := 0) (by decide) ?_
  refine lv_istore (lv' := [(4, Value.int 0), (3, Value.int 4), (5, Value.int 6), (0, Value.ref A46), (1, Value.int 0), (2, Value.int 1256)]) hx hb d_Mo_done_55 hl (by decide) rfl (fun ls hl => ?_)
  refine lv_goto (tgt := 11) hx hb d_Mo_done_57 (by decide) ?_
  refine lv_iload hx hb d_Mo_done_11 (lv_at hl 0 rfl) ?_
  refine lv_if_le (tgt := 60) hx hb d_Mo_done_13 (by decide) (fun _ => ?_) (fun c9 => absurd (by decide) c9)
  refine lv_aload_n hx hb d_Mo_done_60 rfl (lv_at hl 3 rfl) ?_
  refine lv_iconst (v := 0) hx hb d_Mo_done_61 (by decide) ?_
  refine va_put (D := D) (ci := 8) (v := Value.int 0) (ty := .int) (C := "CommitLedgerModel") (T := F_Mo) (N := 35) hx hb hts i_Mo t_Mo t_Mo_ok n_Mo hown hK hP hD hS 46 f_46_ws2 rfl 0 (by decide) (hts _ kf_Mo_84) (fun _ h9 => h9) rfl (by decide +kernel) rfl rfl (Nat.le_of_ble_eq_true rfl) d_Mo_done_62 (fun H locs hP9 hD9 hS9 => ?_)
  obtain ⟨ws3, e_ws3⟩ : ∃ x : va_W, x = ws2.set 46 ((A46, Sum.inr (8, [Value.int 0, Value.int 1, Value.ref A47, Value.ref A48, Value.ref A49, Value.int 0, Value.ref A50, Value.ref A51, Value.ref A52, Value.ref A53, Value.int 0, Value.int 0, Value.int 0, Value.int (-1), Value.int 0, Value.ref A54, Value.ref A62, Value.ref A70, Value.int 0, Value.int 0, Value.int 0, Value.ref A78, Value.ref A79, Value.int 0, Value.int 16, Value.int 4, u0, Value.ref A80, Value.ref A81, Value.ref A82, Value.int 0, Value.ref A83, Value.int 0, Value.int 0, Value.int 0])) : Nat × va_E) := ⟨_, rfl⟩
  replace hP : va_P D classes ws3 H := by rw [e_ws3]; exact hP9
  replace hD : va_D A ws3 := by rw [e_ws3]; exact hD9
  replace hS := hS9
  clear hP9 hD9 hS9
  have f_46_ws3 : ws3[46]? = some ((A46, Sum.inr (8, [Value.int 0, Value.int 1, Value.ref A47, Value.ref A48, Value.ref A49, Value.int 0, Value.ref A50, Value.ref A51, Value.ref A52, Value.ref A53, Value.int 0, Value.int 0, Value.int 0, Value.int (-1), Value.int 0, Value.ref A54, Value.ref A62, Value.ref A70, Value.int 0, Value.int 0, Value.int 0, Value.ref A78, Value.ref A79, Value.int 0, Value.int 16, Value.int 4, u0, Value.ref A80, Value.ref A81, Value.ref A82, Value.int 0, Value.ref A83, Value.int 0, Value.int 0, Value.int 0])) : Nat × va_E) := by rw [e_ws3]; exact gs_self f_46_ws2
  replace hU : gx_g ws ws3 0 [46] := by rw [e_ws3]; exact hU.put (Or.inl (by simp))
  refine lv_aload_n hx hb d_Mo_done_65 rfl (lv_at hl 3 rfl) ?_
  refine va_get (D := D) (ci := 8) (v := Value.int 1) (C := "CommitLedgerModel") (T := F_Mo) (N := 35) hx hb hts i_Mo hown hK hP 46 f_46_ws3 rfl 1 (by decide) (hts _ kf_Mo_80) (fun _ h9 => h9) rfl d_Mo_done_66 ?_
  refine lv_if_le (tgt := 76) hx hb d_Mo_done_69 (by decide) (fun c9 => absurd c9 (by decide)) (fun _ => ?_)
  refine lv_iconst (v := 0) hx hb d_Mo_done_72 (by decide) ?_
  refine lv_goto (tgt := 77) hx hb d_Mo_done_73 (by decide) ?_
  exact gx_ret (W.iret (v := 0) hx hb hr (gx_post hP hK hD hS (by rw [← hPQ]; exact ⟨rfl, hU, f_46_ws3⟩)) hS.2.2 d_Mo_done_77)

set_option maxHeartbeats 4000000 in
set_option maxRecDepth 100000 in
theorem c_Mo_wrong_v5 (l : Launch) (htr : l.stackTraces = false) (D : va_G) (tys : List (ClassId × FieldType)) (z sz : Nat) (ws : va_W) (A46 : Nat) (A47 : Nat) (A48 : Nat) (A49 : Nat) (A50 : Nat) (A51 : Nat) (A52 : Nat) (A53 : Nat) (A54 : Nat) (A62 : Nat) (A70 : Nat) (A78 : Nat) (A79 : Nat) (u0 : Value) (A80 : Nat) (A81 : Nat) (A82 : Nat) (A83 : Nat) (f_46 : ws[46]? = some ((A46, Sum.inr (8, [Value.int 0, Value.int 0, Value.ref A47, Value.ref A48, Value.ref A49, Value.int 0, Value.ref A50, Value.ref A51, Value.ref A52, Value.ref A53, Value.int 0, Value.int 0, Value.int 0, Value.int (-1), Value.int 0, Value.ref A54, Value.ref A62, Value.ref A70, Value.int 0, Value.int 0, Value.int 0, Value.ref A78, Value.ref A79, Value.int 0, Value.int 16, Value.int 4, u0, Value.ref A80, Value.ref A81, Value.ref A82, Value.int 0, Value.ref A83, Value.int 0, Value.int 0, Value.int 0])) : Nat × va_E)) : gx_Met l y_Mo_wrong [Cond.code y_Mo_wrong b_Mo_wrong 3 (some .boolean)] { frames := 1, cells := 0, slots := 0, locals := 12 } (gx_P z sz D classes tys ws [Value.ref A46, Value.int 1, Value.int 2]) (gx_Q D classes tys (va_A ws sz) (fun r ws' => (r = Sum.inl (some (Value.int 1)) ∧ gx_g ws ws' 0 [46] ∧ ws'[46]? = some ((A46, Sum.inr (8, [Value.int 2, Value.int 0, Value.ref A47, Value.ref A48, Value.ref A49, Value.int 0, Value.ref A50, Value.ref A51, Value.ref A52, Value.ref A53, Value.int 0, Value.int 0, Value.int 0, Value.int (-1), Value.int 0, Value.ref A54, Value.ref A62, Value.ref A70, Value.int 0, Value.int 0, Value.int 0, Value.ref A78, Value.ref A79, Value.int 0, Value.int 16, Value.int 4, u0, Value.ref A80, Value.ref A81, Value.ref A82, Value.int 0, Value.ref A83, Value.int 0, Value.int 0, Value.int 0])) : Nat × va_E)))) 0 0 (va_A ws sz) := by
  refine gx_ofW (cc := b_Mo_wrong) (maxL := 3) (ret := (some .boolean)) (by decide) rfl ?_
  intro p e s m args below meth c s₁ B hml hv
  obtain ⟨rfl, hsz, hz, hP, hK, hD0, hY⟩ := hv
  have hx := B.exec
  have hb := B.bytes
  have hr := B.returns
  have hts := hY.hts (#[Value.ref A46, Value.int 1, Value.int 2] : Array Value)
  have hown : s.vm.findClass "CommitLedgerModel" = some m.cls := findClass_of_methodNamed B.named
  have hlocks := B.notSynchronized
  have hne : c.exceptionTable.isEmpty = true := B.noHandlers (atoms_spec (ws := [Cond.code y_Mo_wrong b_Mo_wrong 3 (some .boolean)]) B.pre _ List.mem_cons_self)
  subst hsz
  have hAz := gx_az hD0 hz
  have hD := hD0.self (sz := s.heap.size)
  have hN := gx_ns hP
  have hA : ∀ q : Nat, s.heap.size ≤ q → va_A ws s.heap.size q := fun q h => Or.inr h
  generalize va_A ws s.heap.size = A at hD hN hA hAz ⊢
  generalize hPQ : (fun (r : Option Value ⊕ String) (ws' : va_W) => (r = Sum.inl (some (Value.int 1)) ∧ gx_g ws ws' 0 [46] ∧ ws'[46]? = some ((A46, Sum.inr (8, [Value.int 2, Value.int 0, Value.ref A47, Value.ref A48, Value.ref A49, Value.int 0, Value.ref A50, Value.ref A51, Value.ref A52, Value.ref A53, Value.int 0, Value.int 0, Value.int 0, Value.int (-1), Value.int 0, Value.ref A54, Value.ref A62, Value.ref A70, Value.int 0, Value.int 0, Value.int 0, Value.ref A78, Value.ref A79, Value.int 0, Value.int 16, Value.int 4, u0, Value.ref A80, Value.ref A81, Value.ref A82, Value.int 0, Value.ref A83, Value.int 0, Value.int 0, Value.int 0])) : Nat × va_E))) = PQ
  have hS : va_S A s.heap s.heap [] := va_S.rf
  have hU : gx_g ws ws 0 [46] := gx_g.rf
  have hl := lv_entry ([Value.ref A46, Value.int 1, Value.int 2]) (n := 3) (Nat.le_of_ble_eq_true rfl)
  rw [lg_entry_eq]
  generalize (lg_sl ([Value.ref A46, Value.int 1, Value.int 2]) ++ List.replicate (3 - (lg_sl ([Value.ref A46, Value.int 1, Value.int 2])).length) Slot.unset).toArray = ls at hl ⊢
  have hl : lv_has ls 3 [(0, Value.ref A46), (1, Value.int 1), (2, Value.int 2)] := hl
  refine lv_iload_n hx hb d_Mo_wrong_0 rfl (lv_at hl 1 rfl) ?_
  refine lv_if_eq (tgt := 16) hx hb d_Mo_wrong_1 (by decide) (fun c9 => absurd c9 (by decide)) (fun _ => ?_)
  refine lv_aload_n hx hb d_Mo_wrong_4 rfl (lv_at hl 0 rfl) ?_
  refine va_get (D := D) (ci := 8) (v := Value.int 0) (C := "CommitLedgerModel") (T := F_Mo) (N := 35) hx hb hts i_Mo hown hK hP 46 f_46 rfl 0 (by decide) (hts _ kf_Mo_84) (fun _ h9 => h9) rfl d_Mo_wrong_5 ?_
  refine lv_if_ne (tgt := 16) hx hb d_Mo_wrong_8 (by decide) (fun c9 => absurd (by decide) c9) (fun _ => ?_)
  refine lv_aload_n hx hb d_Mo_wrong_11 rfl (lv_at hl 0 rfl) ?_
  refine lv_iload_n hx hb d_Mo_wrong_12 rfl (lv_at hl 2 rfl) ?_
  refine va_put (D := D) (ci := 8) (v := Value.int 2) (ty := .int) (C := "CommitLedgerModel") (T := F_Mo) (N := 35) hx hb hts i_Mo t_Mo t_Mo_ok n_Mo hown hK hP hD hS 46 f_46 rfl 0 (by decide) (hts _ kf_Mo_84) (fun _ h9 => h9) rfl (by decide +kernel) rfl rfl (Nat.le_of_ble_eq_true rfl) d_Mo_wrong_13 (fun H locs hP9 hD9 hS9 => ?_)
  obtain ⟨ws1, e_ws1⟩ : ∃ x : va_W, x = ws.set 46 ((A46, Sum.inr (8, [Value.int 2, Value.int 0, Value.ref A47, Value.ref A48, Value.ref A49, Value.int 0, Value.ref A50, Value.ref A51, Value.ref A52, Value.ref A53, Value.int 0, Value.int 0, Value.int 0, Value.int (-1), Value.int 0, Value.ref A54, Value.ref A62, Value.ref A70, Value.int 0, Value.int 0, Value.int 0, Value.ref A78, Value.ref A79, Value.int 0, Value.int 16, Value.int 4, u0, Value.ref A80, Value.ref A81, Value.ref A82, Value.int 0, Value.ref A83, Value.int 0, Value.int 0, Value.int 0])) : Nat × va_E) := ⟨_, rfl⟩
  replace hP : va_P D classes ws1 H := by rw [e_ws1]; exact hP9
  replace hD : va_D A ws1 := by rw [e_ws1]; exact hD9
  replace hS := hS9
  clear hP9 hD9 hS9
  have f_46_ws1 : ws1[46]? = some ((A46, Sum.inr (8, [Value.int 2, Value.int 0, Value.ref A47, Value.ref A48, Value.ref A49, Value.int 0, Value.ref A50, Value.ref A51, Value.ref A52, Value.ref A53, Value.int 0, Value.int 0, Value.int 0, Value.int (-1), Value.int 0, Value.ref A54, Value.ref A62, Value.ref A70, Value.int 0, Value.int 0, Value.int 0, Value.ref A78, Value.ref A79, Value.int 0, Value.int 16, Value.int 4, u0, Value.ref A80, Value.ref A81, Value.ref A82, Value.int 0, Value.ref A83, Value.int 0, Value.int 0, Value.int 0])) : Nat × va_E) := by rw [e_ws1]; exact gs_self f_46
  replace hU : gx_g ws ws1 0 [46] := by rw [e_ws1]; exact hU.put (Or.inl (by simp))
  refine lv_aload_n hx hb d_Mo_wrong_16 rfl (lv_at hl 0 rfl) ?_
  refine va_get (D := D) (ci := 8) (v := Value.int 2) (C := "CommitLedgerModel") (T := F_Mo) (N := 35) hx hb hts i_Mo hown hK hP 46 f_46_ws1 rfl 0 (by decide) (hts _ kf_Mo_84) (fun _ h9 => h9) rfl d_Mo_wrong_17 ?_
  refine lv_if_eq (tgt := 27) hx hb d_Mo_wrong_20 (by decide) (fun c9 => absurd c9 (by decide)) (fun _ => ?_)
  refine lv_iconst (v := 1) hx hb d_Mo_wrong_23 (by decide) ?_
  refine lv_goto (tgt := 28) hx hb d_Mo_wrong_24 (by decide) ?_
  exact gx_ret (W.zret (v := 1) (ty := .boolean) hx hb hr (rfl) (gx_post hP hK hD hS (by rw [← hPQ]; exact ⟨rfl, hU, f_46_ws1⟩)) hS.2.2 d_Mo_wrong_28)

set_option maxHeartbeats 4000000 in
set_option maxRecDepth 100000 in
theorem c_Mo_done_v8 (l : Launch) (htr : l.stackTraces = false) (D : va_G) (tys : List (ClassId × FieldType)) (z sz : Nat) (ws : va_W) (A46 : Nat) (A47 : Nat) (A48 : Nat) (A49 : Nat) (A50 : Nat) (A51 : Nat) (A52 : Nat) (A53 : Nat) (A54 : Nat) (A62 : Nat) (A70 : Nat) (A78 : Nat) (A79 : Nat) (u0 : Value) (A80 : Nat) (A81 : Nat) (A82 : Nat) (A83 : Nat) (f_46 : ws[46]? = some ((A46, Sum.inr (8, [Value.int 2, Value.int 0, Value.ref A47, Value.ref A48, Value.ref A49, Value.int 0, Value.ref A50, Value.ref A51, Value.ref A52, Value.ref A53, Value.int 0, Value.int 0, Value.int 0, Value.int (-1), Value.int 0, Value.ref A54, Value.ref A62, Value.ref A70, Value.int 0, Value.int 0, Value.int 0, Value.ref A78, Value.ref A79, Value.int 0, Value.int 16, Value.int 4, u0, Value.ref A80, Value.ref A81, Value.ref A82, Value.int 0, Value.ref A83, Value.int 0, Value.int 0, Value.int 0])) : Nat × va_E)) : gx_Met l y_Mo_done [Cond.code y_Mo_done b_Mo_done 6 (some .int)] { frames := 1, cells := 0, slots := 0, locals := 12 } (gx_P z sz D classes tys ws [Value.ref A46, Value.int 0, Value.int 1256]) (gx_Q D classes tys (va_A ws sz) (fun r ws' => (r = Sum.inl (some (Value.int 0)) ∧ gx_g ws ws' 0 [46] ∧ ws'[46]? = some ((A46, Sum.inr (8, [Value.int 0, Value.int 2, Value.ref A47, Value.ref A48, Value.ref A49, Value.int 0, Value.ref A50, Value.ref A51, Value.ref A52, Value.ref A53, Value.int 0, Value.int 0, Value.int 0, Value.int (-1), Value.int 0, Value.ref A54, Value.ref A62, Value.ref A70, Value.int 0, Value.int 0, Value.int 0, Value.ref A78, Value.ref A79, Value.int 0, Value.int 16, Value.int 4, u0, Value.ref A80, Value.ref A81, Value.ref A82, Value.int 0, Value.ref A83, Value.int 0, Value.int 0, Value.int 0])) : Nat × va_E)))) 0 0 (va_A ws sz) := by
  refine gx_ofW (cc := b_Mo_done) (maxL := 6) (ret := (some .int)) (by decide) rfl ?_
  intro p e s m args below meth c s₁ B hml hv
  obtain ⟨rfl, hsz, hz, hP, hK, hD0, hY⟩ := hv
  have hx := B.exec
  have hb := B.bytes
  have hr := B.returns
  have hts := hY.hts (#[Value.ref A46, Value.int 0, Value.int 1256] : Array Value)
  have hown : s.vm.findClass "CommitLedgerModel" = some m.cls := findClass_of_methodNamed B.named
  have hlocks := B.notSynchronized
  have hne : c.exceptionTable.isEmpty = true := B.noHandlers (atoms_spec (ws := [Cond.code y_Mo_done b_Mo_done 6 (some .int)]) B.pre _ List.mem_cons_self)
  subst hsz
  have hAz := gx_az hD0 hz
  have hD := hD0.self (sz := s.heap.size)
  have hN := gx_ns hP
  have hA : ∀ q : Nat, s.heap.size ≤ q → va_A ws s.heap.size q := fun q h => Or.inr h
  generalize va_A ws s.heap.size = A at hD hN hA hAz ⊢
  generalize hPQ : (fun (r : Option Value ⊕ String) (ws' : va_W) => (r = Sum.inl (some (Value.int 0)) ∧ gx_g ws ws' 0 [46] ∧ ws'[46]? = some ((A46, Sum.inr (8, [Value.int 0, Value.int 2, Value.ref A47, Value.ref A48, Value.ref A49, Value.int 0, Value.ref A50, Value.ref A51, Value.ref A52, Value.ref A53, Value.int 0, Value.int 0, Value.int 0, Value.int (-1), Value.int 0, Value.ref A54, Value.ref A62, Value.ref A70, Value.int 0, Value.int 0, Value.int 0, Value.ref A78, Value.ref A79, Value.int 0, Value.int 16, Value.int 4, u0, Value.ref A80, Value.ref A81, Value.ref A82, Value.int 0, Value.ref A83, Value.int 0, Value.int 0, Value.int 0])) : Nat × va_E))) = PQ
  have hS : va_S A s.heap s.heap [] := va_S.rf
  have hU : gx_g ws ws 0 [46] := gx_g.rf
  have hl := lv_entry ([Value.ref A46, Value.int 0, Value.int 1256]) (n := 6) (Nat.le_of_ble_eq_true rfl)
  rw [lg_entry_eq]
  generalize (lg_sl ([Value.ref A46, Value.int 0, Value.int 1256]) ++ List.replicate (6 - (lg_sl ([Value.ref A46, Value.int 0, Value.int 1256])).length) Slot.unset).toArray = ls at hl ⊢
  have hl : lv_has ls 6 [(0, Value.ref A46), (1, Value.int 0), (2, Value.int 1256)] := hl
  refine lv_aload_n hx hb d_Mo_done_0 rfl (lv_at hl 0 rfl) ?_
  refine lv_iconst (v := 0) hx hb d_Mo_done_1 (by decide) ?_
  refine va_put (D := D) (ci := 8) (v := Value.int 0) (ty := .int) (C := "CommitLedgerModel") (T := F_Mo) (N := 35) hx hb hts i_Mo t_Mo t_Mo_ok n_Mo hown hK hP hD hS 46 f_46 rfl 1 (by decide) (hts _ kf_Mo_80) (fun _ h9 => h9) rfl (by decide +kernel) rfl rfl (Nat.le_of_ble_eq_true rfl) d_Mo_done_2 (fun H locs hP9 hD9 hS9 => ?_)
  obtain ⟨ws1, e_ws1⟩ : ∃ x : va_W, x = ws.set 46 ((A46, Sum.inr (8, [Value.int 2, Value.int 0, Value.ref A47, Value.ref A48, Value.ref A49, Value.int 0, Value.ref A50, Value.ref A51, Value.ref A52, Value.ref A53, Value.int 0, Value.int 0, Value.int 0, Value.int (-1), Value.int 0, Value.ref A54, Value.ref A62, Value.ref A70, Value.int 0, Value.int 0, Value.int 0, Value.ref A78, Value.ref A79, Value.int 0, Value.int 16, Value.int 4, u0, Value.ref A80, Value.ref A81, Value.ref A82, Value.int 0, Value.ref A83, Value.int 0, Value.int 0, Value.int 0])) : Nat × va_E) := ⟨_, rfl⟩
  replace hP : va_P D classes ws1 H := by rw [e_ws1]; exact hP9
  replace hD : va_D A ws1 := by rw [e_ws1]; exact hD9
  replace hS := hS9
  clear hP9 hD9 hS9
  have f_46_ws1 : ws1[46]? = some ((A46, Sum.inr (8, [Value.int 2, Value.int 0, Value.ref A47, Value.ref A48, Value.ref A49, Value.int 0, Value.ref A50, Value.ref A51, Value.ref A52, Value.ref A53, Value.int 0, Value.int 0, Value.int 0, Value.int (-1), Value.int 0, Value.ref A54, Value.ref A62, Value.ref A70, Value.int 0, Value.int 0, Value.int 0, Value.ref A78, Value.ref A79, Value.int 0, Value.int 16, Value.int 4, u0, Value.ref A80, Value.ref A81, Value.ref A82, Value.int 0, Value.ref A83, Value.int 0, Value.int 0, Value.int 0])) : Nat × va_E) := by rw [e_ws1]; exact gs_self f_46
  replace hU : gx_g ws ws1 0 [46] := by rw [e_ws1]; exact hU.put (Or.inl (by simp))
  refine lv_iconst (v := 0) hx hb d_Mo_done_5 (by decide) ?_
  refine lv_istore_n (lv' := [(3, Value.int 0), (0, Value.ref A46), (1, Value.int 0), (2, Value.int 1256)]) hx hb d_Mo_done_6 rfl hl (by decide) rfl (fun ls hl => ?_)
  refine lv_ldc (v := 100000) hx hb hown (hts _ ki_Mo_83) d_Mo_done_7 ?_
  refine lv_istore (lv' := [(4, Value.int 100000), (3, Value.int 0), (0, Value.ref A46), (1, Value.int 0), (2, Value.int 1256)]) hx hb d_Mo_done_9 hl (by decide) rfl (fun ls hl => ?_)
  refine lv_iload hx hb d_Mo_done_11 (lv_at hl 0 rfl) ?_
  refine lv_if_le (tgt := 60) hx hb d_Mo_done_13 (by decide) (fun c9 => absurd c9 (by decide)) (fun _ => ?_)
  refine lv_iload_n hx hb d_Mo_done_16 rfl (lv_at hl 4 rfl) ?_
  refine lv_iload hx hb d_Mo_done_17 (lv_at hl 0 rfl) ?_
  refine lv_idiv hx hb d_Mo_done_19 (by decide) ?_
  refine gx_topi (y := 0) (by decide) ?_
  refine lv_bipush (v := 10) hx hb d_Mo_done_20 (by decide) ?_
  refine lv_irem hx hb d_Mo_done_22 (by decide) ?_
  refine gx_topi (y := 0) (by decide) ?_
  refine lv_istore (lv' := [(5, Value.int 0), (4, Value.int 100000), (3, Value.int 0), (0, Value.ref A46), (1, Value.int 0), (2, Value.int 1256)]) hx hb d_Mo_done_23 hl (by decide) rfl (fun ls hl => ?_)
  refine lv_iload hx hb d_Mo_done_25 (lv_at hl 0 rfl) ?_
  refine lv_if_ne (tgt := 33) hx hb d_Mo_done_27 (by decide) (fun c9 => absurd (by decide) c9) (fun _ => ?_)
  refine lv_goto (tgt := 50) hx hb d_Mo_done_30 (by decide) ?_
  refine lv_iload hx hb d_Mo_done_50 (lv_at hl 1 rfl) ?_
  refine lv_bipush (v := 10) hx hb d_Mo_done_52 (by decide) ?_
  refine lv_idiv hx hb d_Mo_done_54 (by decide) ?_
  refine gx_topi (y := 10000) (by decide) ?_
  refine lv_istore (lv' := [(4, Value.int 10000), (5, Value.int 0), (3, Value.int 0), (0, Value.ref A46), (1, Value.int 0), (2, Value.int 1256)]) hx hb d_Mo_done_55 hl (by decide) rfl (fun ls hl => ?_)
  refine lv_goto (tgt := 11) hx hb d_Mo_done_57 (by decide) ?_
  refine lv_iload hx hb d_Mo_done_11 (lv_at hl 0 rfl) ?_
  refine lv_if_le (tgt := 60) hx hb d_Mo_done_13 (by decide) (fun c9 => absurd c9 (by decide)) (fun _ => ?_)
  refine lv_iload_n hx hb d_Mo_done_16 rfl (lv_at hl 5 rfl) ?_
  refine lv_iload hx hb d_Mo_done_17 (lv_at hl 0 rfl) ?_
  refine lv_idiv hx hb d_Mo_done_19 (by decide) ?_
  refine gx_topi (y := 0) (by decide) ?_
  refine lv_bipush (v := 10) hx hb d_Mo_done_20 (by decide) ?_
  refine lv_irem hx hb d_Mo_done_22 (by decide) ?_
  refine gx_topi (y := 0) (by decide) ?_
  refine lv_istore (lv' := [(5, Value.int 0), (4, Value.int 10000), (3, Value.int 0), (0, Value.ref A46), (1, Value.int 0), (2, Value.int 1256)]) hx hb d_Mo_done_23 hl (by decide) rfl (fun ls hl => ?_)
  refine lv_iload hx hb d_Mo_done_25 (lv_at hl 0 rfl) ?_
  refine lv_if_ne (tgt := 33) hx hb d_Mo_done_27 (by decide) (fun c9 => absurd (by decide) c9) (fun _ => ?_)
  refine lv_goto (tgt := 50) hx hb d_Mo_done_30 (by decide) ?_
  refine lv_iload hx hb d_Mo_done_50 (lv_at hl 1 rfl) ?_
  refine lv_bipush (v := 10) hx hb d_Mo_done_52 (by decide) ?_
  refine lv_idiv hx hb d_Mo_done_54 (by decide) ?_
  refine gx_topi (y := 1000) (by decide) ?_
  refine lv_istore (lv' := [(4, Value.int 1000), (5, Value.int 0), (3, Value.int 0), (0, Value.ref A46), (1, Value.int 0), (2, Value.int 1256)]) hx hb d_Mo_done_55 hl (by decide) rfl (fun ls hl => ?_)
  refine lv_goto (tgt := 11) hx hb d_Mo_done_57 (by decide) ?_
  refine lv_iload hx hb d_Mo_done_11 (lv_at hl 0 rfl) ?_
  refine lv_if_le (tgt := 60) hx hb d_Mo_done_13 (by decide) (fun c9 => absurd c9 (by decide)) (fun _ => ?_)
  refine lv_iload_n hx hb d_Mo_done_16 rfl (lv_at hl 5 rfl) ?_
  refine lv_iload hx hb d_Mo_done_17 (lv_at hl 0 rfl) ?_
  refine lv_idiv hx hb d_Mo_done_19 (by decide) ?_
  refine gx_topi (y := 1) (by decide) ?_
  refine lv_bipush (v := 10) hx hb d_Mo_done_20 (by decide) ?_
  refine lv_irem hx hb d_Mo_done_22 (by decide) ?_
  refine gx_topi (y := 1) (by decide) ?_
  refine lv_istore (lv' := [(5, Value.int 1), (4, Value.int 1000), (3, Value.int 0), (0, Value.ref A46), (1, Value.int 0), (2, Value.int 1256)]) hx hb d_Mo_done_23 hl (by decide) rfl (fun ls hl => ?_)
  refine lv_iload hx hb d_Mo_done_25 (lv_at hl 0 rfl) ?_
  refine lv_if_ne (tgt := 33) hx hb d_Mo_done_27 (by decide) (fun _ => ?_) (fun c9 => absurd c9 (by decide))
  refine lv_iinc (v := 1) (lv' := [(3, Value.int 1), (5, Value.int 1), (4, Value.int 1000), (0, Value.ref A46), (1, Value.int 0), (2, Value.int 1256)]) hx hb d_Mo_done_33 hl (k := 2) rfl (by decide) (by decide) rfl (fun ls hl => ?_)
  refine lv_iload hx hb d_Mo_done_36 (lv_at hl 1 rfl) ?_
  refine lv_aload_n hx hb d_Mo_done_38 rfl (lv_at hl 3 rfl) ?_
  refine va_get (D := D) (ci := 8) (v := Value.int 2) (C := "CommitLedgerModel") (T := F_Mo) (N := 35) hx hb hts i_Mo hown hK hP 46 f_46_ws1 rfl 0 (by decide) (hts _ kf_Mo_84) (fun _ h9 => h9) rfl d_Mo_done_39 ?_
  refine lv_icmp_ne (tgt := 50) hx hb d_Mo_done_42 (by decide) (fun _ => ?_) (fun c9 => absurd c9 (by decide))
  refine lv_iload hx hb d_Mo_done_50 (lv_at hl 2 rfl) ?_
  refine lv_bipush (v := 10) hx hb d_Mo_done_52 (by decide) ?_
  refine lv_idiv hx hb d_Mo_done_54 (by decide) ?_
  refine gx_topi (y := 100) (by decide) ?_
  refine lv_istore (lv' := [(4, Value.int 100), (3, Value.int 1), (5, Value.int 1), (0, Value.ref A46), (1, Value.int 0), (2, Value.int 1256)]) hx hb d_Mo_done_55 hl (by decide) rfl (fun ls hl => ?_)
  refine lv_goto (tgt := 11) hx hb d_Mo_done_57 (by decide) ?_
  refine lv_iload hx hb d_Mo_done_11 (lv_at hl 0 rfl) ?_
  refine lv_if_le (tgt := 60) hx hb d_Mo_done_13 (by decide) (fun c9 => absurd c9 (by decide)) (fun _ => ?_)
  refine lv_iload_n hx hb d_Mo_done_16 rfl (lv_at hl 5 rfl) ?_
  refine lv_iload hx hb d_Mo_done_17 (lv_at hl 0 rfl) ?_
  refine lv_idiv hx hb d_Mo_done_19 (by decide) ?_
  refine gx_topi (y := 12) (by decide) ?_
  refine lv_bipush (v := 10) hx hb d_Mo_done_20 (by decide) ?_
  refine lv_irem hx hb d_Mo_done_22 (by decide) ?_
  refine gx_topi (y := 2) (by decide) ?_
  refine lv_istore (lv' := [(5, Value.int 2), (4, Value.int 100), (3, Value.int 1), (0, Value.ref A46), (1, Value.int 0), (2, Value.int 1256)]) hx hb d_Mo_done_23 hl (by decide) rfl (fun ls hl => ?_)
  refine lv_iload hx hb d_Mo_done_25 (lv_at hl 0 rfl) ?_
  refine lv_if_ne (tgt := 33) hx hb d_Mo_done_27 (by decide) (fun _ => ?_) (fun c9 => absurd c9 (by decide))
  refine lv_iinc (v := 2) (lv' := [(3, Value.int 2), (5, Value.int 2), (4, Value.int 100), (0, Value.ref A46), (1, Value.int 0), (2, Value.int 1256)]) hx hb d_Mo_done_33 hl (k := 2) rfl (by decide) (by decide) rfl (fun ls hl => ?_)
  refine lv_iload hx hb d_Mo_done_36 (lv_at hl 1 rfl) ?_
  refine lv_aload_n hx hb d_Mo_done_38 rfl (lv_at hl 3 rfl) ?_
  refine va_get (D := D) (ci := 8) (v := Value.int 2) (C := "CommitLedgerModel") (T := F_Mo) (N := 35) hx hb hts i_Mo hown hK hP 46 f_46_ws1 rfl 0 (by decide) (hts _ kf_Mo_84) (fun _ h9 => h9) rfl d_Mo_done_39 ?_
  refine lv_icmp_ne (tgt := 50) hx hb d_Mo_done_42 (by decide) (fun c9 => absurd (by decide) c9) (fun _ => ?_)
  refine lv_aload_n hx hb d_Mo_done_45 rfl (lv_at hl 3 rfl) ?_
  refine lv_iload_n hx hb d_Mo_done_46 rfl (lv_at hl 0 rfl) ?_
  refine va_put (D := D) (ci := 8) (v := Value.int 2) (ty := .int) (C := "CommitLedgerModel") (T := F_Mo) (N := 35) hx hb hts i_Mo t_Mo t_Mo_ok n_Mo hown hK hP hD hS 46 f_46_ws1 rfl 1 (by decide) (hts _ kf_Mo_80) (fun _ h9 => h9) rfl (by decide +kernel) rfl rfl (Nat.le_of_ble_eq_true rfl) d_Mo_done_47 (fun H locs hP9 hD9 hS9 => ?_)
  obtain ⟨ws2, e_ws2⟩ : ∃ x : va_W, x = ws1.set 46 ((A46, Sum.inr (8, [Value.int 2, Value.int 2, Value.ref A47, Value.ref A48, Value.ref A49, Value.int 0, Value.ref A50, Value.ref A51, Value.ref A52, Value.ref A53, Value.int 0, Value.int 0, Value.int 0, Value.int (-1), Value.int 0, Value.ref A54, Value.ref A62, Value.ref A70, Value.int 0, Value.int 0, Value.int 0, Value.ref A78, Value.ref A79, Value.int 0, Value.int 16, Value.int 4, u0, Value.ref A80, Value.ref A81, Value.ref A82, Value.int 0, Value.ref A83, Value.int 0, Value.int 0, Value.int 0])) : Nat × va_E) := ⟨_, rfl⟩
  replace hP : va_P D classes ws2 H := by rw [e_ws2]; exact hP9
  replace hD : va_D A ws2 := by rw [e_ws2]; exact hD9
  replace hS := hS9
  clear hP9 hD9 hS9
  have f_46_ws2 : ws2[46]? = some ((A46, Sum.inr (8, [Value.int 2, Value.int 2, Value.ref A47, Value.ref A48, Value.ref A49, Value.int 0, Value.ref A50, Value.ref A51, Value.ref A52, Value.ref A53, Value.int 0, Value.int 0, Value.int 0, Value.int (-1), Value.int 0, Value.ref A54, Value.ref A62, Value.ref A70, Value.int 0, Value.int 0, Value.int 0, Value.ref A78, Value.ref A79, Value.int 0, Value.int 16, Value.int 4, u0, Value.ref A80, Value.ref A81, Value.ref A82, Value.int 0, Value.ref A83, Value.int 0, Value.int 0, Value.int 0])) : Nat × va_E) := by rw [e_ws2]; exact gs_self f_46_ws1
  replace hU : gx_g ws ws2 0 [46] := by rw [e_ws2]; exact hU.put (Or.inl (by simp))
  refine lv_iload hx hb d_Mo_done_50 (lv_at hl 2 rfl) ?_
  refine lv_bipush (v := 10) hx hb d_Mo_done_52 (by decide) ?_
  refine lv_idiv hx hb d_Mo_done_54 (by decide) ?_
  refine gx_topi (y := 10) (by decide) ?_
  refine lv_istore (lv' := [(4, Value.int 10), (3, Value.int 2), (5, Value.int 2), (0, Value.ref A46), (1, Value.int 0), (2, Value.int 1256)]) hx hb d_Mo_done_55 hl (by decide) rfl (fun ls hl => ?_)
  refine lv_goto (tgt := 11) hx hb d_Mo_done_57 (by decide) ?_
  refine lv_iload hx hb d_Mo_done_11 (lv_at hl 0 rfl) ?_
  refine lv_if_le (tgt := 60) hx hb d_Mo_done_13 (by decide) (fun c9 => absurd c9 (by decide)) (fun _ => ?_)
  refine lv_iload_n hx hb d_Mo_done_16 rfl (lv_at hl 5 rfl) ?_
  refine lv_iload hx hb d_Mo_done_17 (lv_at hl 0 rfl) ?_
  refine lv_idiv hx hb d_Mo_done_19 (by decide) ?_
  refine gx_topi (y := 125) (by decide) ?_
  refine lv_bipush (v := 10) hx hb d_Mo_done_20 (by decide) ?_
  refine lv_irem hx hb d_Mo_done_22 (by decide) ?_
  refine gx_topi (y := 5) (by decide) ?_
  refine lv_istore (lv' := [(5, Value.int 5), (4, Value.int 10), (3, Value.int 2), (0, Value.ref A46), (1, Value.int 0), (2, Value.int 1256)]) hx hb d_Mo_done_23 hl (by decide) rfl (fun ls hl => ?_)
  refine lv_iload hx hb d_Mo_done_25 (lv_at hl 0 rfl) ?_
  refine lv_if_ne (tgt := 33) hx hb d_Mo_done_27 (by decide) (fun _ => ?_) (fun c9 => absurd c9 (by decide))
  refine lv_iinc (v := 3) (lv' := [(3, Value.int 3), (5, Value.int 5), (4, Value.int 10), (0, Value.ref A46), (1, Value.int 0), (2, Value.int 1256)]) hx hb d_Mo_done_33 hl (k := 2) rfl (by decide) (by decide) rfl (fun ls hl => ?_)
  refine lv_iload hx hb d_Mo_done_36 (lv_at hl 1 rfl) ?_
  refine lv_aload_n hx hb d_Mo_done_38 rfl (lv_at hl 3 rfl) ?_
  refine va_get (D := D) (ci := 8) (v := Value.int 2) (C := "CommitLedgerModel") (T := F_Mo) (N := 35) hx hb hts i_Mo hown hK hP 46 f_46_ws2 rfl 0 (by decide) (hts _ kf_Mo_84) (fun _ h9 => h9) rfl d_Mo_done_39 ?_
  refine lv_icmp_ne (tgt := 50) hx hb d_Mo_done_42 (by decide) (fun _ => ?_) (fun c9 => absurd c9 (by decide))
  refine lv_iload hx hb d_Mo_done_50 (lv_at hl 2 rfl) ?_
  refine lv_bipush (v := 10) hx hb d_Mo_done_52 (by decide) ?_
  refine lv_idiv hx hb d_Mo_done_54 (by decide) ?_
  refine gx_topi (y := 1) (by decide) ?_
  refine lv_istore (lv' := [(4, Value.int 1), (3, Value.int 3), (5, Value.int 5), (0, Value.ref A46), (1, Value.int 0), (2, Value.int 1256)]) hx hb d_Mo_done_55 hl (by decide) rfl (fun ls hl => ?_)
  refine lv_goto (tgt := 11) hx hb d_Mo_done_57 (by decide) ?_
  refine lv_iload hx hb d_Mo_done_11 (lv_at hl 0 rfl) ?_
  refine lv_if_le (tgt := 60) hx hb d_Mo_done_13 (by decide) (fun c9 => absurd c9 (by decide)) (fun _ => ?_)
  refine lv_iload_n hx hb d_Mo_done_16 rfl (lv_at hl 5 rfl) ?_
  refine lv_iload hx hb d_Mo_done_17 (lv_at hl 0 rfl) ?_
  refine lv_idiv hx hb d_Mo_done_19 (by decide) ?_
  refine gx_topi (y := 1256) (by decide) ?_
  refine lv_bipush (v := 10) hx hb d_Mo_done_20 (by decide) ?_
  refine lv_irem hx hb d_Mo_done_22 (by decide) ?_
  refine gx_topi (y := 6) (by decide) ?_
  refine lv_istore (lv' := [(5, Value.int 6), (4, Value.int 1), (3, Value.int 3), (0, Value.ref A46), (1, Value.int 0), (2, Value.int 1256)]) hx hb d_Mo_done_23 hl (by decide) rfl (fun ls hl => ?_)
  refine lv_iload hx hb d_Mo_done_25 (lv_at hl 0 rfl) ?_
  refine lv_if_ne (tgt := 33) hx hb d_Mo_done_27 (by decide) (fun _ => ?_) (fun c9 => absurd c9 (by decide))
  refine lv_iinc (v := 4) (lv' := [(3, Value.int 4), (5, Value.int 6), (4, Value.int 1), (0, Value.ref A46), (1, Value.int 0), (2, Value.int 1256)]) hx hb d_Mo_done_33 hl (k := 2) rfl (by decide) (by decide) rfl (fun ls hl => ?_)
  refine lv_iload hx hb d_Mo_done_36 (lv_at hl 1 rfl) ?_
  refine lv_aload_n hx hb d_Mo_done_38 rfl (lv_at hl 3 rfl) ?_
  refine va_get (D := D) (ci := 8) (v := Value.int 2) (C := "CommitLedgerModel") (T := F_Mo) (N := 35) hx hb hts i_Mo hown hK hP 46 f_46_ws2 rfl 0 (by decide) (hts _ kf_Mo_84) (fun _ h9 => h9) rfl d_Mo_done_39 ?_
  refine lv_icmp_ne (tgt := 50) hx hb d_Mo_done_42 (by decide) (fun _ => ?_) (fun c9 => absurd c9 (by decide))
  refine lv_iload hx hb d_Mo_done_50 (lv_at hl 2 rfl) ?_
  refine lv_bipush (v := 10) hx hb d_Mo_done_52 (by decide) ?_
  refine lv_idiv hx hb d_Mo_done_54 (by decide) ?_
  refine gx_topi (y := 0) (by decide) ?_
  refine lv_istore (lv' := [(4, Value.int 0), (3, Value.int 4), (5, Value.int 6), (0, Value.ref A46), (1, Value.int 0), (2, Value.int 1256)]) hx hb d_Mo_done_55 hl (by decide) rfl (fun ls hl => ?_)
  refine lv_goto (tgt := 11) hx hb d_Mo_done_57 (by decide) ?_
  refine lv_iload hx hb d_Mo_done_11 (lv_at hl 0 rfl) ?_
  refine lv_if_le (tgt := 60) hx hb d_Mo_done_13 (by decide) (fun _ => ?_) (fun c9 => absurd (by decide) c9)
  refine lv_aload_n hx hb d_Mo_done_60 rfl (lv_at hl 3 rfl) ?_
  refine lv_iconst (v := 0) hx hb d_Mo_done_61 (by decide) ?_
  refine va_put (D := D) (ci := 8) (v := Value.int 0) (ty := .int) (C := "CommitLedgerModel") (T := F_Mo) (N := 35) hx hb hts i_Mo t_Mo t_Mo_ok n_Mo hown hK hP hD hS 46 f_46_ws2 rfl 0 (by decide) (hts _ kf_Mo_84) (fun _ h9 => h9) rfl (by decide +kernel) rfl rfl (Nat.le_of_ble_eq_true rfl) d_Mo_done_62 (fun H locs hP9 hD9 hS9 => ?_)
  obtain ⟨ws3, e_ws3⟩ : ∃ x : va_W, x = ws2.set 46 ((A46, Sum.inr (8, [Value.int 0, Value.int 2, Value.ref A47, Value.ref A48, Value.ref A49, Value.int 0, Value.ref A50, Value.ref A51, Value.ref A52, Value.ref A53, Value.int 0, Value.int 0, Value.int 0, Value.int (-1), Value.int 0, Value.ref A54, Value.ref A62, Value.ref A70, Value.int 0, Value.int 0, Value.int 0, Value.ref A78, Value.ref A79, Value.int 0, Value.int 16, Value.int 4, u0, Value.ref A80, Value.ref A81, Value.ref A82, Value.int 0, Value.ref A83, Value.int 0, Value.int 0, Value.int 0])) : Nat × va_E) := ⟨_, rfl⟩
  replace hP : va_P D classes ws3 H := by rw [e_ws3]; exact hP9
  replace hD : va_D A ws3 := by rw [e_ws3]; exact hD9
  replace hS := hS9
  clear hP9 hD9 hS9
  have f_46_ws3 : ws3[46]? = some ((A46, Sum.inr (8, [Value.int 0, Value.int 2, Value.ref A47, Value.ref A48, Value.ref A49, Value.int 0, Value.ref A50, Value.ref A51, Value.ref A52, Value.ref A53, Value.int 0, Value.int 0, Value.int 0, Value.int (-1), Value.int 0, Value.ref A54, Value.ref A62, Value.ref A70, Value.int 0, Value.int 0, Value.int 0, Value.ref A78, Value.ref A79, Value.int 0, Value.int 16, Value.int 4, u0, Value.ref A80, Value.ref A81, Value.ref A82, Value.int 0, Value.ref A83, Value.int 0, Value.int 0, Value.int 0])) : Nat × va_E) := by rw [e_ws3]; exact gs_self f_46_ws2
  replace hU : gx_g ws ws3 0 [46] := by rw [e_ws3]; exact hU.put (Or.inl (by simp))
  refine lv_aload_n hx hb d_Mo_done_65 rfl (lv_at hl 3 rfl) ?_
  refine va_get (D := D) (ci := 8) (v := Value.int 2) (C := "CommitLedgerModel") (T := F_Mo) (N := 35) hx hb hts i_Mo hown hK hP 46 f_46_ws3 rfl 1 (by decide) (hts _ kf_Mo_80) (fun _ h9 => h9) rfl d_Mo_done_66 ?_
  refine lv_if_le (tgt := 76) hx hb d_Mo_done_69 (by decide) (fun c9 => absurd c9 (by decide)) (fun _ => ?_)
  refine lv_iconst (v := 0) hx hb d_Mo_done_72 (by decide) ?_
  refine lv_goto (tgt := 77) hx hb d_Mo_done_73 (by decide) ?_
  exact gx_ret (W.iret (v := 0) hx hb hr (gx_post hP hK hD hS (by rw [← hPQ]; exact ⟨rfl, hU, f_46_ws3⟩)) hS.2.2 d_Mo_done_77)

set_option maxHeartbeats 4000000 in
set_option maxRecDepth 100000 in
theorem c_Mo_add_v1 (l : Launch) (htr : l.stackTraces = false) (D : va_G) (tys : List (ClassId × FieldType)) (z sz : Nat) (ws : va_W) (A46 : Nat) (p0 : Int32) (p1 : Int32) (p2 : Int32) (A47 : Nat) (A48 : Nat) (A49 : Nat) (A50 : Nat) (A51 : Nat) (A52 : Nat) (A53 : Nat) (A54 : Nat) (A62 : Nat) (A70 : Nat) (A78 : Nat) (A79 : Nat) (u0 : Value) (A80 : Nat) (A81 : Nat) (A82 : Nat) (A83 : Nat) (f_46 : ws[46]? = some ((A46, Sum.inr (8, [Value.int 0, Value.int 0, Value.ref A47, Value.ref A48, Value.ref A49, Value.int 0, Value.ref A50, Value.ref A51, Value.ref A52, Value.ref A53, Value.int 0, Value.int 0, Value.int 0, Value.int (-1), Value.int 0, Value.ref A54, Value.ref A62, Value.ref A70, Value.int 0, Value.int 0, Value.int 0, Value.ref A78, Value.ref A79, Value.int 0, Value.int 16, Value.int 4, u0, Value.ref A80, Value.ref A81, Value.ref A82, Value.int 0, Value.ref A83, Value.int 0, Value.int 0, Value.int 0])) : Nat × va_E)) : gx_Met l y_Mo_add [Cond.code y_Mo_add b_Mo_add 5 (some .int)] { frames := 2, cells := 0, slots := 0, locals := 37 } (gx_P z sz D classes tys ws [Value.ref A46, Value.int p0, Value.int p1, Value.int p2]) (gx_Q D classes tys (va_A ws sz) (fun r ws' => (r = Sum.inl (some (Value.int 0)) ∧ gx_g ws ws' 0 [46] ∧ ws'[46]? = some ((A46, Sum.inr (8, [Value.int 0, Value.int 1, Value.ref A47, Value.ref A48, Value.ref A49, Value.int 0, Value.ref A50, Value.ref A51, Value.ref A52, Value.ref A53, Value.int 0, Value.int 0, Value.int 0, Value.int (-1), Value.int 0, Value.ref A54, Value.ref A62, Value.ref A70, Value.int 0, Value.int 0, Value.int 0, Value.ref A78, Value.ref A79, Value.int 0, Value.int 16, Value.int 4, u0, Value.ref A80, Value.ref A81, Value.ref A82, Value.int 0, Value.ref A83, Value.int 0, Value.int 0, Value.int 0])) : Nat × va_E) ∧ p2 < 1) ∨ (r = Sum.inl (some (Value.int 0)) ∧ gx_g ws ws' 0 [46] ∧ ws'[46]? = some ((A46, Sum.inr (8, [Value.int 0, Value.int 2, Value.ref A47, Value.ref A48, Value.ref A49, Value.int 0, Value.ref A50, Value.ref A51, Value.ref A52, Value.ref A53, Value.int 0, Value.int 0, Value.int 0, Value.int (-1), Value.int 0, Value.ref A54, Value.ref A62, Value.ref A70, Value.int 0, Value.int 0, Value.int 0, Value.ref A78, Value.ref A79, Value.int 0, Value.int 16, Value.int 4, u0, Value.ref A80, Value.ref A81, Value.ref A82, Value.int 0, Value.ref A83, Value.int 0, Value.int 0, Value.int 0])) : Nat × va_E) ∧ ¬ p2 < 1 ∧ p2 ≤ 100) ∨ (r = Sum.inl (some (Value.int 0)) ∧ gx_g ws ws' 0 [46] ∧ ws'[46]? = some ((A46, Sum.inr (8, [Value.int 0, Value.int 1, Value.ref A47, Value.ref A48, Value.ref A49, Value.int 0, Value.ref A50, Value.ref A51, Value.ref A52, Value.ref A53, Value.int 0, Value.int 0, Value.int 0, Value.int (-1), Value.int 0, Value.ref A54, Value.ref A62, Value.ref A70, Value.int 0, Value.int 0, Value.int 0, Value.ref A78, Value.ref A79, Value.int 0, Value.int 16, Value.int 4, u0, Value.ref A80, Value.ref A81, Value.ref A82, Value.int 0, Value.ref A83, Value.int 0, Value.int 0, Value.int 0])) : Nat × va_E) ∧ ¬ p2 < 1 ∧ ¬ p2 ≤ 100))) 0 0 (va_A ws sz) := by
  refine gx_ofW (cc := b_Mo_add) (maxL := 5) (ret := (some .int)) (by decide) rfl ?_
  intro p e s m args below meth c s₁ B hml hv
  obtain ⟨rfl, hsz, hz, hP, hK, hD0, hY⟩ := hv
  have hx := B.exec
  have hb := B.bytes
  have hr := B.returns
  have hts := hY.hts (#[Value.ref A46, Value.int p0, Value.int p1, Value.int p2] : Array Value)
  have hown : s.vm.findClass "CommitLedgerModel" = some m.cls := findClass_of_methodNamed B.named
  have hlocks := B.notSynchronized
  have hne : c.exceptionTable.isEmpty = true := B.noHandlers (atoms_spec (ws := [Cond.code y_Mo_add b_Mo_add 5 (some .int)]) B.pre _ List.mem_cons_self)
  subst hsz
  have hAz := gx_az hD0 hz
  have hD := hD0.self (sz := s.heap.size)
  have hN := gx_ns hP
  have hA : ∀ q : Nat, s.heap.size ≤ q → va_A ws s.heap.size q := fun q h => Or.inr h
  generalize va_A ws s.heap.size = A at hD hN hA hAz ⊢
  generalize hPQ : (fun (r : Option Value ⊕ String) (ws' : va_W) => (r = Sum.inl (some (Value.int 0)) ∧ gx_g ws ws' 0 [46] ∧ ws'[46]? = some ((A46, Sum.inr (8, [Value.int 0, Value.int 1, Value.ref A47, Value.ref A48, Value.ref A49, Value.int 0, Value.ref A50, Value.ref A51, Value.ref A52, Value.ref A53, Value.int 0, Value.int 0, Value.int 0, Value.int (-1), Value.int 0, Value.ref A54, Value.ref A62, Value.ref A70, Value.int 0, Value.int 0, Value.int 0, Value.ref A78, Value.ref A79, Value.int 0, Value.int 16, Value.int 4, u0, Value.ref A80, Value.ref A81, Value.ref A82, Value.int 0, Value.ref A83, Value.int 0, Value.int 0, Value.int 0])) : Nat × va_E) ∧ p2 < 1) ∨ (r = Sum.inl (some (Value.int 0)) ∧ gx_g ws ws' 0 [46] ∧ ws'[46]? = some ((A46, Sum.inr (8, [Value.int 0, Value.int 2, Value.ref A47, Value.ref A48, Value.ref A49, Value.int 0, Value.ref A50, Value.ref A51, Value.ref A52, Value.ref A53, Value.int 0, Value.int 0, Value.int 0, Value.int (-1), Value.int 0, Value.ref A54, Value.ref A62, Value.ref A70, Value.int 0, Value.int 0, Value.int 0, Value.ref A78, Value.ref A79, Value.int 0, Value.int 16, Value.int 4, u0, Value.ref A80, Value.ref A81, Value.ref A82, Value.int 0, Value.ref A83, Value.int 0, Value.int 0, Value.int 0])) : Nat × va_E) ∧ ¬ p2 < 1 ∧ p2 ≤ 100) ∨ (r = Sum.inl (some (Value.int 0)) ∧ gx_g ws ws' 0 [46] ∧ ws'[46]? = some ((A46, Sum.inr (8, [Value.int 0, Value.int 1, Value.ref A47, Value.ref A48, Value.ref A49, Value.int 0, Value.ref A50, Value.ref A51, Value.ref A52, Value.ref A53, Value.int 0, Value.int 0, Value.int 0, Value.int (-1), Value.int 0, Value.ref A54, Value.ref A62, Value.ref A70, Value.int 0, Value.int 0, Value.int 0, Value.ref A78, Value.ref A79, Value.int 0, Value.int 16, Value.int 4, u0, Value.ref A80, Value.ref A81, Value.ref A82, Value.int 0, Value.ref A83, Value.int 0, Value.int 0, Value.int 0])) : Nat × va_E) ∧ ¬ p2 < 1 ∧ ¬ p2 ≤ 100)) = PQ
  have hS : va_S A s.heap s.heap [] := va_S.rf
  have hU : gx_g ws ws 0 [46] := gx_g.rf
  have hl := lv_entry ([Value.ref A46, Value.int p0, Value.int p1, Value.int p2]) (n := 5) (Nat.le_of_ble_eq_true rfl)
  rw [lg_entry_eq]
  generalize (lg_sl ([Value.ref A46, Value.int p0, Value.int p1, Value.int p2]) ++ List.replicate (5 - (lg_sl ([Value.ref A46, Value.int p0, Value.int p1, Value.int p2])).length) Slot.unset).toArray = ls at hl ⊢
  have hl : lv_has ls 5 [(0, Value.ref A46), (1, Value.int p0), (2, Value.int p1), (3, Value.int p2)] := hl
  refine lv_aload_n hx hb d_Mo_add_0 rfl (lv_at hl 0 rfl) ?_
  refine lv_iload_n hx hb d_Mo_add_1 rfl (lv_at hl 3 rfl) ?_
  refine lv_iconst (v := 1) hx hb d_Mo_add_2 (by decide) ?_
  refine lv_icmp_lt (tgt := 12) hx hb d_Mo_add_3 (by decide) (fun c3_1 => ?_) (fun c3_1 => ?_)
  · refine lv_iconst (v := 1) hx hb d_Mo_add_12 (by decide) ?_
    refine lv_goto (tgt := 17) hx hb d_Mo_add_13 (by decide) ?_
    refine lv_iconst (v := 1) hx hb d_Mo_add_17 (by decide) ?_
    refine gx_call (ig := .invokevirtual 152) (c_Mo_wrong_v1 l htr D tys z _ ws A46 A47 A48 A49 A50 A51 A52 A53 A54 A62 A70 A78 A79 (u0) A80 A81 A82 A83 f_46) (gx_invV (As := [Value.int 1, Value.int 1]) (rest := []) hx hb hown hts km_Mo_152 kI_Mo_wrong kV_Mo_wrong kc_Mo_wrong (by decide) (show (parseMethodDescriptor y_Mo_wrong.desc).map (fun d => d.parameters.length) = some 2 by decide +kernel) (gx_recv (ci := 8) hK hP rfl f_46) rfl rfl d_Mo_add_18) (gx_cw (z := 0) hts kc_Mo_wrong kN_Mo rfl rfl ⟨Nat.le_of_ble_eq_true rfl, Nat.le_of_ble_eq_true rfl⟩) hb hml gx_blind (gx_pre hz hP hK hD hY hS hAz [Value.ref A46, Value.int 1, Value.int 1]) rfl hl.1 (lv_room (Nat.le_of_ble_eq_true rfl)) d_Mo_add_18 ⟨Nat.le_of_ble_eq_true rfl, Nat.le_of_ble_eq_true rfl⟩ (fun v2 st2 t2 L2 h0_2 hW_2 hQ_2 hL_2 => ?_) (fun v2 st2 t2 L2 h0_2 hW_2 hQ_2 hL_2 => ?_)
    · obtain ⟨ws3, hp, hP9, -, hD9, hS9⟩ := gx_back h0_2 hW_2 hQ_2 hL_2 hD hS hA
      clear hQ_2 h0_2 hL_2 hW_2 hP hD hS
      have hP := hP9
      have hD := hD9
      have hS := hS9
      clear hP9 hD9 hS9
      rcases hp with ⟨hv9, e_ws3, f_46_ws3⟩
      cases hv9
      have f_46_ws3 : ws3[46]? = some ((A46, Sum.inr (8, [Value.int 1, Value.int 0, Value.ref A47, Value.ref A48, Value.ref A49, Value.int 0, Value.ref A50, Value.ref A51, Value.ref A52, Value.ref A53, Value.int 0, Value.int 0, Value.int 0, Value.int (-1), Value.int 0, Value.ref A54, Value.ref A62, Value.ref A70, Value.int 0, Value.int 0, Value.int 0, Value.ref A78, Value.ref A79, Value.int 0, Value.int 16, Value.int 4, u0, Value.ref A80, Value.ref A81, Value.ref A82, Value.int 0, Value.ref A83, Value.int 0, Value.int 0, Value.int 0])) : Nat × va_E) := f_46_ws3
      replace hU : gx_g ws ws3 0 [46] := hU.call e_ws3 (by simp; first | done | omega)
      refine W.eq (g2 := F0 m 21 ls [Value.int 1]) rfl ?_
      generalize t2.heap = H at hP hS ⊢
      generalize [] ++ L2 = locs at hS ⊢
      refine lv_if_ne (tgt := 69) hx hb d_Mo_add_21 (by decide) (fun _ => ?_) (fun c9 => absurd c9 (by decide))
      refine lv_aload_n hx hb d_Mo_add_69 rfl (lv_at hl 0 rfl) ?_
      refine lv_iconst (v := 0) hx hb d_Mo_add_70 (by decide) ?_
      refine lv_sipush (v := 1256) hx hb d_Mo_add_71 (by decide) ?_
      refine gx_call (ig := .invokevirtual 148) (c_Mo_done_v7 l htr D tys z _ ws3 A46 A47 A48 A49 A50 A51 A52 A53 A54 A62 A70 A78 A79 (u0) A80 A81 A82 A83 f_46_ws3) (gx_invV (As := [Value.int 0, Value.int 1256]) (rest := []) hx hb hown hts km_Mo_148 kI_Mo_done kV_Mo_done kc_Mo_done (by decide) (show (parseMethodDescriptor y_Mo_done.desc).map (fun d => d.parameters.length) = some 2 by decide +kernel) (gx_recv (ci := 8) hK hP rfl f_46_ws3) rfl rfl d_Mo_add_74) (gx_cw (z := 0) hts kc_Mo_done kN_Mo rfl rfl ⟨Nat.le_of_ble_eq_true rfl, Nat.le_of_ble_eq_true rfl⟩) hb hml gx_blind (gx_pre hz hP hK hD hY hS hAz [Value.ref A46, Value.int 0, Value.int 1256]) rfl hl.1 (lv_room (Nat.le_of_ble_eq_true rfl)) d_Mo_add_74 ⟨Nat.le_of_ble_eq_true rfl, Nat.le_of_ble_eq_true rfl⟩ (fun v4 st4 t4 L4 h0_4 hW_4 hQ_4 hL_4 => ?_) (fun v4 st4 t4 L4 h0_4 hW_4 hQ_4 hL_4 => ?_)
      · obtain ⟨ws5, hp, hP9, -, hD9, hS9⟩ := gx_back h0_4 hW_4 hQ_4 hL_4 hD hS hA
        clear hQ_4 h0_4 hL_4 hW_4 hP hD hS
        have hP := hP9
        have hD := hD9
        have hS := hS9
        clear hP9 hD9 hS9
        rcases hp with ⟨hv9, e_ws5, f_46_ws5⟩
        cases hv9
        have f_46_ws5 : ws5[46]? = some ((A46, Sum.inr (8, [Value.int 0, Value.int 1, Value.ref A47, Value.ref A48, Value.ref A49, Value.int 0, Value.ref A50, Value.ref A51, Value.ref A52, Value.ref A53, Value.int 0, Value.int 0, Value.int 0, Value.int (-1), Value.int 0, Value.ref A54, Value.ref A62, Value.ref A70, Value.int 0, Value.int 0, Value.int 0, Value.ref A78, Value.ref A79, Value.int 0, Value.int 16, Value.int 4, u0, Value.ref A80, Value.ref A81, Value.ref A82, Value.int 0, Value.ref A83, Value.int 0, Value.int 0, Value.int 0])) : Nat × va_E) := f_46_ws5
        replace hU : gx_g ws ws5 0 [46] := hU.call e_ws5 (by simp; first | done | omega)
        refine W.eq (g2 := F0 m 77 ls [Value.int 0]) rfl ?_
        generalize t4.heap = H at hP hS ⊢
        generalize locs ++ L4 = locs at hS ⊢
        exact gx_ret (W.iret (v := 0) hx hb hr (gx_post hP hK hD hS (by rw [← hPQ]; exact Or.inl ⟨rfl, hU, f_46_ws5, c3_1⟩)) hS.2.2 d_Mo_add_77)
      · obtain ⟨E9, ws6, ce, hp, hce, hP9, -, hD9, hS9⟩ := gx_backT h0_4 hW_4 hQ_4 hL_4 hD hS hA
        clear hQ_4 h0_4 hL_4 hW_4 hP hD hS
        have hP := hP9
        have hD := hD9
        have hS := hS9
        clear hP9 hD9 hS9
        rcases hp with ⟨hv9, e_ws6, f_46_ws6⟩
        cases hv9
    · obtain ⟨E9, ws7, ce, hp, hce, hP9, -, hD9, hS9⟩ := gx_backT h0_2 hW_2 hQ_2 hL_2 hD hS hA
      clear hQ_2 h0_2 hL_2 hW_2 hP hD hS
      have hP := hP9
      have hD := hD9
      have hS := hS9
      clear hP9 hD9 hS9
      rcases hp with ⟨hv9, e_ws7, f_46_ws7⟩
      cases hv9
  · refine lv_iload_n hx hb d_Mo_add_6 rfl (lv_at hl 3 rfl) ?_
    refine lv_bipush (v := 100) hx hb d_Mo_add_7 (by decide) ?_
    refine lv_icmp_le (tgt := 16) hx hb d_Mo_add_9 (by decide) (fun c9_8 => ?_) (fun c9_8 => ?_)
    · refine lv_iconst (v := 0) hx hb d_Mo_add_16 (by decide) ?_
      refine lv_iconst (v := 1) hx hb d_Mo_add_17 (by decide) ?_
      refine gx_call (ig := .invokevirtual 152) (c_Mo_wrong_v2 l htr D tys z _ ws A46 A47 A48 A49 A50 A51 A52 A53 A54 A62 A70 A78 A79 (u0) A80 A81 A82 A83 f_46) (gx_invV (As := [Value.int 0, Value.int 1]) (rest := []) hx hb hown hts km_Mo_152 kI_Mo_wrong kV_Mo_wrong kc_Mo_wrong (by decide) (show (parseMethodDescriptor y_Mo_wrong.desc).map (fun d => d.parameters.length) = some 2 by decide +kernel) (gx_recv (ci := 8) hK hP rfl f_46) rfl rfl d_Mo_add_18) (gx_cw (z := 0) hts kc_Mo_wrong kN_Mo rfl rfl ⟨Nat.le_of_ble_eq_true rfl, Nat.le_of_ble_eq_true rfl⟩) hb hml gx_blind (gx_pre hz hP hK hD hY hS hAz [Value.ref A46, Value.int 0, Value.int 1]) rfl hl.1 (lv_room (Nat.le_of_ble_eq_true rfl)) d_Mo_add_18 ⟨Nat.le_of_ble_eq_true rfl, Nat.le_of_ble_eq_true rfl⟩ (fun v9 st9 t9 L9 h0_9 hW_9 hQ_9 hL_9 => ?_) (fun v9 st9 t9 L9 h0_9 hW_9 hQ_9 hL_9 => ?_)
      · obtain ⟨ws10, hp, hP9, -, hD9, hS9⟩ := gx_back h0_9 hW_9 hQ_9 hL_9 hD hS hA
        clear hQ_9 h0_9 hL_9 hW_9 hP hD hS
        have hP := hP9
        have hD := hD9
        have hS := hS9
        clear hP9 hD9 hS9
        rcases hp with ⟨hv9, e_ws10⟩
        cases hv9
        rw [e_ws10] at hP hD
        refine W.eq (g2 := F0 m 21 ls [Value.int 0]) rfl ?_
        generalize t9.heap = H at hP hS ⊢
        generalize [] ++ L9 = locs at hS ⊢
        refine lv_if_ne (tgt := 69) hx hb d_Mo_add_21 (by decide) (fun c9 => absurd (by decide) c9) (fun _ => ?_)
        refine lv_aload_n hx hb d_Mo_add_24 rfl (lv_at hl 0 rfl) ?_
        refine lv_aload_n hx hb d_Mo_add_25 rfl (lv_at hl 0 rfl) ?_
        refine va_get (D := D) (ci := 8) (v := Value.int 0) (C := "CommitLedgerModel") (T := F_Mo) (N := 35) hx hb hts i_Mo hown hK hP 46 f_46 rfl 18 (by decide) (hts _ kf_Mo_99) (fun _ h9 => h9) rfl d_Mo_add_26 ?_
        refine lv_if_ne (tgt := 36) hx hb d_Mo_add_29 (by decide) (fun c9 => absurd (by decide) c9) (fun _ => ?_)
        refine lv_iconst (v := 1) hx hb d_Mo_add_32 (by decide) ?_
        refine lv_goto (tgt := 37) hx hb d_Mo_add_33 (by decide) ?_
        refine lv_iconst (v := 2) hx hb d_Mo_add_37 (by decide) ?_
        refine gx_call (ig := .invokevirtual 152) (c_Mo_wrong_v5 l htr D tys z _ ws A46 A47 A48 A49 A50 A51 A52 A53 A54 A62 A70 A78 A79 (u0) A80 A81 A82 A83 f_46) (gx_invV (As := [Value.int 1, Value.int 2]) (rest := []) hx hb hown hts km_Mo_152 kI_Mo_wrong kV_Mo_wrong kc_Mo_wrong (by decide) (show (parseMethodDescriptor y_Mo_wrong.desc).map (fun d => d.parameters.length) = some 2 by decide +kernel) (gx_recv (ci := 8) hK hP rfl f_46) rfl rfl d_Mo_add_38) (gx_cw (z := 0) hts kc_Mo_wrong kN_Mo rfl rfl ⟨Nat.le_of_ble_eq_true rfl, Nat.le_of_ble_eq_true rfl⟩) hb hml gx_blind (gx_pre hz hP hK hD hY hS hAz [Value.ref A46, Value.int 1, Value.int 2]) rfl hl.1 (lv_room (Nat.le_of_ble_eq_true rfl)) d_Mo_add_38 ⟨Nat.le_of_ble_eq_true rfl, Nat.le_of_ble_eq_true rfl⟩ (fun v11 st11 t11 L11 h0_11 hW_11 hQ_11 hL_11 => ?_) (fun v11 st11 t11 L11 h0_11 hW_11 hQ_11 hL_11 => ?_)
        · obtain ⟨ws12, hp, hP9, -, hD9, hS9⟩ := gx_back h0_11 hW_11 hQ_11 hL_11 hD hS hA
          clear hQ_11 h0_11 hL_11 hW_11 hP hD hS
          have hP := hP9
          have hD := hD9
          have hS := hS9
          clear hP9 hD9 hS9
          rcases hp with ⟨hv9, e_ws12, f_46_ws12⟩
          cases hv9
          have f_46_ws12 : ws12[46]? = some ((A46, Sum.inr (8, [Value.int 2, Value.int 0, Value.ref A47, Value.ref A48, Value.ref A49, Value.int 0, Value.ref A50, Value.ref A51, Value.ref A52, Value.ref A53, Value.int 0, Value.int 0, Value.int 0, Value.int (-1), Value.int 0, Value.ref A54, Value.ref A62, Value.ref A70, Value.int 0, Value.int 0, Value.int 0, Value.ref A78, Value.ref A79, Value.int 0, Value.int 16, Value.int 4, u0, Value.ref A80, Value.ref A81, Value.ref A82, Value.int 0, Value.ref A83, Value.int 0, Value.int 0, Value.int 0])) : Nat × va_E) := f_46_ws12
          replace hU : gx_g ws ws12 0 [46] := hU.call e_ws12 (by simp; first | done | omega)
          refine W.eq (g2 := F0 m 41 ls [Value.int 1]) rfl ?_
          generalize t11.heap = H at hP hS ⊢
          generalize locs ++ L11 = locs at hS ⊢
          refine lv_if_ne (tgt := 69) hx hb d_Mo_add_41 (by decide) (fun _ => ?_) (fun c9 => absurd c9 (by decide))
          refine lv_aload_n hx hb d_Mo_add_69 rfl (lv_at hl 0 rfl) ?_
          refine lv_iconst (v := 0) hx hb d_Mo_add_70 (by decide) ?_
          refine lv_sipush (v := 1256) hx hb d_Mo_add_71 (by decide) ?_
          refine gx_call (ig := .invokevirtual 148) (c_Mo_done_v8 l htr D tys z _ ws12 A46 A47 A48 A49 A50 A51 A52 A53 A54 A62 A70 A78 A79 (u0) A80 A81 A82 A83 f_46_ws12) (gx_invV (As := [Value.int 0, Value.int 1256]) (rest := []) hx hb hown hts km_Mo_148 kI_Mo_done kV_Mo_done kc_Mo_done (by decide) (show (parseMethodDescriptor y_Mo_done.desc).map (fun d => d.parameters.length) = some 2 by decide +kernel) (gx_recv (ci := 8) hK hP rfl f_46_ws12) rfl rfl d_Mo_add_74) (gx_cw (z := 0) hts kc_Mo_done kN_Mo rfl rfl ⟨Nat.le_of_ble_eq_true rfl, Nat.le_of_ble_eq_true rfl⟩) hb hml gx_blind (gx_pre hz hP hK hD hY hS hAz [Value.ref A46, Value.int 0, Value.int 1256]) rfl hl.1 (lv_room (Nat.le_of_ble_eq_true rfl)) d_Mo_add_74 ⟨Nat.le_of_ble_eq_true rfl, Nat.le_of_ble_eq_true rfl⟩ (fun v13 st13 t13 L13 h0_13 hW_13 hQ_13 hL_13 => ?_) (fun v13 st13 t13 L13 h0_13 hW_13 hQ_13 hL_13 => ?_)
          · obtain ⟨ws14, hp, hP9, -, hD9, hS9⟩ := gx_back h0_13 hW_13 hQ_13 hL_13 hD hS hA
            clear hQ_13 h0_13 hL_13 hW_13 hP hD hS
            have hP := hP9
            have hD := hD9
            have hS := hS9
            clear hP9 hD9 hS9
            rcases hp with ⟨hv9, e_ws14, f_46_ws14⟩
            cases hv9
            have f_46_ws14 : ws14[46]? = some ((A46, Sum.inr (8, [Value.int 0, Value.int 2, Value.ref A47, Value.ref A48, Value.ref A49, Value.int 0, Value.ref A50, Value.ref A51, Value.ref A52, Value.ref A53, Value.int 0, Value.int 0, Value.int 0, Value.int (-1), Value.int 0, Value.ref A54, Value.ref A62, Value.ref A70, Value.int 0, Value.int 0, Value.int 0, Value.ref A78, Value.ref A79, Value.int 0, Value.int 16, Value.int 4, u0, Value.ref A80, Value.ref A81, Value.ref A82, Value.int 0, Value.ref A83, Value.int 0, Value.int 0, Value.int 0])) : Nat × va_E) := f_46_ws14
            replace hU : gx_g ws ws14 0 [46] := hU.call e_ws14 (by simp; first | done | omega)
            refine W.eq (g2 := F0 m 77 ls [Value.int 0]) rfl ?_
            generalize t13.heap = H at hP hS ⊢
            generalize locs ++ L13 = locs at hS ⊢
            exact gx_ret (W.iret (v := 0) hx hb hr (gx_post hP hK hD hS (by rw [← hPQ]; exact Or.inr (Or.inl ⟨rfl, hU, f_46_ws14, c3_1, c9_8⟩))) hS.2.2 d_Mo_add_77)
          · obtain ⟨E9, ws15, ce, hp, hce, hP9, -, hD9, hS9⟩ := gx_backT h0_13 hW_13 hQ_13 hL_13 hD hS hA
            clear hQ_13 h0_13 hL_13 hW_13 hP hD hS
            have hP := hP9
            have hD := hD9
            have hS := hS9
            clear hP9 hD9 hS9
            rcases hp with ⟨hv9, e_ws15, f_46_ws15⟩
            cases hv9
        · obtain ⟨E9, ws16, ce, hp, hce, hP9, -, hD9, hS9⟩ := gx_backT h0_11 hW_11 hQ_11 hL_11 hD hS hA
          clear hQ_11 h0_11 hL_11 hW_11 hP hD hS
          have hP := hP9
          have hD := hD9
          have hS := hS9
          clear hP9 hD9 hS9
          rcases hp with ⟨hv9, e_ws16, f_46_ws16⟩
          cases hv9
      · obtain ⟨E9, ws17, ce, hp, hce, hP9, -, hD9, hS9⟩ := gx_backT h0_9 hW_9 hQ_9 hL_9 hD hS hA
        clear hQ_9 h0_9 hL_9 hW_9 hP hD hS
        have hP := hP9
        have hD := hD9
        have hS := hS9
        clear hP9 hD9 hS9
        rcases hp with ⟨hv9, e_ws17⟩
        cases hv9
    · refine lv_iconst (v := 1) hx hb d_Mo_add_12 (by decide) ?_
      refine lv_goto (tgt := 17) hx hb d_Mo_add_13 (by decide) ?_
      refine lv_iconst (v := 1) hx hb d_Mo_add_17 (by decide) ?_
      refine gx_call (ig := .invokevirtual 152) (c_Mo_wrong_v1 l htr D tys z _ ws A46 A47 A48 A49 A50 A51 A52 A53 A54 A62 A70 A78 A79 (u0) A80 A81 A82 A83 f_46) (gx_invV (As := [Value.int 1, Value.int 1]) (rest := []) hx hb hown hts km_Mo_152 kI_Mo_wrong kV_Mo_wrong kc_Mo_wrong (by decide) (show (parseMethodDescriptor y_Mo_wrong.desc).map (fun d => d.parameters.length) = some 2 by decide +kernel) (gx_recv (ci := 8) hK hP rfl f_46) rfl rfl d_Mo_add_18) (gx_cw (z := 0) hts kc_Mo_wrong kN_Mo rfl rfl ⟨Nat.le_of_ble_eq_true rfl, Nat.le_of_ble_eq_true rfl⟩) hb hml gx_blind (gx_pre hz hP hK hD hY hS hAz [Value.ref A46, Value.int 1, Value.int 1]) rfl hl.1 (lv_room (Nat.le_of_ble_eq_true rfl)) d_Mo_add_18 ⟨Nat.le_of_ble_eq_true rfl, Nat.le_of_ble_eq_true rfl⟩ (fun v18 st18 t18 L18 h0_18 hW_18 hQ_18 hL_18 => ?_) (fun v18 st18 t18 L18 h0_18 hW_18 hQ_18 hL_18 => ?_)
      · obtain ⟨ws19, hp, hP9, -, hD9, hS9⟩ := gx_back h0_18 hW_18 hQ_18 hL_18 hD hS hA
        clear hQ_18 h0_18 hL_18 hW_18 hP hD hS
        have hP := hP9
        have hD := hD9
        have hS := hS9
        clear hP9 hD9 hS9
        rcases hp with ⟨hv9, e_ws19, f_46_ws19⟩
        cases hv9
        have f_46_ws19 : ws19[46]? = some ((A46, Sum.inr (8, [Value.int 1, Value.int 0, Value.ref A47, Value.ref A48, Value.ref A49, Value.int 0, Value.ref A50, Value.ref A51, Value.ref A52, Value.ref A53, Value.int 0, Value.int 0, Value.int 0, Value.int (-1), Value.int 0, Value.ref A54, Value.ref A62, Value.ref A70, Value.int 0, Value.int 0, Value.int 0, Value.ref A78, Value.ref A79, Value.int 0, Value.int 16, Value.int 4, u0, Value.ref A80, Value.ref A81, Value.ref A82, Value.int 0, Value.ref A83, Value.int 0, Value.int 0, Value.int 0])) : Nat × va_E) := f_46_ws19
        replace hU : gx_g ws ws19 0 [46] := hU.call e_ws19 (by simp; first | done | omega)
        refine W.eq (g2 := F0 m 21 ls [Value.int 1]) rfl ?_
        generalize t18.heap = H at hP hS ⊢
        generalize [] ++ L18 = locs at hS ⊢
        refine lv_if_ne (tgt := 69) hx hb d_Mo_add_21 (by decide) (fun _ => ?_) (fun c9 => absurd c9 (by decide))
        refine lv_aload_n hx hb d_Mo_add_69 rfl (lv_at hl 0 rfl) ?_
        refine lv_iconst (v := 0) hx hb d_Mo_add_70 (by decide) ?_
        refine lv_sipush (v := 1256) hx hb d_Mo_add_71 (by decide) ?_
        refine gx_call (ig := .invokevirtual 148) (c_Mo_done_v7 l htr D tys z _ ws19 A46 A47 A48 A49 A50 A51 A52 A53 A54 A62 A70 A78 A79 (u0) A80 A81 A82 A83 f_46_ws19) (gx_invV (As := [Value.int 0, Value.int 1256]) (rest := []) hx hb hown hts km_Mo_148 kI_Mo_done kV_Mo_done kc_Mo_done (by decide) (show (parseMethodDescriptor y_Mo_done.desc).map (fun d => d.parameters.length) = some 2 by decide +kernel) (gx_recv (ci := 8) hK hP rfl f_46_ws19) rfl rfl d_Mo_add_74) (gx_cw (z := 0) hts kc_Mo_done kN_Mo rfl rfl ⟨Nat.le_of_ble_eq_true rfl, Nat.le_of_ble_eq_true rfl⟩) hb hml gx_blind (gx_pre hz hP hK hD hY hS hAz [Value.ref A46, Value.int 0, Value.int 1256]) rfl hl.1 (lv_room (Nat.le_of_ble_eq_true rfl)) d_Mo_add_74 ⟨Nat.le_of_ble_eq_true rfl, Nat.le_of_ble_eq_true rfl⟩ (fun v20 st20 t20 L20 h0_20 hW_20 hQ_20 hL_20 => ?_) (fun v20 st20 t20 L20 h0_20 hW_20 hQ_20 hL_20 => ?_)
        · obtain ⟨ws21, hp, hP9, -, hD9, hS9⟩ := gx_back h0_20 hW_20 hQ_20 hL_20 hD hS hA
          clear hQ_20 h0_20 hL_20 hW_20 hP hD hS
          have hP := hP9
          have hD := hD9
          have hS := hS9
          clear hP9 hD9 hS9
          rcases hp with ⟨hv9, e_ws21, f_46_ws21⟩
          cases hv9
          have f_46_ws21 : ws21[46]? = some ((A46, Sum.inr (8, [Value.int 0, Value.int 1, Value.ref A47, Value.ref A48, Value.ref A49, Value.int 0, Value.ref A50, Value.ref A51, Value.ref A52, Value.ref A53, Value.int 0, Value.int 0, Value.int 0, Value.int (-1), Value.int 0, Value.ref A54, Value.ref A62, Value.ref A70, Value.int 0, Value.int 0, Value.int 0, Value.ref A78, Value.ref A79, Value.int 0, Value.int 16, Value.int 4, u0, Value.ref A80, Value.ref A81, Value.ref A82, Value.int 0, Value.ref A83, Value.int 0, Value.int 0, Value.int 0])) : Nat × va_E) := f_46_ws21
          replace hU : gx_g ws ws21 0 [46] := hU.call e_ws21 (by simp; first | done | omega)
          refine W.eq (g2 := F0 m 77 ls [Value.int 0]) rfl ?_
          generalize t20.heap = H at hP hS ⊢
          generalize locs ++ L20 = locs at hS ⊢
          exact gx_ret (W.iret (v := 0) hx hb hr (gx_post hP hK hD hS (by rw [← hPQ]; exact Or.inr (Or.inr (⟨rfl, hU, f_46_ws21, c3_1, c9_8⟩)))) hS.2.2 d_Mo_add_77)
        · obtain ⟨E9, ws22, ce, hp, hce, hP9, -, hD9, hS9⟩ := gx_backT h0_20 hW_20 hQ_20 hL_20 hD hS hA
          clear hQ_20 h0_20 hL_20 hW_20 hP hD hS
          have hP := hP9
          have hD := hD9
          have hS := hS9
          clear hP9 hD9 hS9
          rcases hp with ⟨hv9, e_ws22, f_46_ws22⟩
          cases hv9
      · obtain ⟨E9, ws23, ce, hp, hce, hP9, -, hD9, hS9⟩ := gx_backT h0_18 hW_18 hQ_18 hL_18 hD hS hA
        clear hQ_18 h0_18 hL_18 hW_18 hP hD hS
        have hP := hP9
        have hD := hD9
        have hS := hS9
        clear hP9 hD9 hS9
        rcases hp with ⟨hv9, e_ws23, f_46_ws23⟩
        cases hv9

set_option maxHeartbeats 4000000 in
set_option maxRecDepth 100000 in
theorem c_Mo_done_v9 (l : Launch) (htr : l.stackTraces = false) (D : va_G) (tys : List (ClassId × FieldType)) (z sz : Nat) (ws : va_W) (A46 : Nat) (A47 : Nat) (A48 : Nat) (A49 : Nat) (A50 : Nat) (A51 : Nat) (A52 : Nat) (A53 : Nat) (A54 : Nat) (A62 : Nat) (A70 : Nat) (A78 : Nat) (A79 : Nat) (u0 : Value) (A80 : Nat) (A81 : Nat) (A82 : Nat) (A83 : Nat) (f_46 : ws[46]? = some ((A46, Sum.inr (8, [Value.int 2, Value.int 0, Value.ref A47, Value.ref A48, Value.ref A49, Value.int 0, Value.ref A50, Value.ref A51, Value.ref A52, Value.ref A53, Value.int 0, Value.int 0, Value.int 0, Value.int (-1), Value.int 0, Value.ref A54, Value.ref A62, Value.ref A70, Value.int 0, Value.int 0, Value.int 0, Value.ref A78, Value.ref A79, Value.int 0, Value.int 16, Value.int 4, u0, Value.ref A80, Value.ref A81, Value.ref A82, Value.int 0, Value.ref A83, Value.int 0, Value.int 0, Value.int 0])) : Nat × va_E)) : gx_Met l y_Mo_done [Cond.code y_Mo_done b_Mo_done 6 (some .int)] { frames := 1, cells := 0, slots := 0, locals := 12 } (gx_P z sz D classes tys ws [Value.ref A46, Value.int 0, Value.int 2]) (gx_Q D classes tys (va_A ws sz) (fun r ws' => (r = Sum.inl (some (Value.int 0)) ∧ gx_g ws ws' 0 [46] ∧ ws'[46]? = some ((A46, Sum.inr (8, [Value.int 0, Value.int 1, Value.ref A47, Value.ref A48, Value.ref A49, Value.int 0, Value.ref A50, Value.ref A51, Value.ref A52, Value.ref A53, Value.int 0, Value.int 0, Value.int 0, Value.int (-1), Value.int 0, Value.ref A54, Value.ref A62, Value.ref A70, Value.int 0, Value.int 0, Value.int 0, Value.ref A78, Value.ref A79, Value.int 0, Value.int 16, Value.int 4, u0, Value.ref A80, Value.ref A81, Value.ref A82, Value.int 0, Value.ref A83, Value.int 0, Value.int 0, Value.int 0])) : Nat × va_E)))) 0 0 (va_A ws sz) := by
  refine gx_ofW (cc := b_Mo_done) (maxL := 6) (ret := (some .int)) (by decide) rfl ?_
  intro p e s m args below meth c s₁ B hml hv
  obtain ⟨rfl, hsz, hz, hP, hK, hD0, hY⟩ := hv
  have hx := B.exec
  have hb := B.bytes
  have hr := B.returns
  have hts := hY.hts (#[Value.ref A46, Value.int 0, Value.int 2] : Array Value)
  have hown : s.vm.findClass "CommitLedgerModel" = some m.cls := findClass_of_methodNamed B.named
  have hlocks := B.notSynchronized
  have hne : c.exceptionTable.isEmpty = true := B.noHandlers (atoms_spec (ws := [Cond.code y_Mo_done b_Mo_done 6 (some .int)]) B.pre _ List.mem_cons_self)
  subst hsz
  have hAz := gx_az hD0 hz
  have hD := hD0.self (sz := s.heap.size)
  have hN := gx_ns hP
  have hA : ∀ q : Nat, s.heap.size ≤ q → va_A ws s.heap.size q := fun q h => Or.inr h
  generalize va_A ws s.heap.size = A at hD hN hA hAz ⊢
  generalize hPQ : (fun (r : Option Value ⊕ String) (ws' : va_W) => (r = Sum.inl (some (Value.int 0)) ∧ gx_g ws ws' 0 [46] ∧ ws'[46]? = some ((A46, Sum.inr (8, [Value.int 0, Value.int 1, Value.ref A47, Value.ref A48, Value.ref A49, Value.int 0, Value.ref A50, Value.ref A51, Value.ref A52, Value.ref A53, Value.int 0, Value.int 0, Value.int 0, Value.int (-1), Value.int 0, Value.ref A54, Value.ref A62, Value.ref A70, Value.int 0, Value.int 0, Value.int 0, Value.ref A78, Value.ref A79, Value.int 0, Value.int 16, Value.int 4, u0, Value.ref A80, Value.ref A81, Value.ref A82, Value.int 0, Value.ref A83, Value.int 0, Value.int 0, Value.int 0])) : Nat × va_E))) = PQ
  have hS : va_S A s.heap s.heap [] := va_S.rf
  have hU : gx_g ws ws 0 [46] := gx_g.rf
  have hl := lv_entry ([Value.ref A46, Value.int 0, Value.int 2]) (n := 6) (Nat.le_of_ble_eq_true rfl)
  rw [lg_entry_eq]
  generalize (lg_sl ([Value.ref A46, Value.int 0, Value.int 2]) ++ List.replicate (6 - (lg_sl ([Value.ref A46, Value.int 0, Value.int 2])).length) Slot.unset).toArray = ls at hl ⊢
  have hl : lv_has ls 6 [(0, Value.ref A46), (1, Value.int 0), (2, Value.int 2)] := hl
  refine lv_aload_n hx hb d_Mo_done_0 rfl (lv_at hl 0 rfl) ?_
  refine lv_iconst (v := 0) hx hb d_Mo_done_1 (by decide) ?_
  refine va_put (D := D) (ci := 8) (v := Value.int 0) (ty := .int) (C := "CommitLedgerModel") (T := F_Mo) (N := 35) hx hb hts i_Mo t_Mo t_Mo_ok n_Mo hown hK hP hD hS 46 f_46 rfl 1 (by decide) (hts _ kf_Mo_80) (fun _ h9 => h9) rfl (by decide +kernel) rfl rfl (Nat.le_of_ble_eq_true rfl) d_Mo_done_2 (fun H locs hP9 hD9 hS9 => ?_)
  obtain ⟨ws1, e_ws1⟩ : ∃ x : va_W, x = ws.set 46 ((A46, Sum.inr (8, [Value.int 2, Value.int 0, Value.ref A47, Value.ref A48, Value.ref A49, Value.int 0, Value.ref A50, Value.ref A51, Value.ref A52, Value.ref A53, Value.int 0, Value.int 0, Value.int 0, Value.int (-1), Value.int 0, Value.ref A54, Value.ref A62, Value.ref A70, Value.int 0, Value.int 0, Value.int 0, Value.ref A78, Value.ref A79, Value.int 0, Value.int 16, Value.int 4, u0, Value.ref A80, Value.ref A81, Value.ref A82, Value.int 0, Value.ref A83, Value.int 0, Value.int 0, Value.int 0])) : Nat × va_E) := ⟨_, rfl⟩
  replace hP : va_P D classes ws1 H := by rw [e_ws1]; exact hP9
  replace hD : va_D A ws1 := by rw [e_ws1]; exact hD9
  replace hS := hS9
  clear hP9 hD9 hS9
  have f_46_ws1 : ws1[46]? = some ((A46, Sum.inr (8, [Value.int 2, Value.int 0, Value.ref A47, Value.ref A48, Value.ref A49, Value.int 0, Value.ref A50, Value.ref A51, Value.ref A52, Value.ref A53, Value.int 0, Value.int 0, Value.int 0, Value.int (-1), Value.int 0, Value.ref A54, Value.ref A62, Value.ref A70, Value.int 0, Value.int 0, Value.int 0, Value.ref A78, Value.ref A79, Value.int 0, Value.int 16, Value.int 4, u0, Value.ref A80, Value.ref A81, Value.ref A82, Value.int 0, Value.ref A83, Value.int 0, Value.int 0, Value.int 0])) : Nat × va_E) := by rw [e_ws1]; exact gs_self f_46
  replace hU : gx_g ws ws1 0 [46] := by rw [e_ws1]; exact hU.put (Or.inl (by simp))
  refine lv_iconst (v := 0) hx hb d_Mo_done_5 (by decide) ?_
  refine lv_istore_n (lv' := [(3, Value.int 0), (0, Value.ref A46), (1, Value.int 0), (2, Value.int 2)]) hx hb d_Mo_done_6 rfl hl (by decide) rfl (fun ls hl => ?_)
  refine lv_ldc (v := 100000) hx hb hown (hts _ ki_Mo_83) d_Mo_done_7 ?_
  refine lv_istore (lv' := [(4, Value.int 100000), (3, Value.int 0), (0, Value.ref A46), (1, Value.int 0), (2, Value.int 2)]) hx hb d_Mo_done_9 hl (by decide) rfl (fun ls hl => ?_)
  refine lv_iload hx hb d_Mo_done_11 (lv_at hl 0 rfl) ?_
  refine lv_if_le (tgt := 60) hx hb d_Mo_done_13 (by decide) (fun c9 => absurd c9 (by decide)) (fun _ => ?_)
  refine lv_iload_n hx hb d_Mo_done_16 rfl (lv_at hl 4 rfl) ?_
  refine lv_iload hx hb d_Mo_done_17 (lv_at hl 0 rfl) ?_
  refine lv_idiv hx hb d_Mo_done_19 (by decide) ?_
  refine gx_topi (y := 0) (by decide) ?_
  refine lv_bipush (v := 10) hx hb d_Mo_done_20 (by decide) ?_
  refine lv_irem hx hb d_Mo_done_22 (by decide) ?_
  refine gx_topi (y := 0) (by decide) ?_
  refine lv_istore (lv' := [(5, Value.int 0), (4, Value.int 100000), (3, Value.int 0), (0, Value.ref A46), (1, Value.int 0), (2, Value.int 2)]) hx hb d_Mo_done_23 hl (by decide) rfl (fun ls hl => ?_)
  refine lv_iload hx hb d_Mo_done_25 (lv_at hl 0 rfl) ?_
  refine lv_if_ne (tgt := 33) hx hb d_Mo_done_27 (by decide) (fun c9 => absurd (by decide) c9) (fun _ => ?_)
  refine lv_goto (tgt := 50) hx hb d_Mo_done_30 (by decide) ?_
  refine lv_iload hx hb d_Mo_done_50 (lv_at hl 1 rfl) ?_
  refine lv_bipush (v := 10) hx hb d_Mo_done_52 (by decide) ?_
  refine lv_idiv hx hb d_Mo_done_54 (by decide) ?_
  refine gx_topi (y := 10000) (by decide) ?_
  refine lv_istore (lv' := [(4, Value.int 10000), (5, Value.int 0), (3, Value.int 0), (0, Value.ref A46), (1, Value.int 0), (2, Value.int 2)]) hx hb d_Mo_done_55 hl (by decide) rfl (fun ls hl => ?_)
  refine lv_goto (tgt := 11) hx hb d_Mo_done_57 (by decide) ?_
  refine lv_iload hx hb d_Mo_done_11 (lv_at hl 0 rfl) ?_
  refine lv_if_le (tgt := 60) hx hb d_Mo_done_13 (by decide) (fun c9 => absurd c9 (by decide)) (fun _ => ?_)
  refine lv_iload_n hx hb d_Mo_done_16 rfl (lv_at hl 5 rfl) ?_
  refine lv_iload hx hb d_Mo_done_17 (lv_at hl 0 rfl) ?_
  refine lv_idiv hx hb d_Mo_done_19 (by decide) ?_
  refine gx_topi (y := 0) (by decide) ?_
  refine lv_bipush (v := 10) hx hb d_Mo_done_20 (by decide) ?_
  refine lv_irem hx hb d_Mo_done_22 (by decide) ?_
  refine gx_topi (y := 0) (by decide) ?_
  refine lv_istore (lv' := [(5, Value.int 0), (4, Value.int 10000), (3, Value.int 0), (0, Value.ref A46), (1, Value.int 0), (2, Value.int 2)]) hx hb d_Mo_done_23 hl (by decide) rfl (fun ls hl => ?_)
  refine lv_iload hx hb d_Mo_done_25 (lv_at hl 0 rfl) ?_
  refine lv_if_ne (tgt := 33) hx hb d_Mo_done_27 (by decide) (fun c9 => absurd (by decide) c9) (fun _ => ?_)
  refine lv_goto (tgt := 50) hx hb d_Mo_done_30 (by decide) ?_
  refine lv_iload hx hb d_Mo_done_50 (lv_at hl 1 rfl) ?_
  refine lv_bipush (v := 10) hx hb d_Mo_done_52 (by decide) ?_
  refine lv_idiv hx hb d_Mo_done_54 (by decide) ?_
  refine gx_topi (y := 1000) (by decide) ?_
  refine lv_istore (lv' := [(4, Value.int 1000), (5, Value.int 0), (3, Value.int 0), (0, Value.ref A46), (1, Value.int 0), (2, Value.int 2)]) hx hb d_Mo_done_55 hl (by decide) rfl (fun ls hl => ?_)
  refine lv_goto (tgt := 11) hx hb d_Mo_done_57 (by decide) ?_
  refine lv_iload hx hb d_Mo_done_11 (lv_at hl 0 rfl) ?_
  refine lv_if_le (tgt := 60) hx hb d_Mo_done_13 (by decide) (fun c9 => absurd c9 (by decide)) (fun _ => ?_)
  refine lv_iload_n hx hb d_Mo_done_16 rfl (lv_at hl 5 rfl) ?_
  refine lv_iload hx hb d_Mo_done_17 (lv_at hl 0 rfl) ?_
  refine lv_idiv hx hb d_Mo_done_19 (by decide) ?_
  refine gx_topi (y := 0) (by decide) ?_
  refine lv_bipush (v := 10) hx hb d_Mo_done_20 (by decide) ?_
  refine lv_irem hx hb d_Mo_done_22 (by decide) ?_
  refine gx_topi (y := 0) (by decide) ?_
  refine lv_istore (lv' := [(5, Value.int 0), (4, Value.int 1000), (3, Value.int 0), (0, Value.ref A46), (1, Value.int 0), (2, Value.int 2)]) hx hb d_Mo_done_23 hl (by decide) rfl (fun ls hl => ?_)
  refine lv_iload hx hb d_Mo_done_25 (lv_at hl 0 rfl) ?_
  refine lv_if_ne (tgt := 33) hx hb d_Mo_done_27 (by decide) (fun c9 => absurd (by decide) c9) (fun _ => ?_)
  refine lv_goto (tgt := 50) hx hb d_Mo_done_30 (by decide) ?_
  refine lv_iload hx hb d_Mo_done_50 (lv_at hl 1 rfl) ?_
  refine lv_bipush (v := 10) hx hb d_Mo_done_52 (by decide) ?_
  refine lv_idiv hx hb d_Mo_done_54 (by decide) ?_
  refine gx_topi (y := 100) (by decide) ?_
  refine lv_istore (lv' := [(4, Value.int 100), (5, Value.int 0), (3, Value.int 0), (0, Value.ref A46), (1, Value.int 0), (2, Value.int 2)]) hx hb d_Mo_done_55 hl (by decide) rfl (fun ls hl => ?_)
  refine lv_goto (tgt := 11) hx hb d_Mo_done_57 (by decide) ?_
  refine lv_iload hx hb d_Mo_done_11 (lv_at hl 0 rfl) ?_
  refine lv_if_le (tgt := 60) hx hb d_Mo_done_13 (by decide) (fun c9 => absurd c9 (by decide)) (fun _ => ?_)
  refine lv_iload_n hx hb d_Mo_done_16 rfl (lv_at hl 5 rfl) ?_
  refine lv_iload hx hb d_Mo_done_17 (lv_at hl 0 rfl) ?_
  refine lv_idiv hx hb d_Mo_done_19 (by decide) ?_
  refine gx_topi (y := 0) (by decide) ?_
  refine lv_bipush (v := 10) hx hb d_Mo_done_20 (by decide) ?_
  refine lv_irem hx hb d_Mo_done_22 (by decide) ?_
  refine gx_topi (y := 0) (by decide) ?_
  refine lv_istore (lv' := [(5, Value.int 0), (4, Value.int 100), (3, Value.int 0), (0, Value.ref A46), (1, Value.int 0), (2, Value.int 2)]) hx hb d_Mo_done_23 hl (by decide) rfl (fun ls hl => ?_)
  refine lv_iload hx hb d_Mo_done_25 (lv_at hl 0 rfl) ?_
  refine lv_if_ne (tgt := 33) hx hb d_Mo_done_27 (by decide) (fun c9 => absurd (by decide) c9) (fun _ => ?_)
  refine lv_goto (tgt := 50) hx hb d_Mo_done_30 (by decide) ?_
  refine lv_iload hx hb d_Mo_done_50 (lv_at hl 1 rfl) ?_
  refine lv_bipush (v := 10) hx hb d_Mo_done_52 (by decide) ?_
  refine lv_idiv hx hb d_Mo_done_54 (by decide) ?_
  refine gx_topi (y := 10) (by decide) ?_
  refine lv_istore (lv' := [(4, Value.int 10), (5, Value.int 0), (3, Value.int 0), (0, Value.ref A46), (1, Value.int 0), (2, Value.int 2)]) hx hb d_Mo_done_55 hl (by decide) rfl (fun ls hl => ?_)
  refine lv_goto (tgt := 11) hx hb d_Mo_done_57 (by decide) ?_
  refine lv_iload hx hb d_Mo_done_11 (lv_at hl 0 rfl) ?_
  refine lv_if_le (tgt := 60) hx hb d_Mo_done_13 (by decide) (fun c9 => absurd c9 (by decide)) (fun _ => ?_)
  refine lv_iload_n hx hb d_Mo_done_16 rfl (lv_at hl 5 rfl) ?_
  refine lv_iload hx hb d_Mo_done_17 (lv_at hl 0 rfl) ?_
  refine lv_idiv hx hb d_Mo_done_19 (by decide) ?_
  refine gx_topi (y := 0) (by decide) ?_
  refine lv_bipush (v := 10) hx hb d_Mo_done_20 (by decide) ?_
  refine lv_irem hx hb d_Mo_done_22 (by decide) ?_
  refine gx_topi (y := 0) (by decide) ?_
  refine lv_istore (lv' := [(5, Value.int 0), (4, Value.int 10), (3, Value.int 0), (0, Value.ref A46), (1, Value.int 0), (2, Value.int 2)]) hx hb d_Mo_done_23 hl (by decide) rfl (fun ls hl => ?_)
  refine lv_iload hx hb d_Mo_done_25 (lv_at hl 0 rfl) ?_
  refine lv_if_ne (tgt := 33) hx hb d_Mo_done_27 (by decide) (fun c9 => absurd (by decide) c9) (fun _ => ?_)
  refine lv_goto (tgt := 50) hx hb d_Mo_done_30 (by decide) ?_
  refine lv_iload hx hb d_Mo_done_50 (lv_at hl 1 rfl) ?_
  refine lv_bipush (v := 10) hx hb d_Mo_done_52 (by decide) ?_
  refine lv_idiv hx hb d_Mo_done_54 (by decide) ?_
  refine gx_topi (y := 1) (by decide) ?_
  refine lv_istore (lv' := [(4, Value.int 1), (5, Value.int 0), (3, Value.int 0), (0, Value.ref A46), (1, Value.int 0), (2, Value.int 2)]) hx hb d_Mo_done_55 hl (by decide) rfl (fun ls hl => ?_)
  refine lv_goto (tgt := 11) hx hb d_Mo_done_57 (by decide) ?_
  refine lv_iload hx hb d_Mo_done_11 (lv_at hl 0 rfl) ?_
  refine lv_if_le (tgt := 60) hx hb d_Mo_done_13 (by decide) (fun c9 => absurd c9 (by decide)) (fun _ => ?_)
  refine lv_iload_n hx hb d_Mo_done_16 rfl (lv_at hl 5 rfl) ?_
  refine lv_iload hx hb d_Mo_done_17 (lv_at hl 0 rfl) ?_
  refine lv_idiv hx hb d_Mo_done_19 (by decide) ?_
  refine gx_topi (y := 2) (by decide) ?_
  refine lv_bipush (v := 10) hx hb d_Mo_done_20 (by decide) ?_
  refine lv_irem hx hb d_Mo_done_22 (by decide) ?_
  refine gx_topi (y := 2) (by decide) ?_
  refine lv_istore (lv' := [(5, Value.int 2), (4, Value.int 1), (3, Value.int 0), (0, Value.ref A46), (1, Value.int 0), (2, Value.int 2)]) hx hb d_Mo_done_23 hl (by decide) rfl (fun ls hl => ?_)
  refine lv_iload hx hb d_Mo_done_25 (lv_at hl 0 rfl) ?_
  refine lv_if_ne (tgt := 33) hx hb d_Mo_done_27 (by decide) (fun _ => ?_) (fun c9 => absurd c9 (by decide))
  refine lv_iinc (v := 1) (lv' := [(3, Value.int 1), (5, Value.int 2), (4, Value.int 1), (0, Value.ref A46), (1, Value.int 0), (2, Value.int 2)]) hx hb d_Mo_done_33 hl (k := 2) rfl (by decide) (by decide) rfl (fun ls hl => ?_)
  refine lv_iload hx hb d_Mo_done_36 (lv_at hl 1 rfl) ?_
  refine lv_aload_n hx hb d_Mo_done_38 rfl (lv_at hl 3 rfl) ?_
  refine va_get (D := D) (ci := 8) (v := Value.int 2) (C := "CommitLedgerModel") (T := F_Mo) (N := 35) hx hb hts i_Mo hown hK hP 46 f_46_ws1 rfl 0 (by decide) (hts _ kf_Mo_84) (fun _ h9 => h9) rfl d_Mo_done_39 ?_
  refine lv_icmp_ne (tgt := 50) hx hb d_Mo_done_42 (by decide) (fun c9 => absurd (by decide) c9) (fun _ => ?_)
  refine lv_aload_n hx hb d_Mo_done_45 rfl (lv_at hl 3 rfl) ?_
  refine lv_iload_n hx hb d_Mo_done_46 rfl (lv_at hl 0 rfl) ?_
  refine va_put (D := D) (ci := 8) (v := Value.int 1) (ty := .int) (C := "CommitLedgerModel") (T := F_Mo) (N := 35) hx hb hts i_Mo t_Mo t_Mo_ok n_Mo hown hK hP hD hS 46 f_46_ws1 rfl 1 (by decide) (hts _ kf_Mo_80) (fun _ h9 => h9) rfl (by decide +kernel) rfl rfl (Nat.le_of_ble_eq_true rfl) d_Mo_done_47 (fun H locs hP9 hD9 hS9 => ?_)
  obtain ⟨ws2, e_ws2⟩ : ∃ x : va_W, x = ws1.set 46 ((A46, Sum.inr (8, [Value.int 2, Value.int 1, Value.ref A47, Value.ref A48, Value.ref A49, Value.int 0, Value.ref A50, Value.ref A51, Value.ref A52, Value.ref A53, Value.int 0, Value.int 0, Value.int 0, Value.int (-1), Value.int 0, Value.ref A54, Value.ref A62, Value.ref A70, Value.int 0, Value.int 0, Value.int 0, Value.ref A78, Value.ref A79, Value.int 0, Value.int 16, Value.int 4, u0, Value.ref A80, Value.ref A81, Value.ref A82, Value.int 0, Value.ref A83, Value.int 0, Value.int 0, Value.int 0])) : Nat × va_E) := ⟨_, rfl⟩
  replace hP : va_P D classes ws2 H := by rw [e_ws2]; exact hP9
  replace hD : va_D A ws2 := by rw [e_ws2]; exact hD9
  replace hS := hS9
  clear hP9 hD9 hS9
  have f_46_ws2 : ws2[46]? = some ((A46, Sum.inr (8, [Value.int 2, Value.int 1, Value.ref A47, Value.ref A48, Value.ref A49, Value.int 0, Value.ref A50, Value.ref A51, Value.ref A52, Value.ref A53, Value.int 0, Value.int 0, Value.int 0, Value.int (-1), Value.int 0, Value.ref A54, Value.ref A62, Value.ref A70, Value.int 0, Value.int 0, Value.int 0, Value.ref A78, Value.ref A79, Value.int 0, Value.int 16, Value.int 4, u0, Value.ref A80, Value.ref A81, Value.ref A82, Value.int 0, Value.ref A83, Value.int 0, Value.int 0, Value.int 0])) : Nat × va_E) := by rw [e_ws2]; exact gs_self f_46_ws1
  replace hU : gx_g ws ws2 0 [46] := by rw [e_ws2]; exact hU.put (Or.inl (by simp))
  refine lv_iload hx hb d_Mo_done_50 (lv_at hl 2 rfl) ?_
  refine lv_bipush (v := 10) hx hb d_Mo_done_52 (by decide) ?_
  refine lv_idiv hx hb d_Mo_done_54 (by decide) ?_
  refine gx_topi (y := 0) (by decide) ?_
  refine lv_istore (lv' := [(4, Value.int 0), (3, Value.int 1), (5, Value.int 2), (0, Value.ref A46), (1, Value.int 0), (2, Value.int 2)]) hx hb d_Mo_done_55 hl (by decide) rfl (fun ls hl => ?_)
  refine lv_goto (tgt := 11) hx hb d_Mo_done_57 (by decide) ?_
  refine lv_iload hx hb d_Mo_done_11 (lv_at hl 0 rfl) ?_
  refine lv_if_le (tgt := 60) hx hb d_Mo_done_13 (by decide) (fun _ => ?_) (fun c9 => absurd (by decide) c9)
  refine lv_aload_n hx hb d_Mo_done_60 rfl (lv_at hl 3 rfl) ?_
  refine lv_iconst (v := 0) hx hb d_Mo_done_61 (by decide) ?_
  refine va_put (D := D) (ci := 8) (v := Value.int 0) (ty := .int) (C := "CommitLedgerModel") (T := F_Mo) (N := 35) hx hb hts i_Mo t_Mo t_Mo_ok n_Mo hown hK hP hD hS 46 f_46_ws2 rfl 0 (by decide) (hts _ kf_Mo_84) (fun _ h9 => h9) rfl (by decide +kernel) rfl rfl (Nat.le_of_ble_eq_true rfl) d_Mo_done_62 (fun H locs hP9 hD9 hS9 => ?_)
  obtain ⟨ws3, e_ws3⟩ : ∃ x : va_W, x = ws2.set 46 ((A46, Sum.inr (8, [Value.int 0, Value.int 1, Value.ref A47, Value.ref A48, Value.ref A49, Value.int 0, Value.ref A50, Value.ref A51, Value.ref A52, Value.ref A53, Value.int 0, Value.int 0, Value.int 0, Value.int (-1), Value.int 0, Value.ref A54, Value.ref A62, Value.ref A70, Value.int 0, Value.int 0, Value.int 0, Value.ref A78, Value.ref A79, Value.int 0, Value.int 16, Value.int 4, u0, Value.ref A80, Value.ref A81, Value.ref A82, Value.int 0, Value.ref A83, Value.int 0, Value.int 0, Value.int 0])) : Nat × va_E) := ⟨_, rfl⟩
  replace hP : va_P D classes ws3 H := by rw [e_ws3]; exact hP9
  replace hD : va_D A ws3 := by rw [e_ws3]; exact hD9
  replace hS := hS9
  clear hP9 hD9 hS9
  have f_46_ws3 : ws3[46]? = some ((A46, Sum.inr (8, [Value.int 0, Value.int 1, Value.ref A47, Value.ref A48, Value.ref A49, Value.int 0, Value.ref A50, Value.ref A51, Value.ref A52, Value.ref A53, Value.int 0, Value.int 0, Value.int 0, Value.int (-1), Value.int 0, Value.ref A54, Value.ref A62, Value.ref A70, Value.int 0, Value.int 0, Value.int 0, Value.ref A78, Value.ref A79, Value.int 0, Value.int 16, Value.int 4, u0, Value.ref A80, Value.ref A81, Value.ref A82, Value.int 0, Value.ref A83, Value.int 0, Value.int 0, Value.int 0])) : Nat × va_E) := by rw [e_ws3]; exact gs_self f_46_ws2
  replace hU : gx_g ws ws3 0 [46] := by rw [e_ws3]; exact hU.put (Or.inl (by simp))
  refine lv_aload_n hx hb d_Mo_done_65 rfl (lv_at hl 3 rfl) ?_
  refine va_get (D := D) (ci := 8) (v := Value.int 1) (C := "CommitLedgerModel") (T := F_Mo) (N := 35) hx hb hts i_Mo hown hK hP 46 f_46_ws3 rfl 1 (by decide) (hts _ kf_Mo_80) (fun _ h9 => h9) rfl d_Mo_done_66 ?_
  refine lv_if_le (tgt := 76) hx hb d_Mo_done_69 (by decide) (fun c9 => absurd c9 (by decide)) (fun _ => ?_)
  refine lv_iconst (v := 0) hx hb d_Mo_done_72 (by decide) ?_
  refine lv_goto (tgt := 77) hx hb d_Mo_done_73 (by decide) ?_
  exact gx_ret (W.iret (v := 0) hx hb hr (gx_post hP hK hD hS (by rw [← hPQ]; exact ⟨rfl, hU, f_46_ws3⟩)) hS.2.2 d_Mo_done_77)

set_option maxHeartbeats 4000000 in
set_option maxRecDepth 100000 in
theorem c_Mo_erase_v1 (l : Launch) (htr : l.stackTraces = false) (D : va_G) (tys : List (ClassId × FieldType)) (z sz : Nat) (ws : va_W) (A46 : Nat) (p0 : Int32) (A47 : Nat) (A48 : Nat) (A49 : Nat) (A50 : Nat) (A51 : Nat) (A52 : Nat) (A53 : Nat) (A54 : Nat) (A62 : Nat) (A70 : Nat) (A78 : Nat) (A79 : Nat) (u0 : Value) (A80 : Nat) (A81 : Nat) (A82 : Nat) (A83 : Nat) (f_46 : ws[46]? = some ((A46, Sum.inr (8, [Value.int 0, Value.int 0, Value.ref A47, Value.ref A48, Value.ref A49, Value.int 0, Value.ref A50, Value.ref A51, Value.ref A52, Value.ref A53, Value.int 0, Value.int 0, Value.int 0, Value.int (-1), Value.int 0, Value.ref A54, Value.ref A62, Value.ref A70, Value.int 0, Value.int 0, Value.int 0, Value.ref A78, Value.ref A79, Value.int 0, Value.int 16, Value.int 4, u0, Value.ref A80, Value.ref A81, Value.ref A82, Value.int 0, Value.ref A83, Value.int 0, Value.int 0, Value.int 0])) : Nat × va_E)) : gx_Met l y_Mo_erase [Cond.code y_Mo_erase b_Mo_erase 4 (some .int)] { frames := 2, cells := 0, slots := 0, locals := 37 } (gx_P z sz D classes tys ws [Value.ref A46, Value.int p0]) (gx_Q D classes tys (va_A ws sz) (fun r ws' => (r = Sum.inl (some (Value.int 0)) ∧ gx_g ws ws' 0 [46] ∧ ws'[46]? = some ((A46, Sum.inr (8, [Value.int 0, Value.int 1, Value.ref A47, Value.ref A48, Value.ref A49, Value.int 0, Value.ref A50, Value.ref A51, Value.ref A52, Value.ref A53, Value.int 0, Value.int 0, Value.int 0, Value.int (-1), Value.int 0, Value.ref A54, Value.ref A62, Value.ref A70, Value.int 0, Value.int 0, Value.int 0, Value.ref A78, Value.ref A79, Value.int 0, Value.int 16, Value.int 4, u0, Value.ref A80, Value.ref A81, Value.ref A82, Value.int 0, Value.ref A83, Value.int 0, Value.int 0, Value.int 0])) : Nat × va_E)))) 0 0 (va_A ws sz) := by
  refine gx_ofW (cc := b_Mo_erase) (maxL := 4) (ret := (some .int)) (by decide) rfl ?_
  intro p e s m args below meth c s₁ B hml hv
  obtain ⟨rfl, hsz, hz, hP, hK, hD0, hY⟩ := hv
  have hx := B.exec
  have hb := B.bytes
  have hr := B.returns
  have hts := hY.hts (#[Value.ref A46, Value.int p0] : Array Value)
  have hown : s.vm.findClass "CommitLedgerModel" = some m.cls := findClass_of_methodNamed B.named
  have hlocks := B.notSynchronized
  have hne : c.exceptionTable.isEmpty = true := B.noHandlers (atoms_spec (ws := [Cond.code y_Mo_erase b_Mo_erase 4 (some .int)]) B.pre _ List.mem_cons_self)
  subst hsz
  have hAz := gx_az hD0 hz
  have hD := hD0.self (sz := s.heap.size)
  have hN := gx_ns hP
  have hA : ∀ q : Nat, s.heap.size ≤ q → va_A ws s.heap.size q := fun q h => Or.inr h
  generalize va_A ws s.heap.size = A at hD hN hA hAz ⊢
  generalize hPQ : (fun (r : Option Value ⊕ String) (ws' : va_W) => (r = Sum.inl (some (Value.int 0)) ∧ gx_g ws ws' 0 [46] ∧ ws'[46]? = some ((A46, Sum.inr (8, [Value.int 0, Value.int 1, Value.ref A47, Value.ref A48, Value.ref A49, Value.int 0, Value.ref A50, Value.ref A51, Value.ref A52, Value.ref A53, Value.int 0, Value.int 0, Value.int 0, Value.int (-1), Value.int 0, Value.ref A54, Value.ref A62, Value.ref A70, Value.int 0, Value.int 0, Value.int 0, Value.ref A78, Value.ref A79, Value.int 0, Value.int 16, Value.int 4, u0, Value.ref A80, Value.ref A81, Value.ref A82, Value.int 0, Value.ref A83, Value.int 0, Value.int 0, Value.int 0])) : Nat × va_E))) = PQ
  have hS : va_S A s.heap s.heap [] := va_S.rf
  have hU : gx_g ws ws 0 [46] := gx_g.rf
  have hl := lv_entry ([Value.ref A46, Value.int p0]) (n := 4) (Nat.le_of_ble_eq_true rfl)
  rw [lg_entry_eq]
  generalize (lg_sl ([Value.ref A46, Value.int p0]) ++ List.replicate (4 - (lg_sl ([Value.ref A46, Value.int p0])).length) Slot.unset).toArray = ls at hl ⊢
  have hl : lv_has ls 4 [(0, Value.ref A46), (1, Value.int p0)] := hl
  refine lv_aload_n hx hb d_Mo_erase_0 rfl (lv_at hl 0 rfl) ?_
  refine lv_aload_n hx hb d_Mo_erase_1 rfl (lv_at hl 0 rfl) ?_
  refine va_get (D := D) (ci := 8) (v := Value.int 0) (C := "CommitLedgerModel") (T := F_Mo) (N := 35) hx hb hts i_Mo hown hK hP 46 f_46 rfl 18 (by decide) (hts _ kf_Mo_99) (fun _ h9 => h9) rfl d_Mo_erase_2 ?_
  refine lv_if_ne (tgt := 12) hx hb d_Mo_erase_5 (by decide) (fun c9 => absurd (by decide) c9) (fun _ => ?_)
  refine lv_iconst (v := 1) hx hb d_Mo_erase_8 (by decide) ?_
  refine lv_goto (tgt := 13) hx hb d_Mo_erase_9 (by decide) ?_
  refine lv_iconst (v := 2) hx hb d_Mo_erase_13 (by decide) ?_
  refine gx_call (ig := .invokevirtual 152) (c_Mo_wrong_v5 l htr D tys z _ ws A46 A47 A48 A49 A50 A51 A52 A53 A54 A62 A70 A78 A79 (u0) A80 A81 A82 A83 f_46) (gx_invV (As := [Value.int 1, Value.int 2]) (rest := []) hx hb hown hts km_Mo_152 kI_Mo_wrong kV_Mo_wrong kc_Mo_wrong (by decide) (show (parseMethodDescriptor y_Mo_wrong.desc).map (fun d => d.parameters.length) = some 2 by decide +kernel) (gx_recv (ci := 8) hK hP rfl f_46) rfl rfl d_Mo_erase_14) (gx_cw (z := 0) hts kc_Mo_wrong kN_Mo rfl rfl ⟨Nat.le_of_ble_eq_true rfl, Nat.le_of_ble_eq_true rfl⟩) hb hml gx_blind (gx_pre hz hP hK hD hY hS hAz [Value.ref A46, Value.int 1, Value.int 2]) rfl hl.1 (lv_room (Nat.le_of_ble_eq_true rfl)) d_Mo_erase_14 ⟨Nat.le_of_ble_eq_true rfl, Nat.le_of_ble_eq_true rfl⟩ (fun v1 st1 t1 L1 h0_1 hW_1 hQ_1 hL_1 => ?_) (fun v1 st1 t1 L1 h0_1 hW_1 hQ_1 hL_1 => ?_)
  · obtain ⟨ws2, hp, hP9, -, hD9, hS9⟩ := gx_back h0_1 hW_1 hQ_1 hL_1 hD hS hA
    clear hQ_1 h0_1 hL_1 hW_1 hP hD hS
    have hP := hP9
    have hD := hD9
    have hS := hS9
    clear hP9 hD9 hS9
    rcases hp with ⟨hv9, e_ws2, f_46_ws2⟩
    cases hv9
    have f_46_ws2 : ws2[46]? = some ((A46, Sum.inr (8, [Value.int 2, Value.int 0, Value.ref A47, Value.ref A48, Value.ref A49, Value.int 0, Value.ref A50, Value.ref A51, Value.ref A52, Value.ref A53, Value.int 0, Value.int 0, Value.int 0, Value.int (-1), Value.int 0, Value.ref A54, Value.ref A62, Value.ref A70, Value.int 0, Value.int 0, Value.int 0, Value.ref A78, Value.ref A79, Value.int 0, Value.int 16, Value.int 4, u0, Value.ref A80, Value.ref A81, Value.ref A82, Value.int 0, Value.ref A83, Value.int 0, Value.int 0, Value.int 0])) : Nat × va_E) := f_46_ws2
    replace hU : gx_g ws ws2 0 [46] := hU.call e_ws2 (by simp; first | done | omega)
    refine W.eq (g2 := F0 m 17 ls [Value.int 1]) rfl ?_
    generalize t1.heap = H at hP hS ⊢
    generalize [] ++ L1 = locs at hS ⊢
    refine lv_if_eq (tgt := 27) hx hb d_Mo_erase_17 (by decide) (fun c9 => absurd c9 (by decide)) (fun _ => ?_)
    refine lv_aload_n hx hb d_Mo_erase_20 rfl (lv_at hl 0 rfl) ?_
    refine lv_iconst (v := 0) hx hb d_Mo_erase_21 (by decide) ?_
    refine lv_iconst (v := 2) hx hb d_Mo_erase_22 (by decide) ?_
    refine gx_call (ig := .invokevirtual 148) (c_Mo_done_v9 l htr D tys z _ ws2 A46 A47 A48 A49 A50 A51 A52 A53 A54 A62 A70 A78 A79 (u0) A80 A81 A82 A83 f_46_ws2) (gx_invV (As := [Value.int 0, Value.int 2]) (rest := []) hx hb hown hts km_Mo_148 kI_Mo_done kV_Mo_done kc_Mo_done (by decide) (show (parseMethodDescriptor y_Mo_done.desc).map (fun d => d.parameters.length) = some 2 by decide +kernel) (gx_recv (ci := 8) hK hP rfl f_46_ws2) rfl rfl d_Mo_erase_23) (gx_cw (z := 0) hts kc_Mo_done kN_Mo rfl rfl ⟨Nat.le_of_ble_eq_true rfl, Nat.le_of_ble_eq_true rfl⟩) hb hml gx_blind (gx_pre hz hP hK hD hY hS hAz [Value.ref A46, Value.int 0, Value.int 2]) rfl hl.1 (lv_room (Nat.le_of_ble_eq_true rfl)) d_Mo_erase_23 ⟨Nat.le_of_ble_eq_true rfl, Nat.le_of_ble_eq_true rfl⟩ (fun v3 st3 t3 L3 h0_3 hW_3 hQ_3 hL_3 => ?_) (fun v3 st3 t3 L3 h0_3 hW_3 hQ_3 hL_3 => ?_)
    · obtain ⟨ws4, hp, hP9, -, hD9, hS9⟩ := gx_back h0_3 hW_3 hQ_3 hL_3 hD hS hA
      clear hQ_3 h0_3 hL_3 hW_3 hP hD hS
      have hP := hP9
      have hD := hD9
      have hS := hS9
      clear hP9 hD9 hS9
      rcases hp with ⟨hv9, e_ws4, f_46_ws4⟩
      cases hv9
      have f_46_ws4 : ws4[46]? = some ((A46, Sum.inr (8, [Value.int 0, Value.int 1, Value.ref A47, Value.ref A48, Value.ref A49, Value.int 0, Value.ref A50, Value.ref A51, Value.ref A52, Value.ref A53, Value.int 0, Value.int 0, Value.int 0, Value.int (-1), Value.int 0, Value.ref A54, Value.ref A62, Value.ref A70, Value.int 0, Value.int 0, Value.int 0, Value.ref A78, Value.ref A79, Value.int 0, Value.int 16, Value.int 4, u0, Value.ref A80, Value.ref A81, Value.ref A82, Value.int 0, Value.ref A83, Value.int 0, Value.int 0, Value.int 0])) : Nat × va_E) := f_46_ws4
      replace hU : gx_g ws ws4 0 [46] := hU.call e_ws4 (by simp; first | done | omega)
      refine W.eq (g2 := F0 m 26 ls [Value.int 0]) rfl ?_
      generalize t3.heap = H at hP hS ⊢
      generalize locs ++ L3 = locs at hS ⊢
      exact gx_ret (W.iret (v := 0) hx hb hr (gx_post hP hK hD hS (by rw [← hPQ]; exact ⟨rfl, hU, f_46_ws4⟩)) hS.2.2 d_Mo_erase_26)
    · obtain ⟨E9, ws5, ce, hp, hce, hP9, -, hD9, hS9⟩ := gx_backT h0_3 hW_3 hQ_3 hL_3 hD hS hA
      clear hQ_3 h0_3 hL_3 hW_3 hP hD hS
      have hP := hP9
      have hD := hD9
      have hS := hS9
      clear hP9 hD9 hS9
      rcases hp with ⟨hv9, e_ws5, f_46_ws5⟩
      cases hv9
  · obtain ⟨E9, ws6, ce, hp, hce, hP9, -, hD9, hS9⟩ := gx_backT h0_1 hW_1 hQ_1 hL_1 hD hS hA
    clear hQ_1 h0_1 hL_1 hW_1 hP hD hS
    have hP := hP9
    have hD := hD9
    have hS := hS9
    clear hP9 hD9 hS9
    rcases hp with ⟨hv9, e_ws6, f_46_ws6⟩
    cases hv9

set_option maxHeartbeats 4000000 in
set_option maxRecDepth 100000 in
theorem c_Mo_keepNeeded_v3 (l : Launch) (htr : l.stackTraces = false) (D : va_G) (tys : List (ClassId × FieldType)) (z sz : Nat) (ws : va_W) (A46 : Nat) (A47 : Nat) (A48 : Nat) (A49 : Nat) (A50 : Nat) (A51 : Nat) (A52 : Nat) (A53 : Nat) (A54 : Nat) (A62 : Nat) (A70 : Nat) (A78 : Nat) (A79 : Nat) (u0 : Value) (A80 : Nat) (A81 : Nat) (A82 : Nat) (A83 : Nat) (f_46 : ws[46]? = some ((A46, Sum.inr (8, [Value.int 2, Value.int 0, Value.ref A47, Value.ref A48, Value.ref A49, Value.int 0, Value.ref A50, Value.ref A51, Value.ref A52, Value.ref A53, Value.int 0, Value.int 0, Value.int 0, Value.int (-1), Value.int 0, Value.ref A54, Value.ref A62, Value.ref A70, Value.int 0, Value.int 0, Value.int 0, Value.ref A78, Value.ref A79, Value.int 0, Value.int 16, Value.int 4, u0, Value.ref A80, Value.ref A81, Value.ref A82, Value.int 0, Value.ref A83, Value.int 0, Value.int 0, Value.int 0])) : Nat × va_E)) : gx_Met l y_Mo_keepNeeded [Cond.code y_Mo_keepNeeded b_Mo_keepNeeded 3 none] { frames := 1, cells := 0, slots := 0, locals := 12 } (gx_P z sz D classes tys ws [Value.ref A46]) (gx_Q D classes tys (va_A ws sz) (fun r ws' => (r = Sum.inl none ∧ gx_g ws ws' 0 [46] ∧ ws'[46]? = some ((A46, Sum.inr (8, [Value.int 2, Value.int 0, Value.ref A47, Value.ref A48, Value.ref A49, Value.int 0, Value.ref A50, Value.ref A51, Value.ref A52, Value.ref A53, Value.int 0, Value.int 0, Value.int 0, Value.int (-1), Value.int 0, Value.ref A54, Value.ref A62, Value.ref A70, Value.int 0, Value.int 0, Value.int 0, Value.ref A78, Value.ref A79, Value.int 0, Value.int 16, Value.int 4, u0, Value.ref A80, Value.ref A81, Value.ref A82, Value.int 0, Value.ref A83, Value.int 0, Value.int 0, Value.int 0])) : Nat × va_E)))) 0 0 (va_A ws sz) := by
  refine gx_ofW (cc := b_Mo_keepNeeded) (maxL := 3) (ret := none) (by decide) rfl ?_
  intro p e s m args below meth c s₁ B hml hv
  obtain ⟨rfl, hsz, hz, hP, hK, hD0, hY⟩ := hv
  have hx := B.exec
  have hb := B.bytes
  have hr := B.returns
  have hts := hY.hts (#[Value.ref A46] : Array Value)
  have hown : s.vm.findClass "CommitLedgerModel" = some m.cls := findClass_of_methodNamed B.named
  have hlocks := B.notSynchronized
  have hne : c.exceptionTable.isEmpty = true := B.noHandlers (atoms_spec (ws := [Cond.code y_Mo_keepNeeded b_Mo_keepNeeded 3 none]) B.pre _ List.mem_cons_self)
  subst hsz
  have hAz := gx_az hD0 hz
  have hD := hD0.self (sz := s.heap.size)
  have hN := gx_ns hP
  have hA : ∀ q : Nat, s.heap.size ≤ q → va_A ws s.heap.size q := fun q h => Or.inr h
  generalize va_A ws s.heap.size = A at hD hN hA hAz ⊢
  generalize hPQ : (fun (r : Option Value ⊕ String) (ws' : va_W) => (r = Sum.inl none ∧ gx_g ws ws' 0 [46] ∧ ws'[46]? = some ((A46, Sum.inr (8, [Value.int 2, Value.int 0, Value.ref A47, Value.ref A48, Value.ref A49, Value.int 0, Value.ref A50, Value.ref A51, Value.ref A52, Value.ref A53, Value.int 0, Value.int 0, Value.int 0, Value.int (-1), Value.int 0, Value.ref A54, Value.ref A62, Value.ref A70, Value.int 0, Value.int 0, Value.int 0, Value.ref A78, Value.ref A79, Value.int 0, Value.int 16, Value.int 4, u0, Value.ref A80, Value.ref A81, Value.ref A82, Value.int 0, Value.ref A83, Value.int 0, Value.int 0, Value.int 0])) : Nat × va_E))) = PQ
  have hS : va_S A s.heap s.heap [] := va_S.rf
  have hU : gx_g ws ws 0 [46] := gx_g.rf
  have hl := lv_entry ([Value.ref A46]) (n := 3) (Nat.le_of_ble_eq_true rfl)
  rw [lg_entry_eq]
  generalize (lg_sl ([Value.ref A46]) ++ List.replicate (3 - (lg_sl ([Value.ref A46])).length) Slot.unset).toArray = ls at hl ⊢
  have hl : lv_has ls 3 [(0, Value.ref A46)] := hl
  refine lv_iconst (v := 0) hx hb d_Mo_keepNeeded_0 (by decide) ?_
  refine lv_istore_n (lv' := [(1, Value.int 0), (0, Value.ref A46)]) hx hb d_Mo_keepNeeded_1 rfl hl (by decide) rfl (fun ls hl => ?_)
  refine lv_iconst (v := 0) hx hb d_Mo_keepNeeded_2 (by decide) ?_
  refine lv_istore_n (lv' := [(2, Value.int 0), (1, Value.int 0), (0, Value.ref A46)]) hx hb d_Mo_keepNeeded_3 rfl hl (by decide) rfl (fun ls hl => ?_)
  refine lv_iload_n hx hb d_Mo_keepNeeded_4 rfl (lv_at hl 0 rfl) ?_
  refine lv_aload_n hx hb d_Mo_keepNeeded_5 rfl (lv_at hl 2 rfl) ?_
  refine va_get (D := D) (ci := 8) (v := Value.int 0) (C := "CommitLedgerModel") (T := F_Mo) (N := 35) hx hb hts i_Mo hown hK hP 46 f_46 rfl 10 (by decide) (hts _ kf_Mo_93) (fun _ h9 => h9) rfl d_Mo_keepNeeded_6 ?_
  refine lv_icmp_ge (tgt := 69) hx hb d_Mo_keepNeeded_9 (by decide) (fun _ => ?_) (fun c9 => absurd (by decide) c9)
  refine lv_aload_n hx hb d_Mo_keepNeeded_69 rfl (lv_at hl 2 rfl) ?_
  refine lv_iload_n hx hb d_Mo_keepNeeded_70 rfl (lv_at hl 1 rfl) ?_
  refine va_put (D := D) (ci := 8) (v := Value.int 0) (ty := .int) (C := "CommitLedgerModel") (T := F_Mo) (N := 35) hx hb hts i_Mo t_Mo t_Mo_ok n_Mo hown hK hP hD hS 46 f_46 rfl 10 (by decide) (hts _ kf_Mo_93) (fun _ h9 => h9) rfl (by decide +kernel) rfl rfl (Nat.le_of_ble_eq_true rfl) d_Mo_keepNeeded_71 (fun H locs hP9 hD9 hS9 => ?_)
  obtain ⟨ws1, e_ws1⟩ : ∃ x : va_W, x = ws.set 46 ((A46, Sum.inr (8, [Value.int 2, Value.int 0, Value.ref A47, Value.ref A48, Value.ref A49, Value.int 0, Value.ref A50, Value.ref A51, Value.ref A52, Value.ref A53, Value.int 0, Value.int 0, Value.int 0, Value.int (-1), Value.int 0, Value.ref A54, Value.ref A62, Value.ref A70, Value.int 0, Value.int 0, Value.int 0, Value.ref A78, Value.ref A79, Value.int 0, Value.int 16, Value.int 4, u0, Value.ref A80, Value.ref A81, Value.ref A82, Value.int 0, Value.ref A83, Value.int 0, Value.int 0, Value.int 0])) : Nat × va_E) := ⟨_, rfl⟩
  replace hP : va_P D classes ws1 H := by rw [e_ws1]; exact hP9
  replace hD : va_D A ws1 := by rw [e_ws1]; exact hD9
  replace hS := hS9
  clear hP9 hD9 hS9
  have f_46_ws1 : ws1[46]? = some ((A46, Sum.inr (8, [Value.int 2, Value.int 0, Value.ref A47, Value.ref A48, Value.ref A49, Value.int 0, Value.ref A50, Value.ref A51, Value.ref A52, Value.ref A53, Value.int 0, Value.int 0, Value.int 0, Value.int (-1), Value.int 0, Value.ref A54, Value.ref A62, Value.ref A70, Value.int 0, Value.int 0, Value.int 0, Value.ref A78, Value.ref A79, Value.int 0, Value.int 16, Value.int 4, u0, Value.ref A80, Value.ref A81, Value.ref A82, Value.int 0, Value.ref A83, Value.int 0, Value.int 0, Value.int 0])) : Nat × va_E) := by rw [e_ws1]; exact gs_self f_46
  replace hU : gx_g ws ws1 0 [46] := by rw [e_ws1]; exact hU.put (Or.inl (by simp))
  exact gx_ret (W.vret hx hb hr (gx_post hP hK hD hS (by rw [← hPQ]; exact ⟨rfl, hU, f_46_ws1⟩)) hS.2.2 d_Mo_keepNeeded_74)

set_option maxHeartbeats 4000000 in
set_option maxRecDepth 100000 in
theorem c_Mo_tidyFiles_v2 (l : Launch) (htr : l.stackTraces = false) (D : va_G) (tys : List (ClassId × FieldType)) (z sz : Nat) (ws : va_W) (cV : ClassId) (A46 : Nat) (A47 : Nat) (A48 : Nat) (A49 : Nat) (A50 : Nat) (A51 : Nat) (A52 : Nat) (A53 : Nat) (A54 : Nat) (A62 : Nat) (A70 : Nat) (A78 : Nat) (A79 : Nat) (u0 : Value) (A80 : Nat) (A81 : Nat) (A82 : Nat) (A83 : Nat) (A84 : Nat) (A85 : Nat) (A86 : Nat) (A87 : Nat) (A88 : Nat) (A89 : Nat) (A90 : Nat) (A91 : Nat) (A92 : Nat) (A93 : Nat) (A94 : Nat) (A95 : Nat) (A96 : Nat) (A97 : Nat) (A98 : Nat) (A99 : Nat) (A100 : Nat) (A101 : Nat) (A102 : Nat) (A103 : Nat) (A104 : Nat) (A105 : Nat) (A106 : Nat) (A107 : Nat) (A108 : Nat) (A109 : Nat) (A110 : Nat) (A111 : Nat) (A112 : Nat) (A113 : Nat) (A114 : Nat) (A115 : Nat) (f_46 : ws[46]? = some ((A46, Sum.inr (8, [Value.int 2, Value.int 0, Value.ref A47, Value.ref A48, Value.ref A49, Value.int 0, Value.ref A50, Value.ref A51, Value.ref A52, Value.ref A53, Value.int 0, Value.int 0, Value.int 0, Value.int (-1), Value.int 0, Value.ref A54, Value.ref A62, Value.ref A70, Value.int 0, Value.int 0, Value.int 0, Value.ref A78, Value.ref A79, Value.int 0, Value.int 16, Value.int 4, u0, Value.ref A80, Value.ref A81, Value.ref A82, Value.int 0, Value.ref A83, Value.int 0, Value.int 0, Value.int 0])) : Nat × va_E)) (f_84 : ws[84]? = some ((A84, Sum.inr (9, [Value.ref A85, Value.ref A86, Value.ref A87, Value.ref A88, Value.ref A89, Value.ref A90, Value.ref A91, Value.int 0, Value.int 0, Value.int 0, Value.int 0])) : Nat × va_E)) (f_92 : ws[92]? = some ((A92, Sum.inr (9, [Value.ref A93, Value.ref A94, Value.ref A95, Value.ref A96, Value.ref A97, Value.ref A98, Value.ref A99, Value.int 0, Value.int 0, Value.int 0, Value.int 0])) : Nat × va_E)) (f_100 : ws[100]? = some ((A100, Sum.inr (9, [Value.ref A101, Value.ref A102, Value.ref A103, Value.ref A104, Value.ref A105, Value.ref A106, Value.ref A107, Value.int 0, Value.int 0, Value.int 0, Value.int 0])) : Nat × va_E)) (f_108 : ws[108]? = some ((A108, Sum.inr (9, [Value.ref A109, Value.ref A110, Value.ref A111, Value.ref A112, Value.ref A113, Value.ref A114, Value.ref A115, Value.int 0, Value.int 0, Value.int 0, Value.int 0])) : Nat × va_E)) (f_83 : ws[83]? = some ((A83, Sum.inl (cV, 4, Sum.inr (Sum.inr (Sum.inr (Sum.inr (va_up (va_up (va_up (va_up (fun _ => none) 0 (some A84)) 1 (some A92)) 2 (some A100)) 3 (some A108))))))) : Nat × va_E)) (ht5 : tys[5]? = some ((cV, FieldType.object "CommitLedgerModel$Version") : ClassId × FieldType)) : gx_Met l y_Mo_tidyFiles [Cond.code y_Mo_tidyFiles b_Mo_tidyFiles 5 none] { frames := 2, cells := 0, slots := 0, locals := 34 } (gx_P z sz D classes tys ws [Value.ref A46]) (gx_Q D classes tys (va_A ws sz) (fun r ws' => (r = Sum.inl none ∧ gx_g ws ws' 0 [46] ∧ ws'[46]? = some ((A46, Sum.inr (8, [Value.int 2, Value.int 0, Value.ref A47, Value.ref A48, Value.ref A49, Value.int 0, Value.ref A50, Value.ref A51, Value.ref A52, Value.ref A53, Value.int 0, Value.int 0, Value.int 0, Value.int (-1), Value.int 0, Value.ref A54, Value.ref A62, Value.ref A70, Value.int 0, Value.int 0, Value.int 0, Value.ref A78, Value.ref A79, Value.int 0, Value.int 16, Value.int 4, u0, Value.ref A80, Value.ref A81, Value.ref A82, Value.int 0, Value.ref A83, Value.int 0, Value.int 0, Value.int 0])) : Nat × va_E)))) 0 0 (va_A ws sz) := by
  refine gx_ofW (cc := b_Mo_tidyFiles) (maxL := 5) (ret := none) (by decide) rfl ?_
  intro p e s m args below meth c s₁ B hml hv
  obtain ⟨rfl, hsz, hz, hP, hK, hD0, hY⟩ := hv
  have hx := B.exec
  have hb := B.bytes
  have hr := B.returns
  have hts := hY.hts (#[Value.ref A46] : Array Value)
  have hown : s.vm.findClass "CommitLedgerModel" = some m.cls := findClass_of_methodNamed B.named
  have hlocks := B.notSynchronized
  have hne : c.exceptionTable.isEmpty = true := B.noHandlers (atoms_spec (ws := [Cond.code y_Mo_tidyFiles b_Mo_tidyFiles 5 none]) B.pre _ List.mem_cons_self)
  subst hsz
  have hAz := gx_az hD0 hz
  have hD := hD0.self (sz := s.heap.size)
  have hN := gx_ns hP
  have hA : ∀ q : Nat, s.heap.size ≤ q → va_A ws s.heap.size q := fun q h => Or.inr h
  generalize va_A ws s.heap.size = A at hD hN hA hAz ⊢
  generalize hPQ : (fun (r : Option Value ⊕ String) (ws' : va_W) => (r = Sum.inl none ∧ gx_g ws ws' 0 [46] ∧ ws'[46]? = some ((A46, Sum.inr (8, [Value.int 2, Value.int 0, Value.ref A47, Value.ref A48, Value.ref A49, Value.int 0, Value.ref A50, Value.ref A51, Value.ref A52, Value.ref A53, Value.int 0, Value.int 0, Value.int 0, Value.int (-1), Value.int 0, Value.ref A54, Value.ref A62, Value.ref A70, Value.int 0, Value.int 0, Value.int 0, Value.ref A78, Value.ref A79, Value.int 0, Value.int 16, Value.int 4, u0, Value.ref A80, Value.ref A81, Value.ref A82, Value.int 0, Value.ref A83, Value.int 0, Value.int 0, Value.int 0])) : Nat × va_E))) = PQ
  have hS : va_S A s.heap s.heap [] := va_S.rf
  have hU : gx_g ws ws 0 [46] := gx_g.rf
  have hl := lv_entry ([Value.ref A46]) (n := 5) (Nat.le_of_ble_eq_true rfl)
  rw [lg_entry_eq]
  generalize (lg_sl ([Value.ref A46]) ++ List.replicate (5 - (lg_sl ([Value.ref A46])).length) Slot.unset).toArray = ls at hl ⊢
  have hl : lv_has ls 5 [(0, Value.ref A46)] := hl
  refine lv_aload_n hx hb d_Mo_tidyFiles_0 rfl (lv_at hl 0 rfl) ?_
  refine va_get (D := D) (ci := 8) (v := Value.int 0) (C := "CommitLedgerModel") (T := F_Mo) (N := 35) hx hb hts i_Mo hown hK hP 46 f_46 rfl 14 (by decide) (hts _ kf_Mo_112) (fun _ h9 => h9) rfl d_Mo_tidyFiles_1 ?_
  refine lv_if_eq (tgt := 8) hx hb d_Mo_tidyFiles_4 (by decide) (fun _ => ?_) (fun c9 => absurd (by decide) c9)
  refine lv_iconst (v := 0) hx hb d_Mo_tidyFiles_8 (by decide) ?_
  refine lv_istore_n (lv' := [(1, Value.int 0), (0, Value.ref A46)]) hx hb d_Mo_tidyFiles_9 rfl hl (by decide) rfl (fun ls hl => ?_)
  refine lv_iload_n hx hb d_Mo_tidyFiles_10 rfl (lv_at hl 0 rfl) ?_
  refine lv_aload_n hx hb d_Mo_tidyFiles_11 rfl (lv_at hl 1 rfl) ?_
  refine va_get (D := D) (ci := 8) (v := Value.int 0) (C := "CommitLedgerModel") (T := F_Mo) (N := 35) hx hb hts i_Mo hown hK hP 46 f_46 rfl 10 (by decide) (hts _ kf_Mo_93) (fun _ h9 => h9) rfl d_Mo_tidyFiles_12 ?_
  refine lv_icmp_ge (tgt := 31) hx hb d_Mo_tidyFiles_15 (by decide) (fun _ => ?_) (fun c9 => absurd (by decide) c9)
  refine lv_aload_n hx hb d_Mo_tidyFiles_31 rfl (lv_at hl 1 rfl) ?_
  refine va_get (D := D) (ci := 8) (v := Value.int 0) (C := "CommitLedgerModel") (T := F_Mo) (N := 35) hx hb hts i_Mo hown hK hP 46 f_46 rfl 20 (by decide) (hts _ kf_Mo_135) (fun _ h9 => h9) rfl d_Mo_tidyFiles_32 ?_
  refine lv_if_le (tgt := 64) hx hb d_Mo_tidyFiles_35 (by decide) (fun _ => ?_) (fun c9 => absurd (by decide) c9)
  refine lv_aload_n hx hb d_Mo_tidyFiles_64 rfl (lv_at hl 1 rfl) ?_
  refine va_get (D := D) (ci := 8) (v := Value.int 0) (C := "CommitLedgerModel") (T := F_Mo) (N := 35) hx hb hts i_Mo hown hK hP 46 f_46 rfl 19 (by decide) (hts _ kf_Mo_109) (fun _ h9 => h9) rfl d_Mo_tidyFiles_65 ?_
  refine lv_if_eq (tgt := 97) hx hb d_Mo_tidyFiles_68 (by decide) (fun _ => ?_) (fun c9 => absurd (by decide) c9)
  refine lv_aload_n hx hb d_Mo_tidyFiles_97 rfl (lv_at hl 1 rfl) ?_
  refine va_get (D := D) (ci := 8) (v := Value.int 0) (C := "CommitLedgerModel") (T := F_Mo) (N := 35) hx hb hts i_Mo hown hK hP 46 f_46 rfl 18 (by decide) (hts _ kf_Mo_99) (fun _ h9 => h9) rfl d_Mo_tidyFiles_98 ?_
  refine lv_if_eq (tgt := 113) hx hb d_Mo_tidyFiles_101 (by decide) (fun _ => ?_) (fun c9 => absurd (by decide) c9)
  refine lv_iconst (v := 0) hx hb d_Mo_tidyFiles_113 (by decide) ?_
  refine lv_istore_n (lv' := [(1, Value.int 0), (0, Value.ref A46)]) hx hb d_Mo_tidyFiles_114 rfl hl (by decide) rfl (fun ls hl => ?_)
  refine lv_iload_n hx hb d_Mo_tidyFiles_115 rfl (lv_at hl 0 rfl) ?_
  refine lv_aload_n hx hb d_Mo_tidyFiles_116 rfl (lv_at hl 1 rfl) ?_
  refine va_get (D := D) (ci := 8) (v := Value.int 0) (C := "CommitLedgerModel") (T := F_Mo) (N := 35) hx hb hts i_Mo hown hK hP 46 f_46 rfl 30 (by decide) (hts _ kf_Mo_106) (fun _ h9 => h9) rfl d_Mo_tidyFiles_117 ?_
  refine lv_icmp_ge (tgt := 145) hx hb d_Mo_tidyFiles_120 (by decide) (fun _ => ?_) (fun c9 => absurd (by decide) c9)
  refine lv_aload_n hx hb d_Mo_tidyFiles_145 rfl (lv_at hl 1 rfl) ?_
  refine va_get (D := D) (ci := 8) (v := Value.ref A83) (C := "CommitLedgerModel") (T := F_Mo) (N := 35) hx hb hts i_Mo hown hK hP 46 f_46 rfl 31 (by decide) (hts _ kf_Mo_76) (fun _ h9 => h9) rfl d_Mo_tidyFiles_146 ?_
  refine lv_astore_n (lv' := [(1, Value.ref A83), (0, Value.ref A46)]) hx hb d_Mo_tidyFiles_149 rfl hl (by decide) rfl (fun ls hl => ?_)
  refine lv_aload_n hx hb d_Mo_tidyFiles_150 rfl (lv_at hl 0 rfl) ?_
  refine va_alen (D := D) (v := 4) hx hb hK hP 83 5 f_83 ht5 rfl d_Mo_tidyFiles_151 ?_
  refine lv_istore_n (lv' := [(2, Value.int 4), (1, Value.ref A83), (0, Value.ref A46)]) hx hb d_Mo_tidyFiles_152 rfl hl (by decide) rfl (fun ls hl => ?_)
  refine lv_iconst (v := 0) hx hb d_Mo_tidyFiles_153 (by decide) ?_
  refine lv_istore_n (lv' := [(3, Value.int 0), (2, Value.int 4), (1, Value.ref A83), (0, Value.ref A46)]) hx hb d_Mo_tidyFiles_154 rfl hl (by decide) rfl (fun ls hl => ?_)
  refine lv_iload_n hx hb d_Mo_tidyFiles_155 rfl (lv_at hl 0 rfl) ?_
  refine lv_iload_n hx hb d_Mo_tidyFiles_156 rfl (lv_at hl 1 rfl) ?_
  refine lv_icmp_ge (tgt := 186) hx hb d_Mo_tidyFiles_157 (by decide) (fun c9 => absurd c9 (by decide)) (fun _ => ?_)
  refine lv_aload_n hx hb d_Mo_tidyFiles_160 rfl (lv_at hl 2 rfl) ?_
  refine lv_iload_n hx hb d_Mo_tidyFiles_161 rfl (lv_at hl 0 rfl) ?_
  refine gx_aald (D := D) (b := A84) (j := 0) hx hb hK hP 83 5 f_83 ht5 (gx_inl (by decide)) (by decide) (rfl) d_Mo_tidyFiles_162 ?_
  refine lv_astore (lv' := [(4, Value.ref A84), (3, Value.int 0), (2, Value.int 4), (1, Value.ref A83), (0, Value.ref A46)]) hx hb d_Mo_tidyFiles_163 hl (by decide) rfl (fun ls hl => ?_)
  refine lv_aload hx hb d_Mo_tidyFiles_165 (lv_at hl 0 rfl) ?_
  refine va_get (D := D) (ci := 9) (v := Value.int 0) (C := "CommitLedgerModel$Version") (T := F_Ve) (N := 11) hx hb hts i_Ve hown hK hP 84 f_84 rfl 10 (by decide) (hts _ kf_Mo_103) (fun _ h9 => h9) rfl d_Mo_tidyFiles_167 ?_
  refine lv_if_le (tgt := 180) hx hb d_Mo_tidyFiles_170 (by decide) (fun _ => ?_) (fun c9 => absurd (by decide) c9)
  refine lv_iinc (v := 1) (lv' := [(3, Value.int 1), (4, Value.ref A84), (2, Value.int 4), (1, Value.ref A83), (0, Value.ref A46)]) hx hb d_Mo_tidyFiles_180 hl (k := 1) rfl (by decide) (by decide) rfl (fun ls hl => ?_)
  refine lv_goto (tgt := 155) hx hb d_Mo_tidyFiles_183 (by decide) ?_
  refine lv_iload_n hx hb d_Mo_tidyFiles_155 rfl (lv_at hl 0 rfl) ?_
  refine lv_iload_n hx hb d_Mo_tidyFiles_156 rfl (lv_at hl 2 rfl) ?_
  refine lv_icmp_ge (tgt := 186) hx hb d_Mo_tidyFiles_157 (by decide) (fun c9 => absurd c9 (by decide)) (fun _ => ?_)
  refine lv_aload_n hx hb d_Mo_tidyFiles_160 rfl (lv_at hl 3 rfl) ?_
  refine lv_iload_n hx hb d_Mo_tidyFiles_161 rfl (lv_at hl 0 rfl) ?_
  refine gx_aald (D := D) (b := A92) (j := 1) hx hb hK hP 83 5 f_83 ht5 (gx_inl (by decide)) (by decide) (rfl) d_Mo_tidyFiles_162 ?_
  refine lv_astore (lv' := [(4, Value.ref A92), (3, Value.int 1), (2, Value.int 4), (1, Value.ref A83), (0, Value.ref A46)]) hx hb d_Mo_tidyFiles_163 hl (by decide) rfl (fun ls hl => ?_)
  refine lv_aload hx hb d_Mo_tidyFiles_165 (lv_at hl 0 rfl) ?_
  refine va_get (D := D) (ci := 9) (v := Value.int 0) (C := "CommitLedgerModel$Version") (T := F_Ve) (N := 11) hx hb hts i_Ve hown hK hP 92 f_92 rfl 10 (by decide) (hts _ kf_Mo_103) (fun _ h9 => h9) rfl d_Mo_tidyFiles_167 ?_
  refine lv_if_le (tgt := 180) hx hb d_Mo_tidyFiles_170 (by decide) (fun _ => ?_) (fun c9 => absurd (by decide) c9)
  refine lv_iinc (v := 2) (lv' := [(3, Value.int 2), (4, Value.ref A92), (2, Value.int 4), (1, Value.ref A83), (0, Value.ref A46)]) hx hb d_Mo_tidyFiles_180 hl (k := 1) rfl (by decide) (by decide) rfl (fun ls hl => ?_)
  refine lv_goto (tgt := 155) hx hb d_Mo_tidyFiles_183 (by decide) ?_
  refine lv_iload_n hx hb d_Mo_tidyFiles_155 rfl (lv_at hl 0 rfl) ?_
  refine lv_iload_n hx hb d_Mo_tidyFiles_156 rfl (lv_at hl 2 rfl) ?_
  refine lv_icmp_ge (tgt := 186) hx hb d_Mo_tidyFiles_157 (by decide) (fun c9 => absurd c9 (by decide)) (fun _ => ?_)
  refine lv_aload_n hx hb d_Mo_tidyFiles_160 rfl (lv_at hl 3 rfl) ?_
  refine lv_iload_n hx hb d_Mo_tidyFiles_161 rfl (lv_at hl 0 rfl) ?_
  refine gx_aald (D := D) (b := A100) (j := 2) hx hb hK hP 83 5 f_83 ht5 (gx_inl (by decide)) (by decide) (rfl) d_Mo_tidyFiles_162 ?_
  refine lv_astore (lv' := [(4, Value.ref A100), (3, Value.int 2), (2, Value.int 4), (1, Value.ref A83), (0, Value.ref A46)]) hx hb d_Mo_tidyFiles_163 hl (by decide) rfl (fun ls hl => ?_)
  refine lv_aload hx hb d_Mo_tidyFiles_165 (lv_at hl 0 rfl) ?_
  refine va_get (D := D) (ci := 9) (v := Value.int 0) (C := "CommitLedgerModel$Version") (T := F_Ve) (N := 11) hx hb hts i_Ve hown hK hP 100 f_100 rfl 10 (by decide) (hts _ kf_Mo_103) (fun _ h9 => h9) rfl d_Mo_tidyFiles_167 ?_
  refine lv_if_le (tgt := 180) hx hb d_Mo_tidyFiles_170 (by decide) (fun _ => ?_) (fun c9 => absurd (by decide) c9)
  refine lv_iinc (v := 3) (lv' := [(3, Value.int 3), (4, Value.ref A100), (2, Value.int 4), (1, Value.ref A83), (0, Value.ref A46)]) hx hb d_Mo_tidyFiles_180 hl (k := 1) rfl (by decide) (by decide) rfl (fun ls hl => ?_)
  refine lv_goto (tgt := 155) hx hb d_Mo_tidyFiles_183 (by decide) ?_
  refine lv_iload_n hx hb d_Mo_tidyFiles_155 rfl (lv_at hl 0 rfl) ?_
  refine lv_iload_n hx hb d_Mo_tidyFiles_156 rfl (lv_at hl 2 rfl) ?_
  refine lv_icmp_ge (tgt := 186) hx hb d_Mo_tidyFiles_157 (by decide) (fun c9 => absurd c9 (by decide)) (fun _ => ?_)
  refine lv_aload_n hx hb d_Mo_tidyFiles_160 rfl (lv_at hl 3 rfl) ?_
  refine lv_iload_n hx hb d_Mo_tidyFiles_161 rfl (lv_at hl 0 rfl) ?_
  refine gx_aald (D := D) (b := A108) (j := 3) hx hb hK hP 83 5 f_83 ht5 (gx_inl (by decide)) (by decide) (rfl) d_Mo_tidyFiles_162 ?_
  refine lv_astore (lv' := [(4, Value.ref A108), (3, Value.int 3), (2, Value.int 4), (1, Value.ref A83), (0, Value.ref A46)]) hx hb d_Mo_tidyFiles_163 hl (by decide) rfl (fun ls hl => ?_)
  refine lv_aload hx hb d_Mo_tidyFiles_165 (lv_at hl 0 rfl) ?_
  refine va_get (D := D) (ci := 9) (v := Value.int 0) (C := "CommitLedgerModel$Version") (T := F_Ve) (N := 11) hx hb hts i_Ve hown hK hP 108 f_108 rfl 10 (by decide) (hts _ kf_Mo_103) (fun _ h9 => h9) rfl d_Mo_tidyFiles_167 ?_
  refine lv_if_le (tgt := 180) hx hb d_Mo_tidyFiles_170 (by decide) (fun _ => ?_) (fun c9 => absurd (by decide) c9)
  refine lv_iinc (v := 4) (lv' := [(3, Value.int 4), (4, Value.ref A108), (2, Value.int 4), (1, Value.ref A83), (0, Value.ref A46)]) hx hb d_Mo_tidyFiles_180 hl (k := 1) rfl (by decide) (by decide) rfl (fun ls hl => ?_)
  refine lv_goto (tgt := 155) hx hb d_Mo_tidyFiles_183 (by decide) ?_
  refine lv_iload_n hx hb d_Mo_tidyFiles_155 rfl (lv_at hl 0 rfl) ?_
  refine lv_iload_n hx hb d_Mo_tidyFiles_156 rfl (lv_at hl 2 rfl) ?_
  refine lv_icmp_ge (tgt := 186) hx hb d_Mo_tidyFiles_157 (by decide) (fun _ => ?_) (fun c9 => absurd (by decide) c9)
  refine lv_aload_n hx hb d_Mo_tidyFiles_186 rfl (lv_at hl 4 rfl) ?_
  refine gx_call (ig := .invokevirtual 96) (c_Mo_keepNeeded_v3 l htr D tys z _ ws A46 A47 A48 A49 A50 A51 A52 A53 A54 A62 A70 A78 A79 (u0) A80 A81 A82 A83 f_46) (gx_invV (As := []) (rest := []) hx hb hown hts km_Mo_96 kI_Mo_keepNeeded kV_Mo_keepNeeded kc_Mo_keepNeeded (by decide) (show (parseMethodDescriptor y_Mo_keepNeeded.desc).map (fun d => d.parameters.length) = some 0 by decide +kernel) (gx_recv (ci := 8) hK hP rfl f_46) rfl rfl d_Mo_tidyFiles_187) (gx_cw (z := 0) hts kc_Mo_keepNeeded kN_Mo rfl rfl ⟨Nat.le_of_ble_eq_true rfl, Nat.le_of_ble_eq_true rfl⟩) hb hml gx_blind (gx_pre hz hP hK hD hY hS hAz [Value.ref A46]) rfl hl.1 (lv_room (Nat.le_of_ble_eq_true rfl)) d_Mo_tidyFiles_187 ⟨Nat.le_of_ble_eq_true rfl, Nat.le_of_ble_eq_true rfl⟩ (fun v1 st1 t1 L1 h0_1 hW_1 hQ_1 hL_1 => ?_) (fun v1 st1 t1 L1 h0_1 hW_1 hQ_1 hL_1 => ?_)
  · obtain ⟨ws2, hp, hP9, -, hD9, hS9⟩ := gx_back h0_1 hW_1 hQ_1 hL_1 hD hS hA
    clear hQ_1 h0_1 hL_1 hW_1 hP hD hS
    have hP := hP9
    have hD := hD9
    have hS := hS9
    clear hP9 hD9 hS9
    rcases hp with ⟨hv9, e_ws2, f_46_ws2⟩
    cases hv9
    have f_46_ws2 : ws2[46]? = some ((A46, Sum.inr (8, [Value.int 2, Value.int 0, Value.ref A47, Value.ref A48, Value.ref A49, Value.int 0, Value.ref A50, Value.ref A51, Value.ref A52, Value.ref A53, Value.int 0, Value.int 0, Value.int 0, Value.int (-1), Value.int 0, Value.ref A54, Value.ref A62, Value.ref A70, Value.int 0, Value.int 0, Value.int 0, Value.ref A78, Value.ref A79, Value.int 0, Value.int 16, Value.int 4, u0, Value.ref A80, Value.ref A81, Value.ref A82, Value.int 0, Value.ref A83, Value.int 0, Value.int 0, Value.int 0])) : Nat × va_E) := f_46_ws2
    replace hU : gx_g ws ws2 0 [46] := hU.call e_ws2 (by simp; first | done | omega)
    refine W.eq (g2 := F0 m 190 ls []) rfl ?_
    generalize t1.heap = H at hP hS ⊢
    generalize [] ++ L1 = locs at hS ⊢
    exact gx_ret (W.vret hx hb hr (gx_post hP hK hD hS (by rw [← hPQ]; exact ⟨rfl, hU, f_46_ws2⟩)) hS.2.2 d_Mo_tidyFiles_190)
  · obtain ⟨E9, ws3, ce, hp, hce, hP9, -, hD9, hS9⟩ := gx_backT h0_1 hW_1 hQ_1 hL_1 hD hS hA
    clear hQ_1 h0_1 hL_1 hW_1 hP hD hS
    have hP := hP9
    have hD := hD9
    have hS := hS9
    clear hP9 hD9 hS9
    rcases hp with ⟨hv9, e_ws3, f_46_ws3⟩
    cases hv9

set_option maxHeartbeats 4000000 in
set_option maxRecDepth 100000 in
theorem c_Mo_done_v10 (l : Launch) (htr : l.stackTraces = false) (D : va_G) (tys : List (ClassId × FieldType)) (z sz : Nat) (ws : va_W) (A46 : Nat) (A47 : Nat) (A48 : Nat) (A49 : Nat) (A50 : Nat) (A51 : Nat) (A52 : Nat) (A53 : Nat) (A54 : Nat) (A62 : Nat) (A70 : Nat) (A78 : Nat) (A79 : Nat) (u0 : Value) (A80 : Nat) (A81 : Nat) (A82 : Nat) (A83 : Nat) (f_46 : ws[46]? = some ((A46, Sum.inr (8, [Value.int 2, Value.int 0, Value.ref A47, Value.ref A48, Value.ref A49, Value.int 0, Value.ref A50, Value.ref A51, Value.ref A52, Value.ref A53, Value.int 0, Value.int 0, Value.int 0, Value.int (-1), Value.int 0, Value.ref A54, Value.ref A62, Value.ref A70, Value.int 0, Value.int 0, Value.int 0, Value.ref A78, Value.ref A79, Value.int 0, Value.int 16, Value.int 4, u0, Value.ref A80, Value.ref A81, Value.ref A82, Value.int 0, Value.ref A83, Value.int 0, Value.int 0, Value.int 0])) : Nat × va_E)) : gx_Met l y_Mo_done [Cond.code y_Mo_done b_Mo_done 6 (some .int)] { frames := 1, cells := 0, slots := 0, locals := 12 } (gx_P z sz D classes tys ws [Value.ref A46, Value.int 0, Value.int 26]) (gx_Q D classes tys (va_A ws sz) (fun r ws' => (r = Sum.inl (some (Value.int 0)) ∧ gx_g ws ws' 0 [46] ∧ ws'[46]? = some ((A46, Sum.inr (8, [Value.int 0, Value.int 1, Value.ref A47, Value.ref A48, Value.ref A49, Value.int 0, Value.ref A50, Value.ref A51, Value.ref A52, Value.ref A53, Value.int 0, Value.int 0, Value.int 0, Value.int (-1), Value.int 0, Value.ref A54, Value.ref A62, Value.ref A70, Value.int 0, Value.int 0, Value.int 0, Value.ref A78, Value.ref A79, Value.int 0, Value.int 16, Value.int 4, u0, Value.ref A80, Value.ref A81, Value.ref A82, Value.int 0, Value.ref A83, Value.int 0, Value.int 0, Value.int 0])) : Nat × va_E)))) 0 0 (va_A ws sz) := by
  refine gx_ofW (cc := b_Mo_done) (maxL := 6) (ret := (some .int)) (by decide) rfl ?_
  intro p e s m args below meth c s₁ B hml hv
  obtain ⟨rfl, hsz, hz, hP, hK, hD0, hY⟩ := hv
  have hx := B.exec
  have hb := B.bytes
  have hr := B.returns
  have hts := hY.hts (#[Value.ref A46, Value.int 0, Value.int 26] : Array Value)
  have hown : s.vm.findClass "CommitLedgerModel" = some m.cls := findClass_of_methodNamed B.named
  have hlocks := B.notSynchronized
  have hne : c.exceptionTable.isEmpty = true := B.noHandlers (atoms_spec (ws := [Cond.code y_Mo_done b_Mo_done 6 (some .int)]) B.pre _ List.mem_cons_self)
  subst hsz
  have hAz := gx_az hD0 hz
  have hD := hD0.self (sz := s.heap.size)
  have hN := gx_ns hP
  have hA : ∀ q : Nat, s.heap.size ≤ q → va_A ws s.heap.size q := fun q h => Or.inr h
  generalize va_A ws s.heap.size = A at hD hN hA hAz ⊢
  generalize hPQ : (fun (r : Option Value ⊕ String) (ws' : va_W) => (r = Sum.inl (some (Value.int 0)) ∧ gx_g ws ws' 0 [46] ∧ ws'[46]? = some ((A46, Sum.inr (8, [Value.int 0, Value.int 1, Value.ref A47, Value.ref A48, Value.ref A49, Value.int 0, Value.ref A50, Value.ref A51, Value.ref A52, Value.ref A53, Value.int 0, Value.int 0, Value.int 0, Value.int (-1), Value.int 0, Value.ref A54, Value.ref A62, Value.ref A70, Value.int 0, Value.int 0, Value.int 0, Value.ref A78, Value.ref A79, Value.int 0, Value.int 16, Value.int 4, u0, Value.ref A80, Value.ref A81, Value.ref A82, Value.int 0, Value.ref A83, Value.int 0, Value.int 0, Value.int 0])) : Nat × va_E))) = PQ
  have hS : va_S A s.heap s.heap [] := va_S.rf
  have hU : gx_g ws ws 0 [46] := gx_g.rf
  have hl := lv_entry ([Value.ref A46, Value.int 0, Value.int 26]) (n := 6) (Nat.le_of_ble_eq_true rfl)
  rw [lg_entry_eq]
  generalize (lg_sl ([Value.ref A46, Value.int 0, Value.int 26]) ++ List.replicate (6 - (lg_sl ([Value.ref A46, Value.int 0, Value.int 26])).length) Slot.unset).toArray = ls at hl ⊢
  have hl : lv_has ls 6 [(0, Value.ref A46), (1, Value.int 0), (2, Value.int 26)] := hl
  refine lv_aload_n hx hb d_Mo_done_0 rfl (lv_at hl 0 rfl) ?_
  refine lv_iconst (v := 0) hx hb d_Mo_done_1 (by decide) ?_
  refine va_put (D := D) (ci := 8) (v := Value.int 0) (ty := .int) (C := "CommitLedgerModel") (T := F_Mo) (N := 35) hx hb hts i_Mo t_Mo t_Mo_ok n_Mo hown hK hP hD hS 46 f_46 rfl 1 (by decide) (hts _ kf_Mo_80) (fun _ h9 => h9) rfl (by decide +kernel) rfl rfl (Nat.le_of_ble_eq_true rfl) d_Mo_done_2 (fun H locs hP9 hD9 hS9 => ?_)
  obtain ⟨ws1, e_ws1⟩ : ∃ x : va_W, x = ws.set 46 ((A46, Sum.inr (8, [Value.int 2, Value.int 0, Value.ref A47, Value.ref A48, Value.ref A49, Value.int 0, Value.ref A50, Value.ref A51, Value.ref A52, Value.ref A53, Value.int 0, Value.int 0, Value.int 0, Value.int (-1), Value.int 0, Value.ref A54, Value.ref A62, Value.ref A70, Value.int 0, Value.int 0, Value.int 0, Value.ref A78, Value.ref A79, Value.int 0, Value.int 16, Value.int 4, u0, Value.ref A80, Value.ref A81, Value.ref A82, Value.int 0, Value.ref A83, Value.int 0, Value.int 0, Value.int 0])) : Nat × va_E) := ⟨_, rfl⟩
  replace hP : va_P D classes ws1 H := by rw [e_ws1]; exact hP9
  replace hD : va_D A ws1 := by rw [e_ws1]; exact hD9
  replace hS := hS9
  clear hP9 hD9 hS9
  have f_46_ws1 : ws1[46]? = some ((A46, Sum.inr (8, [Value.int 2, Value.int 0, Value.ref A47, Value.ref A48, Value.ref A49, Value.int 0, Value.ref A50, Value.ref A51, Value.ref A52, Value.ref A53, Value.int 0, Value.int 0, Value.int 0, Value.int (-1), Value.int 0, Value.ref A54, Value.ref A62, Value.ref A70, Value.int 0, Value.int 0, Value.int 0, Value.ref A78, Value.ref A79, Value.int 0, Value.int 16, Value.int 4, u0, Value.ref A80, Value.ref A81, Value.ref A82, Value.int 0, Value.ref A83, Value.int 0, Value.int 0, Value.int 0])) : Nat × va_E) := by rw [e_ws1]; exact gs_self f_46
  replace hU : gx_g ws ws1 0 [46] := by rw [e_ws1]; exact hU.put (Or.inl (by simp))
  refine lv_iconst (v := 0) hx hb d_Mo_done_5 (by decide) ?_
  refine lv_istore_n (lv' := [(3, Value.int 0), (0, Value.ref A46), (1, Value.int 0), (2, Value.int 26)]) hx hb d_Mo_done_6 rfl hl (by decide) rfl (fun ls hl => ?_)
  refine lv_ldc (v := 100000) hx hb hown (hts _ ki_Mo_83) d_Mo_done_7 ?_
  refine lv_istore (lv' := [(4, Value.int 100000), (3, Value.int 0), (0, Value.ref A46), (1, Value.int 0), (2, Value.int 26)]) hx hb d_Mo_done_9 hl (by decide) rfl (fun ls hl => ?_)
  refine lv_iload hx hb d_Mo_done_11 (lv_at hl 0 rfl) ?_
  refine lv_if_le (tgt := 60) hx hb d_Mo_done_13 (by decide) (fun c9 => absurd c9 (by decide)) (fun _ => ?_)
  refine lv_iload_n hx hb d_Mo_done_16 rfl (lv_at hl 4 rfl) ?_
  refine lv_iload hx hb d_Mo_done_17 (lv_at hl 0 rfl) ?_
  refine lv_idiv hx hb d_Mo_done_19 (by decide) ?_
  refine gx_topi (y := 0) (by decide) ?_
  refine lv_bipush (v := 10) hx hb d_Mo_done_20 (by decide) ?_
  refine lv_irem hx hb d_Mo_done_22 (by decide) ?_
  refine gx_topi (y := 0) (by decide) ?_
  refine lv_istore (lv' := [(5, Value.int 0), (4, Value.int 100000), (3, Value.int 0), (0, Value.ref A46), (1, Value.int 0), (2, Value.int 26)]) hx hb d_Mo_done_23 hl (by decide) rfl (fun ls hl => ?_)
  refine lv_iload hx hb d_Mo_done_25 (lv_at hl 0 rfl) ?_
  refine lv_if_ne (tgt := 33) hx hb d_Mo_done_27 (by decide) (fun c9 => absurd (by decide) c9) (fun _ => ?_)
  refine lv_goto (tgt := 50) hx hb d_Mo_done_30 (by decide) ?_
  refine lv_iload hx hb d_Mo_done_50 (lv_at hl 1 rfl) ?_
  refine lv_bipush (v := 10) hx hb d_Mo_done_52 (by decide) ?_
  refine lv_idiv hx hb d_Mo_done_54 (by decide) ?_
  refine gx_topi (y := 10000) (by decide) ?_
  refine lv_istore (lv' := [(4, Value.int 10000), (5, Value.int 0), (3, Value.int 0), (0, Value.ref A46), (1, Value.int 0), (2, Value.int 26)]) hx hb d_Mo_done_55 hl (by decide) rfl (fun ls hl => ?_)
  refine lv_goto (tgt := 11) hx hb d_Mo_done_57 (by decide) ?_
  refine lv_iload hx hb d_Mo_done_11 (lv_at hl 0 rfl) ?_
  refine lv_if_le (tgt := 60) hx hb d_Mo_done_13 (by decide) (fun c9 => absurd c9 (by decide)) (fun _ => ?_)
  refine lv_iload_n hx hb d_Mo_done_16 rfl (lv_at hl 5 rfl) ?_
  refine lv_iload hx hb d_Mo_done_17 (lv_at hl 0 rfl) ?_
  refine lv_idiv hx hb d_Mo_done_19 (by decide) ?_
  refine gx_topi (y := 0) (by decide) ?_
  refine lv_bipush (v := 10) hx hb d_Mo_done_20 (by decide) ?_
  refine lv_irem hx hb d_Mo_done_22 (by decide) ?_
  refine gx_topi (y := 0) (by decide) ?_
  refine lv_istore (lv' := [(5, Value.int 0), (4, Value.int 10000), (3, Value.int 0), (0, Value.ref A46), (1, Value.int 0), (2, Value.int 26)]) hx hb d_Mo_done_23 hl (by decide) rfl (fun ls hl => ?_)
  refine lv_iload hx hb d_Mo_done_25 (lv_at hl 0 rfl) ?_
  refine lv_if_ne (tgt := 33) hx hb d_Mo_done_27 (by decide) (fun c9 => absurd (by decide) c9) (fun _ => ?_)
  refine lv_goto (tgt := 50) hx hb d_Mo_done_30 (by decide) ?_
  refine lv_iload hx hb d_Mo_done_50 (lv_at hl 1 rfl) ?_
  refine lv_bipush (v := 10) hx hb d_Mo_done_52 (by decide) ?_
  refine lv_idiv hx hb d_Mo_done_54 (by decide) ?_
  refine gx_topi (y := 1000) (by decide) ?_
  refine lv_istore (lv' := [(4, Value.int 1000), (5, Value.int 0), (3, Value.int 0), (0, Value.ref A46), (1, Value.int 0), (2, Value.int 26)]) hx hb d_Mo_done_55 hl (by decide) rfl (fun ls hl => ?_)
  refine lv_goto (tgt := 11) hx hb d_Mo_done_57 (by decide) ?_
  refine lv_iload hx hb d_Mo_done_11 (lv_at hl 0 rfl) ?_
  refine lv_if_le (tgt := 60) hx hb d_Mo_done_13 (by decide) (fun c9 => absurd c9 (by decide)) (fun _ => ?_)
  refine lv_iload_n hx hb d_Mo_done_16 rfl (lv_at hl 5 rfl) ?_
  refine lv_iload hx hb d_Mo_done_17 (lv_at hl 0 rfl) ?_
  refine lv_idiv hx hb d_Mo_done_19 (by decide) ?_
  refine gx_topi (y := 0) (by decide) ?_
  refine lv_bipush (v := 10) hx hb d_Mo_done_20 (by decide) ?_
  refine lv_irem hx hb d_Mo_done_22 (by decide) ?_
  refine gx_topi (y := 0) (by decide) ?_
  refine lv_istore (lv' := [(5, Value.int 0), (4, Value.int 1000), (3, Value.int 0), (0, Value.ref A46), (1, Value.int 0), (2, Value.int 26)]) hx hb d_Mo_done_23 hl (by decide) rfl (fun ls hl => ?_)
  refine lv_iload hx hb d_Mo_done_25 (lv_at hl 0 rfl) ?_
  refine lv_if_ne (tgt := 33) hx hb d_Mo_done_27 (by decide) (fun c9 => absurd (by decide) c9) (fun _ => ?_)
  refine lv_goto (tgt := 50) hx hb d_Mo_done_30 (by decide) ?_
  refine lv_iload hx hb d_Mo_done_50 (lv_at hl 1 rfl) ?_
  refine lv_bipush (v := 10) hx hb d_Mo_done_52 (by decide) ?_
  refine lv_idiv hx hb d_Mo_done_54 (by decide) ?_
  refine gx_topi (y := 100) (by decide) ?_
  refine lv_istore (lv' := [(4, Value.int 100), (5, Value.int 0), (3, Value.int 0), (0, Value.ref A46), (1, Value.int 0), (2, Value.int 26)]) hx hb d_Mo_done_55 hl (by decide) rfl (fun ls hl => ?_)
  refine lv_goto (tgt := 11) hx hb d_Mo_done_57 (by decide) ?_
  refine lv_iload hx hb d_Mo_done_11 (lv_at hl 0 rfl) ?_
  refine lv_if_le (tgt := 60) hx hb d_Mo_done_13 (by decide) (fun c9 => absurd c9 (by decide)) (fun _ => ?_)
  refine lv_iload_n hx hb d_Mo_done_16 rfl (lv_at hl 5 rfl) ?_
  refine lv_iload hx hb d_Mo_done_17 (lv_at hl 0 rfl) ?_
  refine lv_idiv hx hb d_Mo_done_19 (by decide) ?_
  refine gx_topi (y := 0) (by decide) ?_
  refine lv_bipush (v := 10) hx hb d_Mo_done_20 (by decide) ?_
  refine lv_irem hx hb d_Mo_done_22 (by decide) ?_
  refine gx_topi (y := 0) (by decide) ?_
  refine lv_istore (lv' := [(5, Value.int 0), (4, Value.int 100), (3, Value.int 0), (0, Value.ref A46), (1, Value.int 0), (2, Value.int 26)]) hx hb d_Mo_done_23 hl (by decide) rfl (fun ls hl => ?_)
  refine lv_iload hx hb d_Mo_done_25 (lv_at hl 0 rfl) ?_
  refine lv_if_ne (tgt := 33) hx hb d_Mo_done_27 (by decide) (fun c9 => absurd (by decide) c9) (fun _ => ?_)
  refine lv_goto (tgt := 50) hx hb d_Mo_done_30 (by decide) ?_
  refine lv_iload hx hb d_Mo_done_50 (lv_at hl 1 rfl) ?_
  refine lv_bipush (v := 10) hx hb d_Mo_done_52 (by decide) ?_
  refine lv_idiv hx hb d_Mo_done_54 (by decide) ?_
  refine gx_topi (y := 10) (by decide) ?_
  refine lv_istore (lv' := [(4, Value.int 10), (5, Value.int 0), (3, Value.int 0), (0, Value.ref A46), (1, Value.int 0), (2, Value.int 26)]) hx hb d_Mo_done_55 hl (by decide) rfl (fun ls hl => ?_)
  refine lv_goto (tgt := 11) hx hb d_Mo_done_57 (by decide) ?_
  refine lv_iload hx hb d_Mo_done_11 (lv_at hl 0 rfl) ?_
  refine lv_if_le (tgt := 60) hx hb d_Mo_done_13 (by decide) (fun c9 => absurd c9 (by decide)) (fun _ => ?_)
  refine lv_iload_n hx hb d_Mo_done_16 rfl (lv_at hl 5 rfl) ?_
  refine lv_iload hx hb d_Mo_done_17 (lv_at hl 0 rfl) ?_
  refine lv_idiv hx hb d_Mo_done_19 (by decide) ?_
  refine gx_topi (y := 2) (by decide) ?_
  refine lv_bipush (v := 10) hx hb d_Mo_done_20 (by decide) ?_
  refine lv_irem hx hb d_Mo_done_22 (by decide) ?_
  refine gx_topi (y := 2) (by decide) ?_
  refine lv_istore (lv' := [(5, Value.int 2), (4, Value.int 10), (3, Value.int 0), (0, Value.ref A46), (1, Value.int 0), (2, Value.int 26)]) hx hb d_Mo_done_23 hl (by decide) rfl (fun ls hl => ?_)
  refine lv_iload hx hb d_Mo_done_25 (lv_at hl 0 rfl) ?_
  refine lv_if_ne (tgt := 33) hx hb d_Mo_done_27 (by decide) (fun _ => ?_) (fun c9 => absurd c9 (by decide))
  refine lv_iinc (v := 1) (lv' := [(3, Value.int 1), (5, Value.int 2), (4, Value.int 10), (0, Value.ref A46), (1, Value.int 0), (2, Value.int 26)]) hx hb d_Mo_done_33 hl (k := 2) rfl (by decide) (by decide) rfl (fun ls hl => ?_)
  refine lv_iload hx hb d_Mo_done_36 (lv_at hl 1 rfl) ?_
  refine lv_aload_n hx hb d_Mo_done_38 rfl (lv_at hl 3 rfl) ?_
  refine va_get (D := D) (ci := 8) (v := Value.int 2) (C := "CommitLedgerModel") (T := F_Mo) (N := 35) hx hb hts i_Mo hown hK hP 46 f_46_ws1 rfl 0 (by decide) (hts _ kf_Mo_84) (fun _ h9 => h9) rfl d_Mo_done_39 ?_
  refine lv_icmp_ne (tgt := 50) hx hb d_Mo_done_42 (by decide) (fun c9 => absurd (by decide) c9) (fun _ => ?_)
  refine lv_aload_n hx hb d_Mo_done_45 rfl (lv_at hl 3 rfl) ?_
  refine lv_iload_n hx hb d_Mo_done_46 rfl (lv_at hl 0 rfl) ?_
  refine va_put (D := D) (ci := 8) (v := Value.int 1) (ty := .int) (C := "CommitLedgerModel") (T := F_Mo) (N := 35) hx hb hts i_Mo t_Mo t_Mo_ok n_Mo hown hK hP hD hS 46 f_46_ws1 rfl 1 (by decide) (hts _ kf_Mo_80) (fun _ h9 => h9) rfl (by decide +kernel) rfl rfl (Nat.le_of_ble_eq_true rfl) d_Mo_done_47 (fun H locs hP9 hD9 hS9 => ?_)
  obtain ⟨ws2, e_ws2⟩ : ∃ x : va_W, x = ws1.set 46 ((A46, Sum.inr (8, [Value.int 2, Value.int 1, Value.ref A47, Value.ref A48, Value.ref A49, Value.int 0, Value.ref A50, Value.ref A51, Value.ref A52, Value.ref A53, Value.int 0, Value.int 0, Value.int 0, Value.int (-1), Value.int 0, Value.ref A54, Value.ref A62, Value.ref A70, Value.int 0, Value.int 0, Value.int 0, Value.ref A78, Value.ref A79, Value.int 0, Value.int 16, Value.int 4, u0, Value.ref A80, Value.ref A81, Value.ref A82, Value.int 0, Value.ref A83, Value.int 0, Value.int 0, Value.int 0])) : Nat × va_E) := ⟨_, rfl⟩
  replace hP : va_P D classes ws2 H := by rw [e_ws2]; exact hP9
  replace hD : va_D A ws2 := by rw [e_ws2]; exact hD9
  replace hS := hS9
  clear hP9 hD9 hS9
  have f_46_ws2 : ws2[46]? = some ((A46, Sum.inr (8, [Value.int 2, Value.int 1, Value.ref A47, Value.ref A48, Value.ref A49, Value.int 0, Value.ref A50, Value.ref A51, Value.ref A52, Value.ref A53, Value.int 0, Value.int 0, Value.int 0, Value.int (-1), Value.int 0, Value.ref A54, Value.ref A62, Value.ref A70, Value.int 0, Value.int 0, Value.int 0, Value.ref A78, Value.ref A79, Value.int 0, Value.int 16, Value.int 4, u0, Value.ref A80, Value.ref A81, Value.ref A82, Value.int 0, Value.ref A83, Value.int 0, Value.int 0, Value.int 0])) : Nat × va_E) := by rw [e_ws2]; exact gs_self f_46_ws1
  replace hU : gx_g ws ws2 0 [46] := by rw [e_ws2]; exact hU.put (Or.inl (by simp))
  refine lv_iload hx hb d_Mo_done_50 (lv_at hl 2 rfl) ?_
  refine lv_bipush (v := 10) hx hb d_Mo_done_52 (by decide) ?_
  refine lv_idiv hx hb d_Mo_done_54 (by decide) ?_
  refine gx_topi (y := 1) (by decide) ?_
  refine lv_istore (lv' := [(4, Value.int 1), (3, Value.int 1), (5, Value.int 2), (0, Value.ref A46), (1, Value.int 0), (2, Value.int 26)]) hx hb d_Mo_done_55 hl (by decide) rfl (fun ls hl => ?_)
  refine lv_goto (tgt := 11) hx hb d_Mo_done_57 (by decide) ?_
  refine lv_iload hx hb d_Mo_done_11 (lv_at hl 0 rfl) ?_
  refine lv_if_le (tgt := 60) hx hb d_Mo_done_13 (by decide) (fun c9 => absurd c9 (by decide)) (fun _ => ?_)
  refine lv_iload_n hx hb d_Mo_done_16 rfl (lv_at hl 5 rfl) ?_
  refine lv_iload hx hb d_Mo_done_17 (lv_at hl 0 rfl) ?_
  refine lv_idiv hx hb d_Mo_done_19 (by decide) ?_
  refine gx_topi (y := 26) (by decide) ?_
  refine lv_bipush (v := 10) hx hb d_Mo_done_20 (by decide) ?_
  refine lv_irem hx hb d_Mo_done_22 (by decide) ?_
  refine gx_topi (y := 6) (by decide) ?_
  refine lv_istore (lv' := [(5, Value.int 6), (4, Value.int 1), (3, Value.int 1), (0, Value.ref A46), (1, Value.int 0), (2, Value.int 26)]) hx hb d_Mo_done_23 hl (by decide) rfl (fun ls hl => ?_)
  refine lv_iload hx hb d_Mo_done_25 (lv_at hl 0 rfl) ?_
  refine lv_if_ne (tgt := 33) hx hb d_Mo_done_27 (by decide) (fun _ => ?_) (fun c9 => absurd c9 (by decide))
  refine lv_iinc (v := 2) (lv' := [(3, Value.int 2), (5, Value.int 6), (4, Value.int 1), (0, Value.ref A46), (1, Value.int 0), (2, Value.int 26)]) hx hb d_Mo_done_33 hl (k := 2) rfl (by decide) (by decide) rfl (fun ls hl => ?_)
  refine lv_iload hx hb d_Mo_done_36 (lv_at hl 1 rfl) ?_
  refine lv_aload_n hx hb d_Mo_done_38 rfl (lv_at hl 3 rfl) ?_
  refine va_get (D := D) (ci := 8) (v := Value.int 2) (C := "CommitLedgerModel") (T := F_Mo) (N := 35) hx hb hts i_Mo hown hK hP 46 f_46_ws2 rfl 0 (by decide) (hts _ kf_Mo_84) (fun _ h9 => h9) rfl d_Mo_done_39 ?_
  refine lv_icmp_ne (tgt := 50) hx hb d_Mo_done_42 (by decide) (fun _ => ?_) (fun c9 => absurd c9 (by decide))
  refine lv_iload hx hb d_Mo_done_50 (lv_at hl 2 rfl) ?_
  refine lv_bipush (v := 10) hx hb d_Mo_done_52 (by decide) ?_
  refine lv_idiv hx hb d_Mo_done_54 (by decide) ?_
  refine gx_topi (y := 0) (by decide) ?_
  refine lv_istore (lv' := [(4, Value.int 0), (3, Value.int 2), (5, Value.int 6), (0, Value.ref A46), (1, Value.int 0), (2, Value.int 26)]) hx hb d_Mo_done_55 hl (by decide) rfl (fun ls hl => ?_)
  refine lv_goto (tgt := 11) hx hb d_Mo_done_57 (by decide) ?_
  refine lv_iload hx hb d_Mo_done_11 (lv_at hl 0 rfl) ?_
  refine lv_if_le (tgt := 60) hx hb d_Mo_done_13 (by decide) (fun _ => ?_) (fun c9 => absurd (by decide) c9)
  refine lv_aload_n hx hb d_Mo_done_60 rfl (lv_at hl 3 rfl) ?_
  refine lv_iconst (v := 0) hx hb d_Mo_done_61 (by decide) ?_
  refine va_put (D := D) (ci := 8) (v := Value.int 0) (ty := .int) (C := "CommitLedgerModel") (T := F_Mo) (N := 35) hx hb hts i_Mo t_Mo t_Mo_ok n_Mo hown hK hP hD hS 46 f_46_ws2 rfl 0 (by decide) (hts _ kf_Mo_84) (fun _ h9 => h9) rfl (by decide +kernel) rfl rfl (Nat.le_of_ble_eq_true rfl) d_Mo_done_62 (fun H locs hP9 hD9 hS9 => ?_)
  obtain ⟨ws3, e_ws3⟩ : ∃ x : va_W, x = ws2.set 46 ((A46, Sum.inr (8, [Value.int 0, Value.int 1, Value.ref A47, Value.ref A48, Value.ref A49, Value.int 0, Value.ref A50, Value.ref A51, Value.ref A52, Value.ref A53, Value.int 0, Value.int 0, Value.int 0, Value.int (-1), Value.int 0, Value.ref A54, Value.ref A62, Value.ref A70, Value.int 0, Value.int 0, Value.int 0, Value.ref A78, Value.ref A79, Value.int 0, Value.int 16, Value.int 4, u0, Value.ref A80, Value.ref A81, Value.ref A82, Value.int 0, Value.ref A83, Value.int 0, Value.int 0, Value.int 0])) : Nat × va_E) := ⟨_, rfl⟩
  replace hP : va_P D classes ws3 H := by rw [e_ws3]; exact hP9
  replace hD : va_D A ws3 := by rw [e_ws3]; exact hD9
  replace hS := hS9
  clear hP9 hD9 hS9
  have f_46_ws3 : ws3[46]? = some ((A46, Sum.inr (8, [Value.int 0, Value.int 1, Value.ref A47, Value.ref A48, Value.ref A49, Value.int 0, Value.ref A50, Value.ref A51, Value.ref A52, Value.ref A53, Value.int 0, Value.int 0, Value.int 0, Value.int (-1), Value.int 0, Value.ref A54, Value.ref A62, Value.ref A70, Value.int 0, Value.int 0, Value.int 0, Value.ref A78, Value.ref A79, Value.int 0, Value.int 16, Value.int 4, u0, Value.ref A80, Value.ref A81, Value.ref A82, Value.int 0, Value.ref A83, Value.int 0, Value.int 0, Value.int 0])) : Nat × va_E) := by rw [e_ws3]; exact gs_self f_46_ws2
  replace hU : gx_g ws ws3 0 [46] := by rw [e_ws3]; exact hU.put (Or.inl (by simp))
  refine lv_aload_n hx hb d_Mo_done_65 rfl (lv_at hl 3 rfl) ?_
  refine va_get (D := D) (ci := 8) (v := Value.int 1) (C := "CommitLedgerModel") (T := F_Mo) (N := 35) hx hb hts i_Mo hown hK hP 46 f_46_ws3 rfl 1 (by decide) (hts _ kf_Mo_80) (fun _ h9 => h9) rfl d_Mo_done_66 ?_
  refine lv_if_le (tgt := 76) hx hb d_Mo_done_69 (by decide) (fun c9 => absurd c9 (by decide)) (fun _ => ?_)
  refine lv_iconst (v := 0) hx hb d_Mo_done_72 (by decide) ?_
  refine lv_goto (tgt := 77) hx hb d_Mo_done_73 (by decide) ?_
  exact gx_ret (W.iret (v := 0) hx hb hr (gx_post hP hK hD hS (by rw [← hPQ]; exact ⟨rfl, hU, f_46_ws3⟩)) hS.2.2 d_Mo_done_77)

set_option maxHeartbeats 4000000 in
set_option maxRecDepth 100000 in
theorem c_Mo_finished_v2 (l : Launch) (htr : l.stackTraces = false) (D : va_G) (tys : List (ClassId × FieldType)) (z sz : Nat) (ws : va_W) (cV : ClassId) (A46 : Nat) (A47 : Nat) (A48 : Nat) (A49 : Nat) (A50 : Nat) (A51 : Nat) (A52 : Nat) (A53 : Nat) (A54 : Nat) (A62 : Nat) (A70 : Nat) (A78 : Nat) (A79 : Nat) (u0 : Value) (A80 : Nat) (A81 : Nat) (A82 : Nat) (A83 : Nat) (A84 : Nat) (A85 : Nat) (A86 : Nat) (A87 : Nat) (A88 : Nat) (A89 : Nat) (A90 : Nat) (A91 : Nat) (A92 : Nat) (A93 : Nat) (A94 : Nat) (A95 : Nat) (A96 : Nat) (A97 : Nat) (A98 : Nat) (A99 : Nat) (A100 : Nat) (A101 : Nat) (A102 : Nat) (A103 : Nat) (A104 : Nat) (A105 : Nat) (A106 : Nat) (A107 : Nat) (A108 : Nat) (A109 : Nat) (A110 : Nat) (A111 : Nat) (A112 : Nat) (A113 : Nat) (A114 : Nat) (A115 : Nat) (f_46 : ws[46]? = some ((A46, Sum.inr (8, [Value.int 2, Value.int 0, Value.ref A47, Value.ref A48, Value.ref A49, Value.int 0, Value.ref A50, Value.ref A51, Value.ref A52, Value.ref A53, Value.int 0, Value.int 0, Value.int 0, Value.int (-1), Value.int 0, Value.ref A54, Value.ref A62, Value.ref A70, Value.int 0, Value.int 0, Value.int 0, Value.ref A78, Value.ref A79, Value.int 0, Value.int 16, Value.int 4, u0, Value.ref A80, Value.ref A81, Value.ref A82, Value.int 0, Value.ref A83, Value.int 0, Value.int 0, Value.int 0])) : Nat × va_E)) (f_84 : ws[84]? = some ((A84, Sum.inr (9, [Value.ref A85, Value.ref A86, Value.ref A87, Value.ref A88, Value.ref A89, Value.ref A90, Value.ref A91, Value.int 0, Value.int 0, Value.int 0, Value.int 0])) : Nat × va_E)) (f_92 : ws[92]? = some ((A92, Sum.inr (9, [Value.ref A93, Value.ref A94, Value.ref A95, Value.ref A96, Value.ref A97, Value.ref A98, Value.ref A99, Value.int 0, Value.int 0, Value.int 0, Value.int 0])) : Nat × va_E)) (f_100 : ws[100]? = some ((A100, Sum.inr (9, [Value.ref A101, Value.ref A102, Value.ref A103, Value.ref A104, Value.ref A105, Value.ref A106, Value.ref A107, Value.int 0, Value.int 0, Value.int 0, Value.int 0])) : Nat × va_E)) (f_108 : ws[108]? = some ((A108, Sum.inr (9, [Value.ref A109, Value.ref A110, Value.ref A111, Value.ref A112, Value.ref A113, Value.ref A114, Value.ref A115, Value.int 0, Value.int 0, Value.int 0, Value.int 0])) : Nat × va_E)) (f_83 : ws[83]? = some ((A83, Sum.inl (cV, 4, Sum.inr (Sum.inr (Sum.inr (Sum.inr (va_up (va_up (va_up (va_up (fun _ => none) 0 (some A84)) 1 (some A92)) 2 (some A100)) 3 (some A108))))))) : Nat × va_E)) (ht5 : tys[5]? = some ((cV, FieldType.object "CommitLedgerModel$Version") : ClassId × FieldType)) : gx_Met l y_Mo_finished [Cond.code y_Mo_finished b_Mo_finished 3 (some .int)] { frames := 3, cells := 0, slots := 0, locals := 58 } (gx_P z sz D classes tys ws [Value.ref A46, Value.int 0, Value.int 26]) (gx_Q D classes tys (va_A ws sz) (fun r ws' => (r = Sum.inl (some (Value.int 0)) ∧ gx_g ws ws' 0 [46] ∧ ws'[46]? = some ((A46, Sum.inr (8, [Value.int 0, Value.int 1, Value.ref A47, Value.ref A48, Value.ref A49, Value.int 0, Value.ref A50, Value.ref A51, Value.ref A52, Value.ref A53, Value.int 0, Value.int 0, Value.int 0, Value.int (-1), Value.int 0, Value.ref A54, Value.ref A62, Value.ref A70, Value.int 0, Value.int 0, Value.int 0, Value.ref A78, Value.ref A79, Value.int 0, Value.int 16, Value.int 4, u0, Value.ref A80, Value.ref A81, Value.ref A82, Value.int 0, Value.ref A83, Value.int 0, Value.int 0, Value.int 0])) : Nat × va_E)))) 0 0 (va_A ws sz) := by
  refine gx_ofW (cc := b_Mo_finished) (maxL := 3) (ret := (some .int)) (by decide) rfl ?_
  intro p e s m args below meth c s₁ B hml hv
  obtain ⟨rfl, hsz, hz, hP, hK, hD0, hY⟩ := hv
  have hx := B.exec
  have hb := B.bytes
  have hr := B.returns
  have hts := hY.hts (#[Value.ref A46, Value.int 0, Value.int 26] : Array Value)
  have hown : s.vm.findClass "CommitLedgerModel" = some m.cls := findClass_of_methodNamed B.named
  have hlocks := B.notSynchronized
  have hne : c.exceptionTable.isEmpty = true := B.noHandlers (atoms_spec (ws := [Cond.code y_Mo_finished b_Mo_finished 3 (some .int)]) B.pre _ List.mem_cons_self)
  subst hsz
  have hAz := gx_az hD0 hz
  have hD := hD0.self (sz := s.heap.size)
  have hN := gx_ns hP
  have hA : ∀ q : Nat, s.heap.size ≤ q → va_A ws s.heap.size q := fun q h => Or.inr h
  generalize va_A ws s.heap.size = A at hD hN hA hAz ⊢
  generalize hPQ : (fun (r : Option Value ⊕ String) (ws' : va_W) => (r = Sum.inl (some (Value.int 0)) ∧ gx_g ws ws' 0 [46] ∧ ws'[46]? = some ((A46, Sum.inr (8, [Value.int 0, Value.int 1, Value.ref A47, Value.ref A48, Value.ref A49, Value.int 0, Value.ref A50, Value.ref A51, Value.ref A52, Value.ref A53, Value.int 0, Value.int 0, Value.int 0, Value.int (-1), Value.int 0, Value.ref A54, Value.ref A62, Value.ref A70, Value.int 0, Value.int 0, Value.int 0, Value.ref A78, Value.ref A79, Value.int 0, Value.int 16, Value.int 4, u0, Value.ref A80, Value.ref A81, Value.ref A82, Value.int 0, Value.ref A83, Value.int 0, Value.int 0, Value.int 0])) : Nat × va_E))) = PQ
  have hS : va_S A s.heap s.heap [] := va_S.rf
  have hU : gx_g ws ws 0 [46] := gx_g.rf
  have hl := lv_entry ([Value.ref A46, Value.int 0, Value.int 26]) (n := 3) (Nat.le_of_ble_eq_true rfl)
  rw [lg_entry_eq]
  generalize (lg_sl ([Value.ref A46, Value.int 0, Value.int 26]) ++ List.replicate (3 - (lg_sl ([Value.ref A46, Value.int 0, Value.int 26])).length) Slot.unset).toArray = ls at hl ⊢
  have hl : lv_has ls 3 [(0, Value.ref A46), (1, Value.int 0), (2, Value.int 26)] := hl
  refine lv_aload_n hx hb d_Mo_finished_0 rfl (lv_at hl 0 rfl) ?_
  refine gx_call (ig := .invokevirtual 145) (c_Mo_tidyFiles_v2 l htr D tys z _ ws cV A46 A47 A48 A49 A50 A51 A52 A53 A54 A62 A70 A78 A79 (u0) A80 A81 A82 A83 A84 A85 A86 A87 A88 A89 A90 A91 A92 A93 A94 A95 A96 A97 A98 A99 A100 A101 A102 A103 A104 A105 A106 A107 A108 A109 A110 A111 A112 A113 A114 A115 f_46 f_84 f_92 f_100 f_108 f_83 ht5) (gx_invV (As := []) (rest := []) hx hb hown hts km_Mo_145 kI_Mo_tidyFiles kV_Mo_tidyFiles kc_Mo_tidyFiles (by decide) (show (parseMethodDescriptor y_Mo_tidyFiles.desc).map (fun d => d.parameters.length) = some 0 by decide +kernel) (gx_recv (ci := 8) hK hP rfl f_46) rfl rfl d_Mo_finished_1) (gx_cw (z := 0) hts kc_Mo_tidyFiles kN_Mo rfl rfl ⟨Nat.le_of_ble_eq_true rfl, Nat.le_of_ble_eq_true rfl⟩) hb hml gx_blind (gx_pre hz hP hK hD hY hS hAz [Value.ref A46]) rfl hl.1 (lv_room (Nat.le_of_ble_eq_true rfl)) d_Mo_finished_1 ⟨Nat.le_of_ble_eq_true rfl, Nat.le_of_ble_eq_true rfl⟩ (fun v1 st1 t1 L1 h0_1 hW_1 hQ_1 hL_1 => ?_) (fun v1 st1 t1 L1 h0_1 hW_1 hQ_1 hL_1 => ?_)
  · obtain ⟨ws2, hp, hP9, -, hD9, hS9⟩ := gx_back h0_1 hW_1 hQ_1 hL_1 hD hS hA
    clear hQ_1 h0_1 hL_1 hW_1 hP hD hS
    have hP := hP9
    have hD := hD9
    have hS := hS9
    clear hP9 hD9 hS9
    rcases hp with ⟨hv9, e_ws2, f_46_ws2⟩
    cases hv9
    have f_46_ws2 : ws2[46]? = some ((A46, Sum.inr (8, [Value.int 2, Value.int 0, Value.ref A47, Value.ref A48, Value.ref A49, Value.int 0, Value.ref A50, Value.ref A51, Value.ref A52, Value.ref A53, Value.int 0, Value.int 0, Value.int 0, Value.int (-1), Value.int 0, Value.ref A54, Value.ref A62, Value.ref A70, Value.int 0, Value.int 0, Value.int 0, Value.ref A78, Value.ref A79, Value.int 0, Value.int 16, Value.int 4, u0, Value.ref A80, Value.ref A81, Value.ref A82, Value.int 0, Value.ref A83, Value.int 0, Value.int 0, Value.int 0])) : Nat × va_E) := f_46_ws2
    replace hU : gx_g ws ws2 0 [46] := hU.call e_ws2 (by simp; first | done | omega)
    refine W.eq (g2 := F0 m 4 ls []) rfl ?_
    generalize t1.heap = H at hP hS ⊢
    generalize [] ++ L1 = locs at hS ⊢
    refine lv_aload_n hx hb d_Mo_finished_4 rfl (lv_at hl 0 rfl) ?_
    refine lv_iload_n hx hb d_Mo_finished_5 rfl (lv_at hl 1 rfl) ?_
    refine lv_iload_n hx hb d_Mo_finished_6 rfl (lv_at hl 2 rfl) ?_
    refine gx_call (ig := .invokevirtual 148) (c_Mo_done_v10 l htr D tys z _ ws2 A46 A47 A48 A49 A50 A51 A52 A53 A54 A62 A70 A78 A79 (u0) A80 A81 A82 A83 f_46_ws2) (gx_invV (As := [Value.int 0, Value.int 26]) (rest := []) hx hb hown hts km_Mo_148 kI_Mo_done kV_Mo_done kc_Mo_done (by decide) (show (parseMethodDescriptor y_Mo_done.desc).map (fun d => d.parameters.length) = some 2 by decide +kernel) (gx_recv (ci := 8) hK hP rfl f_46_ws2) rfl rfl d_Mo_finished_7) (gx_cw (z := 0) hts kc_Mo_done kN_Mo rfl rfl ⟨Nat.le_of_ble_eq_true rfl, Nat.le_of_ble_eq_true rfl⟩) hb hml gx_blind (gx_pre hz hP hK hD hY hS hAz [Value.ref A46, Value.int 0, Value.int 26]) rfl hl.1 (lv_room (Nat.le_of_ble_eq_true rfl)) d_Mo_finished_7 ⟨Nat.le_of_ble_eq_true rfl, Nat.le_of_ble_eq_true rfl⟩ (fun v3 st3 t3 L3 h0_3 hW_3 hQ_3 hL_3 => ?_) (fun v3 st3 t3 L3 h0_3 hW_3 hQ_3 hL_3 => ?_)
    · obtain ⟨ws4, hp, hP9, -, hD9, hS9⟩ := gx_back h0_3 hW_3 hQ_3 hL_3 hD hS hA
      clear hQ_3 h0_3 hL_3 hW_3 hP hD hS
      have hP := hP9
      have hD := hD9
      have hS := hS9
      clear hP9 hD9 hS9
      rcases hp with ⟨hv9, e_ws4, f_46_ws4⟩
      cases hv9
      have f_46_ws4 : ws4[46]? = some ((A46, Sum.inr (8, [Value.int 0, Value.int 1, Value.ref A47, Value.ref A48, Value.ref A49, Value.int 0, Value.ref A50, Value.ref A51, Value.ref A52, Value.ref A53, Value.int 0, Value.int 0, Value.int 0, Value.int (-1), Value.int 0, Value.ref A54, Value.ref A62, Value.ref A70, Value.int 0, Value.int 0, Value.int 0, Value.ref A78, Value.ref A79, Value.int 0, Value.int 16, Value.int 4, u0, Value.ref A80, Value.ref A81, Value.ref A82, Value.int 0, Value.ref A83, Value.int 0, Value.int 0, Value.int 0])) : Nat × va_E) := f_46_ws4
      replace hU : gx_g ws ws4 0 [46] := hU.call e_ws4 (by simp; first | done | omega)
      refine W.eq (g2 := F0 m 10 ls [Value.int 0]) rfl ?_
      generalize t3.heap = H at hP hS ⊢
      generalize locs ++ L3 = locs at hS ⊢
      exact gx_ret (W.iret (v := 0) hx hb hr (gx_post hP hK hD hS (by rw [← hPQ]; exact ⟨rfl, hU, f_46_ws4⟩)) hS.2.2 d_Mo_finished_10)
    · obtain ⟨E9, ws5, ce, hp, hce, hP9, -, hD9, hS9⟩ := gx_backT h0_3 hW_3 hQ_3 hL_3 hD hS hA
      clear hQ_3 h0_3 hL_3 hW_3 hP hD hS
      have hP := hP9
      have hD := hD9
      have hS := hS9
      clear hP9 hD9 hS9
      rcases hp with ⟨hv9, e_ws5, f_46_ws5⟩
      cases hv9
  · obtain ⟨E9, ws6, ce, hp, hce, hP9, -, hD9, hS9⟩ := gx_backT h0_1 hW_1 hQ_1 hL_1 hD hS hA
    clear hQ_1 h0_1 hL_1 hW_1 hP hD hS
    have hP := hP9
    have hD := hD9
    have hS := hS9
    clear hP9 hD9 hS9
    rcases hp with ⟨hv9, e_ws6, f_46_ws6⟩
    cases hv9

set_option maxHeartbeats 4000000 in
set_option maxRecDepth 100000 in
theorem c_Mo_flush_v1 (l : Launch) (htr : l.stackTraces = false) (D : va_G) (tys : List (ClassId × FieldType)) (z sz : Nat) (ws : va_W) (cV : ClassId) (A46 : Nat) (A47 : Nat) (A48 : Nat) (A49 : Nat) (A50 : Nat) (A51 : Nat) (A52 : Nat) (A53 : Nat) (A54 : Nat) (A62 : Nat) (A70 : Nat) (A78 : Nat) (A79 : Nat) (u0 : Value) (A80 : Nat) (A81 : Nat) (A82 : Nat) (A83 : Nat) (A55 : Nat) (A56 : Nat) (A57 : Nat) (A58 : Nat) (A59 : Nat) (A60 : Nat) (A61 : Nat) (A84 : Nat) (A85 : Nat) (A86 : Nat) (A87 : Nat) (A88 : Nat) (A89 : Nat) (A90 : Nat) (A91 : Nat) (A92 : Nat) (A93 : Nat) (A94 : Nat) (A95 : Nat) (A96 : Nat) (A97 : Nat) (A98 : Nat) (A99 : Nat) (A100 : Nat) (A101 : Nat) (A102 : Nat) (A103 : Nat) (A104 : Nat) (A105 : Nat) (A106 : Nat) (A107 : Nat) (A108 : Nat) (A109 : Nat) (A110 : Nat) (A111 : Nat) (A112 : Nat) (A113 : Nat) (A114 : Nat) (A115 : Nat) (f_46 : ws[46]? = some ((A46, Sum.inr (8, [Value.int 0, Value.int 0, Value.ref A47, Value.ref A48, Value.ref A49, Value.int 0, Value.ref A50, Value.ref A51, Value.ref A52, Value.ref A53, Value.int 0, Value.int 0, Value.int 0, Value.int (-1), Value.int 0, Value.ref A54, Value.ref A62, Value.ref A70, Value.int 0, Value.int 0, Value.int 0, Value.ref A78, Value.ref A79, Value.int 0, Value.int 16, Value.int 4, u0, Value.ref A80, Value.ref A81, Value.ref A82, Value.int 0, Value.ref A83, Value.int 0, Value.int 0, Value.int 0])) : Nat × va_E)) (f_54 : ws[54]? = some ((A54, Sum.inr (9, [Value.ref A55, Value.ref A56, Value.ref A57, Value.ref A58, Value.ref A59, Value.ref A60, Value.ref A61, Value.int 0, Value.int 0, Value.int 0, Value.int 0])) : Nat × va_E)) (f_84 : ws[84]? = some ((A84, Sum.inr (9, [Value.ref A85, Value.ref A86, Value.ref A87, Value.ref A88, Value.ref A89, Value.ref A90, Value.ref A91, Value.int 0, Value.int 0, Value.int 0, Value.int 0])) : Nat × va_E)) (f_92 : ws[92]? = some ((A92, Sum.inr (9, [Value.ref A93, Value.ref A94, Value.ref A95, Value.ref A96, Value.ref A97, Value.ref A98, Value.ref A99, Value.int 0, Value.int 0, Value.int 0, Value.int 0])) : Nat × va_E)) (f_100 : ws[100]? = some ((A100, Sum.inr (9, [Value.ref A101, Value.ref A102, Value.ref A103, Value.ref A104, Value.ref A105, Value.ref A106, Value.ref A107, Value.int 0, Value.int 0, Value.int 0, Value.int 0])) : Nat × va_E)) (f_108 : ws[108]? = some ((A108, Sum.inr (9, [Value.ref A109, Value.ref A110, Value.ref A111, Value.ref A112, Value.ref A113, Value.ref A114, Value.ref A115, Value.int 0, Value.int 0, Value.int 0, Value.int 0])) : Nat × va_E)) (f_83 : ws[83]? = some ((A83, Sum.inl (cV, 4, Sum.inr (Sum.inr (Sum.inr (Sum.inr (va_up (va_up (va_up (va_up (fun _ => none) 0 (some A84)) 1 (some A92)) 2 (some A100)) 3 (some A108))))))) : Nat × va_E)) (ht5 : tys[5]? = some ((cV, FieldType.object "CommitLedgerModel$Version") : ClassId × FieldType)) : gx_Met l y_Mo_flush [Cond.code y_Mo_flush b_Mo_flush 1 (some .int)] { frames := 4, cells := 0, slots := 0, locals := 80 } (gx_P z sz D classes tys ws [Value.ref A46]) (gx_Q D classes tys (va_A ws sz) (fun r ws' => (r = Sum.inl (some (Value.int 0)) ∧ gx_g ws ws' 0 [46] ∧ ws'[46]? = some ((A46, Sum.inr (8, [Value.int 0, Value.int 1, Value.ref A47, Value.ref A48, Value.ref A49, Value.int 0, Value.ref A50, Value.ref A51, Value.ref A52, Value.ref A53, Value.int 0, Value.int 0, Value.int 0, Value.int (-1), Value.int 0, Value.ref A54, Value.ref A62, Value.ref A70, Value.int 0, Value.int 0, Value.int 0, Value.ref A78, Value.ref A79, Value.int 0, Value.int 16, Value.int 4, u0, Value.ref A80, Value.ref A81, Value.ref A82, Value.int 0, Value.ref A83, Value.int 0, Value.int 0, Value.int 0])) : Nat × va_E)))) 0 0 (va_A ws sz) := by
  refine gx_ofW (cc := b_Mo_flush) (maxL := 1) (ret := (some .int)) (by decide) rfl ?_
  intro p e s m args below meth c s₁ B hml hv
  obtain ⟨rfl, hsz, hz, hP, hK, hD0, hY⟩ := hv
  have hx := B.exec
  have hb := B.bytes
  have hr := B.returns
  have hts := hY.hts (#[Value.ref A46] : Array Value)
  have hown : s.vm.findClass "CommitLedgerModel" = some m.cls := findClass_of_methodNamed B.named
  have hlocks := B.notSynchronized
  have hne : c.exceptionTable.isEmpty = true := B.noHandlers (atoms_spec (ws := [Cond.code y_Mo_flush b_Mo_flush 1 (some .int)]) B.pre _ List.mem_cons_self)
  subst hsz
  have hAz := gx_az hD0 hz
  have hD := hD0.self (sz := s.heap.size)
  have hN := gx_ns hP
  have hA : ∀ q : Nat, s.heap.size ≤ q → va_A ws s.heap.size q := fun q h => Or.inr h
  generalize va_A ws s.heap.size = A at hD hN hA hAz ⊢
  generalize hPQ : (fun (r : Option Value ⊕ String) (ws' : va_W) => (r = Sum.inl (some (Value.int 0)) ∧ gx_g ws ws' 0 [46] ∧ ws'[46]? = some ((A46, Sum.inr (8, [Value.int 0, Value.int 1, Value.ref A47, Value.ref A48, Value.ref A49, Value.int 0, Value.ref A50, Value.ref A51, Value.ref A52, Value.ref A53, Value.int 0, Value.int 0, Value.int 0, Value.int (-1), Value.int 0, Value.ref A54, Value.ref A62, Value.ref A70, Value.int 0, Value.int 0, Value.int 0, Value.ref A78, Value.ref A79, Value.int 0, Value.int 16, Value.int 4, u0, Value.ref A80, Value.ref A81, Value.ref A82, Value.int 0, Value.ref A83, Value.int 0, Value.int 0, Value.int 0])) : Nat × va_E))) = PQ
  have hS : va_S A s.heap s.heap [] := va_S.rf
  have hU : gx_g ws ws 0 [46] := gx_g.rf
  have hl := lv_entry ([Value.ref A46]) (n := 1) (Nat.le_of_ble_eq_true rfl)
  rw [lg_entry_eq]
  generalize (lg_sl ([Value.ref A46]) ++ List.replicate (1 - (lg_sl ([Value.ref A46])).length) Slot.unset).toArray = ls at hl ⊢
  have hl : lv_has ls 1 [(0, Value.ref A46)] := hl
  refine lv_aload_n hx hb d_Mo_flush_0 rfl (lv_at hl 0 rfl) ?_
  refine lv_aload_n hx hb d_Mo_flush_1 rfl (lv_at hl 0 rfl) ?_
  refine va_get (D := D) (ci := 8) (v := Value.int 0) (C := "CommitLedgerModel") (T := F_Mo) (N := 35) hx hb hts i_Mo hown hK hP 46 f_46 rfl 18 (by decide) (hts _ kf_Mo_99) (fun _ h9 => h9) rfl d_Mo_flush_2 ?_
  refine lv_if_ne (tgt := 12) hx hb d_Mo_flush_5 (by decide) (fun c9 => absurd (by decide) c9) (fun _ => ?_)
  refine lv_iconst (v := 1) hx hb d_Mo_flush_8 (by decide) ?_
  refine lv_goto (tgt := 13) hx hb d_Mo_flush_9 (by decide) ?_
  refine lv_iconst (v := 2) hx hb d_Mo_flush_13 (by decide) ?_
  refine gx_call (ig := .invokevirtual 152) (c_Mo_wrong_v5 l htr D tys z _ ws A46 A47 A48 A49 A50 A51 A52 A53 A54 A62 A70 A78 A79 (u0) A80 A81 A82 A83 f_46) (gx_invV (As := [Value.int 1, Value.int 2]) (rest := []) hx hb hown hts km_Mo_152 kI_Mo_wrong kV_Mo_wrong kc_Mo_wrong (by decide) (show (parseMethodDescriptor y_Mo_wrong.desc).map (fun d => d.parameters.length) = some 2 by decide +kernel) (gx_recv (ci := 8) hK hP rfl f_46) rfl rfl d_Mo_flush_14) (gx_cw (z := 0) hts kc_Mo_wrong kN_Mo rfl rfl ⟨Nat.le_of_ble_eq_true rfl, Nat.le_of_ble_eq_true rfl⟩) hb hml gx_blind (gx_pre hz hP hK hD hY hS hAz [Value.ref A46, Value.int 1, Value.int 2]) rfl hl.1 (lv_room (Nat.le_of_ble_eq_true rfl)) d_Mo_flush_14 ⟨Nat.le_of_ble_eq_true rfl, Nat.le_of_ble_eq_true rfl⟩ (fun v1 st1 t1 L1 h0_1 hW_1 hQ_1 hL_1 => ?_) (fun v1 st1 t1 L1 h0_1 hW_1 hQ_1 hL_1 => ?_)
  · obtain ⟨ws2, hp, hP9, -, hD9, hS9⟩ := gx_back h0_1 hW_1 hQ_1 hL_1 hD hS hA
    clear hQ_1 h0_1 hL_1 hW_1 hP hD hS
    have hP := hP9
    have hD := hD9
    have hS := hS9
    clear hP9 hD9 hS9
    rcases hp with ⟨hv9, e_ws2, f_46_ws2⟩
    cases hv9
    have f_46_ws2 : ws2[46]? = some ((A46, Sum.inr (8, [Value.int 2, Value.int 0, Value.ref A47, Value.ref A48, Value.ref A49, Value.int 0, Value.ref A50, Value.ref A51, Value.ref A52, Value.ref A53, Value.int 0, Value.int 0, Value.int 0, Value.int (-1), Value.int 0, Value.ref A54, Value.ref A62, Value.ref A70, Value.int 0, Value.int 0, Value.int 0, Value.ref A78, Value.ref A79, Value.int 0, Value.int 16, Value.int 4, u0, Value.ref A80, Value.ref A81, Value.ref A82, Value.int 0, Value.ref A83, Value.int 0, Value.int 0, Value.int 0])) : Nat × va_E) := f_46_ws2
    replace hU : gx_g ws ws2 0 [46] := hU.call e_ws2 (by simp; first | done | omega)
    refine W.eq (g2 := F0 m 17 ls [Value.int 1]) rfl ?_
    generalize t1.heap = H at hP hS ⊢
    generalize [] ++ L1 = locs at hS ⊢
    refine lv_if_ne (tgt := 35) hx hb d_Mo_flush_17 (by decide) (fun _ => ?_) (fun c9 => absurd c9 (by decide))
    refine lv_aload_n hx hb d_Mo_flush_35 rfl (lv_at hl 0 rfl) ?_
    refine lv_aload_n hx hb d_Mo_flush_36 rfl (lv_at hl 0 rfl) ?_
    refine va_get (D := D) (ci := 8) (v := Value.ref A54) (C := "CommitLedgerModel") (T := F_Mo) (N := 35) hx hb hts i_Mo hown hK hP 46 f_46_ws2 rfl 15 (by decide) (hts _ kf_Mo_40) (fun _ h9 => h9) rfl d_Mo_flush_37 ?_
    have f_54_ws2 : ws2[54]? = some ((A54, Sum.inr (9, [Value.ref A55, Value.ref A56, Value.ref A57, Value.ref A58, Value.ref A59, Value.ref A60, Value.ref A61, Value.int 0, Value.int 0, Value.int 0, Value.int 0])) : Nat × va_E) := e_ws2.at (by first | decide | (simp; done) | (simp; omega)) f_54
    clear f_54
    refine va_get (D := D) (ci := 9) (v := Value.int 0) (C := "CommitLedgerModel$Version") (T := F_Ve) (N := 11) hx hb hts i_Ve hown hK hP 54 f_54_ws2 rfl 7 (by decide) (hts _ kf_Mo_122) (fun _ h9 => h9) rfl d_Mo_flush_40 ?_
    refine lv_bipush (v := 26) hx hb d_Mo_flush_43 (by decide) ?_
    have f_84_ws2 : ws2[84]? = some ((A84, Sum.inr (9, [Value.ref A85, Value.ref A86, Value.ref A87, Value.ref A88, Value.ref A89, Value.ref A90, Value.ref A91, Value.int 0, Value.int 0, Value.int 0, Value.int 0])) : Nat × va_E) := e_ws2.at (by first | decide | (simp; done) | (simp; omega)) f_84
    clear f_84
    have f_92_ws2 : ws2[92]? = some ((A92, Sum.inr (9, [Value.ref A93, Value.ref A94, Value.ref A95, Value.ref A96, Value.ref A97, Value.ref A98, Value.ref A99, Value.int 0, Value.int 0, Value.int 0, Value.int 0])) : Nat × va_E) := e_ws2.at (by first | decide | (simp; done) | (simp; omega)) f_92
    clear f_92
    have f_100_ws2 : ws2[100]? = some ((A100, Sum.inr (9, [Value.ref A101, Value.ref A102, Value.ref A103, Value.ref A104, Value.ref A105, Value.ref A106, Value.ref A107, Value.int 0, Value.int 0, Value.int 0, Value.int 0])) : Nat × va_E) := e_ws2.at (by first | decide | (simp; done) | (simp; omega)) f_100
    clear f_100
    have f_108_ws2 : ws2[108]? = some ((A108, Sum.inr (9, [Value.ref A109, Value.ref A110, Value.ref A111, Value.ref A112, Value.ref A113, Value.ref A114, Value.ref A115, Value.int 0, Value.int 0, Value.int 0, Value.int 0])) : Nat × va_E) := e_ws2.at (by first | decide | (simp; done) | (simp; omega)) f_108
    clear f_108
    have f_83_ws2 : ws2[83]? = some ((A83, Sum.inl (cV, 4, Sum.inr (Sum.inr (Sum.inr (Sum.inr (va_up (va_up (va_up (va_up (fun _ => none) 0 (some A84)) 1 (some A92)) 2 (some A100)) 3 (some A108))))))) : Nat × va_E) := e_ws2.at (by first | decide | (simp; done) | (simp; omega)) f_83
    clear f_83
    refine gx_call (ig := .invokevirtual 175) (c_Mo_finished_v2 l htr D tys z _ ws2 cV A46 A47 A48 A49 A50 A51 A52 A53 A54 A62 A70 A78 A79 (u0) A80 A81 A82 A83 A84 A85 A86 A87 A88 A89 A90 A91 A92 A93 A94 A95 A96 A97 A98 A99 A100 A101 A102 A103 A104 A105 A106 A107 A108 A109 A110 A111 A112 A113 A114 A115 f_46_ws2 f_84_ws2 f_92_ws2 f_100_ws2 f_108_ws2 f_83_ws2 ht5) (gx_invV (As := [Value.int 0, Value.int 26]) (rest := []) hx hb hown hts km_Mo_175 kI_Mo_finished kV_Mo_finished kc_Mo_finished (by decide) (show (parseMethodDescriptor y_Mo_finished.desc).map (fun d => d.parameters.length) = some 2 by decide +kernel) (gx_recv (ci := 8) hK hP rfl f_46_ws2) rfl rfl d_Mo_flush_45) (gx_cw (z := 0) hts kc_Mo_finished kN_Mo rfl rfl ⟨Nat.le_of_ble_eq_true rfl, Nat.le_of_ble_eq_true rfl⟩) hb hml gx_blind (gx_pre hz hP hK hD hY hS hAz [Value.ref A46, Value.int 0, Value.int 26]) rfl hl.1 (lv_room (Nat.le_of_ble_eq_true rfl)) d_Mo_flush_45 ⟨Nat.le_of_ble_eq_true rfl, Nat.le_of_ble_eq_true rfl⟩ (fun v3 st3 t3 L3 h0_3 hW_3 hQ_3 hL_3 => ?_) (fun v3 st3 t3 L3 h0_3 hW_3 hQ_3 hL_3 => ?_)
    · obtain ⟨ws4, hp, hP9, -, hD9, hS9⟩ := gx_back h0_3 hW_3 hQ_3 hL_3 hD hS hA
      clear hQ_3 h0_3 hL_3 hW_3 hP hD hS
      have hP := hP9
      have hD := hD9
      have hS := hS9
      clear hP9 hD9 hS9
      rcases hp with ⟨hv9, e_ws4, f_46_ws4⟩
      cases hv9
      have f_46_ws4 : ws4[46]? = some ((A46, Sum.inr (8, [Value.int 0, Value.int 1, Value.ref A47, Value.ref A48, Value.ref A49, Value.int 0, Value.ref A50, Value.ref A51, Value.ref A52, Value.ref A53, Value.int 0, Value.int 0, Value.int 0, Value.int (-1), Value.int 0, Value.ref A54, Value.ref A62, Value.ref A70, Value.int 0, Value.int 0, Value.int 0, Value.ref A78, Value.ref A79, Value.int 0, Value.int 16, Value.int 4, u0, Value.ref A80, Value.ref A81, Value.ref A82, Value.int 0, Value.ref A83, Value.int 0, Value.int 0, Value.int 0])) : Nat × va_E) := f_46_ws4
      replace hU : gx_g ws ws4 0 [46] := hU.call e_ws4 (by simp; first | done | omega)
      refine W.eq (g2 := F0 m 48 ls [Value.int 0]) rfl ?_
      generalize t3.heap = H at hP hS ⊢
      generalize locs ++ L3 = locs at hS ⊢
      exact gx_ret (W.iret (v := 0) hx hb hr (gx_post hP hK hD hS (by rw [← hPQ]; exact ⟨rfl, hU, f_46_ws4⟩)) hS.2.2 d_Mo_flush_48)
    · obtain ⟨E9, ws5, ce, hp, hce, hP9, -, hD9, hS9⟩ := gx_backT h0_3 hW_3 hQ_3 hL_3 hD hS hA
      clear hQ_3 h0_3 hL_3 hW_3 hP hD hS
      have hP := hP9
      have hD := hD9
      have hS := hS9
      clear hP9 hD9 hS9
      rcases hp with ⟨hv9, e_ws5, f_46_ws5⟩
      cases hv9
  · obtain ⟨E9, ws6, ce, hp, hce, hP9, -, hD9, hS9⟩ := gx_backT h0_1 hW_1 hQ_1 hL_1 hD hS hA
    clear hQ_1 h0_1 hL_1 hW_1 hP hD hS
    have hP := hP9
    have hD := hD9
    have hS := hS9
    clear hP9 hD9 hS9
    rcases hp with ⟨hv9, e_ws6, f_46_ws6⟩
    cases hv9

set_option maxHeartbeats 4000000 in
set_option maxRecDepth 100000 in
theorem c_Mo_done_v11 (l : Launch) (htr : l.stackTraces = false) (D : va_G) (tys : List (ClassId × FieldType)) (z sz : Nat) (ws : va_W) (A46 : Nat) (A47 : Nat) (A48 : Nat) (A49 : Nat) (A50 : Nat) (A51 : Nat) (A52 : Nat) (A53 : Nat) (A54 : Nat) (A62 : Nat) (A70 : Nat) (A78 : Nat) (A79 : Nat) (u0 : Value) (A80 : Nat) (A81 : Nat) (A82 : Nat) (A83 : Nat) (f_46 : ws[46]? = some ((A46, Sum.inr (8, [Value.int 1, Value.int 0, Value.ref A47, Value.ref A48, Value.ref A49, Value.int 0, Value.ref A50, Value.ref A51, Value.ref A52, Value.ref A53, Value.int 0, Value.int 0, Value.int 0, Value.int (-1), Value.int 0, Value.ref A54, Value.ref A62, Value.ref A70, Value.int 0, Value.int 0, Value.int 0, Value.ref A78, Value.ref A79, Value.int 0, Value.int 16, Value.int 4, u0, Value.ref A80, Value.ref A81, Value.ref A82, Value.int 0, Value.ref A83, Value.int 0, Value.int 0, Value.int 0])) : Nat × va_E)) : gx_Met l y_Mo_done [Cond.code y_Mo_done b_Mo_done 6 (some .int)] { frames := 1, cells := 0, slots := 0, locals := 12 } (gx_P z sz D classes tys ws [Value.ref A46, Value.int 0, Value.int 12356]) (gx_Q D classes tys (va_A ws sz) (fun r ws' => (r = Sum.inl (some (Value.int 0)) ∧ gx_g ws ws' 0 [46] ∧ ws'[46]? = some ((A46, Sum.inr (8, [Value.int 0, Value.int 1, Value.ref A47, Value.ref A48, Value.ref A49, Value.int 0, Value.ref A50, Value.ref A51, Value.ref A52, Value.ref A53, Value.int 0, Value.int 0, Value.int 0, Value.int (-1), Value.int 0, Value.ref A54, Value.ref A62, Value.ref A70, Value.int 0, Value.int 0, Value.int 0, Value.ref A78, Value.ref A79, Value.int 0, Value.int 16, Value.int 4, u0, Value.ref A80, Value.ref A81, Value.ref A82, Value.int 0, Value.ref A83, Value.int 0, Value.int 0, Value.int 0])) : Nat × va_E)))) 0 0 (va_A ws sz) := by
  refine gx_ofW (cc := b_Mo_done) (maxL := 6) (ret := (some .int)) (by decide) rfl ?_
  intro p e s m args below meth c s₁ B hml hv
  obtain ⟨rfl, hsz, hz, hP, hK, hD0, hY⟩ := hv
  have hx := B.exec
  have hb := B.bytes
  have hr := B.returns
  have hts := hY.hts (#[Value.ref A46, Value.int 0, Value.int 12356] : Array Value)
  have hown : s.vm.findClass "CommitLedgerModel" = some m.cls := findClass_of_methodNamed B.named
  have hlocks := B.notSynchronized
  have hne : c.exceptionTable.isEmpty = true := B.noHandlers (atoms_spec (ws := [Cond.code y_Mo_done b_Mo_done 6 (some .int)]) B.pre _ List.mem_cons_self)
  subst hsz
  have hAz := gx_az hD0 hz
  have hD := hD0.self (sz := s.heap.size)
  have hN := gx_ns hP
  have hA : ∀ q : Nat, s.heap.size ≤ q → va_A ws s.heap.size q := fun q h => Or.inr h
  generalize va_A ws s.heap.size = A at hD hN hA hAz ⊢
  generalize hPQ : (fun (r : Option Value ⊕ String) (ws' : va_W) => (r = Sum.inl (some (Value.int 0)) ∧ gx_g ws ws' 0 [46] ∧ ws'[46]? = some ((A46, Sum.inr (8, [Value.int 0, Value.int 1, Value.ref A47, Value.ref A48, Value.ref A49, Value.int 0, Value.ref A50, Value.ref A51, Value.ref A52, Value.ref A53, Value.int 0, Value.int 0, Value.int 0, Value.int (-1), Value.int 0, Value.ref A54, Value.ref A62, Value.ref A70, Value.int 0, Value.int 0, Value.int 0, Value.ref A78, Value.ref A79, Value.int 0, Value.int 16, Value.int 4, u0, Value.ref A80, Value.ref A81, Value.ref A82, Value.int 0, Value.ref A83, Value.int 0, Value.int 0, Value.int 0])) : Nat × va_E))) = PQ
  have hS : va_S A s.heap s.heap [] := va_S.rf
  have hU : gx_g ws ws 0 [46] := gx_g.rf
  have hl := lv_entry ([Value.ref A46, Value.int 0, Value.int 12356]) (n := 6) (Nat.le_of_ble_eq_true rfl)
  rw [lg_entry_eq]
  generalize (lg_sl ([Value.ref A46, Value.int 0, Value.int 12356]) ++ List.replicate (6 - (lg_sl ([Value.ref A46, Value.int 0, Value.int 12356])).length) Slot.unset).toArray = ls at hl ⊢
  have hl : lv_has ls 6 [(0, Value.ref A46), (1, Value.int 0), (2, Value.int 12356)] := hl
  refine lv_aload_n hx hb d_Mo_done_0 rfl (lv_at hl 0 rfl) ?_
  refine lv_iconst (v := 0) hx hb d_Mo_done_1 (by decide) ?_
  refine va_put (D := D) (ci := 8) (v := Value.int 0) (ty := .int) (C := "CommitLedgerModel") (T := F_Mo) (N := 35) hx hb hts i_Mo t_Mo t_Mo_ok n_Mo hown hK hP hD hS 46 f_46 rfl 1 (by decide) (hts _ kf_Mo_80) (fun _ h9 => h9) rfl (by decide +kernel) rfl rfl (Nat.le_of_ble_eq_true rfl) d_Mo_done_2 (fun H locs hP9 hD9 hS9 => ?_)
  obtain ⟨ws1, e_ws1⟩ : ∃ x : va_W, x = ws.set 46 ((A46, Sum.inr (8, [Value.int 1, Value.int 0, Value.ref A47, Value.ref A48, Value.ref A49, Value.int 0, Value.ref A50, Value.ref A51, Value.ref A52, Value.ref A53, Value.int 0, Value.int 0, Value.int 0, Value.int (-1), Value.int 0, Value.ref A54, Value.ref A62, Value.ref A70, Value.int 0, Value.int 0, Value.int 0, Value.ref A78, Value.ref A79, Value.int 0, Value.int 16, Value.int 4, u0, Value.ref A80, Value.ref A81, Value.ref A82, Value.int 0, Value.ref A83, Value.int 0, Value.int 0, Value.int 0])) : Nat × va_E) := ⟨_, rfl⟩
  replace hP : va_P D classes ws1 H := by rw [e_ws1]; exact hP9
  replace hD : va_D A ws1 := by rw [e_ws1]; exact hD9
  replace hS := hS9
  clear hP9 hD9 hS9
  have f_46_ws1 : ws1[46]? = some ((A46, Sum.inr (8, [Value.int 1, Value.int 0, Value.ref A47, Value.ref A48, Value.ref A49, Value.int 0, Value.ref A50, Value.ref A51, Value.ref A52, Value.ref A53, Value.int 0, Value.int 0, Value.int 0, Value.int (-1), Value.int 0, Value.ref A54, Value.ref A62, Value.ref A70, Value.int 0, Value.int 0, Value.int 0, Value.ref A78, Value.ref A79, Value.int 0, Value.int 16, Value.int 4, u0, Value.ref A80, Value.ref A81, Value.ref A82, Value.int 0, Value.ref A83, Value.int 0, Value.int 0, Value.int 0])) : Nat × va_E) := by rw [e_ws1]; exact gs_self f_46
  replace hU : gx_g ws ws1 0 [46] := by rw [e_ws1]; exact hU.put (Or.inl (by simp))
  refine lv_iconst (v := 0) hx hb d_Mo_done_5 (by decide) ?_
  refine lv_istore_n (lv' := [(3, Value.int 0), (0, Value.ref A46), (1, Value.int 0), (2, Value.int 12356)]) hx hb d_Mo_done_6 rfl hl (by decide) rfl (fun ls hl => ?_)
  refine lv_ldc (v := 100000) hx hb hown (hts _ ki_Mo_83) d_Mo_done_7 ?_
  refine lv_istore (lv' := [(4, Value.int 100000), (3, Value.int 0), (0, Value.ref A46), (1, Value.int 0), (2, Value.int 12356)]) hx hb d_Mo_done_9 hl (by decide) rfl (fun ls hl => ?_)
  refine lv_iload hx hb d_Mo_done_11 (lv_at hl 0 rfl) ?_
  refine lv_if_le (tgt := 60) hx hb d_Mo_done_13 (by decide) (fun c9 => absurd c9 (by decide)) (fun _ => ?_)
  refine lv_iload_n hx hb d_Mo_done_16 rfl (lv_at hl 4 rfl) ?_
  refine lv_iload hx hb d_Mo_done_17 (lv_at hl 0 rfl) ?_
  refine lv_idiv hx hb d_Mo_done_19 (by decide) ?_
  refine gx_topi (y := 0) (by decide) ?_
  refine lv_bipush (v := 10) hx hb d_Mo_done_20 (by decide) ?_
  refine lv_irem hx hb d_Mo_done_22 (by decide) ?_
  refine gx_topi (y := 0) (by decide) ?_
  refine lv_istore (lv' := [(5, Value.int 0), (4, Value.int 100000), (3, Value.int 0), (0, Value.ref A46), (1, Value.int 0), (2, Value.int 12356)]) hx hb d_Mo_done_23 hl (by decide) rfl (fun ls hl => ?_)
  refine lv_iload hx hb d_Mo_done_25 (lv_at hl 0 rfl) ?_
  refine lv_if_ne (tgt := 33) hx hb d_Mo_done_27 (by decide) (fun c9 => absurd (by decide) c9) (fun _ => ?_)
  refine lv_goto (tgt := 50) hx hb d_Mo_done_30 (by decide) ?_
  refine lv_iload hx hb d_Mo_done_50 (lv_at hl 1 rfl) ?_
  refine lv_bipush (v := 10) hx hb d_Mo_done_52 (by decide) ?_
  refine lv_idiv hx hb d_Mo_done_54 (by decide) ?_
  refine gx_topi (y := 10000) (by decide) ?_
  refine lv_istore (lv' := [(4, Value.int 10000), (5, Value.int 0), (3, Value.int 0), (0, Value.ref A46), (1, Value.int 0), (2, Value.int 12356)]) hx hb d_Mo_done_55 hl (by decide) rfl (fun ls hl => ?_)
  refine lv_goto (tgt := 11) hx hb d_Mo_done_57 (by decide) ?_
  refine lv_iload hx hb d_Mo_done_11 (lv_at hl 0 rfl) ?_
  refine lv_if_le (tgt := 60) hx hb d_Mo_done_13 (by decide) (fun c9 => absurd c9 (by decide)) (fun _ => ?_)
  refine lv_iload_n hx hb d_Mo_done_16 rfl (lv_at hl 5 rfl) ?_
  refine lv_iload hx hb d_Mo_done_17 (lv_at hl 0 rfl) ?_
  refine lv_idiv hx hb d_Mo_done_19 (by decide) ?_
  refine gx_topi (y := 1) (by decide) ?_
  refine lv_bipush (v := 10) hx hb d_Mo_done_20 (by decide) ?_
  refine lv_irem hx hb d_Mo_done_22 (by decide) ?_
  refine gx_topi (y := 1) (by decide) ?_
  refine lv_istore (lv' := [(5, Value.int 1), (4, Value.int 10000), (3, Value.int 0), (0, Value.ref A46), (1, Value.int 0), (2, Value.int 12356)]) hx hb d_Mo_done_23 hl (by decide) rfl (fun ls hl => ?_)
  refine lv_iload hx hb d_Mo_done_25 (lv_at hl 0 rfl) ?_
  refine lv_if_ne (tgt := 33) hx hb d_Mo_done_27 (by decide) (fun _ => ?_) (fun c9 => absurd c9 (by decide))
  refine lv_iinc (v := 1) (lv' := [(3, Value.int 1), (5, Value.int 1), (4, Value.int 10000), (0, Value.ref A46), (1, Value.int 0), (2, Value.int 12356)]) hx hb d_Mo_done_33 hl (k := 2) rfl (by decide) (by decide) rfl (fun ls hl => ?_)
  refine lv_iload hx hb d_Mo_done_36 (lv_at hl 1 rfl) ?_
  refine lv_aload_n hx hb d_Mo_done_38 rfl (lv_at hl 3 rfl) ?_
  refine va_get (D := D) (ci := 8) (v := Value.int 1) (C := "CommitLedgerModel") (T := F_Mo) (N := 35) hx hb hts i_Mo hown hK hP 46 f_46_ws1 rfl 0 (by decide) (hts _ kf_Mo_84) (fun _ h9 => h9) rfl d_Mo_done_39 ?_
  refine lv_icmp_ne (tgt := 50) hx hb d_Mo_done_42 (by decide) (fun c9 => absurd (by decide) c9) (fun _ => ?_)
  refine lv_aload_n hx hb d_Mo_done_45 rfl (lv_at hl 3 rfl) ?_
  refine lv_iload_n hx hb d_Mo_done_46 rfl (lv_at hl 0 rfl) ?_
  refine va_put (D := D) (ci := 8) (v := Value.int 1) (ty := .int) (C := "CommitLedgerModel") (T := F_Mo) (N := 35) hx hb hts i_Mo t_Mo t_Mo_ok n_Mo hown hK hP hD hS 46 f_46_ws1 rfl 1 (by decide) (hts _ kf_Mo_80) (fun _ h9 => h9) rfl (by decide +kernel) rfl rfl (Nat.le_of_ble_eq_true rfl) d_Mo_done_47 (fun H locs hP9 hD9 hS9 => ?_)
  obtain ⟨ws2, e_ws2⟩ : ∃ x : va_W, x = ws1.set 46 ((A46, Sum.inr (8, [Value.int 1, Value.int 1, Value.ref A47, Value.ref A48, Value.ref A49, Value.int 0, Value.ref A50, Value.ref A51, Value.ref A52, Value.ref A53, Value.int 0, Value.int 0, Value.int 0, Value.int (-1), Value.int 0, Value.ref A54, Value.ref A62, Value.ref A70, Value.int 0, Value.int 0, Value.int 0, Value.ref A78, Value.ref A79, Value.int 0, Value.int 16, Value.int 4, u0, Value.ref A80, Value.ref A81, Value.ref A82, Value.int 0, Value.ref A83, Value.int 0, Value.int 0, Value.int 0])) : Nat × va_E) := ⟨_, rfl⟩
  replace hP : va_P D classes ws2 H := by rw [e_ws2]; exact hP9
  replace hD : va_D A ws2 := by rw [e_ws2]; exact hD9
  replace hS := hS9
  clear hP9 hD9 hS9
  have f_46_ws2 : ws2[46]? = some ((A46, Sum.inr (8, [Value.int 1, Value.int 1, Value.ref A47, Value.ref A48, Value.ref A49, Value.int 0, Value.ref A50, Value.ref A51, Value.ref A52, Value.ref A53, Value.int 0, Value.int 0, Value.int 0, Value.int (-1), Value.int 0, Value.ref A54, Value.ref A62, Value.ref A70, Value.int 0, Value.int 0, Value.int 0, Value.ref A78, Value.ref A79, Value.int 0, Value.int 16, Value.int 4, u0, Value.ref A80, Value.ref A81, Value.ref A82, Value.int 0, Value.ref A83, Value.int 0, Value.int 0, Value.int 0])) : Nat × va_E) := by rw [e_ws2]; exact gs_self f_46_ws1
  replace hU : gx_g ws ws2 0 [46] := by rw [e_ws2]; exact hU.put (Or.inl (by simp))
  refine lv_iload hx hb d_Mo_done_50 (lv_at hl 2 rfl) ?_
  refine lv_bipush (v := 10) hx hb d_Mo_done_52 (by decide) ?_
  refine lv_idiv hx hb d_Mo_done_54 (by decide) ?_
  refine gx_topi (y := 1000) (by decide) ?_
  refine lv_istore (lv' := [(4, Value.int 1000), (3, Value.int 1), (5, Value.int 1), (0, Value.ref A46), (1, Value.int 0), (2, Value.int 12356)]) hx hb d_Mo_done_55 hl (by decide) rfl (fun ls hl => ?_)
  refine lv_goto (tgt := 11) hx hb d_Mo_done_57 (by decide) ?_
  refine lv_iload hx hb d_Mo_done_11 (lv_at hl 0 rfl) ?_
  refine lv_if_le (tgt := 60) hx hb d_Mo_done_13 (by decide) (fun c9 => absurd c9 (by decide)) (fun _ => ?_)
  refine lv_iload_n hx hb d_Mo_done_16 rfl (lv_at hl 5 rfl) ?_
  refine lv_iload hx hb d_Mo_done_17 (lv_at hl 0 rfl) ?_
  refine lv_idiv hx hb d_Mo_done_19 (by decide) ?_
  refine gx_topi (y := 12) (by decide) ?_
  refine lv_bipush (v := 10) hx hb d_Mo_done_20 (by decide) ?_
  refine lv_irem hx hb d_Mo_done_22 (by decide) ?_
  refine gx_topi (y := 2) (by decide) ?_
  refine lv_istore (lv' := [(5, Value.int 2), (4, Value.int 1000), (3, Value.int 1), (0, Value.ref A46), (1, Value.int 0), (2, Value.int 12356)]) hx hb d_Mo_done_23 hl (by decide) rfl (fun ls hl => ?_)
  refine lv_iload hx hb d_Mo_done_25 (lv_at hl 0 rfl) ?_
  refine lv_if_ne (tgt := 33) hx hb d_Mo_done_27 (by decide) (fun _ => ?_) (fun c9 => absurd c9 (by decide))
  refine lv_iinc (v := 2) (lv' := [(3, Value.int 2), (5, Value.int 2), (4, Value.int 1000), (0, Value.ref A46), (1, Value.int 0), (2, Value.int 12356)]) hx hb d_Mo_done_33 hl (k := 2) rfl (by decide) (by decide) rfl (fun ls hl => ?_)
  refine lv_iload hx hb d_Mo_done_36 (lv_at hl 1 rfl) ?_
  refine lv_aload_n hx hb d_Mo_done_38 rfl (lv_at hl 3 rfl) ?_
  refine va_get (D := D) (ci := 8) (v := Value.int 1) (C := "CommitLedgerModel") (T := F_Mo) (N := 35) hx hb hts i_Mo hown hK hP 46 f_46_ws2 rfl 0 (by decide) (hts _ kf_Mo_84) (fun _ h9 => h9) rfl d_Mo_done_39 ?_
  refine lv_icmp_ne (tgt := 50) hx hb d_Mo_done_42 (by decide) (fun _ => ?_) (fun c9 => absurd c9 (by decide))
  refine lv_iload hx hb d_Mo_done_50 (lv_at hl 2 rfl) ?_
  refine lv_bipush (v := 10) hx hb d_Mo_done_52 (by decide) ?_
  refine lv_idiv hx hb d_Mo_done_54 (by decide) ?_
  refine gx_topi (y := 100) (by decide) ?_
  refine lv_istore (lv' := [(4, Value.int 100), (3, Value.int 2), (5, Value.int 2), (0, Value.ref A46), (1, Value.int 0), (2, Value.int 12356)]) hx hb d_Mo_done_55 hl (by decide) rfl (fun ls hl => ?_)
  refine lv_goto (tgt := 11) hx hb d_Mo_done_57 (by decide) ?_
  refine lv_iload hx hb d_Mo_done_11 (lv_at hl 0 rfl) ?_
  refine lv_if_le (tgt := 60) hx hb d_Mo_done_13 (by decide) (fun c9 => absurd c9 (by decide)) (fun _ => ?_)
  refine lv_iload_n hx hb d_Mo_done_16 rfl (lv_at hl 5 rfl) ?_
  refine lv_iload hx hb d_Mo_done_17 (lv_at hl 0 rfl) ?_
  refine lv_idiv hx hb d_Mo_done_19 (by decide) ?_
  refine gx_topi (y := 123) (by decide) ?_
  refine lv_bipush (v := 10) hx hb d_Mo_done_20 (by decide) ?_
  refine lv_irem hx hb d_Mo_done_22 (by decide) ?_
  refine gx_topi (y := 3) (by decide) ?_
  refine lv_istore (lv' := [(5, Value.int 3), (4, Value.int 100), (3, Value.int 2), (0, Value.ref A46), (1, Value.int 0), (2, Value.int 12356)]) hx hb d_Mo_done_23 hl (by decide) rfl (fun ls hl => ?_)
  refine lv_iload hx hb d_Mo_done_25 (lv_at hl 0 rfl) ?_
  refine lv_if_ne (tgt := 33) hx hb d_Mo_done_27 (by decide) (fun _ => ?_) (fun c9 => absurd c9 (by decide))
  refine lv_iinc (v := 3) (lv' := [(3, Value.int 3), (5, Value.int 3), (4, Value.int 100), (0, Value.ref A46), (1, Value.int 0), (2, Value.int 12356)]) hx hb d_Mo_done_33 hl (k := 2) rfl (by decide) (by decide) rfl (fun ls hl => ?_)
  refine lv_iload hx hb d_Mo_done_36 (lv_at hl 1 rfl) ?_
  refine lv_aload_n hx hb d_Mo_done_38 rfl (lv_at hl 3 rfl) ?_
  refine va_get (D := D) (ci := 8) (v := Value.int 1) (C := "CommitLedgerModel") (T := F_Mo) (N := 35) hx hb hts i_Mo hown hK hP 46 f_46_ws2 rfl 0 (by decide) (hts _ kf_Mo_84) (fun _ h9 => h9) rfl d_Mo_done_39 ?_
  refine lv_icmp_ne (tgt := 50) hx hb d_Mo_done_42 (by decide) (fun _ => ?_) (fun c9 => absurd c9 (by decide))
  refine lv_iload hx hb d_Mo_done_50 (lv_at hl 2 rfl) ?_
  refine lv_bipush (v := 10) hx hb d_Mo_done_52 (by decide) ?_
  refine lv_idiv hx hb d_Mo_done_54 (by decide) ?_
  refine gx_topi (y := 10) (by decide) ?_
  refine lv_istore (lv' := [(4, Value.int 10), (3, Value.int 3), (5, Value.int 3), (0, Value.ref A46), (1, Value.int 0), (2, Value.int 12356)]) hx hb d_Mo_done_55 hl (by decide) rfl (fun ls hl => ?_)
  refine lv_goto (tgt := 11) hx hb d_Mo_done_57 (by decide) ?_
  refine lv_iload hx hb d_Mo_done_11 (lv_at hl 0 rfl) ?_
  refine lv_if_le (tgt := 60) hx hb d_Mo_done_13 (by decide) (fun c9 => absurd c9 (by decide)) (fun _ => ?_)
  refine lv_iload_n hx hb d_Mo_done_16 rfl (lv_at hl 5 rfl) ?_
  refine lv_iload hx hb d_Mo_done_17 (lv_at hl 0 rfl) ?_
  refine lv_idiv hx hb d_Mo_done_19 (by decide) ?_
  refine gx_topi (y := 1235) (by decide) ?_
  refine lv_bipush (v := 10) hx hb d_Mo_done_20 (by decide) ?_
  refine lv_irem hx hb d_Mo_done_22 (by decide) ?_
  refine gx_topi (y := 5) (by decide) ?_
  refine lv_istore (lv' := [(5, Value.int 5), (4, Value.int 10), (3, Value.int 3), (0, Value.ref A46), (1, Value.int 0), (2, Value.int 12356)]) hx hb d_Mo_done_23 hl (by decide) rfl (fun ls hl => ?_)
  refine lv_iload hx hb d_Mo_done_25 (lv_at hl 0 rfl) ?_
  refine lv_if_ne (tgt := 33) hx hb d_Mo_done_27 (by decide) (fun _ => ?_) (fun c9 => absurd c9 (by decide))
  refine lv_iinc (v := 4) (lv' := [(3, Value.int 4), (5, Value.int 5), (4, Value.int 10), (0, Value.ref A46), (1, Value.int 0), (2, Value.int 12356)]) hx hb d_Mo_done_33 hl (k := 2) rfl (by decide) (by decide) rfl (fun ls hl => ?_)
  refine lv_iload hx hb d_Mo_done_36 (lv_at hl 1 rfl) ?_
  refine lv_aload_n hx hb d_Mo_done_38 rfl (lv_at hl 3 rfl) ?_
  refine va_get (D := D) (ci := 8) (v := Value.int 1) (C := "CommitLedgerModel") (T := F_Mo) (N := 35) hx hb hts i_Mo hown hK hP 46 f_46_ws2 rfl 0 (by decide) (hts _ kf_Mo_84) (fun _ h9 => h9) rfl d_Mo_done_39 ?_
  refine lv_icmp_ne (tgt := 50) hx hb d_Mo_done_42 (by decide) (fun _ => ?_) (fun c9 => absurd c9 (by decide))
  refine lv_iload hx hb d_Mo_done_50 (lv_at hl 2 rfl) ?_
  refine lv_bipush (v := 10) hx hb d_Mo_done_52 (by decide) ?_
  refine lv_idiv hx hb d_Mo_done_54 (by decide) ?_
  refine gx_topi (y := 1) (by decide) ?_
  refine lv_istore (lv' := [(4, Value.int 1), (3, Value.int 4), (5, Value.int 5), (0, Value.ref A46), (1, Value.int 0), (2, Value.int 12356)]) hx hb d_Mo_done_55 hl (by decide) rfl (fun ls hl => ?_)
  refine lv_goto (tgt := 11) hx hb d_Mo_done_57 (by decide) ?_
  refine lv_iload hx hb d_Mo_done_11 (lv_at hl 0 rfl) ?_
  refine lv_if_le (tgt := 60) hx hb d_Mo_done_13 (by decide) (fun c9 => absurd c9 (by decide)) (fun _ => ?_)
  refine lv_iload_n hx hb d_Mo_done_16 rfl (lv_at hl 5 rfl) ?_
  refine lv_iload hx hb d_Mo_done_17 (lv_at hl 0 rfl) ?_
  refine lv_idiv hx hb d_Mo_done_19 (by decide) ?_
  refine gx_topi (y := 12356) (by decide) ?_
  refine lv_bipush (v := 10) hx hb d_Mo_done_20 (by decide) ?_
  refine lv_irem hx hb d_Mo_done_22 (by decide) ?_
  refine gx_topi (y := 6) (by decide) ?_
  refine lv_istore (lv' := [(5, Value.int 6), (4, Value.int 1), (3, Value.int 4), (0, Value.ref A46), (1, Value.int 0), (2, Value.int 12356)]) hx hb d_Mo_done_23 hl (by decide) rfl (fun ls hl => ?_)
  refine lv_iload hx hb d_Mo_done_25 (lv_at hl 0 rfl) ?_
  refine lv_if_ne (tgt := 33) hx hb d_Mo_done_27 (by decide) (fun _ => ?_) (fun c9 => absurd c9 (by decide))
  refine lv_iinc (v := 5) (lv' := [(3, Value.int 5), (5, Value.int 6), (4, Value.int 1), (0, Value.ref A46), (1, Value.int 0), (2, Value.int 12356)]) hx hb d_Mo_done_33 hl (k := 2) rfl (by decide) (by decide) rfl (fun ls hl => ?_)
  refine lv_iload hx hb d_Mo_done_36 (lv_at hl 1 rfl) ?_
  refine lv_aload_n hx hb d_Mo_done_38 rfl (lv_at hl 3 rfl) ?_
  refine va_get (D := D) (ci := 8) (v := Value.int 1) (C := "CommitLedgerModel") (T := F_Mo) (N := 35) hx hb hts i_Mo hown hK hP 46 f_46_ws2 rfl 0 (by decide) (hts _ kf_Mo_84) (fun _ h9 => h9) rfl d_Mo_done_39 ?_
  refine lv_icmp_ne (tgt := 50) hx hb d_Mo_done_42 (by decide) (fun _ => ?_) (fun c9 => absurd c9 (by decide))
  refine lv_iload hx hb d_Mo_done_50 (lv_at hl 2 rfl) ?_
  refine lv_bipush (v := 10) hx hb d_Mo_done_52 (by decide) ?_
  refine lv_idiv hx hb d_Mo_done_54 (by decide) ?_
  refine gx_topi (y := 0) (by decide) ?_
  refine lv_istore (lv' := [(4, Value.int 0), (3, Value.int 5), (5, Value.int 6), (0, Value.ref A46), (1, Value.int 0), (2, Value.int 12356)]) hx hb d_Mo_done_55 hl (by decide) rfl (fun ls hl => ?_)
  refine lv_goto (tgt := 11) hx hb d_Mo_done_57 (by decide) ?_
  refine lv_iload hx hb d_Mo_done_11 (lv_at hl 0 rfl) ?_
  refine lv_if_le (tgt := 60) hx hb d_Mo_done_13 (by decide) (fun _ => ?_) (fun c9 => absurd (by decide) c9)
  refine lv_aload_n hx hb d_Mo_done_60 rfl (lv_at hl 3 rfl) ?_
  refine lv_iconst (v := 0) hx hb d_Mo_done_61 (by decide) ?_
  refine va_put (D := D) (ci := 8) (v := Value.int 0) (ty := .int) (C := "CommitLedgerModel") (T := F_Mo) (N := 35) hx hb hts i_Mo t_Mo t_Mo_ok n_Mo hown hK hP hD hS 46 f_46_ws2 rfl 0 (by decide) (hts _ kf_Mo_84) (fun _ h9 => h9) rfl (by decide +kernel) rfl rfl (Nat.le_of_ble_eq_true rfl) d_Mo_done_62 (fun H locs hP9 hD9 hS9 => ?_)
  obtain ⟨ws3, e_ws3⟩ : ∃ x : va_W, x = ws2.set 46 ((A46, Sum.inr (8, [Value.int 0, Value.int 1, Value.ref A47, Value.ref A48, Value.ref A49, Value.int 0, Value.ref A50, Value.ref A51, Value.ref A52, Value.ref A53, Value.int 0, Value.int 0, Value.int 0, Value.int (-1), Value.int 0, Value.ref A54, Value.ref A62, Value.ref A70, Value.int 0, Value.int 0, Value.int 0, Value.ref A78, Value.ref A79, Value.int 0, Value.int 16, Value.int 4, u0, Value.ref A80, Value.ref A81, Value.ref A82, Value.int 0, Value.ref A83, Value.int 0, Value.int 0, Value.int 0])) : Nat × va_E) := ⟨_, rfl⟩
  replace hP : va_P D classes ws3 H := by rw [e_ws3]; exact hP9
  replace hD : va_D A ws3 := by rw [e_ws3]; exact hD9
  replace hS := hS9
  clear hP9 hD9 hS9
  have f_46_ws3 : ws3[46]? = some ((A46, Sum.inr (8, [Value.int 0, Value.int 1, Value.ref A47, Value.ref A48, Value.ref A49, Value.int 0, Value.ref A50, Value.ref A51, Value.ref A52, Value.ref A53, Value.int 0, Value.int 0, Value.int 0, Value.int (-1), Value.int 0, Value.ref A54, Value.ref A62, Value.ref A70, Value.int 0, Value.int 0, Value.int 0, Value.ref A78, Value.ref A79, Value.int 0, Value.int 16, Value.int 4, u0, Value.ref A80, Value.ref A81, Value.ref A82, Value.int 0, Value.ref A83, Value.int 0, Value.int 0, Value.int 0])) : Nat × va_E) := by rw [e_ws3]; exact gs_self f_46_ws2
  replace hU : gx_g ws ws3 0 [46] := by rw [e_ws3]; exact hU.put (Or.inl (by simp))
  refine lv_aload_n hx hb d_Mo_done_65 rfl (lv_at hl 3 rfl) ?_
  refine va_get (D := D) (ci := 8) (v := Value.int 1) (C := "CommitLedgerModel") (T := F_Mo) (N := 35) hx hb hts i_Mo hown hK hP 46 f_46_ws3 rfl 1 (by decide) (hts _ kf_Mo_80) (fun _ h9 => h9) rfl d_Mo_done_66 ?_
  refine lv_if_le (tgt := 76) hx hb d_Mo_done_69 (by decide) (fun c9 => absurd c9 (by decide)) (fun _ => ?_)
  refine lv_iconst (v := 0) hx hb d_Mo_done_72 (by decide) ?_
  refine lv_goto (tgt := 77) hx hb d_Mo_done_73 (by decide) ?_
  exact gx_ret (W.iret (v := 0) hx hb hr (gx_post hP hK hD hS (by rw [← hPQ]; exact ⟨rfl, hU, f_46_ws3⟩)) hS.2.2 d_Mo_done_77)

set_option maxHeartbeats 4000000 in
set_option maxRecDepth 100000 in
theorem c_Mo_done_v12 (l : Launch) (htr : l.stackTraces = false) (D : va_G) (tys : List (ClassId × FieldType)) (z sz : Nat) (ws : va_W) (A46 : Nat) (A47 : Nat) (A48 : Nat) (A49 : Nat) (A50 : Nat) (A51 : Nat) (A52 : Nat) (A53 : Nat) (A54 : Nat) (A62 : Nat) (A70 : Nat) (A78 : Nat) (A79 : Nat) (u0 : Value) (A80 : Nat) (A81 : Nat) (A82 : Nat) (A83 : Nat) (f_46 : ws[46]? = some ((A46, Sum.inr (8, [Value.int 2, Value.int 0, Value.ref A47, Value.ref A48, Value.ref A49, Value.int 0, Value.ref A50, Value.ref A51, Value.ref A52, Value.ref A53, Value.int 0, Value.int 0, Value.int 0, Value.int (-1), Value.int 0, Value.ref A54, Value.ref A62, Value.ref A70, Value.int 0, Value.int 0, Value.int 0, Value.ref A78, Value.ref A79, Value.int 0, Value.int 16, Value.int 4, u0, Value.ref A80, Value.ref A81, Value.ref A82, Value.int 0, Value.ref A83, Value.int 0, Value.int 0, Value.int 0])) : Nat × va_E)) : gx_Met l y_Mo_done [Cond.code y_Mo_done b_Mo_done 6 (some .int)] { frames := 1, cells := 0, slots := 0, locals := 12 } (gx_P z sz D classes tys ws [Value.ref A46, Value.int 0, Value.int 12356]) (gx_Q D classes tys (va_A ws sz) (fun r ws' => (r = Sum.inl (some (Value.int 0)) ∧ gx_g ws ws' 0 [46] ∧ ws'[46]? = some ((A46, Sum.inr (8, [Value.int 0, Value.int 2, Value.ref A47, Value.ref A48, Value.ref A49, Value.int 0, Value.ref A50, Value.ref A51, Value.ref A52, Value.ref A53, Value.int 0, Value.int 0, Value.int 0, Value.int (-1), Value.int 0, Value.ref A54, Value.ref A62, Value.ref A70, Value.int 0, Value.int 0, Value.int 0, Value.ref A78, Value.ref A79, Value.int 0, Value.int 16, Value.int 4, u0, Value.ref A80, Value.ref A81, Value.ref A82, Value.int 0, Value.ref A83, Value.int 0, Value.int 0, Value.int 0])) : Nat × va_E)))) 0 0 (va_A ws sz) := by
  refine gx_ofW (cc := b_Mo_done) (maxL := 6) (ret := (some .int)) (by decide) rfl ?_
  intro p e s m args below meth c s₁ B hml hv
  obtain ⟨rfl, hsz, hz, hP, hK, hD0, hY⟩ := hv
  have hx := B.exec
  have hb := B.bytes
  have hr := B.returns
  have hts := hY.hts (#[Value.ref A46, Value.int 0, Value.int 12356] : Array Value)
  have hown : s.vm.findClass "CommitLedgerModel" = some m.cls := findClass_of_methodNamed B.named
  have hlocks := B.notSynchronized
  have hne : c.exceptionTable.isEmpty = true := B.noHandlers (atoms_spec (ws := [Cond.code y_Mo_done b_Mo_done 6 (some .int)]) B.pre _ List.mem_cons_self)
  subst hsz
  have hAz := gx_az hD0 hz
  have hD := hD0.self (sz := s.heap.size)
  have hN := gx_ns hP
  have hA : ∀ q : Nat, s.heap.size ≤ q → va_A ws s.heap.size q := fun q h => Or.inr h
  generalize va_A ws s.heap.size = A at hD hN hA hAz ⊢
  generalize hPQ : (fun (r : Option Value ⊕ String) (ws' : va_W) => (r = Sum.inl (some (Value.int 0)) ∧ gx_g ws ws' 0 [46] ∧ ws'[46]? = some ((A46, Sum.inr (8, [Value.int 0, Value.int 2, Value.ref A47, Value.ref A48, Value.ref A49, Value.int 0, Value.ref A50, Value.ref A51, Value.ref A52, Value.ref A53, Value.int 0, Value.int 0, Value.int 0, Value.int (-1), Value.int 0, Value.ref A54, Value.ref A62, Value.ref A70, Value.int 0, Value.int 0, Value.int 0, Value.ref A78, Value.ref A79, Value.int 0, Value.int 16, Value.int 4, u0, Value.ref A80, Value.ref A81, Value.ref A82, Value.int 0, Value.ref A83, Value.int 0, Value.int 0, Value.int 0])) : Nat × va_E))) = PQ
  have hS : va_S A s.heap s.heap [] := va_S.rf
  have hU : gx_g ws ws 0 [46] := gx_g.rf
  have hl := lv_entry ([Value.ref A46, Value.int 0, Value.int 12356]) (n := 6) (Nat.le_of_ble_eq_true rfl)
  rw [lg_entry_eq]
  generalize (lg_sl ([Value.ref A46, Value.int 0, Value.int 12356]) ++ List.replicate (6 - (lg_sl ([Value.ref A46, Value.int 0, Value.int 12356])).length) Slot.unset).toArray = ls at hl ⊢
  have hl : lv_has ls 6 [(0, Value.ref A46), (1, Value.int 0), (2, Value.int 12356)] := hl
  refine lv_aload_n hx hb d_Mo_done_0 rfl (lv_at hl 0 rfl) ?_
  refine lv_iconst (v := 0) hx hb d_Mo_done_1 (by decide) ?_
  refine va_put (D := D) (ci := 8) (v := Value.int 0) (ty := .int) (C := "CommitLedgerModel") (T := F_Mo) (N := 35) hx hb hts i_Mo t_Mo t_Mo_ok n_Mo hown hK hP hD hS 46 f_46 rfl 1 (by decide) (hts _ kf_Mo_80) (fun _ h9 => h9) rfl (by decide +kernel) rfl rfl (Nat.le_of_ble_eq_true rfl) d_Mo_done_2 (fun H locs hP9 hD9 hS9 => ?_)
  obtain ⟨ws1, e_ws1⟩ : ∃ x : va_W, x = ws.set 46 ((A46, Sum.inr (8, [Value.int 2, Value.int 0, Value.ref A47, Value.ref A48, Value.ref A49, Value.int 0, Value.ref A50, Value.ref A51, Value.ref A52, Value.ref A53, Value.int 0, Value.int 0, Value.int 0, Value.int (-1), Value.int 0, Value.ref A54, Value.ref A62, Value.ref A70, Value.int 0, Value.int 0, Value.int 0, Value.ref A78, Value.ref A79, Value.int 0, Value.int 16, Value.int 4, u0, Value.ref A80, Value.ref A81, Value.ref A82, Value.int 0, Value.ref A83, Value.int 0, Value.int 0, Value.int 0])) : Nat × va_E) := ⟨_, rfl⟩
  replace hP : va_P D classes ws1 H := by rw [e_ws1]; exact hP9
  replace hD : va_D A ws1 := by rw [e_ws1]; exact hD9
  replace hS := hS9
  clear hP9 hD9 hS9
  have f_46_ws1 : ws1[46]? = some ((A46, Sum.inr (8, [Value.int 2, Value.int 0, Value.ref A47, Value.ref A48, Value.ref A49, Value.int 0, Value.ref A50, Value.ref A51, Value.ref A52, Value.ref A53, Value.int 0, Value.int 0, Value.int 0, Value.int (-1), Value.int 0, Value.ref A54, Value.ref A62, Value.ref A70, Value.int 0, Value.int 0, Value.int 0, Value.ref A78, Value.ref A79, Value.int 0, Value.int 16, Value.int 4, u0, Value.ref A80, Value.ref A81, Value.ref A82, Value.int 0, Value.ref A83, Value.int 0, Value.int 0, Value.int 0])) : Nat × va_E) := by rw [e_ws1]; exact gs_self f_46
  replace hU : gx_g ws ws1 0 [46] := by rw [e_ws1]; exact hU.put (Or.inl (by simp))
  refine lv_iconst (v := 0) hx hb d_Mo_done_5 (by decide) ?_
  refine lv_istore_n (lv' := [(3, Value.int 0), (0, Value.ref A46), (1, Value.int 0), (2, Value.int 12356)]) hx hb d_Mo_done_6 rfl hl (by decide) rfl (fun ls hl => ?_)
  refine lv_ldc (v := 100000) hx hb hown (hts _ ki_Mo_83) d_Mo_done_7 ?_
  refine lv_istore (lv' := [(4, Value.int 100000), (3, Value.int 0), (0, Value.ref A46), (1, Value.int 0), (2, Value.int 12356)]) hx hb d_Mo_done_9 hl (by decide) rfl (fun ls hl => ?_)
  refine lv_iload hx hb d_Mo_done_11 (lv_at hl 0 rfl) ?_
  refine lv_if_le (tgt := 60) hx hb d_Mo_done_13 (by decide) (fun c9 => absurd c9 (by decide)) (fun _ => ?_)
  refine lv_iload_n hx hb d_Mo_done_16 rfl (lv_at hl 4 rfl) ?_
  refine lv_iload hx hb d_Mo_done_17 (lv_at hl 0 rfl) ?_
  refine lv_idiv hx hb d_Mo_done_19 (by decide) ?_
  refine gx_topi (y := 0) (by decide) ?_
  refine lv_bipush (v := 10) hx hb d_Mo_done_20 (by decide) ?_
  refine lv_irem hx hb d_Mo_done_22 (by decide) ?_
  refine gx_topi (y := 0) (by decide) ?_
  refine lv_istore (lv' := [(5, Value.int 0), (4, Value.int 100000), (3, Value.int 0), (0, Value.ref A46), (1, Value.int 0), (2, Value.int 12356)]) hx hb d_Mo_done_23 hl (by decide) rfl (fun ls hl => ?_)
  refine lv_iload hx hb d_Mo_done_25 (lv_at hl 0 rfl) ?_
  refine lv_if_ne (tgt := 33) hx hb d_Mo_done_27 (by decide) (fun c9 => absurd (by decide) c9) (fun _ => ?_)
  refine lv_goto (tgt := 50) hx hb d_Mo_done_30 (by decide) ?_
  refine lv_iload hx hb d_Mo_done_50 (lv_at hl 1 rfl) ?_
  refine lv_bipush (v := 10) hx hb d_Mo_done_52 (by decide) ?_
  refine lv_idiv hx hb d_Mo_done_54 (by decide) ?_
  refine gx_topi (y := 10000) (by decide) ?_
  refine lv_istore (lv' := [(4, Value.int 10000), (5, Value.int 0), (3, Value.int 0), (0, Value.ref A46), (1, Value.int 0), (2, Value.int 12356)]) hx hb d_Mo_done_55 hl (by decide) rfl (fun ls hl => ?_)
  refine lv_goto (tgt := 11) hx hb d_Mo_done_57 (by decide) ?_
  refine lv_iload hx hb d_Mo_done_11 (lv_at hl 0 rfl) ?_
  refine lv_if_le (tgt := 60) hx hb d_Mo_done_13 (by decide) (fun c9 => absurd c9 (by decide)) (fun _ => ?_)
  refine lv_iload_n hx hb d_Mo_done_16 rfl (lv_at hl 5 rfl) ?_
  refine lv_iload hx hb d_Mo_done_17 (lv_at hl 0 rfl) ?_
  refine lv_idiv hx hb d_Mo_done_19 (by decide) ?_
  refine gx_topi (y := 1) (by decide) ?_
  refine lv_bipush (v := 10) hx hb d_Mo_done_20 (by decide) ?_
  refine lv_irem hx hb d_Mo_done_22 (by decide) ?_
  refine gx_topi (y := 1) (by decide) ?_
  refine lv_istore (lv' := [(5, Value.int 1), (4, Value.int 10000), (3, Value.int 0), (0, Value.ref A46), (1, Value.int 0), (2, Value.int 12356)]) hx hb d_Mo_done_23 hl (by decide) rfl (fun ls hl => ?_)
  refine lv_iload hx hb d_Mo_done_25 (lv_at hl 0 rfl) ?_
  refine lv_if_ne (tgt := 33) hx hb d_Mo_done_27 (by decide) (fun _ => ?_) (fun c9 => absurd c9 (by decide))
  refine lv_iinc (v := 1) (lv' := [(3, Value.int 1), (5, Value.int 1), (4, Value.int 10000), (0, Value.ref A46), (1, Value.int 0), (2, Value.int 12356)]) hx hb d_Mo_done_33 hl (k := 2) rfl (by decide) (by decide) rfl (fun ls hl => ?_)
  refine lv_iload hx hb d_Mo_done_36 (lv_at hl 1 rfl) ?_
  refine lv_aload_n hx hb d_Mo_done_38 rfl (lv_at hl 3 rfl) ?_
  refine va_get (D := D) (ci := 8) (v := Value.int 2) (C := "CommitLedgerModel") (T := F_Mo) (N := 35) hx hb hts i_Mo hown hK hP 46 f_46_ws1 rfl 0 (by decide) (hts _ kf_Mo_84) (fun _ h9 => h9) rfl d_Mo_done_39 ?_
  refine lv_icmp_ne (tgt := 50) hx hb d_Mo_done_42 (by decide) (fun _ => ?_) (fun c9 => absurd c9 (by decide))
  refine lv_iload hx hb d_Mo_done_50 (lv_at hl 2 rfl) ?_
  refine lv_bipush (v := 10) hx hb d_Mo_done_52 (by decide) ?_
  refine lv_idiv hx hb d_Mo_done_54 (by decide) ?_
  refine gx_topi (y := 1000) (by decide) ?_
  refine lv_istore (lv' := [(4, Value.int 1000), (3, Value.int 1), (5, Value.int 1), (0, Value.ref A46), (1, Value.int 0), (2, Value.int 12356)]) hx hb d_Mo_done_55 hl (by decide) rfl (fun ls hl => ?_)
  refine lv_goto (tgt := 11) hx hb d_Mo_done_57 (by decide) ?_
  refine lv_iload hx hb d_Mo_done_11 (lv_at hl 0 rfl) ?_
  refine lv_if_le (tgt := 60) hx hb d_Mo_done_13 (by decide) (fun c9 => absurd c9 (by decide)) (fun _ => ?_)
  refine lv_iload_n hx hb d_Mo_done_16 rfl (lv_at hl 5 rfl) ?_
  refine lv_iload hx hb d_Mo_done_17 (lv_at hl 0 rfl) ?_
  refine lv_idiv hx hb d_Mo_done_19 (by decide) ?_
  refine gx_topi (y := 12) (by decide) ?_
  refine lv_bipush (v := 10) hx hb d_Mo_done_20 (by decide) ?_
  refine lv_irem hx hb d_Mo_done_22 (by decide) ?_
  refine gx_topi (y := 2) (by decide) ?_
  refine lv_istore (lv' := [(5, Value.int 2), (4, Value.int 1000), (3, Value.int 1), (0, Value.ref A46), (1, Value.int 0), (2, Value.int 12356)]) hx hb d_Mo_done_23 hl (by decide) rfl (fun ls hl => ?_)
  refine lv_iload hx hb d_Mo_done_25 (lv_at hl 0 rfl) ?_
  refine lv_if_ne (tgt := 33) hx hb d_Mo_done_27 (by decide) (fun _ => ?_) (fun c9 => absurd c9 (by decide))
  refine lv_iinc (v := 2) (lv' := [(3, Value.int 2), (5, Value.int 2), (4, Value.int 1000), (0, Value.ref A46), (1, Value.int 0), (2, Value.int 12356)]) hx hb d_Mo_done_33 hl (k := 2) rfl (by decide) (by decide) rfl (fun ls hl => ?_)
  refine lv_iload hx hb d_Mo_done_36 (lv_at hl 1 rfl) ?_
  refine lv_aload_n hx hb d_Mo_done_38 rfl (lv_at hl 3 rfl) ?_
  refine va_get (D := D) (ci := 8) (v := Value.int 2) (C := "CommitLedgerModel") (T := F_Mo) (N := 35) hx hb hts i_Mo hown hK hP 46 f_46_ws1 rfl 0 (by decide) (hts _ kf_Mo_84) (fun _ h9 => h9) rfl d_Mo_done_39 ?_
  refine lv_icmp_ne (tgt := 50) hx hb d_Mo_done_42 (by decide) (fun c9 => absurd (by decide) c9) (fun _ => ?_)
  refine lv_aload_n hx hb d_Mo_done_45 rfl (lv_at hl 3 rfl) ?_
  refine lv_iload_n hx hb d_Mo_done_46 rfl (lv_at hl 0 rfl) ?_
  refine va_put (D := D) (ci := 8) (v := Value.int 2) (ty := .int) (C := "CommitLedgerModel") (T := F_Mo) (N := 35) hx hb hts i_Mo t_Mo t_Mo_ok n_Mo hown hK hP hD hS 46 f_46_ws1 rfl 1 (by decide) (hts _ kf_Mo_80) (fun _ h9 => h9) rfl (by decide +kernel) rfl rfl (Nat.le_of_ble_eq_true rfl) d_Mo_done_47 (fun H locs hP9 hD9 hS9 => ?_)
  obtain ⟨ws2, e_ws2⟩ : ∃ x : va_W, x = ws1.set 46 ((A46, Sum.inr (8, [Value.int 2, Value.int 2, Value.ref A47, Value.ref A48, Value.ref A49, Value.int 0, Value.ref A50, Value.ref A51, Value.ref A52, Value.ref A53, Value.int 0, Value.int 0, Value.int 0, Value.int (-1), Value.int 0, Value.ref A54, Value.ref A62, Value.ref A70, Value.int 0, Value.int 0, Value.int 0, Value.ref A78, Value.ref A79, Value.int 0, Value.int 16, Value.int 4, u0, Value.ref A80, Value.ref A81, Value.ref A82, Value.int 0, Value.ref A83, Value.int 0, Value.int 0, Value.int 0])) : Nat × va_E) := ⟨_, rfl⟩
  replace hP : va_P D classes ws2 H := by rw [e_ws2]; exact hP9
  replace hD : va_D A ws2 := by rw [e_ws2]; exact hD9
  replace hS := hS9
  clear hP9 hD9 hS9
  have f_46_ws2 : ws2[46]? = some ((A46, Sum.inr (8, [Value.int 2, Value.int 2, Value.ref A47, Value.ref A48, Value.ref A49, Value.int 0, Value.ref A50, Value.ref A51, Value.ref A52, Value.ref A53, Value.int 0, Value.int 0, Value.int 0, Value.int (-1), Value.int 0, Value.ref A54, Value.ref A62, Value.ref A70, Value.int 0, Value.int 0, Value.int 0, Value.ref A78, Value.ref A79, Value.int 0, Value.int 16, Value.int 4, u0, Value.ref A80, Value.ref A81, Value.ref A82, Value.int 0, Value.ref A83, Value.int 0, Value.int 0, Value.int 0])) : Nat × va_E) := by rw [e_ws2]; exact gs_self f_46_ws1
  replace hU : gx_g ws ws2 0 [46] := by rw [e_ws2]; exact hU.put (Or.inl (by simp))
  refine lv_iload hx hb d_Mo_done_50 (lv_at hl 2 rfl) ?_
  refine lv_bipush (v := 10) hx hb d_Mo_done_52 (by decide) ?_
  refine lv_idiv hx hb d_Mo_done_54 (by decide) ?_
  refine gx_topi (y := 100) (by decide) ?_
  refine lv_istore (lv' := [(4, Value.int 100), (3, Value.int 2), (5, Value.int 2), (0, Value.ref A46), (1, Value.int 0), (2, Value.int 12356)]) hx hb d_Mo_done_55 hl (by decide) rfl (fun ls hl => ?_)
  refine lv_goto (tgt := 11) hx hb d_Mo_done_57 (by decide) ?_
  refine lv_iload hx hb d_Mo_done_11 (lv_at hl 0 rfl) ?_
  refine lv_if_le (tgt := 60) hx hb d_Mo_done_13 (by decide) (fun c9 => absurd c9 (by decide)) (fun _ => ?_)
  refine lv_iload_n hx hb d_Mo_done_16 rfl (lv_at hl 5 rfl) ?_
  refine lv_iload hx hb d_Mo_done_17 (lv_at hl 0 rfl) ?_
  refine lv_idiv hx hb d_Mo_done_19 (by decide) ?_
  refine gx_topi (y := 123) (by decide) ?_
  refine lv_bipush (v := 10) hx hb d_Mo_done_20 (by decide) ?_
  refine lv_irem hx hb d_Mo_done_22 (by decide) ?_
  refine gx_topi (y := 3) (by decide) ?_
  refine lv_istore (lv' := [(5, Value.int 3), (4, Value.int 100), (3, Value.int 2), (0, Value.ref A46), (1, Value.int 0), (2, Value.int 12356)]) hx hb d_Mo_done_23 hl (by decide) rfl (fun ls hl => ?_)
  refine lv_iload hx hb d_Mo_done_25 (lv_at hl 0 rfl) ?_
  refine lv_if_ne (tgt := 33) hx hb d_Mo_done_27 (by decide) (fun _ => ?_) (fun c9 => absurd c9 (by decide))
  refine lv_iinc (v := 3) (lv' := [(3, Value.int 3), (5, Value.int 3), (4, Value.int 100), (0, Value.ref A46), (1, Value.int 0), (2, Value.int 12356)]) hx hb d_Mo_done_33 hl (k := 2) rfl (by decide) (by decide) rfl (fun ls hl => ?_)
  refine lv_iload hx hb d_Mo_done_36 (lv_at hl 1 rfl) ?_
  refine lv_aload_n hx hb d_Mo_done_38 rfl (lv_at hl 3 rfl) ?_
  refine va_get (D := D) (ci := 8) (v := Value.int 2) (C := "CommitLedgerModel") (T := F_Mo) (N := 35) hx hb hts i_Mo hown hK hP 46 f_46_ws2 rfl 0 (by decide) (hts _ kf_Mo_84) (fun _ h9 => h9) rfl d_Mo_done_39 ?_
  refine lv_icmp_ne (tgt := 50) hx hb d_Mo_done_42 (by decide) (fun _ => ?_) (fun c9 => absurd c9 (by decide))
  refine lv_iload hx hb d_Mo_done_50 (lv_at hl 2 rfl) ?_
  refine lv_bipush (v := 10) hx hb d_Mo_done_52 (by decide) ?_
  refine lv_idiv hx hb d_Mo_done_54 (by decide) ?_
  refine gx_topi (y := 10) (by decide) ?_
  refine lv_istore (lv' := [(4, Value.int 10), (3, Value.int 3), (5, Value.int 3), (0, Value.ref A46), (1, Value.int 0), (2, Value.int 12356)]) hx hb d_Mo_done_55 hl (by decide) rfl (fun ls hl => ?_)
  refine lv_goto (tgt := 11) hx hb d_Mo_done_57 (by decide) ?_
  refine lv_iload hx hb d_Mo_done_11 (lv_at hl 0 rfl) ?_
  refine lv_if_le (tgt := 60) hx hb d_Mo_done_13 (by decide) (fun c9 => absurd c9 (by decide)) (fun _ => ?_)
  refine lv_iload_n hx hb d_Mo_done_16 rfl (lv_at hl 5 rfl) ?_
  refine lv_iload hx hb d_Mo_done_17 (lv_at hl 0 rfl) ?_
  refine lv_idiv hx hb d_Mo_done_19 (by decide) ?_
  refine gx_topi (y := 1235) (by decide) ?_
  refine lv_bipush (v := 10) hx hb d_Mo_done_20 (by decide) ?_
  refine lv_irem hx hb d_Mo_done_22 (by decide) ?_
  refine gx_topi (y := 5) (by decide) ?_
  refine lv_istore (lv' := [(5, Value.int 5), (4, Value.int 10), (3, Value.int 3), (0, Value.ref A46), (1, Value.int 0), (2, Value.int 12356)]) hx hb d_Mo_done_23 hl (by decide) rfl (fun ls hl => ?_)
  refine lv_iload hx hb d_Mo_done_25 (lv_at hl 0 rfl) ?_
  refine lv_if_ne (tgt := 33) hx hb d_Mo_done_27 (by decide) (fun _ => ?_) (fun c9 => absurd c9 (by decide))
  refine lv_iinc (v := 4) (lv' := [(3, Value.int 4), (5, Value.int 5), (4, Value.int 10), (0, Value.ref A46), (1, Value.int 0), (2, Value.int 12356)]) hx hb d_Mo_done_33 hl (k := 2) rfl (by decide) (by decide) rfl (fun ls hl => ?_)
  refine lv_iload hx hb d_Mo_done_36 (lv_at hl 1 rfl) ?_
  refine lv_aload_n hx hb d_Mo_done_38 rfl (lv_at hl 3 rfl) ?_
  refine va_get (D := D) (ci := 8) (v := Value.int 2) (C := "CommitLedgerModel") (T := F_Mo) (N := 35) hx hb hts i_Mo hown hK hP 46 f_46_ws2 rfl 0 (by decide) (hts _ kf_Mo_84) (fun _ h9 => h9) rfl d_Mo_done_39 ?_
  refine lv_icmp_ne (tgt := 50) hx hb d_Mo_done_42 (by decide) (fun _ => ?_) (fun c9 => absurd c9 (by decide))
  refine lv_iload hx hb d_Mo_done_50 (lv_at hl 2 rfl) ?_
  refine lv_bipush (v := 10) hx hb d_Mo_done_52 (by decide) ?_
  refine lv_idiv hx hb d_Mo_done_54 (by decide) ?_
  refine gx_topi (y := 1) (by decide) ?_
  refine lv_istore (lv' := [(4, Value.int 1), (3, Value.int 4), (5, Value.int 5), (0, Value.ref A46), (1, Value.int 0), (2, Value.int 12356)]) hx hb d_Mo_done_55 hl (by decide) rfl (fun ls hl => ?_)
  refine lv_goto (tgt := 11) hx hb d_Mo_done_57 (by decide) ?_
  refine lv_iload hx hb d_Mo_done_11 (lv_at hl 0 rfl) ?_
  refine lv_if_le (tgt := 60) hx hb d_Mo_done_13 (by decide) (fun c9 => absurd c9 (by decide)) (fun _ => ?_)
  refine lv_iload_n hx hb d_Mo_done_16 rfl (lv_at hl 5 rfl) ?_
  refine lv_iload hx hb d_Mo_done_17 (lv_at hl 0 rfl) ?_
  refine lv_idiv hx hb d_Mo_done_19 (by decide) ?_
  refine gx_topi (y := 12356) (by decide) ?_
  refine lv_bipush (v := 10) hx hb d_Mo_done_20 (by decide) ?_
  refine lv_irem hx hb d_Mo_done_22 (by decide) ?_
  refine gx_topi (y := 6) (by decide) ?_
  refine lv_istore (lv' := [(5, Value.int 6), (4, Value.int 1), (3, Value.int 4), (0, Value.ref A46), (1, Value.int 0), (2, Value.int 12356)]) hx hb d_Mo_done_23 hl (by decide) rfl (fun ls hl => ?_)
  refine lv_iload hx hb d_Mo_done_25 (lv_at hl 0 rfl) ?_
  refine lv_if_ne (tgt := 33) hx hb d_Mo_done_27 (by decide) (fun _ => ?_) (fun c9 => absurd c9 (by decide))
  refine lv_iinc (v := 5) (lv' := [(3, Value.int 5), (5, Value.int 6), (4, Value.int 1), (0, Value.ref A46), (1, Value.int 0), (2, Value.int 12356)]) hx hb d_Mo_done_33 hl (k := 2) rfl (by decide) (by decide) rfl (fun ls hl => ?_)
  refine lv_iload hx hb d_Mo_done_36 (lv_at hl 1 rfl) ?_
  refine lv_aload_n hx hb d_Mo_done_38 rfl (lv_at hl 3 rfl) ?_
  refine va_get (D := D) (ci := 8) (v := Value.int 2) (C := "CommitLedgerModel") (T := F_Mo) (N := 35) hx hb hts i_Mo hown hK hP 46 f_46_ws2 rfl 0 (by decide) (hts _ kf_Mo_84) (fun _ h9 => h9) rfl d_Mo_done_39 ?_
  refine lv_icmp_ne (tgt := 50) hx hb d_Mo_done_42 (by decide) (fun _ => ?_) (fun c9 => absurd c9 (by decide))
  refine lv_iload hx hb d_Mo_done_50 (lv_at hl 2 rfl) ?_
  refine lv_bipush (v := 10) hx hb d_Mo_done_52 (by decide) ?_
  refine lv_idiv hx hb d_Mo_done_54 (by decide) ?_
  refine gx_topi (y := 0) (by decide) ?_
  refine lv_istore (lv' := [(4, Value.int 0), (3, Value.int 5), (5, Value.int 6), (0, Value.ref A46), (1, Value.int 0), (2, Value.int 12356)]) hx hb d_Mo_done_55 hl (by decide) rfl (fun ls hl => ?_)
  refine lv_goto (tgt := 11) hx hb d_Mo_done_57 (by decide) ?_
  refine lv_iload hx hb d_Mo_done_11 (lv_at hl 0 rfl) ?_
  refine lv_if_le (tgt := 60) hx hb d_Mo_done_13 (by decide) (fun _ => ?_) (fun c9 => absurd (by decide) c9)
  refine lv_aload_n hx hb d_Mo_done_60 rfl (lv_at hl 3 rfl) ?_
  refine lv_iconst (v := 0) hx hb d_Mo_done_61 (by decide) ?_
  refine va_put (D := D) (ci := 8) (v := Value.int 0) (ty := .int) (C := "CommitLedgerModel") (T := F_Mo) (N := 35) hx hb hts i_Mo t_Mo t_Mo_ok n_Mo hown hK hP hD hS 46 f_46_ws2 rfl 0 (by decide) (hts _ kf_Mo_84) (fun _ h9 => h9) rfl (by decide +kernel) rfl rfl (Nat.le_of_ble_eq_true rfl) d_Mo_done_62 (fun H locs hP9 hD9 hS9 => ?_)
  obtain ⟨ws3, e_ws3⟩ : ∃ x : va_W, x = ws2.set 46 ((A46, Sum.inr (8, [Value.int 0, Value.int 2, Value.ref A47, Value.ref A48, Value.ref A49, Value.int 0, Value.ref A50, Value.ref A51, Value.ref A52, Value.ref A53, Value.int 0, Value.int 0, Value.int 0, Value.int (-1), Value.int 0, Value.ref A54, Value.ref A62, Value.ref A70, Value.int 0, Value.int 0, Value.int 0, Value.ref A78, Value.ref A79, Value.int 0, Value.int 16, Value.int 4, u0, Value.ref A80, Value.ref A81, Value.ref A82, Value.int 0, Value.ref A83, Value.int 0, Value.int 0, Value.int 0])) : Nat × va_E) := ⟨_, rfl⟩
  replace hP : va_P D classes ws3 H := by rw [e_ws3]; exact hP9
  replace hD : va_D A ws3 := by rw [e_ws3]; exact hD9
  replace hS := hS9
  clear hP9 hD9 hS9
  have f_46_ws3 : ws3[46]? = some ((A46, Sum.inr (8, [Value.int 0, Value.int 2, Value.ref A47, Value.ref A48, Value.ref A49, Value.int 0, Value.ref A50, Value.ref A51, Value.ref A52, Value.ref A53, Value.int 0, Value.int 0, Value.int 0, Value.int (-1), Value.int 0, Value.ref A54, Value.ref A62, Value.ref A70, Value.int 0, Value.int 0, Value.int 0, Value.ref A78, Value.ref A79, Value.int 0, Value.int 16, Value.int 4, u0, Value.ref A80, Value.ref A81, Value.ref A82, Value.int 0, Value.ref A83, Value.int 0, Value.int 0, Value.int 0])) : Nat × va_E) := by rw [e_ws3]; exact gs_self f_46_ws2
  replace hU : gx_g ws ws3 0 [46] := by rw [e_ws3]; exact hU.put (Or.inl (by simp))
  refine lv_aload_n hx hb d_Mo_done_65 rfl (lv_at hl 3 rfl) ?_
  refine va_get (D := D) (ci := 8) (v := Value.int 2) (C := "CommitLedgerModel") (T := F_Mo) (N := 35) hx hb hts i_Mo hown hK hP 46 f_46_ws3 rfl 1 (by decide) (hts _ kf_Mo_80) (fun _ h9 => h9) rfl d_Mo_done_66 ?_
  refine lv_if_le (tgt := 76) hx hb d_Mo_done_69 (by decide) (fun c9 => absurd c9 (by decide)) (fun _ => ?_)
  refine lv_iconst (v := 0) hx hb d_Mo_done_72 (by decide) ?_
  refine lv_goto (tgt := 77) hx hb d_Mo_done_73 (by decide) ?_
  exact gx_ret (W.iret (v := 0) hx hb hr (gx_post hP hK hD hS (by rw [← hPQ]; exact ⟨rfl, hU, f_46_ws3⟩)) hS.2.2 d_Mo_done_77)

set_option maxHeartbeats 4000000 in
set_option maxRecDepth 100000 in
theorem c_Mo_merge_v1 (l : Launch) (htr : l.stackTraces = false) (D : va_G) (tys : List (ClassId × FieldType)) (z sz : Nat) (ws : va_W) (A46 : Nat) (p0 : Int32) (A47 : Nat) (A48 : Nat) (A49 : Nat) (A50 : Nat) (A51 : Nat) (A52 : Nat) (A53 : Nat) (A54 : Nat) (A62 : Nat) (A70 : Nat) (A78 : Nat) (A79 : Nat) (u0 : Value) (A80 : Nat) (A81 : Nat) (A82 : Nat) (A83 : Nat) (f_46 : ws[46]? = some ((A46, Sum.inr (8, [Value.int 0, Value.int 0, Value.ref A47, Value.ref A48, Value.ref A49, Value.int 0, Value.ref A50, Value.ref A51, Value.ref A52, Value.ref A53, Value.int 0, Value.int 0, Value.int 0, Value.int (-1), Value.int 0, Value.ref A54, Value.ref A62, Value.ref A70, Value.int 0, Value.int 0, Value.int 0, Value.ref A78, Value.ref A79, Value.int 0, Value.int 16, Value.int 4, u0, Value.ref A80, Value.ref A81, Value.ref A82, Value.int 0, Value.ref A83, Value.int 0, Value.int 0, Value.int 0])) : Nat × va_E)) : gx_Met l y_Mo_merge [Cond.code y_Mo_merge b_Mo_merge 6 (some .int)] { frames := 2, cells := 0, slots := 0, locals := 37 } (gx_P z sz D classes tys ws [Value.ref A46, Value.int p0]) (gx_Q D classes tys (va_A ws sz) (fun r ws' => (r = Sum.inl (some (Value.int 0)) ∧ gx_g ws ws' 0 [46] ∧ ws'[46]? = some ((A46, Sum.inr (8, [Value.int 0, Value.int 1, Value.ref A47, Value.ref A48, Value.ref A49, Value.int 0, Value.ref A50, Value.ref A51, Value.ref A52, Value.ref A53, Value.int 0, Value.int 0, Value.int 0, Value.int (-1), Value.int 0, Value.ref A54, Value.ref A62, Value.ref A70, Value.int 0, Value.int 0, Value.int 0, Value.ref A78, Value.ref A79, Value.int 0, Value.int 16, Value.int 4, u0, Value.ref A80, Value.ref A81, Value.ref A82, Value.int 0, Value.ref A83, Value.int 0, Value.int 0, Value.int 0])) : Nat × va_E) ∧ p0 < 0) ∨ (r = Sum.inl (some (Value.int 0)) ∧ gx_g ws ws' 0 [46] ∧ ws'[46]? = some ((A46, Sum.inr (8, [Value.int 0, Value.int 2, Value.ref A47, Value.ref A48, Value.ref A49, Value.int 0, Value.ref A50, Value.ref A51, Value.ref A52, Value.ref A53, Value.int 0, Value.int 0, Value.int 0, Value.int (-1), Value.int 0, Value.ref A54, Value.ref A62, Value.ref A70, Value.int 0, Value.int 0, Value.int 0, Value.ref A78, Value.ref A79, Value.int 0, Value.int 16, Value.int 4, u0, Value.ref A80, Value.ref A81, Value.ref A82, Value.int 0, Value.ref A83, Value.int 0, Value.int 0, Value.int 0])) : Nat × va_E) ∧ ¬ p0 < 0 ∧ p0 ≤ 1) ∨ (r = Sum.inl (some (Value.int 0)) ∧ gx_g ws ws' 0 [46] ∧ ws'[46]? = some ((A46, Sum.inr (8, [Value.int 0, Value.int 1, Value.ref A47, Value.ref A48, Value.ref A49, Value.int 0, Value.ref A50, Value.ref A51, Value.ref A52, Value.ref A53, Value.int 0, Value.int 0, Value.int 0, Value.int (-1), Value.int 0, Value.ref A54, Value.ref A62, Value.ref A70, Value.int 0, Value.int 0, Value.int 0, Value.ref A78, Value.ref A79, Value.int 0, Value.int 16, Value.int 4, u0, Value.ref A80, Value.ref A81, Value.ref A82, Value.int 0, Value.ref A83, Value.int 0, Value.int 0, Value.int 0])) : Nat × va_E) ∧ ¬ p0 < 0 ∧ ¬ p0 ≤ 1))) 0 0 (va_A ws sz) := by
  refine gx_ofW (cc := b_Mo_merge) (maxL := 6) (ret := (some .int)) (by decide) rfl ?_
  intro p e s m args below meth c s₁ B hml hv
  obtain ⟨rfl, hsz, hz, hP, hK, hD0, hY⟩ := hv
  have hx := B.exec
  have hb := B.bytes
  have hr := B.returns
  have hts := hY.hts (#[Value.ref A46, Value.int p0] : Array Value)
  have hown : s.vm.findClass "CommitLedgerModel" = some m.cls := findClass_of_methodNamed B.named
  have hlocks := B.notSynchronized
  have hne : c.exceptionTable.isEmpty = true := B.noHandlers (atoms_spec (ws := [Cond.code y_Mo_merge b_Mo_merge 6 (some .int)]) B.pre _ List.mem_cons_self)
  subst hsz
  have hAz := gx_az hD0 hz
  have hD := hD0.self (sz := s.heap.size)
  have hN := gx_ns hP
  have hA : ∀ q : Nat, s.heap.size ≤ q → va_A ws s.heap.size q := fun q h => Or.inr h
  generalize va_A ws s.heap.size = A at hD hN hA hAz ⊢
  generalize hPQ : (fun (r : Option Value ⊕ String) (ws' : va_W) => (r = Sum.inl (some (Value.int 0)) ∧ gx_g ws ws' 0 [46] ∧ ws'[46]? = some ((A46, Sum.inr (8, [Value.int 0, Value.int 1, Value.ref A47, Value.ref A48, Value.ref A49, Value.int 0, Value.ref A50, Value.ref A51, Value.ref A52, Value.ref A53, Value.int 0, Value.int 0, Value.int 0, Value.int (-1), Value.int 0, Value.ref A54, Value.ref A62, Value.ref A70, Value.int 0, Value.int 0, Value.int 0, Value.ref A78, Value.ref A79, Value.int 0, Value.int 16, Value.int 4, u0, Value.ref A80, Value.ref A81, Value.ref A82, Value.int 0, Value.ref A83, Value.int 0, Value.int 0, Value.int 0])) : Nat × va_E) ∧ p0 < 0) ∨ (r = Sum.inl (some (Value.int 0)) ∧ gx_g ws ws' 0 [46] ∧ ws'[46]? = some ((A46, Sum.inr (8, [Value.int 0, Value.int 2, Value.ref A47, Value.ref A48, Value.ref A49, Value.int 0, Value.ref A50, Value.ref A51, Value.ref A52, Value.ref A53, Value.int 0, Value.int 0, Value.int 0, Value.int (-1), Value.int 0, Value.ref A54, Value.ref A62, Value.ref A70, Value.int 0, Value.int 0, Value.int 0, Value.ref A78, Value.ref A79, Value.int 0, Value.int 16, Value.int 4, u0, Value.ref A80, Value.ref A81, Value.ref A82, Value.int 0, Value.ref A83, Value.int 0, Value.int 0, Value.int 0])) : Nat × va_E) ∧ ¬ p0 < 0 ∧ p0 ≤ 1) ∨ (r = Sum.inl (some (Value.int 0)) ∧ gx_g ws ws' 0 [46] ∧ ws'[46]? = some ((A46, Sum.inr (8, [Value.int 0, Value.int 1, Value.ref A47, Value.ref A48, Value.ref A49, Value.int 0, Value.ref A50, Value.ref A51, Value.ref A52, Value.ref A53, Value.int 0, Value.int 0, Value.int 0, Value.int (-1), Value.int 0, Value.ref A54, Value.ref A62, Value.ref A70, Value.int 0, Value.int 0, Value.int 0, Value.ref A78, Value.ref A79, Value.int 0, Value.int 16, Value.int 4, u0, Value.ref A80, Value.ref A81, Value.ref A82, Value.int 0, Value.ref A83, Value.int 0, Value.int 0, Value.int 0])) : Nat × va_E) ∧ ¬ p0 < 0 ∧ ¬ p0 ≤ 1)) = PQ
  have hS : va_S A s.heap s.heap [] := va_S.rf
  have hU : gx_g ws ws 0 [46] := gx_g.rf
  have hl := lv_entry ([Value.ref A46, Value.int p0]) (n := 6) (Nat.le_of_ble_eq_true rfl)
  rw [lg_entry_eq]
  generalize (lg_sl ([Value.ref A46, Value.int p0]) ++ List.replicate (6 - (lg_sl ([Value.ref A46, Value.int p0])).length) Slot.unset).toArray = ls at hl ⊢
  have hl : lv_has ls 6 [(0, Value.ref A46), (1, Value.int p0)] := hl
  refine lv_aload_n hx hb d_Mo_merge_0 rfl (lv_at hl 0 rfl) ?_
  refine lv_iload_n hx hb d_Mo_merge_1 rfl (lv_at hl 1 rfl) ?_
  refine lv_if_lt (tgt := 10) hx hb d_Mo_merge_2 (by decide) (fun c2_1 => ?_) (fun c2_1 => ?_)
  · refine lv_iconst (v := 1) hx hb d_Mo_merge_10 (by decide) ?_
    refine lv_goto (tgt := 15) hx hb d_Mo_merge_11 (by decide) ?_
    refine lv_iconst (v := 1) hx hb d_Mo_merge_15 (by decide) ?_
    refine gx_call (ig := .invokevirtual 152) (c_Mo_wrong_v1 l htr D tys z _ ws A46 A47 A48 A49 A50 A51 A52 A53 A54 A62 A70 A78 A79 (u0) A80 A81 A82 A83 f_46) (gx_invV (As := [Value.int 1, Value.int 1]) (rest := []) hx hb hown hts km_Mo_152 kI_Mo_wrong kV_Mo_wrong kc_Mo_wrong (by decide) (show (parseMethodDescriptor y_Mo_wrong.desc).map (fun d => d.parameters.length) = some 2 by decide +kernel) (gx_recv (ci := 8) hK hP rfl f_46) rfl rfl d_Mo_merge_16) (gx_cw (z := 0) hts kc_Mo_wrong kN_Mo rfl rfl ⟨Nat.le_of_ble_eq_true rfl, Nat.le_of_ble_eq_true rfl⟩) hb hml gx_blind (gx_pre hz hP hK hD hY hS hAz [Value.ref A46, Value.int 1, Value.int 1]) rfl hl.1 (lv_room (Nat.le_of_ble_eq_true rfl)) d_Mo_merge_16 ⟨Nat.le_of_ble_eq_true rfl, Nat.le_of_ble_eq_true rfl⟩ (fun v2 st2 t2 L2 h0_2 hW_2 hQ_2 hL_2 => ?_) (fun v2 st2 t2 L2 h0_2 hW_2 hQ_2 hL_2 => ?_)
    · obtain ⟨ws3, hp, hP9, -, hD9, hS9⟩ := gx_back h0_2 hW_2 hQ_2 hL_2 hD hS hA
      clear hQ_2 h0_2 hL_2 hW_2 hP hD hS
      have hP := hP9
      have hD := hD9
      have hS := hS9
      clear hP9 hD9 hS9
      rcases hp with ⟨hv9, e_ws3, f_46_ws3⟩
      cases hv9
      have f_46_ws3 : ws3[46]? = some ((A46, Sum.inr (8, [Value.int 1, Value.int 0, Value.ref A47, Value.ref A48, Value.ref A49, Value.int 0, Value.ref A50, Value.ref A51, Value.ref A52, Value.ref A53, Value.int 0, Value.int 0, Value.int 0, Value.int (-1), Value.int 0, Value.ref A54, Value.ref A62, Value.ref A70, Value.int 0, Value.int 0, Value.int 0, Value.ref A78, Value.ref A79, Value.int 0, Value.int 16, Value.int 4, u0, Value.ref A80, Value.ref A81, Value.ref A82, Value.int 0, Value.ref A83, Value.int 0, Value.int 0, Value.int 0])) : Nat × va_E) := f_46_ws3
      replace hU : gx_g ws ws3 0 [46] := hU.call e_ws3 (by simp; first | done | omega)
      refine W.eq (g2 := F0 m 19 ls [Value.int 1]) rfl ?_
      generalize t2.heap = H at hP hS ⊢
      generalize [] ++ L2 = locs at hS ⊢
      refine lv_if_ne (tgt := 63) hx hb d_Mo_merge_19 (by decide) (fun _ => ?_) (fun c9 => absurd c9 (by decide))
      refine lv_aload_n hx hb d_Mo_merge_63 rfl (lv_at hl 0 rfl) ?_
      refine lv_iconst (v := 0) hx hb d_Mo_merge_64 (by decide) ?_
      refine lv_sipush (v := 12356) hx hb d_Mo_merge_65 (by decide) ?_
      refine gx_call (ig := .invokevirtual 148) (c_Mo_done_v11 l htr D tys z _ ws3 A46 A47 A48 A49 A50 A51 A52 A53 A54 A62 A70 A78 A79 (u0) A80 A81 A82 A83 f_46_ws3) (gx_invV (As := [Value.int 0, Value.int 12356]) (rest := []) hx hb hown hts km_Mo_148 kI_Mo_done kV_Mo_done kc_Mo_done (by decide) (show (parseMethodDescriptor y_Mo_done.desc).map (fun d => d.parameters.length) = some 2 by decide +kernel) (gx_recv (ci := 8) hK hP rfl f_46_ws3) rfl rfl d_Mo_merge_68) (gx_cw (z := 0) hts kc_Mo_done kN_Mo rfl rfl ⟨Nat.le_of_ble_eq_true rfl, Nat.le_of_ble_eq_true rfl⟩) hb hml gx_blind (gx_pre hz hP hK hD hY hS hAz [Value.ref A46, Value.int 0, Value.int 12356]) rfl hl.1 (lv_room (Nat.le_of_ble_eq_true rfl)) d_Mo_merge_68 ⟨Nat.le_of_ble_eq_true rfl, Nat.le_of_ble_eq_true rfl⟩ (fun v4 st4 t4 L4 h0_4 hW_4 hQ_4 hL_4 => ?_) (fun v4 st4 t4 L4 h0_4 hW_4 hQ_4 hL_4 => ?_)
      · obtain ⟨ws5, hp, hP9, -, hD9, hS9⟩ := gx_back h0_4 hW_4 hQ_4 hL_4 hD hS hA
        clear hQ_4 h0_4 hL_4 hW_4 hP hD hS
        have hP := hP9
        have hD := hD9
        have hS := hS9
        clear hP9 hD9 hS9
        rcases hp with ⟨hv9, e_ws5, f_46_ws5⟩
        cases hv9
        have f_46_ws5 : ws5[46]? = some ((A46, Sum.inr (8, [Value.int 0, Value.int 1, Value.ref A47, Value.ref A48, Value.ref A49, Value.int 0, Value.ref A50, Value.ref A51, Value.ref A52, Value.ref A53, Value.int 0, Value.int 0, Value.int 0, Value.int (-1), Value.int 0, Value.ref A54, Value.ref A62, Value.ref A70, Value.int 0, Value.int 0, Value.int 0, Value.ref A78, Value.ref A79, Value.int 0, Value.int 16, Value.int 4, u0, Value.ref A80, Value.ref A81, Value.ref A82, Value.int 0, Value.ref A83, Value.int 0, Value.int 0, Value.int 0])) : Nat × va_E) := f_46_ws5
        replace hU : gx_g ws ws5 0 [46] := hU.call e_ws5 (by simp; first | done | omega)
        refine W.eq (g2 := F0 m 71 ls [Value.int 0]) rfl ?_
        generalize t4.heap = H at hP hS ⊢
        generalize locs ++ L4 = locs at hS ⊢
        exact gx_ret (W.iret (v := 0) hx hb hr (gx_post hP hK hD hS (by rw [← hPQ]; exact Or.inl ⟨rfl, hU, f_46_ws5, c2_1⟩)) hS.2.2 d_Mo_merge_71)
      · obtain ⟨E9, ws6, ce, hp, hce, hP9, -, hD9, hS9⟩ := gx_backT h0_4 hW_4 hQ_4 hL_4 hD hS hA
        clear hQ_4 h0_4 hL_4 hW_4 hP hD hS
        have hP := hP9
        have hD := hD9
        have hS := hS9
        clear hP9 hD9 hS9
        rcases hp with ⟨hv9, e_ws6, f_46_ws6⟩
        cases hv9
    · obtain ⟨E9, ws7, ce, hp, hce, hP9, -, hD9, hS9⟩ := gx_backT h0_2 hW_2 hQ_2 hL_2 hD hS hA
      clear hQ_2 h0_2 hL_2 hW_2 hP hD hS
      have hP := hP9
      have hD := hD9
      have hS := hS9
      clear hP9 hD9 hS9
      rcases hp with ⟨hv9, e_ws7, f_46_ws7⟩
      cases hv9
  · refine lv_iload_n hx hb d_Mo_merge_5 rfl (lv_at hl 1 rfl) ?_
    refine lv_iconst (v := 1) hx hb d_Mo_merge_6 (by decide) ?_
    refine lv_icmp_le (tgt := 14) hx hb d_Mo_merge_7 (by decide) (fun c7_8 => ?_) (fun c7_8 => ?_)
    · refine lv_iconst (v := 0) hx hb d_Mo_merge_14 (by decide) ?_
      refine lv_iconst (v := 1) hx hb d_Mo_merge_15 (by decide) ?_
      refine gx_call (ig := .invokevirtual 152) (c_Mo_wrong_v2 l htr D tys z _ ws A46 A47 A48 A49 A50 A51 A52 A53 A54 A62 A70 A78 A79 (u0) A80 A81 A82 A83 f_46) (gx_invV (As := [Value.int 0, Value.int 1]) (rest := []) hx hb hown hts km_Mo_152 kI_Mo_wrong kV_Mo_wrong kc_Mo_wrong (by decide) (show (parseMethodDescriptor y_Mo_wrong.desc).map (fun d => d.parameters.length) = some 2 by decide +kernel) (gx_recv (ci := 8) hK hP rfl f_46) rfl rfl d_Mo_merge_16) (gx_cw (z := 0) hts kc_Mo_wrong kN_Mo rfl rfl ⟨Nat.le_of_ble_eq_true rfl, Nat.le_of_ble_eq_true rfl⟩) hb hml gx_blind (gx_pre hz hP hK hD hY hS hAz [Value.ref A46, Value.int 0, Value.int 1]) rfl hl.1 (lv_room (Nat.le_of_ble_eq_true rfl)) d_Mo_merge_16 ⟨Nat.le_of_ble_eq_true rfl, Nat.le_of_ble_eq_true rfl⟩ (fun v9 st9 t9 L9 h0_9 hW_9 hQ_9 hL_9 => ?_) (fun v9 st9 t9 L9 h0_9 hW_9 hQ_9 hL_9 => ?_)
      · obtain ⟨ws10, hp, hP9, -, hD9, hS9⟩ := gx_back h0_9 hW_9 hQ_9 hL_9 hD hS hA
        clear hQ_9 h0_9 hL_9 hW_9 hP hD hS
        have hP := hP9
        have hD := hD9
        have hS := hS9
        clear hP9 hD9 hS9
        rcases hp with ⟨hv9, e_ws10⟩
        cases hv9
        rw [e_ws10] at hP hD
        refine W.eq (g2 := F0 m 19 ls [Value.int 0]) rfl ?_
        generalize t9.heap = H at hP hS ⊢
        generalize [] ++ L9 = locs at hS ⊢
        refine lv_if_ne (tgt := 63) hx hb d_Mo_merge_19 (by decide) (fun c9 => absurd (by decide) c9) (fun _ => ?_)
        refine lv_aload_n hx hb d_Mo_merge_22 rfl (lv_at hl 0 rfl) ?_
        refine lv_aload_n hx hb d_Mo_merge_23 rfl (lv_at hl 0 rfl) ?_
        refine va_get (D := D) (ci := 8) (v := Value.int 0) (C := "CommitLedgerModel") (T := F_Mo) (N := 35) hx hb hts i_Mo hown hK hP 46 f_46 rfl 18 (by decide) (hts _ kf_Mo_99) (fun _ h9 => h9) rfl d_Mo_merge_24 ?_
        refine lv_if_ne (tgt := 34) hx hb d_Mo_merge_27 (by decide) (fun c9 => absurd (by decide) c9) (fun _ => ?_)
        refine lv_iconst (v := 1) hx hb d_Mo_merge_30 (by decide) ?_
        refine lv_goto (tgt := 35) hx hb d_Mo_merge_31 (by decide) ?_
        refine lv_iconst (v := 2) hx hb d_Mo_merge_35 (by decide) ?_
        refine gx_call (ig := .invokevirtual 152) (c_Mo_wrong_v5 l htr D tys z _ ws A46 A47 A48 A49 A50 A51 A52 A53 A54 A62 A70 A78 A79 (u0) A80 A81 A82 A83 f_46) (gx_invV (As := [Value.int 1, Value.int 2]) (rest := []) hx hb hown hts km_Mo_152 kI_Mo_wrong kV_Mo_wrong kc_Mo_wrong (by decide) (show (parseMethodDescriptor y_Mo_wrong.desc).map (fun d => d.parameters.length) = some 2 by decide +kernel) (gx_recv (ci := 8) hK hP rfl f_46) rfl rfl d_Mo_merge_36) (gx_cw (z := 0) hts kc_Mo_wrong kN_Mo rfl rfl ⟨Nat.le_of_ble_eq_true rfl, Nat.le_of_ble_eq_true rfl⟩) hb hml gx_blind (gx_pre hz hP hK hD hY hS hAz [Value.ref A46, Value.int 1, Value.int 2]) rfl hl.1 (lv_room (Nat.le_of_ble_eq_true rfl)) d_Mo_merge_36 ⟨Nat.le_of_ble_eq_true rfl, Nat.le_of_ble_eq_true rfl⟩ (fun v11 st11 t11 L11 h0_11 hW_11 hQ_11 hL_11 => ?_) (fun v11 st11 t11 L11 h0_11 hW_11 hQ_11 hL_11 => ?_)
        · obtain ⟨ws12, hp, hP9, -, hD9, hS9⟩ := gx_back h0_11 hW_11 hQ_11 hL_11 hD hS hA
          clear hQ_11 h0_11 hL_11 hW_11 hP hD hS
          have hP := hP9
          have hD := hD9
          have hS := hS9
          clear hP9 hD9 hS9
          rcases hp with ⟨hv9, e_ws12, f_46_ws12⟩
          cases hv9
          have f_46_ws12 : ws12[46]? = some ((A46, Sum.inr (8, [Value.int 2, Value.int 0, Value.ref A47, Value.ref A48, Value.ref A49, Value.int 0, Value.ref A50, Value.ref A51, Value.ref A52, Value.ref A53, Value.int 0, Value.int 0, Value.int 0, Value.int (-1), Value.int 0, Value.ref A54, Value.ref A62, Value.ref A70, Value.int 0, Value.int 0, Value.int 0, Value.ref A78, Value.ref A79, Value.int 0, Value.int 16, Value.int 4, u0, Value.ref A80, Value.ref A81, Value.ref A82, Value.int 0, Value.ref A83, Value.int 0, Value.int 0, Value.int 0])) : Nat × va_E) := f_46_ws12
          replace hU : gx_g ws ws12 0 [46] := hU.call e_ws12 (by simp; first | done | omega)
          refine W.eq (g2 := F0 m 39 ls [Value.int 1]) rfl ?_
          generalize t11.heap = H at hP hS ⊢
          generalize locs ++ L11 = locs at hS ⊢
          refine lv_if_ne (tgt := 63) hx hb d_Mo_merge_39 (by decide) (fun _ => ?_) (fun c9 => absurd c9 (by decide))
          refine lv_aload_n hx hb d_Mo_merge_63 rfl (lv_at hl 0 rfl) ?_
          refine lv_iconst (v := 0) hx hb d_Mo_merge_64 (by decide) ?_
          refine lv_sipush (v := 12356) hx hb d_Mo_merge_65 (by decide) ?_
          refine gx_call (ig := .invokevirtual 148) (c_Mo_done_v12 l htr D tys z _ ws12 A46 A47 A48 A49 A50 A51 A52 A53 A54 A62 A70 A78 A79 (u0) A80 A81 A82 A83 f_46_ws12) (gx_invV (As := [Value.int 0, Value.int 12356]) (rest := []) hx hb hown hts km_Mo_148 kI_Mo_done kV_Mo_done kc_Mo_done (by decide) (show (parseMethodDescriptor y_Mo_done.desc).map (fun d => d.parameters.length) = some 2 by decide +kernel) (gx_recv (ci := 8) hK hP rfl f_46_ws12) rfl rfl d_Mo_merge_68) (gx_cw (z := 0) hts kc_Mo_done kN_Mo rfl rfl ⟨Nat.le_of_ble_eq_true rfl, Nat.le_of_ble_eq_true rfl⟩) hb hml gx_blind (gx_pre hz hP hK hD hY hS hAz [Value.ref A46, Value.int 0, Value.int 12356]) rfl hl.1 (lv_room (Nat.le_of_ble_eq_true rfl)) d_Mo_merge_68 ⟨Nat.le_of_ble_eq_true rfl, Nat.le_of_ble_eq_true rfl⟩ (fun v13 st13 t13 L13 h0_13 hW_13 hQ_13 hL_13 => ?_) (fun v13 st13 t13 L13 h0_13 hW_13 hQ_13 hL_13 => ?_)
          · obtain ⟨ws14, hp, hP9, -, hD9, hS9⟩ := gx_back h0_13 hW_13 hQ_13 hL_13 hD hS hA
            clear hQ_13 h0_13 hL_13 hW_13 hP hD hS
            have hP := hP9
            have hD := hD9
            have hS := hS9
            clear hP9 hD9 hS9
            rcases hp with ⟨hv9, e_ws14, f_46_ws14⟩
            cases hv9
            have f_46_ws14 : ws14[46]? = some ((A46, Sum.inr (8, [Value.int 0, Value.int 2, Value.ref A47, Value.ref A48, Value.ref A49, Value.int 0, Value.ref A50, Value.ref A51, Value.ref A52, Value.ref A53, Value.int 0, Value.int 0, Value.int 0, Value.int (-1), Value.int 0, Value.ref A54, Value.ref A62, Value.ref A70, Value.int 0, Value.int 0, Value.int 0, Value.ref A78, Value.ref A79, Value.int 0, Value.int 16, Value.int 4, u0, Value.ref A80, Value.ref A81, Value.ref A82, Value.int 0, Value.ref A83, Value.int 0, Value.int 0, Value.int 0])) : Nat × va_E) := f_46_ws14
            replace hU : gx_g ws ws14 0 [46] := hU.call e_ws14 (by simp; first | done | omega)
            refine W.eq (g2 := F0 m 71 ls [Value.int 0]) rfl ?_
            generalize t13.heap = H at hP hS ⊢
            generalize locs ++ L13 = locs at hS ⊢
            exact gx_ret (W.iret (v := 0) hx hb hr (gx_post hP hK hD hS (by rw [← hPQ]; exact Or.inr (Or.inl ⟨rfl, hU, f_46_ws14, c2_1, c7_8⟩))) hS.2.2 d_Mo_merge_71)
          · obtain ⟨E9, ws15, ce, hp, hce, hP9, -, hD9, hS9⟩ := gx_backT h0_13 hW_13 hQ_13 hL_13 hD hS hA
            clear hQ_13 h0_13 hL_13 hW_13 hP hD hS
            have hP := hP9
            have hD := hD9
            have hS := hS9
            clear hP9 hD9 hS9
            rcases hp with ⟨hv9, e_ws15, f_46_ws15⟩
            cases hv9
        · obtain ⟨E9, ws16, ce, hp, hce, hP9, -, hD9, hS9⟩ := gx_backT h0_11 hW_11 hQ_11 hL_11 hD hS hA
          clear hQ_11 h0_11 hL_11 hW_11 hP hD hS
          have hP := hP9
          have hD := hD9
          have hS := hS9
          clear hP9 hD9 hS9
          rcases hp with ⟨hv9, e_ws16, f_46_ws16⟩
          cases hv9
      · obtain ⟨E9, ws17, ce, hp, hce, hP9, -, hD9, hS9⟩ := gx_backT h0_9 hW_9 hQ_9 hL_9 hD hS hA
        clear hQ_9 h0_9 hL_9 hW_9 hP hD hS
        have hP := hP9
        have hD := hD9
        have hS := hS9
        clear hP9 hD9 hS9
        rcases hp with ⟨hv9, e_ws17⟩
        cases hv9
    · refine lv_iconst (v := 1) hx hb d_Mo_merge_10 (by decide) ?_
      refine lv_goto (tgt := 15) hx hb d_Mo_merge_11 (by decide) ?_
      refine lv_iconst (v := 1) hx hb d_Mo_merge_15 (by decide) ?_
      refine gx_call (ig := .invokevirtual 152) (c_Mo_wrong_v1 l htr D tys z _ ws A46 A47 A48 A49 A50 A51 A52 A53 A54 A62 A70 A78 A79 (u0) A80 A81 A82 A83 f_46) (gx_invV (As := [Value.int 1, Value.int 1]) (rest := []) hx hb hown hts km_Mo_152 kI_Mo_wrong kV_Mo_wrong kc_Mo_wrong (by decide) (show (parseMethodDescriptor y_Mo_wrong.desc).map (fun d => d.parameters.length) = some 2 by decide +kernel) (gx_recv (ci := 8) hK hP rfl f_46) rfl rfl d_Mo_merge_16) (gx_cw (z := 0) hts kc_Mo_wrong kN_Mo rfl rfl ⟨Nat.le_of_ble_eq_true rfl, Nat.le_of_ble_eq_true rfl⟩) hb hml gx_blind (gx_pre hz hP hK hD hY hS hAz [Value.ref A46, Value.int 1, Value.int 1]) rfl hl.1 (lv_room (Nat.le_of_ble_eq_true rfl)) d_Mo_merge_16 ⟨Nat.le_of_ble_eq_true rfl, Nat.le_of_ble_eq_true rfl⟩ (fun v18 st18 t18 L18 h0_18 hW_18 hQ_18 hL_18 => ?_) (fun v18 st18 t18 L18 h0_18 hW_18 hQ_18 hL_18 => ?_)
      · obtain ⟨ws19, hp, hP9, -, hD9, hS9⟩ := gx_back h0_18 hW_18 hQ_18 hL_18 hD hS hA
        clear hQ_18 h0_18 hL_18 hW_18 hP hD hS
        have hP := hP9
        have hD := hD9
        have hS := hS9
        clear hP9 hD9 hS9
        rcases hp with ⟨hv9, e_ws19, f_46_ws19⟩
        cases hv9
        have f_46_ws19 : ws19[46]? = some ((A46, Sum.inr (8, [Value.int 1, Value.int 0, Value.ref A47, Value.ref A48, Value.ref A49, Value.int 0, Value.ref A50, Value.ref A51, Value.ref A52, Value.ref A53, Value.int 0, Value.int 0, Value.int 0, Value.int (-1), Value.int 0, Value.ref A54, Value.ref A62, Value.ref A70, Value.int 0, Value.int 0, Value.int 0, Value.ref A78, Value.ref A79, Value.int 0, Value.int 16, Value.int 4, u0, Value.ref A80, Value.ref A81, Value.ref A82, Value.int 0, Value.ref A83, Value.int 0, Value.int 0, Value.int 0])) : Nat × va_E) := f_46_ws19
        replace hU : gx_g ws ws19 0 [46] := hU.call e_ws19 (by simp; first | done | omega)
        refine W.eq (g2 := F0 m 19 ls [Value.int 1]) rfl ?_
        generalize t18.heap = H at hP hS ⊢
        generalize [] ++ L18 = locs at hS ⊢
        refine lv_if_ne (tgt := 63) hx hb d_Mo_merge_19 (by decide) (fun _ => ?_) (fun c9 => absurd c9 (by decide))
        refine lv_aload_n hx hb d_Mo_merge_63 rfl (lv_at hl 0 rfl) ?_
        refine lv_iconst (v := 0) hx hb d_Mo_merge_64 (by decide) ?_
        refine lv_sipush (v := 12356) hx hb d_Mo_merge_65 (by decide) ?_
        refine gx_call (ig := .invokevirtual 148) (c_Mo_done_v11 l htr D tys z _ ws19 A46 A47 A48 A49 A50 A51 A52 A53 A54 A62 A70 A78 A79 (u0) A80 A81 A82 A83 f_46_ws19) (gx_invV (As := [Value.int 0, Value.int 12356]) (rest := []) hx hb hown hts km_Mo_148 kI_Mo_done kV_Mo_done kc_Mo_done (by decide) (show (parseMethodDescriptor y_Mo_done.desc).map (fun d => d.parameters.length) = some 2 by decide +kernel) (gx_recv (ci := 8) hK hP rfl f_46_ws19) rfl rfl d_Mo_merge_68) (gx_cw (z := 0) hts kc_Mo_done kN_Mo rfl rfl ⟨Nat.le_of_ble_eq_true rfl, Nat.le_of_ble_eq_true rfl⟩) hb hml gx_blind (gx_pre hz hP hK hD hY hS hAz [Value.ref A46, Value.int 0, Value.int 12356]) rfl hl.1 (lv_room (Nat.le_of_ble_eq_true rfl)) d_Mo_merge_68 ⟨Nat.le_of_ble_eq_true rfl, Nat.le_of_ble_eq_true rfl⟩ (fun v20 st20 t20 L20 h0_20 hW_20 hQ_20 hL_20 => ?_) (fun v20 st20 t20 L20 h0_20 hW_20 hQ_20 hL_20 => ?_)
        · obtain ⟨ws21, hp, hP9, -, hD9, hS9⟩ := gx_back h0_20 hW_20 hQ_20 hL_20 hD hS hA
          clear hQ_20 h0_20 hL_20 hW_20 hP hD hS
          have hP := hP9
          have hD := hD9
          have hS := hS9
          clear hP9 hD9 hS9
          rcases hp with ⟨hv9, e_ws21, f_46_ws21⟩
          cases hv9
          have f_46_ws21 : ws21[46]? = some ((A46, Sum.inr (8, [Value.int 0, Value.int 1, Value.ref A47, Value.ref A48, Value.ref A49, Value.int 0, Value.ref A50, Value.ref A51, Value.ref A52, Value.ref A53, Value.int 0, Value.int 0, Value.int 0, Value.int (-1), Value.int 0, Value.ref A54, Value.ref A62, Value.ref A70, Value.int 0, Value.int 0, Value.int 0, Value.ref A78, Value.ref A79, Value.int 0, Value.int 16, Value.int 4, u0, Value.ref A80, Value.ref A81, Value.ref A82, Value.int 0, Value.ref A83, Value.int 0, Value.int 0, Value.int 0])) : Nat × va_E) := f_46_ws21
          replace hU : gx_g ws ws21 0 [46] := hU.call e_ws21 (by simp; first | done | omega)
          refine W.eq (g2 := F0 m 71 ls [Value.int 0]) rfl ?_
          generalize t20.heap = H at hP hS ⊢
          generalize locs ++ L20 = locs at hS ⊢
          exact gx_ret (W.iret (v := 0) hx hb hr (gx_post hP hK hD hS (by rw [← hPQ]; exact Or.inr (Or.inr (⟨rfl, hU, f_46_ws21, c2_1, c7_8⟩)))) hS.2.2 d_Mo_merge_71)
        · obtain ⟨E9, ws22, ce, hp, hce, hP9, -, hD9, hS9⟩ := gx_backT h0_20 hW_20 hQ_20 hL_20 hD hS hA
          clear hQ_20 h0_20 hL_20 hW_20 hP hD hS
          have hP := hP9
          have hD := hD9
          have hS := hS9
          clear hP9 hD9 hS9
          rcases hp with ⟨hv9, e_ws22, f_46_ws22⟩
          cases hv9
      · obtain ⟨E9, ws23, ce, hp, hce, hP9, -, hD9, hS9⟩ := gx_backT h0_18 hW_18 hQ_18 hL_18 hD hS hA
        clear hQ_18 h0_18 hL_18 hW_18 hP hD hS
        have hP := hP9
        have hD := hD9
        have hS := hS9
        clear hP9 hD9 hS9
        rcases hp with ⟨hv9, e_ws23, f_46_ws23⟩
        cases hv9

set_option maxHeartbeats 4000000 in
set_option maxRecDepth 100000 in
theorem c_Mo_done_v13 (l : Launch) (htr : l.stackTraces = false) (D : va_G) (tys : List (ClassId × FieldType)) (z sz : Nat) (ws : va_W) (A46 : Nat) (A47 : Nat) (A48 : Nat) (A49 : Nat) (A50 : Nat) (A51 : Nat) (A52 : Nat) (A53 : Nat) (A54 : Nat) (A62 : Nat) (A70 : Nat) (A78 : Nat) (A79 : Nat) (u0 : Value) (A80 : Nat) (A81 : Nat) (A82 : Nat) (A83 : Nat) (f_46 : ws[46]? = some ((A46, Sum.inr (8, [Value.int 2, Value.int 0, Value.ref A47, Value.ref A48, Value.ref A49, Value.int 0, Value.ref A50, Value.ref A51, Value.ref A52, Value.ref A53, Value.int 0, Value.int 0, Value.int 0, Value.int (-1), Value.int 0, Value.ref A54, Value.ref A62, Value.ref A70, Value.int 0, Value.int 0, Value.int 0, Value.ref A78, Value.ref A79, Value.int 0, Value.int 16, Value.int 4, u0, Value.ref A80, Value.ref A81, Value.ref A82, Value.int 0, Value.ref A83, Value.int 0, Value.int 0, Value.int 0])) : Nat × va_E)) : gx_Met l y_Mo_done [Cond.code y_Mo_done b_Mo_done 6 (some .int)] { frames := 1, cells := 0, slots := 0, locals := 12 } (gx_P z sz D classes tys ws [Value.ref A46, Value.int 0, Value.int 23]) (gx_Q D classes tys (va_A ws sz) (fun r ws' => (r = Sum.inl (some (Value.int 0)) ∧ gx_g ws ws' 0 [46] ∧ ws'[46]? = some ((A46, Sum.inr (8, [Value.int 0, Value.int 1, Value.ref A47, Value.ref A48, Value.ref A49, Value.int 0, Value.ref A50, Value.ref A51, Value.ref A52, Value.ref A53, Value.int 0, Value.int 0, Value.int 0, Value.int (-1), Value.int 0, Value.ref A54, Value.ref A62, Value.ref A70, Value.int 0, Value.int 0, Value.int 0, Value.ref A78, Value.ref A79, Value.int 0, Value.int 16, Value.int 4, u0, Value.ref A80, Value.ref A81, Value.ref A82, Value.int 0, Value.ref A83, Value.int 0, Value.int 0, Value.int 0])) : Nat × va_E)))) 0 0 (va_A ws sz) := by
  refine gx_ofW (cc := b_Mo_done) (maxL := 6) (ret := (some .int)) (by decide) rfl ?_
  intro p e s m args below meth c s₁ B hml hv
  obtain ⟨rfl, hsz, hz, hP, hK, hD0, hY⟩ := hv
  have hx := B.exec
  have hb := B.bytes
  have hr := B.returns
  have hts := hY.hts (#[Value.ref A46, Value.int 0, Value.int 23] : Array Value)
  have hown : s.vm.findClass "CommitLedgerModel" = some m.cls := findClass_of_methodNamed B.named
  have hlocks := B.notSynchronized
  have hne : c.exceptionTable.isEmpty = true := B.noHandlers (atoms_spec (ws := [Cond.code y_Mo_done b_Mo_done 6 (some .int)]) B.pre _ List.mem_cons_self)
  subst hsz
  have hAz := gx_az hD0 hz
  have hD := hD0.self (sz := s.heap.size)
  have hN := gx_ns hP
  have hA : ∀ q : Nat, s.heap.size ≤ q → va_A ws s.heap.size q := fun q h => Or.inr h
  generalize va_A ws s.heap.size = A at hD hN hA hAz ⊢
  generalize hPQ : (fun (r : Option Value ⊕ String) (ws' : va_W) => (r = Sum.inl (some (Value.int 0)) ∧ gx_g ws ws' 0 [46] ∧ ws'[46]? = some ((A46, Sum.inr (8, [Value.int 0, Value.int 1, Value.ref A47, Value.ref A48, Value.ref A49, Value.int 0, Value.ref A50, Value.ref A51, Value.ref A52, Value.ref A53, Value.int 0, Value.int 0, Value.int 0, Value.int (-1), Value.int 0, Value.ref A54, Value.ref A62, Value.ref A70, Value.int 0, Value.int 0, Value.int 0, Value.ref A78, Value.ref A79, Value.int 0, Value.int 16, Value.int 4, u0, Value.ref A80, Value.ref A81, Value.ref A82, Value.int 0, Value.ref A83, Value.int 0, Value.int 0, Value.int 0])) : Nat × va_E))) = PQ
  have hS : va_S A s.heap s.heap [] := va_S.rf
  have hU : gx_g ws ws 0 [46] := gx_g.rf
  have hl := lv_entry ([Value.ref A46, Value.int 0, Value.int 23]) (n := 6) (Nat.le_of_ble_eq_true rfl)
  rw [lg_entry_eq]
  generalize (lg_sl ([Value.ref A46, Value.int 0, Value.int 23]) ++ List.replicate (6 - (lg_sl ([Value.ref A46, Value.int 0, Value.int 23])).length) Slot.unset).toArray = ls at hl ⊢
  have hl : lv_has ls 6 [(0, Value.ref A46), (1, Value.int 0), (2, Value.int 23)] := hl
  refine lv_aload_n hx hb d_Mo_done_0 rfl (lv_at hl 0 rfl) ?_
  refine lv_iconst (v := 0) hx hb d_Mo_done_1 (by decide) ?_
  refine va_put (D := D) (ci := 8) (v := Value.int 0) (ty := .int) (C := "CommitLedgerModel") (T := F_Mo) (N := 35) hx hb hts i_Mo t_Mo t_Mo_ok n_Mo hown hK hP hD hS 46 f_46 rfl 1 (by decide) (hts _ kf_Mo_80) (fun _ h9 => h9) rfl (by decide +kernel) rfl rfl (Nat.le_of_ble_eq_true rfl) d_Mo_done_2 (fun H locs hP9 hD9 hS9 => ?_)
  obtain ⟨ws1, e_ws1⟩ : ∃ x : va_W, x = ws.set 46 ((A46, Sum.inr (8, [Value.int 2, Value.int 0, Value.ref A47, Value.ref A48, Value.ref A49, Value.int 0, Value.ref A50, Value.ref A51, Value.ref A52, Value.ref A53, Value.int 0, Value.int 0, Value.int 0, Value.int (-1), Value.int 0, Value.ref A54, Value.ref A62, Value.ref A70, Value.int 0, Value.int 0, Value.int 0, Value.ref A78, Value.ref A79, Value.int 0, Value.int 16, Value.int 4, u0, Value.ref A80, Value.ref A81, Value.ref A82, Value.int 0, Value.ref A83, Value.int 0, Value.int 0, Value.int 0])) : Nat × va_E) := ⟨_, rfl⟩
  replace hP : va_P D classes ws1 H := by rw [e_ws1]; exact hP9
  replace hD : va_D A ws1 := by rw [e_ws1]; exact hD9
  replace hS := hS9
  clear hP9 hD9 hS9
  have f_46_ws1 : ws1[46]? = some ((A46, Sum.inr (8, [Value.int 2, Value.int 0, Value.ref A47, Value.ref A48, Value.ref A49, Value.int 0, Value.ref A50, Value.ref A51, Value.ref A52, Value.ref A53, Value.int 0, Value.int 0, Value.int 0, Value.int (-1), Value.int 0, Value.ref A54, Value.ref A62, Value.ref A70, Value.int 0, Value.int 0, Value.int 0, Value.ref A78, Value.ref A79, Value.int 0, Value.int 16, Value.int 4, u0, Value.ref A80, Value.ref A81, Value.ref A82, Value.int 0, Value.ref A83, Value.int 0, Value.int 0, Value.int 0])) : Nat × va_E) := by rw [e_ws1]; exact gs_self f_46
  replace hU : gx_g ws ws1 0 [46] := by rw [e_ws1]; exact hU.put (Or.inl (by simp))
  refine lv_iconst (v := 0) hx hb d_Mo_done_5 (by decide) ?_
  refine lv_istore_n (lv' := [(3, Value.int 0), (0, Value.ref A46), (1, Value.int 0), (2, Value.int 23)]) hx hb d_Mo_done_6 rfl hl (by decide) rfl (fun ls hl => ?_)
  refine lv_ldc (v := 100000) hx hb hown (hts _ ki_Mo_83) d_Mo_done_7 ?_
  refine lv_istore (lv' := [(4, Value.int 100000), (3, Value.int 0), (0, Value.ref A46), (1, Value.int 0), (2, Value.int 23)]) hx hb d_Mo_done_9 hl (by decide) rfl (fun ls hl => ?_)
  refine lv_iload hx hb d_Mo_done_11 (lv_at hl 0 rfl) ?_
  refine lv_if_le (tgt := 60) hx hb d_Mo_done_13 (by decide) (fun c9 => absurd c9 (by decide)) (fun _ => ?_)
  refine lv_iload_n hx hb d_Mo_done_16 rfl (lv_at hl 4 rfl) ?_
  refine lv_iload hx hb d_Mo_done_17 (lv_at hl 0 rfl) ?_
  refine lv_idiv hx hb d_Mo_done_19 (by decide) ?_
  refine gx_topi (y := 0) (by decide) ?_
  refine lv_bipush (v := 10) hx hb d_Mo_done_20 (by decide) ?_
  refine lv_irem hx hb d_Mo_done_22 (by decide) ?_
  refine gx_topi (y := 0) (by decide) ?_
  refine lv_istore (lv' := [(5, Value.int 0), (4, Value.int 100000), (3, Value.int 0), (0, Value.ref A46), (1, Value.int 0), (2, Value.int 23)]) hx hb d_Mo_done_23 hl (by decide) rfl (fun ls hl => ?_)
  refine lv_iload hx hb d_Mo_done_25 (lv_at hl 0 rfl) ?_
  refine lv_if_ne (tgt := 33) hx hb d_Mo_done_27 (by decide) (fun c9 => absurd (by decide) c9) (fun _ => ?_)
  refine lv_goto (tgt := 50) hx hb d_Mo_done_30 (by decide) ?_
  refine lv_iload hx hb d_Mo_done_50 (lv_at hl 1 rfl) ?_
  refine lv_bipush (v := 10) hx hb d_Mo_done_52 (by decide) ?_
  refine lv_idiv hx hb d_Mo_done_54 (by decide) ?_
  refine gx_topi (y := 10000) (by decide) ?_
  refine lv_istore (lv' := [(4, Value.int 10000), (5, Value.int 0), (3, Value.int 0), (0, Value.ref A46), (1, Value.int 0), (2, Value.int 23)]) hx hb d_Mo_done_55 hl (by decide) rfl (fun ls hl => ?_)
  refine lv_goto (tgt := 11) hx hb d_Mo_done_57 (by decide) ?_
  refine lv_iload hx hb d_Mo_done_11 (lv_at hl 0 rfl) ?_
  refine lv_if_le (tgt := 60) hx hb d_Mo_done_13 (by decide) (fun c9 => absurd c9 (by decide)) (fun _ => ?_)
  refine lv_iload_n hx hb d_Mo_done_16 rfl (lv_at hl 5 rfl) ?_
  refine lv_iload hx hb d_Mo_done_17 (lv_at hl 0 rfl) ?_
  refine lv_idiv hx hb d_Mo_done_19 (by decide) ?_
  refine gx_topi (y := 0) (by decide) ?_
  refine lv_bipush (v := 10) hx hb d_Mo_done_20 (by decide) ?_
  refine lv_irem hx hb d_Mo_done_22 (by decide) ?_
  refine gx_topi (y := 0) (by decide) ?_
  refine lv_istore (lv' := [(5, Value.int 0), (4, Value.int 10000), (3, Value.int 0), (0, Value.ref A46), (1, Value.int 0), (2, Value.int 23)]) hx hb d_Mo_done_23 hl (by decide) rfl (fun ls hl => ?_)
  refine lv_iload hx hb d_Mo_done_25 (lv_at hl 0 rfl) ?_
  refine lv_if_ne (tgt := 33) hx hb d_Mo_done_27 (by decide) (fun c9 => absurd (by decide) c9) (fun _ => ?_)
  refine lv_goto (tgt := 50) hx hb d_Mo_done_30 (by decide) ?_
  refine lv_iload hx hb d_Mo_done_50 (lv_at hl 1 rfl) ?_
  refine lv_bipush (v := 10) hx hb d_Mo_done_52 (by decide) ?_
  refine lv_idiv hx hb d_Mo_done_54 (by decide) ?_
  refine gx_topi (y := 1000) (by decide) ?_
  refine lv_istore (lv' := [(4, Value.int 1000), (5, Value.int 0), (3, Value.int 0), (0, Value.ref A46), (1, Value.int 0), (2, Value.int 23)]) hx hb d_Mo_done_55 hl (by decide) rfl (fun ls hl => ?_)
  refine lv_goto (tgt := 11) hx hb d_Mo_done_57 (by decide) ?_
  refine lv_iload hx hb d_Mo_done_11 (lv_at hl 0 rfl) ?_
  refine lv_if_le (tgt := 60) hx hb d_Mo_done_13 (by decide) (fun c9 => absurd c9 (by decide)) (fun _ => ?_)
  refine lv_iload_n hx hb d_Mo_done_16 rfl (lv_at hl 5 rfl) ?_
  refine lv_iload hx hb d_Mo_done_17 (lv_at hl 0 rfl) ?_
  refine lv_idiv hx hb d_Mo_done_19 (by decide) ?_
  refine gx_topi (y := 0) (by decide) ?_
  refine lv_bipush (v := 10) hx hb d_Mo_done_20 (by decide) ?_
  refine lv_irem hx hb d_Mo_done_22 (by decide) ?_
  refine gx_topi (y := 0) (by decide) ?_
  refine lv_istore (lv' := [(5, Value.int 0), (4, Value.int 1000), (3, Value.int 0), (0, Value.ref A46), (1, Value.int 0), (2, Value.int 23)]) hx hb d_Mo_done_23 hl (by decide) rfl (fun ls hl => ?_)
  refine lv_iload hx hb d_Mo_done_25 (lv_at hl 0 rfl) ?_
  refine lv_if_ne (tgt := 33) hx hb d_Mo_done_27 (by decide) (fun c9 => absurd (by decide) c9) (fun _ => ?_)
  refine lv_goto (tgt := 50) hx hb d_Mo_done_30 (by decide) ?_
  refine lv_iload hx hb d_Mo_done_50 (lv_at hl 1 rfl) ?_
  refine lv_bipush (v := 10) hx hb d_Mo_done_52 (by decide) ?_
  refine lv_idiv hx hb d_Mo_done_54 (by decide) ?_
  refine gx_topi (y := 100) (by decide) ?_
  refine lv_istore (lv' := [(4, Value.int 100), (5, Value.int 0), (3, Value.int 0), (0, Value.ref A46), (1, Value.int 0), (2, Value.int 23)]) hx hb d_Mo_done_55 hl (by decide) rfl (fun ls hl => ?_)
  refine lv_goto (tgt := 11) hx hb d_Mo_done_57 (by decide) ?_
  refine lv_iload hx hb d_Mo_done_11 (lv_at hl 0 rfl) ?_
  refine lv_if_le (tgt := 60) hx hb d_Mo_done_13 (by decide) (fun c9 => absurd c9 (by decide)) (fun _ => ?_)
  refine lv_iload_n hx hb d_Mo_done_16 rfl (lv_at hl 5 rfl) ?_
  refine lv_iload hx hb d_Mo_done_17 (lv_at hl 0 rfl) ?_
  refine lv_idiv hx hb d_Mo_done_19 (by decide) ?_
  refine gx_topi (y := 0) (by decide) ?_
  refine lv_bipush (v := 10) hx hb d_Mo_done_20 (by decide) ?_
  refine lv_irem hx hb d_Mo_done_22 (by decide) ?_
  refine gx_topi (y := 0) (by decide) ?_
  refine lv_istore (lv' := [(5, Value.int 0), (4, Value.int 100), (3, Value.int 0), (0, Value.ref A46), (1, Value.int 0), (2, Value.int 23)]) hx hb d_Mo_done_23 hl (by decide) rfl (fun ls hl => ?_)
  refine lv_iload hx hb d_Mo_done_25 (lv_at hl 0 rfl) ?_
  refine lv_if_ne (tgt := 33) hx hb d_Mo_done_27 (by decide) (fun c9 => absurd (by decide) c9) (fun _ => ?_)
  refine lv_goto (tgt := 50) hx hb d_Mo_done_30 (by decide) ?_
  refine lv_iload hx hb d_Mo_done_50 (lv_at hl 1 rfl) ?_
  refine lv_bipush (v := 10) hx hb d_Mo_done_52 (by decide) ?_
  refine lv_idiv hx hb d_Mo_done_54 (by decide) ?_
  refine gx_topi (y := 10) (by decide) ?_
  refine lv_istore (lv' := [(4, Value.int 10), (5, Value.int 0), (3, Value.int 0), (0, Value.ref A46), (1, Value.int 0), (2, Value.int 23)]) hx hb d_Mo_done_55 hl (by decide) rfl (fun ls hl => ?_)
  refine lv_goto (tgt := 11) hx hb d_Mo_done_57 (by decide) ?_
  refine lv_iload hx hb d_Mo_done_11 (lv_at hl 0 rfl) ?_
  refine lv_if_le (tgt := 60) hx hb d_Mo_done_13 (by decide) (fun c9 => absurd c9 (by decide)) (fun _ => ?_)
  refine lv_iload_n hx hb d_Mo_done_16 rfl (lv_at hl 5 rfl) ?_
  refine lv_iload hx hb d_Mo_done_17 (lv_at hl 0 rfl) ?_
  refine lv_idiv hx hb d_Mo_done_19 (by decide) ?_
  refine gx_topi (y := 2) (by decide) ?_
  refine lv_bipush (v := 10) hx hb d_Mo_done_20 (by decide) ?_
  refine lv_irem hx hb d_Mo_done_22 (by decide) ?_
  refine gx_topi (y := 2) (by decide) ?_
  refine lv_istore (lv' := [(5, Value.int 2), (4, Value.int 10), (3, Value.int 0), (0, Value.ref A46), (1, Value.int 0), (2, Value.int 23)]) hx hb d_Mo_done_23 hl (by decide) rfl (fun ls hl => ?_)
  refine lv_iload hx hb d_Mo_done_25 (lv_at hl 0 rfl) ?_
  refine lv_if_ne (tgt := 33) hx hb d_Mo_done_27 (by decide) (fun _ => ?_) (fun c9 => absurd c9 (by decide))
  refine lv_iinc (v := 1) (lv' := [(3, Value.int 1), (5, Value.int 2), (4, Value.int 10), (0, Value.ref A46), (1, Value.int 0), (2, Value.int 23)]) hx hb d_Mo_done_33 hl (k := 2) rfl (by decide) (by decide) rfl (fun ls hl => ?_)
  refine lv_iload hx hb d_Mo_done_36 (lv_at hl 1 rfl) ?_
  refine lv_aload_n hx hb d_Mo_done_38 rfl (lv_at hl 3 rfl) ?_
  refine va_get (D := D) (ci := 8) (v := Value.int 2) (C := "CommitLedgerModel") (T := F_Mo) (N := 35) hx hb hts i_Mo hown hK hP 46 f_46_ws1 rfl 0 (by decide) (hts _ kf_Mo_84) (fun _ h9 => h9) rfl d_Mo_done_39 ?_
  refine lv_icmp_ne (tgt := 50) hx hb d_Mo_done_42 (by decide) (fun c9 => absurd (by decide) c9) (fun _ => ?_)
  refine lv_aload_n hx hb d_Mo_done_45 rfl (lv_at hl 3 rfl) ?_
  refine lv_iload_n hx hb d_Mo_done_46 rfl (lv_at hl 0 rfl) ?_
  refine va_put (D := D) (ci := 8) (v := Value.int 1) (ty := .int) (C := "CommitLedgerModel") (T := F_Mo) (N := 35) hx hb hts i_Mo t_Mo t_Mo_ok n_Mo hown hK hP hD hS 46 f_46_ws1 rfl 1 (by decide) (hts _ kf_Mo_80) (fun _ h9 => h9) rfl (by decide +kernel) rfl rfl (Nat.le_of_ble_eq_true rfl) d_Mo_done_47 (fun H locs hP9 hD9 hS9 => ?_)
  obtain ⟨ws2, e_ws2⟩ : ∃ x : va_W, x = ws1.set 46 ((A46, Sum.inr (8, [Value.int 2, Value.int 1, Value.ref A47, Value.ref A48, Value.ref A49, Value.int 0, Value.ref A50, Value.ref A51, Value.ref A52, Value.ref A53, Value.int 0, Value.int 0, Value.int 0, Value.int (-1), Value.int 0, Value.ref A54, Value.ref A62, Value.ref A70, Value.int 0, Value.int 0, Value.int 0, Value.ref A78, Value.ref A79, Value.int 0, Value.int 16, Value.int 4, u0, Value.ref A80, Value.ref A81, Value.ref A82, Value.int 0, Value.ref A83, Value.int 0, Value.int 0, Value.int 0])) : Nat × va_E) := ⟨_, rfl⟩
  replace hP : va_P D classes ws2 H := by rw [e_ws2]; exact hP9
  replace hD : va_D A ws2 := by rw [e_ws2]; exact hD9
  replace hS := hS9
  clear hP9 hD9 hS9
  have f_46_ws2 : ws2[46]? = some ((A46, Sum.inr (8, [Value.int 2, Value.int 1, Value.ref A47, Value.ref A48, Value.ref A49, Value.int 0, Value.ref A50, Value.ref A51, Value.ref A52, Value.ref A53, Value.int 0, Value.int 0, Value.int 0, Value.int (-1), Value.int 0, Value.ref A54, Value.ref A62, Value.ref A70, Value.int 0, Value.int 0, Value.int 0, Value.ref A78, Value.ref A79, Value.int 0, Value.int 16, Value.int 4, u0, Value.ref A80, Value.ref A81, Value.ref A82, Value.int 0, Value.ref A83, Value.int 0, Value.int 0, Value.int 0])) : Nat × va_E) := by rw [e_ws2]; exact gs_self f_46_ws1
  replace hU : gx_g ws ws2 0 [46] := by rw [e_ws2]; exact hU.put (Or.inl (by simp))
  refine lv_iload hx hb d_Mo_done_50 (lv_at hl 2 rfl) ?_
  refine lv_bipush (v := 10) hx hb d_Mo_done_52 (by decide) ?_
  refine lv_idiv hx hb d_Mo_done_54 (by decide) ?_
  refine gx_topi (y := 1) (by decide) ?_
  refine lv_istore (lv' := [(4, Value.int 1), (3, Value.int 1), (5, Value.int 2), (0, Value.ref A46), (1, Value.int 0), (2, Value.int 23)]) hx hb d_Mo_done_55 hl (by decide) rfl (fun ls hl => ?_)
  refine lv_goto (tgt := 11) hx hb d_Mo_done_57 (by decide) ?_
  refine lv_iload hx hb d_Mo_done_11 (lv_at hl 0 rfl) ?_
  refine lv_if_le (tgt := 60) hx hb d_Mo_done_13 (by decide) (fun c9 => absurd c9 (by decide)) (fun _ => ?_)
  refine lv_iload_n hx hb d_Mo_done_16 rfl (lv_at hl 5 rfl) ?_
  refine lv_iload hx hb d_Mo_done_17 (lv_at hl 0 rfl) ?_
  refine lv_idiv hx hb d_Mo_done_19 (by decide) ?_
  refine gx_topi (y := 23) (by decide) ?_
  refine lv_bipush (v := 10) hx hb d_Mo_done_20 (by decide) ?_
  refine lv_irem hx hb d_Mo_done_22 (by decide) ?_
  refine gx_topi (y := 3) (by decide) ?_
  refine lv_istore (lv' := [(5, Value.int 3), (4, Value.int 1), (3, Value.int 1), (0, Value.ref A46), (1, Value.int 0), (2, Value.int 23)]) hx hb d_Mo_done_23 hl (by decide) rfl (fun ls hl => ?_)
  refine lv_iload hx hb d_Mo_done_25 (lv_at hl 0 rfl) ?_
  refine lv_if_ne (tgt := 33) hx hb d_Mo_done_27 (by decide) (fun _ => ?_) (fun c9 => absurd c9 (by decide))
  refine lv_iinc (v := 2) (lv' := [(3, Value.int 2), (5, Value.int 3), (4, Value.int 1), (0, Value.ref A46), (1, Value.int 0), (2, Value.int 23)]) hx hb d_Mo_done_33 hl (k := 2) rfl (by decide) (by decide) rfl (fun ls hl => ?_)
  refine lv_iload hx hb d_Mo_done_36 (lv_at hl 1 rfl) ?_
  refine lv_aload_n hx hb d_Mo_done_38 rfl (lv_at hl 3 rfl) ?_
  refine va_get (D := D) (ci := 8) (v := Value.int 2) (C := "CommitLedgerModel") (T := F_Mo) (N := 35) hx hb hts i_Mo hown hK hP 46 f_46_ws2 rfl 0 (by decide) (hts _ kf_Mo_84) (fun _ h9 => h9) rfl d_Mo_done_39 ?_
  refine lv_icmp_ne (tgt := 50) hx hb d_Mo_done_42 (by decide) (fun _ => ?_) (fun c9 => absurd c9 (by decide))
  refine lv_iload hx hb d_Mo_done_50 (lv_at hl 2 rfl) ?_
  refine lv_bipush (v := 10) hx hb d_Mo_done_52 (by decide) ?_
  refine lv_idiv hx hb d_Mo_done_54 (by decide) ?_
  refine gx_topi (y := 0) (by decide) ?_
  refine lv_istore (lv' := [(4, Value.int 0), (3, Value.int 2), (5, Value.int 3), (0, Value.ref A46), (1, Value.int 0), (2, Value.int 23)]) hx hb d_Mo_done_55 hl (by decide) rfl (fun ls hl => ?_)
  refine lv_goto (tgt := 11) hx hb d_Mo_done_57 (by decide) ?_
  refine lv_iload hx hb d_Mo_done_11 (lv_at hl 0 rfl) ?_
  refine lv_if_le (tgt := 60) hx hb d_Mo_done_13 (by decide) (fun _ => ?_) (fun c9 => absurd (by decide) c9)
  refine lv_aload_n hx hb d_Mo_done_60 rfl (lv_at hl 3 rfl) ?_
  refine lv_iconst (v := 0) hx hb d_Mo_done_61 (by decide) ?_
  refine va_put (D := D) (ci := 8) (v := Value.int 0) (ty := .int) (C := "CommitLedgerModel") (T := F_Mo) (N := 35) hx hb hts i_Mo t_Mo t_Mo_ok n_Mo hown hK hP hD hS 46 f_46_ws2 rfl 0 (by decide) (hts _ kf_Mo_84) (fun _ h9 => h9) rfl (by decide +kernel) rfl rfl (Nat.le_of_ble_eq_true rfl) d_Mo_done_62 (fun H locs hP9 hD9 hS9 => ?_)
  obtain ⟨ws3, e_ws3⟩ : ∃ x : va_W, x = ws2.set 46 ((A46, Sum.inr (8, [Value.int 0, Value.int 1, Value.ref A47, Value.ref A48, Value.ref A49, Value.int 0, Value.ref A50, Value.ref A51, Value.ref A52, Value.ref A53, Value.int 0, Value.int 0, Value.int 0, Value.int (-1), Value.int 0, Value.ref A54, Value.ref A62, Value.ref A70, Value.int 0, Value.int 0, Value.int 0, Value.ref A78, Value.ref A79, Value.int 0, Value.int 16, Value.int 4, u0, Value.ref A80, Value.ref A81, Value.ref A82, Value.int 0, Value.ref A83, Value.int 0, Value.int 0, Value.int 0])) : Nat × va_E) := ⟨_, rfl⟩
  replace hP : va_P D classes ws3 H := by rw [e_ws3]; exact hP9
  replace hD : va_D A ws3 := by rw [e_ws3]; exact hD9
  replace hS := hS9
  clear hP9 hD9 hS9
  have f_46_ws3 : ws3[46]? = some ((A46, Sum.inr (8, [Value.int 0, Value.int 1, Value.ref A47, Value.ref A48, Value.ref A49, Value.int 0, Value.ref A50, Value.ref A51, Value.ref A52, Value.ref A53, Value.int 0, Value.int 0, Value.int 0, Value.int (-1), Value.int 0, Value.ref A54, Value.ref A62, Value.ref A70, Value.int 0, Value.int 0, Value.int 0, Value.ref A78, Value.ref A79, Value.int 0, Value.int 16, Value.int 4, u0, Value.ref A80, Value.ref A81, Value.ref A82, Value.int 0, Value.ref A83, Value.int 0, Value.int 0, Value.int 0])) : Nat × va_E) := by rw [e_ws3]; exact gs_self f_46_ws2
  replace hU : gx_g ws ws3 0 [46] := by rw [e_ws3]; exact hU.put (Or.inl (by simp))
  refine lv_aload_n hx hb d_Mo_done_65 rfl (lv_at hl 3 rfl) ?_
  refine va_get (D := D) (ci := 8) (v := Value.int 1) (C := "CommitLedgerModel") (T := F_Mo) (N := 35) hx hb hts i_Mo hown hK hP 46 f_46_ws3 rfl 1 (by decide) (hts _ kf_Mo_80) (fun _ h9 => h9) rfl d_Mo_done_66 ?_
  refine lv_if_le (tgt := 76) hx hb d_Mo_done_69 (by decide) (fun c9 => absurd c9 (by decide)) (fun _ => ?_)
  refine lv_iconst (v := 0) hx hb d_Mo_done_72 (by decide) ?_
  refine lv_goto (tgt := 77) hx hb d_Mo_done_73 (by decide) ?_
  exact gx_ret (W.iret (v := 0) hx hb hr (gx_post hP hK hD hS (by rw [← hPQ]; exact ⟨rfl, hU, f_46_ws3⟩)) hS.2.2 d_Mo_done_77)

set_option maxHeartbeats 4000000 in
set_option maxRecDepth 100000 in
theorem c_Mo_finish_v1 (l : Launch) (htr : l.stackTraces = false) (D : va_G) (tys : List (ClassId × FieldType)) (z sz : Nat) (ws : va_W) (A46 : Nat) (p0 : Int32) (p1 : Int32) (A47 : Nat) (A48 : Nat) (A49 : Nat) (A50 : Nat) (A51 : Nat) (A52 : Nat) (A53 : Nat) (A54 : Nat) (A62 : Nat) (A70 : Nat) (A78 : Nat) (A79 : Nat) (u0 : Value) (A80 : Nat) (A81 : Nat) (A82 : Nat) (A83 : Nat) (f_46 : ws[46]? = some ((A46, Sum.inr (8, [Value.int 0, Value.int 0, Value.ref A47, Value.ref A48, Value.ref A49, Value.int 0, Value.ref A50, Value.ref A51, Value.ref A52, Value.ref A53, Value.int 0, Value.int 0, Value.int 0, Value.int (-1), Value.int 0, Value.ref A54, Value.ref A62, Value.ref A70, Value.int 0, Value.int 0, Value.int 0, Value.ref A78, Value.ref A79, Value.int 0, Value.int 16, Value.int 4, u0, Value.ref A80, Value.ref A81, Value.ref A82, Value.int 0, Value.ref A83, Value.int 0, Value.int 0, Value.int 0])) : Nat × va_E)) : gx_Met l y_Mo_finish [Cond.code y_Mo_finish b_Mo_finish 4 (some .int)] { frames := 2, cells := 0, slots := 0, locals := 37 } (gx_P z sz D classes tys ws [Value.ref A46, Value.int p0, Value.int p1]) (gx_Q D classes tys (va_A ws sz) (fun r ws' => (r = Sum.inl (some (Value.int 0)) ∧ gx_g ws ws' 0 [46] ∧ ws'[46]? = some ((A46, Sum.inr (8, [Value.int 0, Value.int 1, Value.ref A47, Value.ref A48, Value.ref A49, Value.int 0, Value.ref A50, Value.ref A51, Value.ref A52, Value.ref A53, Value.int 0, Value.int 0, Value.int 0, Value.int (-1), Value.int 0, Value.ref A54, Value.ref A62, Value.ref A70, Value.int 0, Value.int 0, Value.int 0, Value.ref A78, Value.ref A79, Value.int 0, Value.int 16, Value.int 4, u0, Value.ref A80, Value.ref A81, Value.ref A82, Value.int 0, Value.ref A83, Value.int 0, Value.int 0, Value.int 0])) : Nat × va_E)))) 0 0 (va_A ws sz) := by
  refine gx_ofW (cc := b_Mo_finish) (maxL := 4) (ret := (some .int)) (by decide) rfl ?_
  intro p e s m args below meth c s₁ B hml hv
  obtain ⟨rfl, hsz, hz, hP, hK, hD0, hY⟩ := hv
  have hx := B.exec
  have hb := B.bytes
  have hr := B.returns
  have hts := hY.hts (#[Value.ref A46, Value.int p0, Value.int p1] : Array Value)
  have hown : s.vm.findClass "CommitLedgerModel" = some m.cls := findClass_of_methodNamed B.named
  have hlocks := B.notSynchronized
  have hne : c.exceptionTable.isEmpty = true := B.noHandlers (atoms_spec (ws := [Cond.code y_Mo_finish b_Mo_finish 4 (some .int)]) B.pre _ List.mem_cons_self)
  subst hsz
  have hAz := gx_az hD0 hz
  have hD := hD0.self (sz := s.heap.size)
  have hN := gx_ns hP
  have hA : ∀ q : Nat, s.heap.size ≤ q → va_A ws s.heap.size q := fun q h => Or.inr h
  generalize va_A ws s.heap.size = A at hD hN hA hAz ⊢
  generalize hPQ : (fun (r : Option Value ⊕ String) (ws' : va_W) => (r = Sum.inl (some (Value.int 0)) ∧ gx_g ws ws' 0 [46] ∧ ws'[46]? = some ((A46, Sum.inr (8, [Value.int 0, Value.int 1, Value.ref A47, Value.ref A48, Value.ref A49, Value.int 0, Value.ref A50, Value.ref A51, Value.ref A52, Value.ref A53, Value.int 0, Value.int 0, Value.int 0, Value.int (-1), Value.int 0, Value.ref A54, Value.ref A62, Value.ref A70, Value.int 0, Value.int 0, Value.int 0, Value.ref A78, Value.ref A79, Value.int 0, Value.int 16, Value.int 4, u0, Value.ref A80, Value.ref A81, Value.ref A82, Value.int 0, Value.ref A83, Value.int 0, Value.int 0, Value.int 0])) : Nat × va_E))) = PQ
  have hS : va_S A s.heap s.heap [] := va_S.rf
  have hU : gx_g ws ws 0 [46] := gx_g.rf
  have hl := lv_entry ([Value.ref A46, Value.int p0, Value.int p1]) (n := 4) (Nat.le_of_ble_eq_true rfl)
  rw [lg_entry_eq]
  generalize (lg_sl ([Value.ref A46, Value.int p0, Value.int p1]) ++ List.replicate (4 - (lg_sl ([Value.ref A46, Value.int p0, Value.int p1])).length) Slot.unset).toArray = ls at hl ⊢
  have hl : lv_has ls 4 [(0, Value.ref A46), (1, Value.int p0), (2, Value.int p1)] := hl
  refine lv_iconst (v := 0) hx hb d_Mo_finish_0 (by decide) ?_
  refine lv_istore_n (lv' := [(3, Value.int 0), (0, Value.ref A46), (1, Value.int p0), (2, Value.int p1)]) hx hb d_Mo_finish_1 rfl hl (by decide) rfl (fun ls hl => ?_)
  refine lv_iload_n hx hb d_Mo_finish_2 rfl (lv_at hl 0 rfl) ?_
  refine lv_aload_n hx hb d_Mo_finish_3 rfl (lv_at hl 1 rfl) ?_
  refine va_get (D := D) (ci := 8) (v := Value.int 0) (C := "CommitLedgerModel") (T := F_Mo) (N := 35) hx hb hts i_Mo hown hK hP 46 f_46 rfl 30 (by decide) (hts _ kf_Mo_106) (fun _ h9 => h9) rfl d_Mo_finish_4 ?_
  refine lv_icmp_ge (tgt := 26) hx hb d_Mo_finish_7 (by decide) (fun _ => ?_) (fun c9 => absurd (by decide) c9)
  refine lv_aload_n hx hb d_Mo_finish_26 rfl (lv_at hl 1 rfl) ?_
  refine lv_aload_n hx hb d_Mo_finish_27 rfl (lv_at hl 1 rfl) ?_
  refine va_get (D := D) (ci := 8) (v := Value.int 0) (C := "CommitLedgerModel") (T := F_Mo) (N := 35) hx hb hts i_Mo hown hK hP 46 f_46 rfl 18 (by decide) (hts _ kf_Mo_99) (fun _ h9 => h9) rfl d_Mo_finish_28 ?_
  refine lv_if_ne (tgt := 38) hx hb d_Mo_finish_31 (by decide) (fun c9 => absurd (by decide) c9) (fun _ => ?_)
  refine lv_iconst (v := 1) hx hb d_Mo_finish_34 (by decide) ?_
  refine lv_goto (tgt := 39) hx hb d_Mo_finish_35 (by decide) ?_
  refine lv_iconst (v := 2) hx hb d_Mo_finish_39 (by decide) ?_
  refine gx_call (ig := .invokevirtual 152) (c_Mo_wrong_v5 l htr D tys z _ ws A46 A47 A48 A49 A50 A51 A52 A53 A54 A62 A70 A78 A79 (u0) A80 A81 A82 A83 f_46) (gx_invV (As := [Value.int 1, Value.int 2]) (rest := []) hx hb hown hts km_Mo_152 kI_Mo_wrong kV_Mo_wrong kc_Mo_wrong (by decide) (show (parseMethodDescriptor y_Mo_wrong.desc).map (fun d => d.parameters.length) = some 2 by decide +kernel) (gx_recv (ci := 8) hK hP rfl f_46) rfl rfl d_Mo_finish_40) (gx_cw (z := 0) hts kc_Mo_wrong kN_Mo rfl rfl ⟨Nat.le_of_ble_eq_true rfl, Nat.le_of_ble_eq_true rfl⟩) hb hml gx_blind (gx_pre hz hP hK hD hY hS hAz [Value.ref A46, Value.int 1, Value.int 2]) rfl hl.1 (lv_room (Nat.le_of_ble_eq_true rfl)) d_Mo_finish_40 ⟨Nat.le_of_ble_eq_true rfl, Nat.le_of_ble_eq_true rfl⟩ (fun v1 st1 t1 L1 h0_1 hW_1 hQ_1 hL_1 => ?_) (fun v1 st1 t1 L1 h0_1 hW_1 hQ_1 hL_1 => ?_)
  · obtain ⟨ws2, hp, hP9, -, hD9, hS9⟩ := gx_back h0_1 hW_1 hQ_1 hL_1 hD hS hA
    clear hQ_1 h0_1 hL_1 hW_1 hP hD hS
    have hP := hP9
    have hD := hD9
    have hS := hS9
    clear hP9 hD9 hS9
    rcases hp with ⟨hv9, e_ws2, f_46_ws2⟩
    cases hv9
    have f_46_ws2 : ws2[46]? = some ((A46, Sum.inr (8, [Value.int 2, Value.int 0, Value.ref A47, Value.ref A48, Value.ref A49, Value.int 0, Value.ref A50, Value.ref A51, Value.ref A52, Value.ref A53, Value.int 0, Value.int 0, Value.int 0, Value.int (-1), Value.int 0, Value.ref A54, Value.ref A62, Value.ref A70, Value.int 0, Value.int 0, Value.int 0, Value.ref A78, Value.ref A79, Value.int 0, Value.int 16, Value.int 4, u0, Value.ref A80, Value.ref A81, Value.ref A82, Value.int 0, Value.ref A83, Value.int 0, Value.int 0, Value.int 0])) : Nat × va_E) := f_46_ws2
    replace hU : gx_g ws ws2 0 [46] := hU.call e_ws2 (by simp; first | done | omega)
    refine W.eq (g2 := F0 m 43 ls [Value.int 1]) rfl ?_
    generalize t1.heap = H at hP hS ⊢
    generalize [] ++ L1 = locs at hS ⊢
    refine lv_if_ne (tgt := 67) hx hb d_Mo_finish_43 (by decide) (fun _ => ?_) (fun c9 => absurd c9 (by decide))
    refine lv_aload_n hx hb d_Mo_finish_67 rfl (lv_at hl 1 rfl) ?_
    refine lv_iconst (v := 0) hx hb d_Mo_finish_68 (by decide) ?_
    refine lv_bipush (v := 23) hx hb d_Mo_finish_69 (by decide) ?_
    refine gx_call (ig := .invokevirtual 148) (c_Mo_done_v13 l htr D tys z _ ws2 A46 A47 A48 A49 A50 A51 A52 A53 A54 A62 A70 A78 A79 (u0) A80 A81 A82 A83 f_46_ws2) (gx_invV (As := [Value.int 0, Value.int 23]) (rest := []) hx hb hown hts km_Mo_148 kI_Mo_done kV_Mo_done kc_Mo_done (by decide) (show (parseMethodDescriptor y_Mo_done.desc).map (fun d => d.parameters.length) = some 2 by decide +kernel) (gx_recv (ci := 8) hK hP rfl f_46_ws2) rfl rfl d_Mo_finish_71) (gx_cw (z := 0) hts kc_Mo_done kN_Mo rfl rfl ⟨Nat.le_of_ble_eq_true rfl, Nat.le_of_ble_eq_true rfl⟩) hb hml gx_blind (gx_pre hz hP hK hD hY hS hAz [Value.ref A46, Value.int 0, Value.int 23]) rfl hl.1 (lv_room (Nat.le_of_ble_eq_true rfl)) d_Mo_finish_71 ⟨Nat.le_of_ble_eq_true rfl, Nat.le_of_ble_eq_true rfl⟩ (fun v3 st3 t3 L3 h0_3 hW_3 hQ_3 hL_3 => ?_) (fun v3 st3 t3 L3 h0_3 hW_3 hQ_3 hL_3 => ?_)
    · obtain ⟨ws4, hp, hP9, -, hD9, hS9⟩ := gx_back h0_3 hW_3 hQ_3 hL_3 hD hS hA
      clear hQ_3 h0_3 hL_3 hW_3 hP hD hS
      have hP := hP9
      have hD := hD9
      have hS := hS9
      clear hP9 hD9 hS9
      rcases hp with ⟨hv9, e_ws4, f_46_ws4⟩
      cases hv9
      have f_46_ws4 : ws4[46]? = some ((A46, Sum.inr (8, [Value.int 0, Value.int 1, Value.ref A47, Value.ref A48, Value.ref A49, Value.int 0, Value.ref A50, Value.ref A51, Value.ref A52, Value.ref A53, Value.int 0, Value.int 0, Value.int 0, Value.int (-1), Value.int 0, Value.ref A54, Value.ref A62, Value.ref A70, Value.int 0, Value.int 0, Value.int 0, Value.ref A78, Value.ref A79, Value.int 0, Value.int 16, Value.int 4, u0, Value.ref A80, Value.ref A81, Value.ref A82, Value.int 0, Value.ref A83, Value.int 0, Value.int 0, Value.int 0])) : Nat × va_E) := f_46_ws4
      replace hU : gx_g ws ws4 0 [46] := hU.call e_ws4 (by simp; first | done | omega)
      refine W.eq (g2 := F0 m 74 ls [Value.int 0]) rfl ?_
      generalize t3.heap = H at hP hS ⊢
      generalize locs ++ L3 = locs at hS ⊢
      exact gx_ret (W.iret (v := 0) hx hb hr (gx_post hP hK hD hS (by rw [← hPQ]; exact ⟨rfl, hU, f_46_ws4⟩)) hS.2.2 d_Mo_finish_74)
    · obtain ⟨E9, ws5, ce, hp, hce, hP9, -, hD9, hS9⟩ := gx_backT h0_3 hW_3 hQ_3 hL_3 hD hS hA
      clear hQ_3 h0_3 hL_3 hW_3 hP hD hS
      have hP := hP9
      have hD := hD9
      have hS := hS9
      clear hP9 hD9 hS9
      rcases hp with ⟨hv9, e_ws5, f_46_ws5⟩
      cases hv9
  · obtain ⟨E9, ws6, ce, hp, hce, hP9, -, hD9, hS9⟩ := gx_backT h0_1 hW_1 hQ_1 hL_1 hD hS hA
    clear hQ_1 h0_1 hL_1 hW_1 hP hD hS
    have hP := hP9
    have hD := hD9
    have hS := hS9
    clear hP9 hD9 hS9
    rcases hp with ⟨hv9, e_ws6, f_46_ws6⟩
    cases hv9
