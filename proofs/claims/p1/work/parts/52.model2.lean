/-! CONTRACTS of the reference on a new object, rows printed by an own text program -/
set_option maxHeartbeats 4000000 in
set_option maxRecDepth 100000 in
theorem c_Mo_prepare_v1 (l : Launch) (htr : l.stackTraces = false) (D : va_G) (tys : List (ClassId × FieldType)) (z sz : Nat) (ws : va_W) (A46 : Nat) (A47 : Nat) (A48 : Nat) (A49 : Nat) (A50 : Nat) (A51 : Nat) (A52 : Nat) (A53 : Nat) (A54 : Nat) (A62 : Nat) (A70 : Nat) (A78 : Nat) (A79 : Nat) (u0 : Value) (A80 : Nat) (A81 : Nat) (A82 : Nat) (A83 : Nat) (f_46 : ws[46]? = some ((A46, Sum.inr (8, [Value.int 0, Value.int 0, Value.ref A47, Value.ref A48, Value.ref A49, Value.int 0, Value.ref A50, Value.ref A51, Value.ref A52, Value.ref A53, Value.int 0, Value.int 0, Value.int 0, Value.int (-1), Value.int 0, Value.ref A54, Value.ref A62, Value.ref A70, Value.int 0, Value.int 0, Value.int 0, Value.ref A78, Value.ref A79, Value.int 0, Value.int 16, Value.int 4, u0, Value.ref A80, Value.ref A81, Value.ref A82, Value.int 0, Value.ref A83, Value.int 0, Value.int 0, Value.int 0])) : Nat × va_E)) : gx_Met l y_Mo_prepare [Cond.code y_Mo_prepare b_Mo_prepare 1 (some .int)] { frames := 2, cells := 0, slots := 0, locals := 37 } (gx_P z sz D classes tys ws [Value.ref A46]) (gx_Q D classes tys (va_A ws sz) (fun r ws' => (r = Sum.inl (some (Value.int 0)) ∧ gx_g ws ws' 0 [46] ∧ ws'[46]? = some ((A46, Sum.inr (8, [Value.int 0, Value.int 1, Value.ref A47, Value.ref A48, Value.ref A49, Value.int 0, Value.ref A50, Value.ref A51, Value.ref A52, Value.ref A53, Value.int 0, Value.int 0, Value.int 0, Value.int (-1), Value.int 0, Value.ref A54, Value.ref A62, Value.ref A70, Value.int 0, Value.int 0, Value.int 0, Value.ref A78, Value.ref A79, Value.int 0, Value.int 16, Value.int 4, u0, Value.ref A80, Value.ref A81, Value.ref A82, Value.int 0, Value.ref A83, Value.int 0, Value.int 0, Value.int 0])) : Nat × va_E)))) 0 0 (va_A ws sz) := by
  refine gx_ofW (cc := b_Mo_prepare) (maxL := 1) (ret := (some .int)) (by decide) rfl ?_
  intro p e s m args below meth c s₁ B hml hv
  obtain ⟨rfl, hsz, hz, hP, hK, hD0, hY⟩ := hv
  have hx := B.exec
  have hb := B.bytes
  have hr := B.returns
  have hts := hY.hts (#[Value.ref A46] : Array Value)
  have hown : s.vm.findClass "CommitLedgerModel" = some m.cls := findClass_of_methodNamed B.named
  have hlocks := B.notSynchronized
  have hne : c.exceptionTable.isEmpty = true := B.noHandlers (atoms_spec (ws := [Cond.code y_Mo_prepare b_Mo_prepare 1 (some .int)]) B.pre _ List.mem_cons_self)
  subst hsz
  have hAz := gx_az hD0 hz
  have hD := hD0.self (sz := s.heap.size)
  have hN := gx_ns hP
  have hA : ∀ q : Nat, s.heap.size ≤ q → va_A ws s.heap.size q := fun q h => Or.inr h
  generalize va_A ws s.heap.size = A at hD hN hA hAz ⊢
  generalize hPQ : (fun (r : Option Value ⊕ String) (ws' : va_W) => (r = Sum.inl (some (Value.int 0)) ∧ gx_g ws ws' 0 [46] ∧ ws'[46]? = some ((A46, Sum.inr (8, [Value.int 0, Value.int 1, Value.ref A47, Value.ref A48, Value.ref A49, Value.int 0, Value.ref A50, Value.ref A51, Value.ref A52, Value.ref A53, Value.int 0, Value.int 0, Value.int 0, Value.int (-1), Value.int 0, Value.ref A54, Value.ref A62, Value.ref A70, Value.int 0, Value.int 0, Value.int 0, Value.ref A78, Value.ref A79, Value.int 0, Value.int 16, Value.int 4, u0, Value.ref A80, Value.ref A81, Value.ref A82, Value.int 0, Value.ref A83, Value.int 0, Value.int 0, Value.int 0])) : Nat × va_E))) = PQ
  have hS : va_S A s.heap s.heap [] := va_S.rf
  have hU : gx_g ws ws 0 [46] := gx_g.rf
  have hl := lv_entry ([Value.ref A46]) (n := 1) (Nat.le_of_ble_eq_true rfl)
  rw [lg_entry_eq]
  generalize (lg_sl ([Value.ref A46]) ++ List.replicate (1 - (lg_sl ([Value.ref A46])).length) Slot.unset).toArray = ls at hl ⊢
  have hl : lv_has ls 1 [(0, Value.ref A46)] := hl
  refine lv_aload_n hx hb d_Mo_prepare_0 rfl (lv_at hl 0 rfl) ?_
  refine lv_aload_n hx hb d_Mo_prepare_1 rfl (lv_at hl 0 rfl) ?_
  refine va_get (D := D) (ci := 8) (v := Value.int 0) (C := "CommitLedgerModel") (T := F_Mo) (N := 35) hx hb hts i_Mo hown hK hP 46 f_46 rfl 18 (by decide) (hts _ kf_Mo_99) (fun _ h9 => h9) rfl d_Mo_prepare_2 ?_
  refine lv_if_eq (tgt := 15) hx hb d_Mo_prepare_5 (by decide) (fun _ => ?_) (fun c9 => absurd (by decide) c9)
  refine lv_iconst (v := 1) hx hb d_Mo_prepare_15 (by decide) ?_
  refine lv_goto (tgt := 20) hx hb d_Mo_prepare_16 (by decide) ?_
  refine lv_iconst (v := 2) hx hb d_Mo_prepare_20 (by decide) ?_
  refine gx_call (ig := .invokevirtual 152) (c_Mo_wrong_v5 l htr D tys z _ ws A46 A47 A48 A49 A50 A51 A52 A53 A54 A62 A70 A78 A79 (u0) A80 A81 A82 A83 f_46) (gx_invV (As := [Value.int 1, Value.int 2]) (rest := []) hx hb hown hts km_Mo_152 kI_Mo_wrong kV_Mo_wrong kc_Mo_wrong (by decide) (show (parseMethodDescriptor y_Mo_wrong.desc).map (fun d => d.parameters.length) = some 2 by decide +kernel) (gx_recv (ci := 8) hK hP rfl f_46) rfl rfl d_Mo_prepare_21) (gx_cw (z := 0) hts kc_Mo_wrong kN_Mo rfl rfl ⟨Nat.le_of_ble_eq_true rfl, Nat.le_of_ble_eq_true rfl⟩) hb hml gx_blind (gx_pre hz hP hK hD hY hS hAz [Value.ref A46, Value.int 1, Value.int 2]) rfl hl.1 (lv_room (Nat.le_of_ble_eq_true rfl)) d_Mo_prepare_21 ⟨Nat.le_of_ble_eq_true rfl, Nat.le_of_ble_eq_true rfl⟩ (fun v1 st1 t1 L1 h0_1 hW_1 hQ_1 hL_1 => ?_) (fun v1 st1 t1 L1 h0_1 hW_1 hQ_1 hL_1 => ?_)
  · obtain ⟨ws2, hp, hP9, -, hD9, hS9⟩ := gx_back h0_1 hW_1 hQ_1 hL_1 hD hS hA
    clear hQ_1 h0_1 hL_1 hW_1 hP hD hS
    have hP := hP9
    have hD := hD9
    have hS := hS9
    clear hP9 hD9 hS9
    rcases hp with ⟨hv9, e_ws2, f_46_ws2⟩
    cases hv9
    have f_46_ws2 : ws2[46]? = some ((A46, Sum.inr (8, [Value.int 2, Value.int 0, Value.ref A47, Value.ref A48, Value.ref A49, Value.int 0, Value.ref A50, Value.ref A51, Value.ref A52, Value.ref A53, Value.int 0, Value.int 0, Value.int 0, Value.int (-1), Value.int 0, Value.ref A54, Value.ref A62, Value.ref A70, Value.int 0, Value.int 0, Value.int 0, Value.ref A78, Value.ref A79, Value.int 0, Value.int 16, Value.int 4, u0, Value.ref A80, Value.ref A81, Value.ref A82, Value.int 0, Value.ref A83, Value.int 0, Value.int 0, Value.int 0])) : Nat × va_E) := f_46_ws2
    replace hU : gx_g ws ws2 0 [46] := hU.call e_ws2 (by simp; first | done | omega)
    refine W.eq (g2 := F0 m 24 ls [Value.int 1]) rfl ?_
    generalize t1.heap = H at hP hS ⊢
    generalize [] ++ L1 = locs at hS ⊢
    refine lv_if_eq (tgt := 35) hx hb d_Mo_prepare_24 (by decide) (fun c9 => absurd c9 (by decide)) (fun _ => ?_)
    refine lv_aload_n hx hb d_Mo_prepare_27 rfl (lv_at hl 0 rfl) ?_
    refine lv_iconst (v := 0) hx hb d_Mo_prepare_28 (by decide) ?_
    refine lv_bipush (v := 26) hx hb d_Mo_prepare_29 (by decide) ?_
    refine gx_call (ig := .invokevirtual 148) (c_Mo_done_v10 l htr D tys z _ ws2 A46 A47 A48 A49 A50 A51 A52 A53 A54 A62 A70 A78 A79 (u0) A80 A81 A82 A83 f_46_ws2) (gx_invV (As := [Value.int 0, Value.int 26]) (rest := []) hx hb hown hts km_Mo_148 kI_Mo_done kV_Mo_done kc_Mo_done (by decide) (show (parseMethodDescriptor y_Mo_done.desc).map (fun d => d.parameters.length) = some 2 by decide +kernel) (gx_recv (ci := 8) hK hP rfl f_46_ws2) rfl rfl d_Mo_prepare_31) (gx_cw (z := 0) hts kc_Mo_done kN_Mo rfl rfl ⟨Nat.le_of_ble_eq_true rfl, Nat.le_of_ble_eq_true rfl⟩) hb hml gx_blind (gx_pre hz hP hK hD hY hS hAz [Value.ref A46, Value.int 0, Value.int 26]) rfl hl.1 (lv_room (Nat.le_of_ble_eq_true rfl)) d_Mo_prepare_31 ⟨Nat.le_of_ble_eq_true rfl, Nat.le_of_ble_eq_true rfl⟩ (fun v3 st3 t3 L3 h0_3 hW_3 hQ_3 hL_3 => ?_) (fun v3 st3 t3 L3 h0_3 hW_3 hQ_3 hL_3 => ?_)
    · obtain ⟨ws4, hp, hP9, -, hD9, hS9⟩ := gx_back h0_3 hW_3 hQ_3 hL_3 hD hS hA
      clear hQ_3 h0_3 hL_3 hW_3 hP hD hS
      have hP := hP9
      have hD := hD9
      have hS := hS9
      clear hP9 hD9 hS9
      rcases hp with ⟨hv9, e_ws4, f_46_ws4⟩
      cases hv9
      have f_46_ws4 : ws4[46]? = some ((A46, Sum.inr (8, [Value.int 0, Value.int 1, Value.ref A47, Value.ref A48, Value.ref A49, Value.int 0, Value.ref A50, Value.ref A51, Value.ref A52, Value.ref A53, Value.int 0, Value.int 0, Value.int 0, Value.int (-1), Value.int 0, Value.ref A54, Value.ref A62, Value.ref A70, Value.int 0, Value.int 0, Value.int 0, Value.ref A78, Value.ref A79, Value.int 0, Value.int 16, Value.int 4, u0, Value.ref A80, Value.ref A81, Value.ref A82, Value.int 0, Value.ref A83, Value.int 0, Value.int 0, Value.int 0])) : Nat × va_E) := f_46_ws4
      replace hU : gx_g ws ws4 0 [46] := hU.call e_ws4 (by simp; first | done | omega)
      refine W.eq (g2 := F0 m 34 ls [Value.int 0]) rfl ?_
      generalize t3.heap = H at hP hS ⊢
      generalize locs ++ L3 = locs at hS ⊢
      exact gx_ret (W.iret (v := 0) hx hb hr (gx_post hP hK hD hS (by rw [← hPQ]; exact ⟨rfl, hU, f_46_ws4⟩)) hS.2.2 d_Mo_prepare_34)
    · obtain ⟨E9, ws5, ce, hp, hce, hP9, -, hD9, hS9⟩ := gx_backT h0_3 hW_3 hQ_3 hL_3 hD hS hA
      clear hQ_3 h0_3 hL_3 hW_3 hP hD hS
      have hP := hP9
      have hD := hD9
      have hS := hS9
      clear hP9 hD9 hS9
      rcases hp with ⟨hv9, e_ws5, f_46_ws5⟩
      cases hv9
  · obtain ⟨E9, ws6, ce, hp, hce, hP9, -, hD9, hS9⟩ := gx_backT h0_1 hW_1 hQ_1 hL_1 hD hS hA
    clear hQ_1 h0_1 hL_1 hW_1 hP hD hS
    have hP := hP9
    have hD := hD9
    have hS := hS9
    clear hP9 hD9 hS9
    rcases hp with ⟨hv9, e_ws6, f_46_ws6⟩
    cases hv9

set_option maxHeartbeats 4000000 in
set_option maxRecDepth 100000 in
theorem c_Mo_commit_v1 (l : Launch) (htr : l.stackTraces = false) (D : va_G) (tys : List (ClassId × FieldType)) (z sz : Nat) (ws : va_W) (A46 : Nat) (A47 : Nat) (A48 : Nat) (A49 : Nat) (A50 : Nat) (A51 : Nat) (A52 : Nat) (A53 : Nat) (A54 : Nat) (A62 : Nat) (A70 : Nat) (A78 : Nat) (A79 : Nat) (u0 : Value) (A80 : Nat) (A81 : Nat) (A82 : Nat) (A83 : Nat) (f_46 : ws[46]? = some ((A46, Sum.inr (8, [Value.int 0, Value.int 0, Value.ref A47, Value.ref A48, Value.ref A49, Value.int 0, Value.ref A50, Value.ref A51, Value.ref A52, Value.ref A53, Value.int 0, Value.int 0, Value.int 0, Value.int (-1), Value.int 0, Value.ref A54, Value.ref A62, Value.ref A70, Value.int 0, Value.int 0, Value.int 0, Value.ref A78, Value.ref A79, Value.int 0, Value.int 16, Value.int 4, u0, Value.ref A80, Value.ref A81, Value.ref A82, Value.int 0, Value.ref A83, Value.int 0, Value.int 0, Value.int 0])) : Nat × va_E)) : gx_Met l y_Mo_commit [Cond.code y_Mo_commit b_Mo_commit 1 (some .int)] { frames := 2, cells := 0, slots := 0, locals := 37 } (gx_P z sz D classes tys ws [Value.ref A46]) (gx_Q D classes tys (va_A ws sz) (fun r ws' => (r = Sum.inl (some (Value.int 0)) ∧ gx_g ws ws' 0 [46] ∧ ws'[46]? = some ((A46, Sum.inr (8, [Value.int 0, Value.int 1, Value.ref A47, Value.ref A48, Value.ref A49, Value.int 0, Value.ref A50, Value.ref A51, Value.ref A52, Value.ref A53, Value.int 0, Value.int 0, Value.int 0, Value.int (-1), Value.int 0, Value.ref A54, Value.ref A62, Value.ref A70, Value.int 0, Value.int 0, Value.int 0, Value.ref A78, Value.ref A79, Value.int 0, Value.int 16, Value.int 4, u0, Value.ref A80, Value.ref A81, Value.ref A82, Value.int 0, Value.ref A83, Value.int 0, Value.int 0, Value.int 0])) : Nat × va_E)))) 0 0 (va_A ws sz) := by
  refine gx_ofW (cc := b_Mo_commit) (maxL := 1) (ret := (some .int)) (by decide) rfl ?_
  intro p e s m args below meth c s₁ B hml hv
  obtain ⟨rfl, hsz, hz, hP, hK, hD0, hY⟩ := hv
  have hx := B.exec
  have hb := B.bytes
  have hr := B.returns
  have hts := hY.hts (#[Value.ref A46] : Array Value)
  have hown : s.vm.findClass "CommitLedgerModel" = some m.cls := findClass_of_methodNamed B.named
  have hlocks := B.notSynchronized
  have hne : c.exceptionTable.isEmpty = true := B.noHandlers (atoms_spec (ws := [Cond.code y_Mo_commit b_Mo_commit 1 (some .int)]) B.pre _ List.mem_cons_self)
  subst hsz
  have hAz := gx_az hD0 hz
  have hD := hD0.self (sz := s.heap.size)
  have hN := gx_ns hP
  have hA : ∀ q : Nat, s.heap.size ≤ q → va_A ws s.heap.size q := fun q h => Or.inr h
  generalize va_A ws s.heap.size = A at hD hN hA hAz ⊢
  generalize hPQ : (fun (r : Option Value ⊕ String) (ws' : va_W) => (r = Sum.inl (some (Value.int 0)) ∧ gx_g ws ws' 0 [46] ∧ ws'[46]? = some ((A46, Sum.inr (8, [Value.int 0, Value.int 1, Value.ref A47, Value.ref A48, Value.ref A49, Value.int 0, Value.ref A50, Value.ref A51, Value.ref A52, Value.ref A53, Value.int 0, Value.int 0, Value.int 0, Value.int (-1), Value.int 0, Value.ref A54, Value.ref A62, Value.ref A70, Value.int 0, Value.int 0, Value.int 0, Value.ref A78, Value.ref A79, Value.int 0, Value.int 16, Value.int 4, u0, Value.ref A80, Value.ref A81, Value.ref A82, Value.int 0, Value.ref A83, Value.int 0, Value.int 0, Value.int 0])) : Nat × va_E))) = PQ
  have hS : va_S A s.heap s.heap [] := va_S.rf
  have hU : gx_g ws ws 0 [46] := gx_g.rf
  have hl := lv_entry ([Value.ref A46]) (n := 1) (Nat.le_of_ble_eq_true rfl)
  rw [lg_entry_eq]
  generalize (lg_sl ([Value.ref A46]) ++ List.replicate (1 - (lg_sl ([Value.ref A46])).length) Slot.unset).toArray = ls at hl ⊢
  have hl : lv_has ls 1 [(0, Value.ref A46)] := hl
  refine lv_aload_n hx hb d_Mo_commit_0 rfl (lv_at hl 0 rfl) ?_
  refine lv_aload_n hx hb d_Mo_commit_1 rfl (lv_at hl 0 rfl) ?_
  refine va_get (D := D) (ci := 8) (v := Value.int 0) (C := "CommitLedgerModel") (T := F_Mo) (N := 35) hx hb hts i_Mo hown hK hP 46 f_46 rfl 18 (by decide) (hts _ kf_Mo_99) (fun _ h9 => h9) rfl d_Mo_commit_2 ?_
  refine lv_if_ne (tgt := 12) hx hb d_Mo_commit_5 (by decide) (fun c9 => absurd (by decide) c9) (fun _ => ?_)
  refine lv_iconst (v := 1) hx hb d_Mo_commit_8 (by decide) ?_
  refine lv_goto (tgt := 13) hx hb d_Mo_commit_9 (by decide) ?_
  refine lv_iconst (v := 2) hx hb d_Mo_commit_13 (by decide) ?_
  refine gx_call (ig := .invokevirtual 152) (c_Mo_wrong_v5 l htr D tys z _ ws A46 A47 A48 A49 A50 A51 A52 A53 A54 A62 A70 A78 A79 (u0) A80 A81 A82 A83 f_46) (gx_invV (As := [Value.int 1, Value.int 2]) (rest := []) hx hb hown hts km_Mo_152 kI_Mo_wrong kV_Mo_wrong kc_Mo_wrong (by decide) (show (parseMethodDescriptor y_Mo_wrong.desc).map (fun d => d.parameters.length) = some 2 by decide +kernel) (gx_recv (ci := 8) hK hP rfl f_46) rfl rfl d_Mo_commit_14) (gx_cw (z := 0) hts kc_Mo_wrong kN_Mo rfl rfl ⟨Nat.le_of_ble_eq_true rfl, Nat.le_of_ble_eq_true rfl⟩) hb hml gx_blind (gx_pre hz hP hK hD hY hS hAz [Value.ref A46, Value.int 1, Value.int 2]) rfl hl.1 (lv_room (Nat.le_of_ble_eq_true rfl)) d_Mo_commit_14 ⟨Nat.le_of_ble_eq_true rfl, Nat.le_of_ble_eq_true rfl⟩ (fun v1 st1 t1 L1 h0_1 hW_1 hQ_1 hL_1 => ?_) (fun v1 st1 t1 L1 h0_1 hW_1 hQ_1 hL_1 => ?_)
  · obtain ⟨ws2, hp, hP9, -, hD9, hS9⟩ := gx_back h0_1 hW_1 hQ_1 hL_1 hD hS hA
    clear hQ_1 h0_1 hL_1 hW_1 hP hD hS
    have hP := hP9
    have hD := hD9
    have hS := hS9
    clear hP9 hD9 hS9
    rcases hp with ⟨hv9, e_ws2, f_46_ws2⟩
    cases hv9
    have f_46_ws2 : ws2[46]? = some ((A46, Sum.inr (8, [Value.int 2, Value.int 0, Value.ref A47, Value.ref A48, Value.ref A49, Value.int 0, Value.ref A50, Value.ref A51, Value.ref A52, Value.ref A53, Value.int 0, Value.int 0, Value.int 0, Value.int (-1), Value.int 0, Value.ref A54, Value.ref A62, Value.ref A70, Value.int 0, Value.int 0, Value.int 0, Value.ref A78, Value.ref A79, Value.int 0, Value.int 16, Value.int 4, u0, Value.ref A80, Value.ref A81, Value.ref A82, Value.int 0, Value.ref A83, Value.int 0, Value.int 0, Value.int 0])) : Nat × va_E) := f_46_ws2
    replace hU : gx_g ws ws2 0 [46] := hU.call e_ws2 (by simp; first | done | omega)
    refine W.eq (g2 := F0 m 17 ls [Value.int 1]) rfl ?_
    generalize t1.heap = H at hP hS ⊢
    generalize [] ++ L1 = locs at hS ⊢
    refine lv_if_eq (tgt := 28) hx hb d_Mo_commit_17 (by decide) (fun c9 => absurd c9 (by decide)) (fun _ => ?_)
    refine lv_aload_n hx hb d_Mo_commit_20 rfl (lv_at hl 0 rfl) ?_
    refine lv_iconst (v := 0) hx hb d_Mo_commit_21 (by decide) ?_
    refine lv_bipush (v := 26) hx hb d_Mo_commit_22 (by decide) ?_
    refine gx_call (ig := .invokevirtual 148) (c_Mo_done_v10 l htr D tys z _ ws2 A46 A47 A48 A49 A50 A51 A52 A53 A54 A62 A70 A78 A79 (u0) A80 A81 A82 A83 f_46_ws2) (gx_invV (As := [Value.int 0, Value.int 26]) (rest := []) hx hb hown hts km_Mo_148 kI_Mo_done kV_Mo_done kc_Mo_done (by decide) (show (parseMethodDescriptor y_Mo_done.desc).map (fun d => d.parameters.length) = some 2 by decide +kernel) (gx_recv (ci := 8) hK hP rfl f_46_ws2) rfl rfl d_Mo_commit_24) (gx_cw (z := 0) hts kc_Mo_done kN_Mo rfl rfl ⟨Nat.le_of_ble_eq_true rfl, Nat.le_of_ble_eq_true rfl⟩) hb hml gx_blind (gx_pre hz hP hK hD hY hS hAz [Value.ref A46, Value.int 0, Value.int 26]) rfl hl.1 (lv_room (Nat.le_of_ble_eq_true rfl)) d_Mo_commit_24 ⟨Nat.le_of_ble_eq_true rfl, Nat.le_of_ble_eq_true rfl⟩ (fun v3 st3 t3 L3 h0_3 hW_3 hQ_3 hL_3 => ?_) (fun v3 st3 t3 L3 h0_3 hW_3 hQ_3 hL_3 => ?_)
    · obtain ⟨ws4, hp, hP9, -, hD9, hS9⟩ := gx_back h0_3 hW_3 hQ_3 hL_3 hD hS hA
      clear hQ_3 h0_3 hL_3 hW_3 hP hD hS
      have hP := hP9
      have hD := hD9
      have hS := hS9
      clear hP9 hD9 hS9
      rcases hp with ⟨hv9, e_ws4, f_46_ws4⟩
      cases hv9
      have f_46_ws4 : ws4[46]? = some ((A46, Sum.inr (8, [Value.int 0, Value.int 1, Value.ref A47, Value.ref A48, Value.ref A49, Value.int 0, Value.ref A50, Value.ref A51, Value.ref A52, Value.ref A53, Value.int 0, Value.int 0, Value.int 0, Value.int (-1), Value.int 0, Value.ref A54, Value.ref A62, Value.ref A70, Value.int 0, Value.int 0, Value.int 0, Value.ref A78, Value.ref A79, Value.int 0, Value.int 16, Value.int 4, u0, Value.ref A80, Value.ref A81, Value.ref A82, Value.int 0, Value.ref A83, Value.int 0, Value.int 0, Value.int 0])) : Nat × va_E) := f_46_ws4
      replace hU : gx_g ws ws4 0 [46] := hU.call e_ws4 (by simp; first | done | omega)
      refine W.eq (g2 := F0 m 27 ls [Value.int 0]) rfl ?_
      generalize t3.heap = H at hP hS ⊢
      generalize locs ++ L3 = locs at hS ⊢
      exact gx_ret (W.iret (v := 0) hx hb hr (gx_post hP hK hD hS (by rw [← hPQ]; exact ⟨rfl, hU, f_46_ws4⟩)) hS.2.2 d_Mo_commit_27)
    · obtain ⟨E9, ws5, ce, hp, hce, hP9, -, hD9, hS9⟩ := gx_backT h0_3 hW_3 hQ_3 hL_3 hD hS hA
      clear hQ_3 h0_3 hL_3 hW_3 hP hD hS
      have hP := hP9
      have hD := hD9
      have hS := hS9
      clear hP9 hD9 hS9
      rcases hp with ⟨hv9, e_ws5, f_46_ws5⟩
      cases hv9
  · obtain ⟨E9, ws6, ce, hp, hce, hP9, -, hD9, hS9⟩ := gx_backT h0_1 hW_1 hQ_1 hL_1 hD hS hA
    clear hQ_1 h0_1 hL_1 hW_1 hP hD hS
    have hP := hP9
    have hD := hD9
    have hS := hS9
    clear hP9 hD9 hS9
    rcases hp with ⟨hv9, e_ws6, f_46_ws6⟩
    cases hv9

set_option maxHeartbeats 4000000 in
set_option maxRecDepth 100000 in
theorem c_Mo_finished_v3 (l : Launch) (htr : l.stackTraces = false) (D : va_G) (tys : List (ClassId × FieldType)) (z sz : Nat) (ws : va_W) (cV : ClassId) (A46 : Nat) (A47 : Nat) (A48 : Nat) (A49 : Nat) (A50 : Nat) (A51 : Nat) (A52 : Nat) (A53 : Nat) (A54 : Nat) (A62 : Nat) (A70 : Nat) (A78 : Nat) (A79 : Nat) (u0 : Value) (A80 : Nat) (A81 : Nat) (A82 : Nat) (A83 : Nat) (A84 : Nat) (A85 : Nat) (A86 : Nat) (A87 : Nat) (A88 : Nat) (A89 : Nat) (A90 : Nat) (A91 : Nat) (A92 : Nat) (A93 : Nat) (A94 : Nat) (A95 : Nat) (A96 : Nat) (A97 : Nat) (A98 : Nat) (A99 : Nat) (A100 : Nat) (A101 : Nat) (A102 : Nat) (A103 : Nat) (A104 : Nat) (A105 : Nat) (A106 : Nat) (A107 : Nat) (A108 : Nat) (A109 : Nat) (A110 : Nat) (A111 : Nat) (A112 : Nat) (A113 : Nat) (A114 : Nat) (A115 : Nat) (f_46 : ws[46]? = some ((A46, Sum.inr (8, [Value.int 2, Value.int 0, Value.ref A47, Value.ref A48, Value.ref A49, Value.int 0, Value.ref A50, Value.ref A51, Value.ref A52, Value.ref A53, Value.int 0, Value.int 0, Value.int 0, Value.int (-1), Value.int 0, Value.ref A54, Value.ref A62, Value.ref A70, Value.int 0, Value.int 0, Value.int 0, Value.ref A78, Value.ref A79, Value.int 0, Value.int 16, Value.int 4, u0, Value.ref A80, Value.ref A81, Value.ref A82, Value.int 0, Value.ref A83, Value.int 0, Value.int 0, Value.int 0])) : Nat × va_E)) (f_84 : ws[84]? = some ((A84, Sum.inr (9, [Value.ref A85, Value.ref A86, Value.ref A87, Value.ref A88, Value.ref A89, Value.ref A90, Value.ref A91, Value.int 0, Value.int 0, Value.int 0, Value.int 0])) : Nat × va_E)) (f_92 : ws[92]? = some ((A92, Sum.inr (9, [Value.ref A93, Value.ref A94, Value.ref A95, Value.ref A96, Value.ref A97, Value.ref A98, Value.ref A99, Value.int 0, Value.int 0, Value.int 0, Value.int 0])) : Nat × va_E)) (f_100 : ws[100]? = some ((A100, Sum.inr (9, [Value.ref A101, Value.ref A102, Value.ref A103, Value.ref A104, Value.ref A105, Value.ref A106, Value.ref A107, Value.int 0, Value.int 0, Value.int 0, Value.int 0])) : Nat × va_E)) (f_108 : ws[108]? = some ((A108, Sum.inr (9, [Value.ref A109, Value.ref A110, Value.ref A111, Value.ref A112, Value.ref A113, Value.ref A114, Value.ref A115, Value.int 0, Value.int 0, Value.int 0, Value.int 0])) : Nat × va_E)) (f_83 : ws[83]? = some ((A83, Sum.inl (cV, 4, Sum.inr (Sum.inr (Sum.inr (Sum.inr (va_up (va_up (va_up (va_up (fun _ => none) 0 (some A84)) 1 (some A92)) 2 (some A100)) 3 (some A108))))))) : Nat × va_E)) (ht5 : tys[5]? = some ((cV, FieldType.object "CommitLedgerModel$Version") : ClassId × FieldType)) : gx_Met l y_Mo_finished [Cond.code y_Mo_finished b_Mo_finished 3 (some .int)] { frames := 3, cells := 0, slots := 0, locals := 58 } (gx_P z sz D classes tys ws [Value.ref A46, Value.int 0, Value.int 2]) (gx_Q D classes tys (va_A ws sz) (fun r ws' => (r = Sum.inl (some (Value.int 0)) ∧ gx_g ws ws' 0 [46] ∧ ws'[46]? = some ((A46, Sum.inr (8, [Value.int 0, Value.int 1, Value.ref A47, Value.ref A48, Value.ref A49, Value.int 0, Value.ref A50, Value.ref A51, Value.ref A52, Value.ref A53, Value.int 0, Value.int 0, Value.int 0, Value.int (-1), Value.int 0, Value.ref A54, Value.ref A62, Value.ref A70, Value.int 0, Value.int 0, Value.int 0, Value.ref A78, Value.ref A79, Value.int 0, Value.int 16, Value.int 4, u0, Value.ref A80, Value.ref A81, Value.ref A82, Value.int 0, Value.ref A83, Value.int 0, Value.int 0, Value.int 0])) : Nat × va_E)))) 0 0 (va_A ws sz) := by
  refine gx_ofW (cc := b_Mo_finished) (maxL := 3) (ret := (some .int)) (by decide) rfl ?_
  intro p e s m args below meth c s₁ B hml hv
  obtain ⟨rfl, hsz, hz, hP, hK, hD0, hY⟩ := hv
  have hx := B.exec
  have hb := B.bytes
  have hr := B.returns
  have hts := hY.hts (#[Value.ref A46, Value.int 0, Value.int 2] : Array Value)
  have hown : s.vm.findClass "CommitLedgerModel" = some m.cls := findClass_of_methodNamed B.named
  have hlocks := B.notSynchronized
  have hne : c.exceptionTable.isEmpty = true := B.noHandlers (atoms_spec (ws := [Cond.code y_Mo_finished b_Mo_finished 3 (some .int)]) B.pre _ List.mem_cons_self)
  subst hsz
  have hAz := gx_az hD0 hz
  have hD := hD0.self (sz := s.heap.size)
  have hN := gx_ns hP
  have hA : ∀ q : Nat, s.heap.size ≤ q → va_A ws s.heap.size q := fun q h => Or.inr h
  generalize va_A ws s.heap.size = A at hD hN hA hAz ⊢
  generalize hPQ : (fun (r : Option Value ⊕ String) (ws' : va_W) => (r = Sum.inl (some (Value.int 0)) ∧ gx_g ws ws' 0 [46] ∧ ws'[46]? = some ((A46, Sum.inr (8, [Value.int 0, Value.int 1, Value.ref A47, Value.ref A48, Value.ref A49, Value.int 0, Value.ref A50, Value.ref A51, Value.ref A52, Value.ref A53, Value.int 0, Value.int 0, Value.int 0, Value.int (-1), Value.int 0, Value.ref A54, Value.ref A62, Value.ref A70, Value.int 0, Value.int 0, Value.int 0, Value.ref A78, Value.ref A79, Value.int 0, Value.int 16, Value.int 4, u0, Value.ref A80, Value.ref A81, Value.ref A82, Value.int 0, Value.ref A83, Value.int 0, Value.int 0, Value.int 0])) : Nat × va_E))) = PQ
  have hS : va_S A s.heap s.heap [] := va_S.rf
  have hU : gx_g ws ws 0 [46] := gx_g.rf
  have hl := lv_entry ([Value.ref A46, Value.int 0, Value.int 2]) (n := 3) (Nat.le_of_ble_eq_true rfl)
  rw [lg_entry_eq]
  generalize (lg_sl ([Value.ref A46, Value.int 0, Value.int 2]) ++ List.replicate (3 - (lg_sl ([Value.ref A46, Value.int 0, Value.int 2])).length) Slot.unset).toArray = ls at hl ⊢
  have hl : lv_has ls 3 [(0, Value.ref A46), (1, Value.int 0), (2, Value.int 2)] := hl
  refine lv_aload_n hx hb d_Mo_finished_0 rfl (lv_at hl 0 rfl) ?_
  refine gx_call (ig := .invokevirtual 145) (c_Mo_tidyFiles_v2 l htr D tys z _ ws cV A46 A47 A48 A49 A50 A51 A52 A53 A54 A62 A70 A78 A79 (u0) A80 A81 A82 A83 A84 A85 A86 A87 A88 A89 A90 A91 A92 A93 A94 A95 A96 A97 A98 A99 A100 A101 A102 A103 A104 A105 A106 A107 A108 A109 A110 A111 A112 A113 A114 A115 f_46 f_84 f_92 f_100 f_108 f_83 ht5) (gx_invV (As := []) (rest := []) hx hb hown hts km_Mo_145 kI_Mo_tidyFiles kV_Mo_tidyFiles kc_Mo_tidyFiles (by decide) (show (parseMethodDescriptor y_Mo_tidyFiles.desc).map (fun d => d.parameters.length) = some 0 by decide +kernel) (gx_recv (ci := 8) hK hP rfl f_46) rfl rfl d_Mo_finished_1) (gx_cw (z := 0) hts kc_Mo_tidyFiles kN_Mo rfl rfl ⟨Nat.le_of_ble_eq_true rfl, Nat.le_of_ble_eq_true rfl⟩) hb hml gx_blind (gx_pre hz hP hK hD hY hS hAz [Value.ref A46]) rfl hl.1 (lv_room (Nat.le_of_ble_eq_true rfl)) d_Mo_finished_1 ⟨Nat.le_of_ble_eq_true rfl, Nat.le_of_ble_eq_true rfl⟩ (fun v1 st1 t1 L1 h0_1 hW_1 hQ_1 hL_1 => ?_) (fun v1 st1 t1 L1 h0_1 hW_1 hQ_1 hL_1 => ?_)
  · obtain ⟨ws2, hp, hP9, -, hD9, hS9⟩ := gx_back h0_1 hW_1 hQ_1 hL_1 hD hS hA
    clear hQ_1 h0_1 hL_1 hW_1 hP hD hS
    have hP := hP9
    have hD := hD9
    have hS := hS9
    clear hP9 hD9 hS9
    rcases hp with ⟨hv9, e_ws2, f_46_ws2⟩
    cases hv9
    have f_46_ws2 : ws2[46]? = some ((A46, Sum.inr (8, [Value.int 2, Value.int 0, Value.ref A47, Value.ref A48, Value.ref A49, Value.int 0, Value.ref A50, Value.ref A51, Value.ref A52, Value.ref A53, Value.int 0, Value.int 0, Value.int 0, Value.int (-1), Value.int 0, Value.ref A54, Value.ref A62, Value.ref A70, Value.int 0, Value.int 0, Value.int 0, Value.ref A78, Value.ref A79, Value.int 0, Value.int 16, Value.int 4, u0, Value.ref A80, Value.ref A81, Value.ref A82, Value.int 0, Value.ref A83, Value.int 0, Value.int 0, Value.int 0])) : Nat × va_E) := f_46_ws2
    replace hU : gx_g ws ws2 0 [46] := hU.call e_ws2 (by simp; first | done | omega)
    refine W.eq (g2 := F0 m 4 ls []) rfl ?_
    generalize t1.heap = H at hP hS ⊢
    generalize [] ++ L1 = locs at hS ⊢
    refine lv_aload_n hx hb d_Mo_finished_4 rfl (lv_at hl 0 rfl) ?_
    refine lv_iload_n hx hb d_Mo_finished_5 rfl (lv_at hl 1 rfl) ?_
    refine lv_iload_n hx hb d_Mo_finished_6 rfl (lv_at hl 2 rfl) ?_
    refine gx_call (ig := .invokevirtual 148) (c_Mo_done_v9 l htr D tys z _ ws2 A46 A47 A48 A49 A50 A51 A52 A53 A54 A62 A70 A78 A79 (u0) A80 A81 A82 A83 f_46_ws2) (gx_invV (As := [Value.int 0, Value.int 2]) (rest := []) hx hb hown hts km_Mo_148 kI_Mo_done kV_Mo_done kc_Mo_done (by decide) (show (parseMethodDescriptor y_Mo_done.desc).map (fun d => d.parameters.length) = some 2 by decide +kernel) (gx_recv (ci := 8) hK hP rfl f_46_ws2) rfl rfl d_Mo_finished_7) (gx_cw (z := 0) hts kc_Mo_done kN_Mo rfl rfl ⟨Nat.le_of_ble_eq_true rfl, Nat.le_of_ble_eq_true rfl⟩) hb hml gx_blind (gx_pre hz hP hK hD hY hS hAz [Value.ref A46, Value.int 0, Value.int 2]) rfl hl.1 (lv_room (Nat.le_of_ble_eq_true rfl)) d_Mo_finished_7 ⟨Nat.le_of_ble_eq_true rfl, Nat.le_of_ble_eq_true rfl⟩ (fun v3 st3 t3 L3 h0_3 hW_3 hQ_3 hL_3 => ?_) (fun v3 st3 t3 L3 h0_3 hW_3 hQ_3 hL_3 => ?_)
    · obtain ⟨ws4, hp, hP9, -, hD9, hS9⟩ := gx_back h0_3 hW_3 hQ_3 hL_3 hD hS hA
      clear hQ_3 h0_3 hL_3 hW_3 hP hD hS
      have hP := hP9
      have hD := hD9
      have hS := hS9
      clear hP9 hD9 hS9
      rcases hp with ⟨hv9, e_ws4, f_46_ws4⟩
      cases hv9
      have f_46_ws4 : ws4[46]? = some ((A46, Sum.inr (8, [Value.int 0, Value.int 1, Value.ref A47, Value.ref A48, Value.ref A49, Value.int 0, Value.ref A50, Value.ref A51, Value.ref A52, Value.ref A53, Value.int 0, Value.int 0, Value.int 0, Value.int (-1), Value.int 0, Value.ref A54, Value.ref A62, Value.ref A70, Value.int 0, Value.int 0, Value.int 0, Value.ref A78, Value.ref A79, Value.int 0, Value.int 16, Value.int 4, u0, Value.ref A80, Value.ref A81, Value.ref A82, Value.int 0, Value.ref A83, Value.int 0, Value.int 0, Value.int 0])) : Nat × va_E) := f_46_ws4
      replace hU : gx_g ws ws4 0 [46] := hU.call e_ws4 (by simp; first | done | omega)
      refine W.eq (g2 := F0 m 10 ls [Value.int 0]) rfl ?_
      generalize t3.heap = H at hP hS ⊢
      generalize locs ++ L3 = locs at hS ⊢
      exact gx_ret (W.iret (v := 0) hx hb hr (gx_post hP hK hD hS (by rw [← hPQ]; exact ⟨rfl, hU, f_46_ws4⟩)) hS.2.2 d_Mo_finished_10)
    · obtain ⟨E9, ws5, ce, hp, hce, hP9, -, hD9, hS9⟩ := gx_backT h0_3 hW_3 hQ_3 hL_3 hD hS hA
      clear hQ_3 h0_3 hL_3 hW_3 hP hD hS
      have hP := hP9
      have hD := hD9
      have hS := hS9
      clear hP9 hD9 hS9
      rcases hp with ⟨hv9, e_ws5, f_46_ws5⟩
      cases hv9
  · obtain ⟨E9, ws6, ce, hp, hce, hP9, -, hD9, hS9⟩ := gx_backT h0_1 hW_1 hQ_1 hL_1 hD hS hA
    clear hQ_1 h0_1 hL_1 hW_1 hP hD hS
    have hP := hP9
    have hD := hD9
    have hS := hS9
    clear hP9 hD9 hS9
    rcases hp with ⟨hv9, e_ws6, f_46_ws6⟩
    cases hv9

set_option maxHeartbeats 4000000 in
set_option maxRecDepth 100000 in
theorem c_Mo_rollback_v1 (l : Launch) (htr : l.stackTraces = false) (D : va_G) (tys : List (ClassId × FieldType)) (z sz : Nat) (ws : va_W) (cV : ClassId) (A46 : Nat) (A47 : Nat) (A48 : Nat) (A49 : Nat) (A50 : Nat) (A51 : Nat) (A52 : Nat) (A53 : Nat) (A54 : Nat) (A62 : Nat) (A70 : Nat) (A78 : Nat) (A79 : Nat) (u0 : Value) (A80 : Nat) (A81 : Nat) (A82 : Nat) (A83 : Nat) (A84 : Nat) (A85 : Nat) (A86 : Nat) (A87 : Nat) (A88 : Nat) (A89 : Nat) (A90 : Nat) (A91 : Nat) (A92 : Nat) (A93 : Nat) (A94 : Nat) (A95 : Nat) (A96 : Nat) (A97 : Nat) (A98 : Nat) (A99 : Nat) (A100 : Nat) (A101 : Nat) (A102 : Nat) (A103 : Nat) (A104 : Nat) (A105 : Nat) (A106 : Nat) (A107 : Nat) (A108 : Nat) (A109 : Nat) (A110 : Nat) (A111 : Nat) (A112 : Nat) (A113 : Nat) (A114 : Nat) (A115 : Nat) (f_46 : ws[46]? = some ((A46, Sum.inr (8, [Value.int 0, Value.int 0, Value.ref A47, Value.ref A48, Value.ref A49, Value.int 0, Value.ref A50, Value.ref A51, Value.ref A52, Value.ref A53, Value.int 0, Value.int 0, Value.int 0, Value.int (-1), Value.int 0, Value.ref A54, Value.ref A62, Value.ref A70, Value.int 0, Value.int 0, Value.int 0, Value.ref A78, Value.ref A79, Value.int 0, Value.int 16, Value.int 4, u0, Value.ref A80, Value.ref A81, Value.ref A82, Value.int 0, Value.ref A83, Value.int 0, Value.int 0, Value.int 0])) : Nat × va_E)) (f_84 : ws[84]? = some ((A84, Sum.inr (9, [Value.ref A85, Value.ref A86, Value.ref A87, Value.ref A88, Value.ref A89, Value.ref A90, Value.ref A91, Value.int 0, Value.int 0, Value.int 0, Value.int 0])) : Nat × va_E)) (f_92 : ws[92]? = some ((A92, Sum.inr (9, [Value.ref A93, Value.ref A94, Value.ref A95, Value.ref A96, Value.ref A97, Value.ref A98, Value.ref A99, Value.int 0, Value.int 0, Value.int 0, Value.int 0])) : Nat × va_E)) (f_100 : ws[100]? = some ((A100, Sum.inr (9, [Value.ref A101, Value.ref A102, Value.ref A103, Value.ref A104, Value.ref A105, Value.ref A106, Value.ref A107, Value.int 0, Value.int 0, Value.int 0, Value.int 0])) : Nat × va_E)) (f_108 : ws[108]? = some ((A108, Sum.inr (9, [Value.ref A109, Value.ref A110, Value.ref A111, Value.ref A112, Value.ref A113, Value.ref A114, Value.ref A115, Value.int 0, Value.int 0, Value.int 0, Value.int 0])) : Nat × va_E)) (f_83 : ws[83]? = some ((A83, Sum.inl (cV, 4, Sum.inr (Sum.inr (Sum.inr (Sum.inr (va_up (va_up (va_up (va_up (fun _ => none) 0 (some A84)) 1 (some A92)) 2 (some A100)) 3 (some A108))))))) : Nat × va_E)) (ht5 : tys[5]? = some ((cV, FieldType.object "CommitLedgerModel$Version") : ClassId × FieldType)) : gx_Met l y_Mo_rollback [Cond.code y_Mo_rollback b_Mo_rollback 2 none] { frames := 4, cells := 0, slots := 0, locals := 80 } (gx_P z sz D classes tys ws [Value.ref A46]) (gx_Q D classes tys (va_A ws sz) (fun r ws' => (r = Sum.inl none ∧ gx_g ws ws' 0 [46] ∧ ws'[46]? = some ((A46, Sum.inr (8, [Value.int 0, Value.int 1, Value.ref A47, Value.ref A48, Value.ref A49, Value.int 0, Value.ref A50, Value.ref A51, Value.ref A52, Value.ref A53, Value.int 0, Value.int 0, Value.int 0, Value.int (-1), Value.int 0, Value.ref A54, Value.ref A62, Value.ref A70, Value.int 0, Value.int 0, Value.int 0, Value.ref A78, Value.ref A79, Value.int 0, Value.int 16, Value.int 4, u0, Value.ref A80, Value.ref A81, Value.ref A82, Value.int 0, Value.ref A83, Value.int 0, Value.int 0, Value.int 0])) : Nat × va_E)))) 0 0 (va_A ws sz) := by
  refine gx_ofW (cc := b_Mo_rollback) (maxL := 2) (ret := none) (by decide) rfl ?_
  intro p e s m args below meth c s₁ B hml hv
  obtain ⟨rfl, hsz, hz, hP, hK, hD0, hY⟩ := hv
  have hx := B.exec
  have hb := B.bytes
  have hr := B.returns
  have hts := hY.hts (#[Value.ref A46] : Array Value)
  have hown : s.vm.findClass "CommitLedgerModel" = some m.cls := findClass_of_methodNamed B.named
  have hlocks := B.notSynchronized
  have hne : c.exceptionTable.isEmpty = true := B.noHandlers (atoms_spec (ws := [Cond.code y_Mo_rollback b_Mo_rollback 2 none]) B.pre _ List.mem_cons_self)
  subst hsz
  have hAz := gx_az hD0 hz
  have hD := hD0.self (sz := s.heap.size)
  have hN := gx_ns hP
  have hA : ∀ q : Nat, s.heap.size ≤ q → va_A ws s.heap.size q := fun q h => Or.inr h
  generalize va_A ws s.heap.size = A at hD hN hA hAz ⊢
  generalize hPQ : (fun (r : Option Value ⊕ String) (ws' : va_W) => (r = Sum.inl none ∧ gx_g ws ws' 0 [46] ∧ ws'[46]? = some ((A46, Sum.inr (8, [Value.int 0, Value.int 1, Value.ref A47, Value.ref A48, Value.ref A49, Value.int 0, Value.ref A50, Value.ref A51, Value.ref A52, Value.ref A53, Value.int 0, Value.int 0, Value.int 0, Value.int (-1), Value.int 0, Value.ref A54, Value.ref A62, Value.ref A70, Value.int 0, Value.int 0, Value.int 0, Value.ref A78, Value.ref A79, Value.int 0, Value.int 16, Value.int 4, u0, Value.ref A80, Value.ref A81, Value.ref A82, Value.int 0, Value.ref A83, Value.int 0, Value.int 0, Value.int 0])) : Nat × va_E))) = PQ
  have hS : va_S A s.heap s.heap [] := va_S.rf
  have hU : gx_g ws ws 0 [46] := gx_g.rf
  have hl := lv_entry ([Value.ref A46]) (n := 2) (Nat.le_of_ble_eq_true rfl)
  rw [lg_entry_eq]
  generalize (lg_sl ([Value.ref A46]) ++ List.replicate (2 - (lg_sl ([Value.ref A46])).length) Slot.unset).toArray = ls at hl ⊢
  have hl : lv_has ls 2 [(0, Value.ref A46)] := hl
  refine lv_aload_n hx hb d_Mo_rollback_0 rfl (lv_at hl 0 rfl) ?_
  refine lv_aload_n hx hb d_Mo_rollback_1 rfl (lv_at hl 0 rfl) ?_
  refine va_get (D := D) (ci := 8) (v := Value.int 0) (C := "CommitLedgerModel") (T := F_Mo) (N := 35) hx hb hts i_Mo hown hK hP 46 f_46 rfl 18 (by decide) (hts _ kf_Mo_99) (fun _ h9 => h9) rfl d_Mo_rollback_2 ?_
  refine lv_if_ne (tgt := 12) hx hb d_Mo_rollback_5 (by decide) (fun c9 => absurd (by decide) c9) (fun _ => ?_)
  refine lv_iconst (v := 1) hx hb d_Mo_rollback_8 (by decide) ?_
  refine lv_goto (tgt := 13) hx hb d_Mo_rollback_9 (by decide) ?_
  refine lv_iconst (v := 2) hx hb d_Mo_rollback_13 (by decide) ?_
  refine gx_call (ig := .invokevirtual 152) (c_Mo_wrong_v5 l htr D tys z _ ws A46 A47 A48 A49 A50 A51 A52 A53 A54 A62 A70 A78 A79 (u0) A80 A81 A82 A83 f_46) (gx_invV (As := [Value.int 1, Value.int 2]) (rest := []) hx hb hown hts km_Mo_152 kI_Mo_wrong kV_Mo_wrong kc_Mo_wrong (by decide) (show (parseMethodDescriptor y_Mo_wrong.desc).map (fun d => d.parameters.length) = some 2 by decide +kernel) (gx_recv (ci := 8) hK hP rfl f_46) rfl rfl d_Mo_rollback_14) (gx_cw (z := 0) hts kc_Mo_wrong kN_Mo rfl rfl ⟨Nat.le_of_ble_eq_true rfl, Nat.le_of_ble_eq_true rfl⟩) hb hml gx_blind (gx_pre hz hP hK hD hY hS hAz [Value.ref A46, Value.int 1, Value.int 2]) rfl hl.1 (lv_room (Nat.le_of_ble_eq_true rfl)) d_Mo_rollback_14 ⟨Nat.le_of_ble_eq_true rfl, Nat.le_of_ble_eq_true rfl⟩ (fun v1 st1 t1 L1 h0_1 hW_1 hQ_1 hL_1 => ?_) (fun v1 st1 t1 L1 h0_1 hW_1 hQ_1 hL_1 => ?_)
  · obtain ⟨ws2, hp, hP9, -, hD9, hS9⟩ := gx_back h0_1 hW_1 hQ_1 hL_1 hD hS hA
    clear hQ_1 h0_1 hL_1 hW_1 hP hD hS
    have hP := hP9
    have hD := hD9
    have hS := hS9
    clear hP9 hD9 hS9
    rcases hp with ⟨hv9, e_ws2, f_46_ws2⟩
    cases hv9
    have f_46_ws2 : ws2[46]? = some ((A46, Sum.inr (8, [Value.int 2, Value.int 0, Value.ref A47, Value.ref A48, Value.ref A49, Value.int 0, Value.ref A50, Value.ref A51, Value.ref A52, Value.ref A53, Value.int 0, Value.int 0, Value.int 0, Value.int (-1), Value.int 0, Value.ref A54, Value.ref A62, Value.ref A70, Value.int 0, Value.int 0, Value.int 0, Value.ref A78, Value.ref A79, Value.int 0, Value.int 16, Value.int 4, u0, Value.ref A80, Value.ref A81, Value.ref A82, Value.int 0, Value.ref A83, Value.int 0, Value.int 0, Value.int 0])) : Nat × va_E) := f_46_ws2
    replace hU : gx_g ws ws2 0 [46] := hU.call e_ws2 (by simp; first | done | omega)
    refine W.eq (g2 := F0 m 17 ls [Value.int 1]) rfl ?_
    generalize t1.heap = H at hP hS ⊢
    generalize [] ++ L1 = locs at hS ⊢
    refine lv_if_ne (tgt := 25) hx hb d_Mo_rollback_17 (by decide) (fun _ => ?_) (fun c9 => absurd c9 (by decide))
    refine lv_aload_n hx hb d_Mo_rollback_25 rfl (lv_at hl 0 rfl) ?_
    refine lv_iconst (v := 0) hx hb d_Mo_rollback_26 (by decide) ?_
    refine lv_iconst (v := 2) hx hb d_Mo_rollback_27 (by decide) ?_
    have f_84_ws2 : ws2[84]? = some ((A84, Sum.inr (9, [Value.ref A85, Value.ref A86, Value.ref A87, Value.ref A88, Value.ref A89, Value.ref A90, Value.ref A91, Value.int 0, Value.int 0, Value.int 0, Value.int 0])) : Nat × va_E) := e_ws2.at (by first | decide | (simp; done) | (simp; omega)) f_84
    clear f_84
    have f_92_ws2 : ws2[92]? = some ((A92, Sum.inr (9, [Value.ref A93, Value.ref A94, Value.ref A95, Value.ref A96, Value.ref A97, Value.ref A98, Value.ref A99, Value.int 0, Value.int 0, Value.int 0, Value.int 0])) : Nat × va_E) := e_ws2.at (by first | decide | (simp; done) | (simp; omega)) f_92
    clear f_92
    have f_100_ws2 : ws2[100]? = some ((A100, Sum.inr (9, [Value.ref A101, Value.ref A102, Value.ref A103, Value.ref A104, Value.ref A105, Value.ref A106, Value.ref A107, Value.int 0, Value.int 0, Value.int 0, Value.int 0])) : Nat × va_E) := e_ws2.at (by first | decide | (simp; done) | (simp; omega)) f_100
    clear f_100
    have f_108_ws2 : ws2[108]? = some ((A108, Sum.inr (9, [Value.ref A109, Value.ref A110, Value.ref A111, Value.ref A112, Value.ref A113, Value.ref A114, Value.ref A115, Value.int 0, Value.int 0, Value.int 0, Value.int 0])) : Nat × va_E) := e_ws2.at (by first | decide | (simp; done) | (simp; omega)) f_108
    clear f_108
    have f_83_ws2 : ws2[83]? = some ((A83, Sum.inl (cV, 4, Sum.inr (Sum.inr (Sum.inr (Sum.inr (va_up (va_up (va_up (va_up (fun _ => none) 0 (some A84)) 1 (some A92)) 2 (some A100)) 3 (some A108))))))) : Nat × va_E) := e_ws2.at (by first | decide | (simp; done) | (simp; omega)) f_83
    clear f_83
    refine gx_call (ig := .invokevirtual 175) (c_Mo_finished_v3 l htr D tys z _ ws2 cV A46 A47 A48 A49 A50 A51 A52 A53 A54 A62 A70 A78 A79 (u0) A80 A81 A82 A83 A84 A85 A86 A87 A88 A89 A90 A91 A92 A93 A94 A95 A96 A97 A98 A99 A100 A101 A102 A103 A104 A105 A106 A107 A108 A109 A110 A111 A112 A113 A114 A115 f_46_ws2 f_84_ws2 f_92_ws2 f_100_ws2 f_108_ws2 f_83_ws2 ht5) (gx_invV (As := [Value.int 0, Value.int 2]) (rest := []) hx hb hown hts km_Mo_175 kI_Mo_finished kV_Mo_finished kc_Mo_finished (by decide) (show (parseMethodDescriptor y_Mo_finished.desc).map (fun d => d.parameters.length) = some 2 by decide +kernel) (gx_recv (ci := 8) hK hP rfl f_46_ws2) rfl rfl d_Mo_rollback_28) (gx_cw (z := 0) hts kc_Mo_finished kN_Mo rfl rfl ⟨Nat.le_of_ble_eq_true rfl, Nat.le_of_ble_eq_true rfl⟩) hb hml gx_blind (gx_pre hz hP hK hD hY hS hAz [Value.ref A46, Value.int 0, Value.int 2]) rfl hl.1 (lv_room (Nat.le_of_ble_eq_true rfl)) d_Mo_rollback_28 ⟨Nat.le_of_ble_eq_true rfl, Nat.le_of_ble_eq_true rfl⟩ (fun v3 st3 t3 L3 h0_3 hW_3 hQ_3 hL_3 => ?_) (fun v3 st3 t3 L3 h0_3 hW_3 hQ_3 hL_3 => ?_)
    · obtain ⟨ws4, hp, hP9, -, hD9, hS9⟩ := gx_back h0_3 hW_3 hQ_3 hL_3 hD hS hA
      clear hQ_3 h0_3 hL_3 hW_3 hP hD hS
      have hP := hP9
      have hD := hD9
      have hS := hS9
      clear hP9 hD9 hS9
      rcases hp with ⟨hv9, e_ws4, f_46_ws4⟩
      cases hv9
      have f_46_ws4 : ws4[46]? = some ((A46, Sum.inr (8, [Value.int 0, Value.int 1, Value.ref A47, Value.ref A48, Value.ref A49, Value.int 0, Value.ref A50, Value.ref A51, Value.ref A52, Value.ref A53, Value.int 0, Value.int 0, Value.int 0, Value.int (-1), Value.int 0, Value.ref A54, Value.ref A62, Value.ref A70, Value.int 0, Value.int 0, Value.int 0, Value.ref A78, Value.ref A79, Value.int 0, Value.int 16, Value.int 4, u0, Value.ref A80, Value.ref A81, Value.ref A82, Value.int 0, Value.ref A83, Value.int 0, Value.int 0, Value.int 0])) : Nat × va_E) := f_46_ws4
      replace hU : gx_g ws ws4 0 [46] := hU.call e_ws4 (by simp; first | done | omega)
      refine W.eq (g2 := F0 m 31 ls [Value.int 0]) rfl ?_
      generalize t3.heap = H at hP hS ⊢
      generalize locs ++ L3 = locs at hS ⊢
      refine lv_istore_n (lv' := [(1, Value.int 0), (0, Value.ref A46)]) hx hb d_Mo_rollback_31 rfl hl (by decide) rfl (fun ls hl => ?_)
      exact gx_ret (W.vret hx hb hr (gx_post hP hK hD hS (by rw [← hPQ]; exact ⟨rfl, hU, f_46_ws4⟩)) hS.2.2 d_Mo_rollback_32)
    · obtain ⟨E9, ws5, ce, hp, hce, hP9, -, hD9, hS9⟩ := gx_backT h0_3 hW_3 hQ_3 hL_3 hD hS hA
      clear hQ_3 h0_3 hL_3 hW_3 hP hD hS
      have hP := hP9
      have hD := hD9
      have hS := hS9
      clear hP9 hD9 hS9
      rcases hp with ⟨hv9, e_ws5, f_46_ws5⟩
      cases hv9
  · obtain ⟨E9, ws6, ce, hp, hce, hP9, -, hD9, hS9⟩ := gx_backT h0_1 hW_1 hQ_1 hL_1 hD hS hA
    clear hQ_1 h0_1 hL_1 hW_1 hP hD hS
    have hP := hP9
    have hD := hD9
    have hS := hS9
    clear hP9 hD9 hS9
    rcases hp with ⟨hv9, e_ws6, f_46_ws6⟩
    cases hv9

set_option maxHeartbeats 4000000 in
set_option maxRecDepth 100000 in
theorem c_Mo_close0_v1 (l : Launch) (htr : l.stackTraces = false) (D : va_G) (tys : List (ClassId × FieldType)) (z sz : Nat) (ws : va_W) (A46 : Nat) (A47 : Nat) (A48 : Nat) (A49 : Nat) (A50 : Nat) (A51 : Nat) (A52 : Nat) (A53 : Nat) (A54 : Nat) (A62 : Nat) (A70 : Nat) (A78 : Nat) (A79 : Nat) (u0 : Value) (A80 : Nat) (A81 : Nat) (A82 : Nat) (A83 : Nat) (f_46 : ws[46]? = some ((A46, Sum.inr (8, [Value.int 0, Value.int 0, Value.ref A47, Value.ref A48, Value.ref A49, Value.int 0, Value.ref A50, Value.ref A51, Value.ref A52, Value.ref A53, Value.int 0, Value.int 0, Value.int 0, Value.int (-1), Value.int 0, Value.ref A54, Value.ref A62, Value.ref A70, Value.int 0, Value.int 0, Value.int 0, Value.ref A78, Value.ref A79, Value.int 0, Value.int 16, Value.int 4, u0, Value.ref A80, Value.ref A81, Value.ref A82, Value.int 0, Value.ref A83, Value.int 0, Value.int 0, Value.int 0])) : Nat × va_E)) : gx_Met l y_Mo_close0 [Cond.code y_Mo_close0 b_Mo_close0 2 (some .int)] { frames := 2, cells := 0, slots := 0, locals := 37 } (gx_P z sz D classes tys ws [Value.ref A46]) (gx_Q D classes tys (va_A ws sz) (fun r ws' => (r = Sum.inl (some (Value.int 0)) ∧ gx_g ws ws' 0 [46] ∧ ws'[46]? = some ((A46, Sum.inr (8, [Value.int 0, Value.int 1, Value.ref A47, Value.ref A48, Value.ref A49, Value.int 0, Value.ref A50, Value.ref A51, Value.ref A52, Value.ref A53, Value.int 0, Value.int 0, Value.int 0, Value.int (-1), Value.int 0, Value.ref A54, Value.ref A62, Value.ref A70, Value.int 0, Value.int 0, Value.int 0, Value.ref A78, Value.ref A79, Value.int 0, Value.int 16, Value.int 4, u0, Value.ref A80, Value.ref A81, Value.ref A82, Value.int 0, Value.ref A83, Value.int 0, Value.int 0, Value.int 0])) : Nat × va_E)))) 0 0 (va_A ws sz) := by
  refine gx_ofW (cc := b_Mo_close0) (maxL := 2) (ret := (some .int)) (by decide) rfl ?_
  intro p e s m args below meth c s₁ B hml hv
  obtain ⟨rfl, hsz, hz, hP, hK, hD0, hY⟩ := hv
  have hx := B.exec
  have hb := B.bytes
  have hr := B.returns
  have hts := hY.hts (#[Value.ref A46] : Array Value)
  have hown : s.vm.findClass "CommitLedgerModel" = some m.cls := findClass_of_methodNamed B.named
  have hlocks := B.notSynchronized
  have hne : c.exceptionTable.isEmpty = true := B.noHandlers (atoms_spec (ws := [Cond.code y_Mo_close0 b_Mo_close0 2 (some .int)]) B.pre _ List.mem_cons_self)
  subst hsz
  have hAz := gx_az hD0 hz
  have hD := hD0.self (sz := s.heap.size)
  have hN := gx_ns hP
  have hA : ∀ q : Nat, s.heap.size ≤ q → va_A ws s.heap.size q := fun q h => Or.inr h
  generalize va_A ws s.heap.size = A at hD hN hA hAz ⊢
  generalize hPQ : (fun (r : Option Value ⊕ String) (ws' : va_W) => (r = Sum.inl (some (Value.int 0)) ∧ gx_g ws ws' 0 [46] ∧ ws'[46]? = some ((A46, Sum.inr (8, [Value.int 0, Value.int 1, Value.ref A47, Value.ref A48, Value.ref A49, Value.int 0, Value.ref A50, Value.ref A51, Value.ref A52, Value.ref A53, Value.int 0, Value.int 0, Value.int 0, Value.int (-1), Value.int 0, Value.ref A54, Value.ref A62, Value.ref A70, Value.int 0, Value.int 0, Value.int 0, Value.ref A78, Value.ref A79, Value.int 0, Value.int 16, Value.int 4, u0, Value.ref A80, Value.ref A81, Value.ref A82, Value.int 0, Value.ref A83, Value.int 0, Value.int 0, Value.int 0])) : Nat × va_E))) = PQ
  have hS : va_S A s.heap s.heap [] := va_S.rf
  have hU : gx_g ws ws 0 [46] := gx_g.rf
  have hl := lv_entry ([Value.ref A46]) (n := 2) (Nat.le_of_ble_eq_true rfl)
  rw [lg_entry_eq]
  generalize (lg_sl ([Value.ref A46]) ++ List.replicate (2 - (lg_sl ([Value.ref A46])).length) Slot.unset).toArray = ls at hl ⊢
  have hl : lv_has ls 2 [(0, Value.ref A46)] := hl
  refine lv_aload_n hx hb d_Mo_close0_0 rfl (lv_at hl 0 rfl) ?_
  refine lv_aload_n hx hb d_Mo_close0_1 rfl (lv_at hl 0 rfl) ?_
  refine va_get (D := D) (ci := 8) (v := Value.int 0) (C := "CommitLedgerModel") (T := F_Mo) (N := 35) hx hb hts i_Mo hown hK hP 46 f_46 rfl 18 (by decide) (hts _ kf_Mo_99) (fun _ h9 => h9) rfl d_Mo_close0_2 ?_
  refine lv_if_eq (tgt := 15) hx hb d_Mo_close0_5 (by decide) (fun _ => ?_) (fun c9 => absurd (by decide) c9)
  refine lv_iconst (v := 1) hx hb d_Mo_close0_15 (by decide) ?_
  refine lv_goto (tgt := 20) hx hb d_Mo_close0_16 (by decide) ?_
  refine lv_iconst (v := 2) hx hb d_Mo_close0_20 (by decide) ?_
  refine gx_call (ig := .invokevirtual 152) (c_Mo_wrong_v5 l htr D tys z _ ws A46 A47 A48 A49 A50 A51 A52 A53 A54 A62 A70 A78 A79 (u0) A80 A81 A82 A83 f_46) (gx_invV (As := [Value.int 1, Value.int 2]) (rest := []) hx hb hown hts km_Mo_152 kI_Mo_wrong kV_Mo_wrong kc_Mo_wrong (by decide) (show (parseMethodDescriptor y_Mo_wrong.desc).map (fun d => d.parameters.length) = some 2 by decide +kernel) (gx_recv (ci := 8) hK hP rfl f_46) rfl rfl d_Mo_close0_21) (gx_cw (z := 0) hts kc_Mo_wrong kN_Mo rfl rfl ⟨Nat.le_of_ble_eq_true rfl, Nat.le_of_ble_eq_true rfl⟩) hb hml gx_blind (gx_pre hz hP hK hD hY hS hAz [Value.ref A46, Value.int 1, Value.int 2]) rfl hl.1 (lv_room (Nat.le_of_ble_eq_true rfl)) d_Mo_close0_21 ⟨Nat.le_of_ble_eq_true rfl, Nat.le_of_ble_eq_true rfl⟩ (fun v1 st1 t1 L1 h0_1 hW_1 hQ_1 hL_1 => ?_) (fun v1 st1 t1 L1 h0_1 hW_1 hQ_1 hL_1 => ?_)
  · obtain ⟨ws2, hp, hP9, -, hD9, hS9⟩ := gx_back h0_1 hW_1 hQ_1 hL_1 hD hS hA
    clear hQ_1 h0_1 hL_1 hW_1 hP hD hS
    have hP := hP9
    have hD := hD9
    have hS := hS9
    clear hP9 hD9 hS9
    rcases hp with ⟨hv9, e_ws2, f_46_ws2⟩
    cases hv9
    have f_46_ws2 : ws2[46]? = some ((A46, Sum.inr (8, [Value.int 2, Value.int 0, Value.ref A47, Value.ref A48, Value.ref A49, Value.int 0, Value.ref A50, Value.ref A51, Value.ref A52, Value.ref A53, Value.int 0, Value.int 0, Value.int 0, Value.int (-1), Value.int 0, Value.ref A54, Value.ref A62, Value.ref A70, Value.int 0, Value.int 0, Value.int 0, Value.ref A78, Value.ref A79, Value.int 0, Value.int 16, Value.int 4, u0, Value.ref A80, Value.ref A81, Value.ref A82, Value.int 0, Value.ref A83, Value.int 0, Value.int 0, Value.int 0])) : Nat × va_E) := f_46_ws2
    replace hU : gx_g ws ws2 0 [46] := hU.call e_ws2 (by simp; first | done | omega)
    refine W.eq (g2 := F0 m 24 ls [Value.int 1]) rfl ?_
    generalize t1.heap = H at hP hS ⊢
    generalize [] ++ L1 = locs at hS ⊢
    refine lv_if_eq (tgt := 35) hx hb d_Mo_close0_24 (by decide) (fun c9 => absurd c9 (by decide)) (fun _ => ?_)
    refine lv_aload_n hx hb d_Mo_close0_27 rfl (lv_at hl 0 rfl) ?_
    refine lv_iconst (v := 0) hx hb d_Mo_close0_28 (by decide) ?_
    refine lv_bipush (v := 26) hx hb d_Mo_close0_29 (by decide) ?_
    refine gx_call (ig := .invokevirtual 148) (c_Mo_done_v10 l htr D tys z _ ws2 A46 A47 A48 A49 A50 A51 A52 A53 A54 A62 A70 A78 A79 (u0) A80 A81 A82 A83 f_46_ws2) (gx_invV (As := [Value.int 0, Value.int 26]) (rest := []) hx hb hown hts km_Mo_148 kI_Mo_done kV_Mo_done kc_Mo_done (by decide) (show (parseMethodDescriptor y_Mo_done.desc).map (fun d => d.parameters.length) = some 2 by decide +kernel) (gx_recv (ci := 8) hK hP rfl f_46_ws2) rfl rfl d_Mo_close0_31) (gx_cw (z := 0) hts kc_Mo_done kN_Mo rfl rfl ⟨Nat.le_of_ble_eq_true rfl, Nat.le_of_ble_eq_true rfl⟩) hb hml gx_blind (gx_pre hz hP hK hD hY hS hAz [Value.ref A46, Value.int 0, Value.int 26]) rfl hl.1 (lv_room (Nat.le_of_ble_eq_true rfl)) d_Mo_close0_31 ⟨Nat.le_of_ble_eq_true rfl, Nat.le_of_ble_eq_true rfl⟩ (fun v3 st3 t3 L3 h0_3 hW_3 hQ_3 hL_3 => ?_) (fun v3 st3 t3 L3 h0_3 hW_3 hQ_3 hL_3 => ?_)
    · obtain ⟨ws4, hp, hP9, -, hD9, hS9⟩ := gx_back h0_3 hW_3 hQ_3 hL_3 hD hS hA
      clear hQ_3 h0_3 hL_3 hW_3 hP hD hS
      have hP := hP9
      have hD := hD9
      have hS := hS9
      clear hP9 hD9 hS9
      rcases hp with ⟨hv9, e_ws4, f_46_ws4⟩
      cases hv9
      have f_46_ws4 : ws4[46]? = some ((A46, Sum.inr (8, [Value.int 0, Value.int 1, Value.ref A47, Value.ref A48, Value.ref A49, Value.int 0, Value.ref A50, Value.ref A51, Value.ref A52, Value.ref A53, Value.int 0, Value.int 0, Value.int 0, Value.int (-1), Value.int 0, Value.ref A54, Value.ref A62, Value.ref A70, Value.int 0, Value.int 0, Value.int 0, Value.ref A78, Value.ref A79, Value.int 0, Value.int 16, Value.int 4, u0, Value.ref A80, Value.ref A81, Value.ref A82, Value.int 0, Value.ref A83, Value.int 0, Value.int 0, Value.int 0])) : Nat × va_E) := f_46_ws4
      replace hU : gx_g ws ws4 0 [46] := hU.call e_ws4 (by simp; first | done | omega)
      refine W.eq (g2 := F0 m 34 ls [Value.int 0]) rfl ?_
      generalize t3.heap = H at hP hS ⊢
      generalize locs ++ L3 = locs at hS ⊢
      exact gx_ret (W.iret (v := 0) hx hb hr (gx_post hP hK hD hS (by rw [← hPQ]; exact ⟨rfl, hU, f_46_ws4⟩)) hS.2.2 d_Mo_close0_34)
    · obtain ⟨E9, ws5, ce, hp, hce, hP9, -, hD9, hS9⟩ := gx_backT h0_3 hW_3 hQ_3 hL_3 hD hS hA
      clear hQ_3 h0_3 hL_3 hW_3 hP hD hS
      have hP := hP9
      have hD := hD9
      have hS := hS9
      clear hP9 hD9 hS9
      rcases hp with ⟨hv9, e_ws5, f_46_ws5⟩
      cases hv9
  · obtain ⟨E9, ws6, ce, hp, hce, hP9, -, hD9, hS9⟩ := gx_backT h0_1 hW_1 hQ_1 hL_1 hD hS hA
    clear hQ_1 h0_1 hL_1 hW_1 hP hD hS
    have hP := hP9
    have hD := hD9
    have hS := hS9
    clear hP9 hD9 hS9
    rcases hp with ⟨hv9, e_ws6, f_46_ws6⟩
    cases hv9

set_option maxHeartbeats 4000000 in
set_option maxRecDepth 100000 in
theorem c_Mo_done_v14 (l : Launch) (htr : l.stackTraces = false) (D : va_G) (tys : List (ClassId × FieldType)) (z sz : Nat) (ws : va_W) (A46 : Nat) (A47 : Nat) (A48 : Nat) (A49 : Nat) (A50 : Nat) (A51 : Nat) (A52 : Nat) (A53 : Nat) (A54 : Nat) (A62 : Nat) (A70 : Nat) (A78 : Nat) (A79 : Nat) (u0 : Value) (A80 : Nat) (A81 : Nat) (A82 : Nat) (A83 : Nat) (f_46 : ws[46]? = some ((A46, Sum.inr (8, [Value.int 1, Value.int 0, Value.ref A47, Value.ref A48, Value.ref A49, Value.int 0, Value.ref A50, Value.ref A51, Value.ref A52, Value.ref A53, Value.int 0, Value.int 0, Value.int 0, Value.int (-1), Value.int 0, Value.ref A54, Value.ref A62, Value.ref A70, Value.int 0, Value.int 0, Value.int 0, Value.ref A78, Value.ref A79, Value.int 0, Value.int 16, Value.int 4, u0, Value.ref A80, Value.ref A81, Value.ref A82, Value.int 0, Value.ref A83, Value.int 0, Value.int 0, Value.int 0])) : Nat × va_E)) : gx_Met l y_Mo_done [Cond.code y_Mo_done b_Mo_done 6 (some .int)] { frames := 1, cells := 0, slots := 0, locals := 12 } (gx_P z sz D classes tys ws [Value.ref A46, Value.int 0, Value.int 123]) (gx_Q D classes tys (va_A ws sz) (fun r ws' => (r = Sum.inl (some (Value.int 0)) ∧ gx_g ws ws' 0 [46] ∧ ws'[46]? = some ((A46, Sum.inr (8, [Value.int 0, Value.int 1, Value.ref A47, Value.ref A48, Value.ref A49, Value.int 0, Value.ref A50, Value.ref A51, Value.ref A52, Value.ref A53, Value.int 0, Value.int 0, Value.int 0, Value.int (-1), Value.int 0, Value.ref A54, Value.ref A62, Value.ref A70, Value.int 0, Value.int 0, Value.int 0, Value.ref A78, Value.ref A79, Value.int 0, Value.int 16, Value.int 4, u0, Value.ref A80, Value.ref A81, Value.ref A82, Value.int 0, Value.ref A83, Value.int 0, Value.int 0, Value.int 0])) : Nat × va_E)))) 0 0 (va_A ws sz) := by
  refine gx_ofW (cc := b_Mo_done) (maxL := 6) (ret := (some .int)) (by decide) rfl ?_
  intro p e s m args below meth c s₁ B hml hv
  obtain ⟨rfl, hsz, hz, hP, hK, hD0, hY⟩ := hv
  have hx := B.exec
  have hb := B.bytes
  have hr := B.returns
  have hts := hY.hts (#[Value.ref A46, Value.int 0, Value.int 123] : Array Value)
  have hown : s.vm.findClass "CommitLedgerModel" = some m.cls := findClass_of_methodNamed B.named
  have hlocks := B.notSynchronized
  have hne : c.exceptionTable.isEmpty = true := B.noHandlers (atoms_spec (ws := [Cond.code y_Mo_done b_Mo_done 6 (some .int)]) B.pre _ List.mem_cons_self)
  subst hsz
  have hAz := gx_az hD0 hz
  have hD := hD0.self (sz := s.heap.size)
  have hN := gx_ns hP
  have hA : ∀ q : Nat, s.heap.size ≤ q → va_A ws s.heap.size q := fun q h => Or.inr h
  generalize va_A ws s.heap.size = A at hD hN hA hAz ⊢
  generalize hPQ : (fun (r : Option Value ⊕ String) (ws' : va_W) => (r = Sum.inl (some (Value.int 0)) ∧ gx_g ws ws' 0 [46] ∧ ws'[46]? = some ((A46, Sum.inr (8, [Value.int 0, Value.int 1, Value.ref A47, Value.ref A48, Value.ref A49, Value.int 0, Value.ref A50, Value.ref A51, Value.ref A52, Value.ref A53, Value.int 0, Value.int 0, Value.int 0, Value.int (-1), Value.int 0, Value.ref A54, Value.ref A62, Value.ref A70, Value.int 0, Value.int 0, Value.int 0, Value.ref A78, Value.ref A79, Value.int 0, Value.int 16, Value.int 4, u0, Value.ref A80, Value.ref A81, Value.ref A82, Value.int 0, Value.ref A83, Value.int 0, Value.int 0, Value.int 0])) : Nat × va_E))) = PQ
  have hS : va_S A s.heap s.heap [] := va_S.rf
  have hU : gx_g ws ws 0 [46] := gx_g.rf
  have hl := lv_entry ([Value.ref A46, Value.int 0, Value.int 123]) (n := 6) (Nat.le_of_ble_eq_true rfl)
  rw [lg_entry_eq]
  generalize (lg_sl ([Value.ref A46, Value.int 0, Value.int 123]) ++ List.replicate (6 - (lg_sl ([Value.ref A46, Value.int 0, Value.int 123])).length) Slot.unset).toArray = ls at hl ⊢
  have hl : lv_has ls 6 [(0, Value.ref A46), (1, Value.int 0), (2, Value.int 123)] := hl
  refine lv_aload_n hx hb d_Mo_done_0 rfl (lv_at hl 0 rfl) ?_
  refine lv_iconst (v := 0) hx hb d_Mo_done_1 (by decide) ?_
  refine va_put (D := D) (ci := 8) (v := Value.int 0) (ty := .int) (C := "CommitLedgerModel") (T := F_Mo) (N := 35) hx hb hts i_Mo t_Mo t_Mo_ok n_Mo hown hK hP hD hS 46 f_46 rfl 1 (by decide) (hts _ kf_Mo_80) (fun _ h9 => h9) rfl (by decide +kernel) rfl rfl (Nat.le_of_ble_eq_true rfl) d_Mo_done_2 (fun H locs hP9 hD9 hS9 => ?_)
  obtain ⟨ws1, e_ws1⟩ : ∃ x : va_W, x = ws.set 46 ((A46, Sum.inr (8, [Value.int 1, Value.int 0, Value.ref A47, Value.ref A48, Value.ref A49, Value.int 0, Value.ref A50, Value.ref A51, Value.ref A52, Value.ref A53, Value.int 0, Value.int 0, Value.int 0, Value.int (-1), Value.int 0, Value.ref A54, Value.ref A62, Value.ref A70, Value.int 0, Value.int 0, Value.int 0, Value.ref A78, Value.ref A79, Value.int 0, Value.int 16, Value.int 4, u0, Value.ref A80, Value.ref A81, Value.ref A82, Value.int 0, Value.ref A83, Value.int 0, Value.int 0, Value.int 0])) : Nat × va_E) := ⟨_, rfl⟩
  replace hP : va_P D classes ws1 H := by rw [e_ws1]; exact hP9
  replace hD : va_D A ws1 := by rw [e_ws1]; exact hD9
  replace hS := hS9
  clear hP9 hD9 hS9
  have f_46_ws1 : ws1[46]? = some ((A46, Sum.inr (8, [Value.int 1, Value.int 0, Value.ref A47, Value.ref A48, Value.ref A49, Value.int 0, Value.ref A50, Value.ref A51, Value.ref A52, Value.ref A53, Value.int 0, Value.int 0, Value.int 0, Value.int (-1), Value.int 0, Value.ref A54, Value.ref A62, Value.ref A70, Value.int 0, Value.int 0, Value.int 0, Value.ref A78, Value.ref A79, Value.int 0, Value.int 16, Value.int 4, u0, Value.ref A80, Value.ref A81, Value.ref A82, Value.int 0, Value.ref A83, Value.int 0, Value.int 0, Value.int 0])) : Nat × va_E) := by rw [e_ws1]; exact gs_self f_46
  replace hU : gx_g ws ws1 0 [46] := by rw [e_ws1]; exact hU.put (Or.inl (by simp))
  refine lv_iconst (v := 0) hx hb d_Mo_done_5 (by decide) ?_
  refine lv_istore_n (lv' := [(3, Value.int 0), (0, Value.ref A46), (1, Value.int 0), (2, Value.int 123)]) hx hb d_Mo_done_6 rfl hl (by decide) rfl (fun ls hl => ?_)
  refine lv_ldc (v := 100000) hx hb hown (hts _ ki_Mo_83) d_Mo_done_7 ?_
  refine lv_istore (lv' := [(4, Value.int 100000), (3, Value.int 0), (0, Value.ref A46), (1, Value.int 0), (2, Value.int 123)]) hx hb d_Mo_done_9 hl (by decide) rfl (fun ls hl => ?_)
  refine lv_iload hx hb d_Mo_done_11 (lv_at hl 0 rfl) ?_
  refine lv_if_le (tgt := 60) hx hb d_Mo_done_13 (by decide) (fun c9 => absurd c9 (by decide)) (fun _ => ?_)
  refine lv_iload_n hx hb d_Mo_done_16 rfl (lv_at hl 4 rfl) ?_
  refine lv_iload hx hb d_Mo_done_17 (lv_at hl 0 rfl) ?_
  refine lv_idiv hx hb d_Mo_done_19 (by decide) ?_
  refine gx_topi (y := 0) (by decide) ?_
  refine lv_bipush (v := 10) hx hb d_Mo_done_20 (by decide) ?_
  refine lv_irem hx hb d_Mo_done_22 (by decide) ?_
  refine gx_topi (y := 0) (by decide) ?_
  refine lv_istore (lv' := [(5, Value.int 0), (4, Value.int 100000), (3, Value.int 0), (0, Value.ref A46), (1, Value.int 0), (2, Value.int 123)]) hx hb d_Mo_done_23 hl (by decide) rfl (fun ls hl => ?_)
  refine lv_iload hx hb d_Mo_done_25 (lv_at hl 0 rfl) ?_
  refine lv_if_ne (tgt := 33) hx hb d_Mo_done_27 (by decide) (fun c9 => absurd (by decide) c9) (fun _ => ?_)
  refine lv_goto (tgt := 50) hx hb d_Mo_done_30 (by decide) ?_
  refine lv_iload hx hb d_Mo_done_50 (lv_at hl 1 rfl) ?_
  refine lv_bipush (v := 10) hx hb d_Mo_done_52 (by decide) ?_
  refine lv_idiv hx hb d_Mo_done_54 (by decide) ?_
  refine gx_topi (y := 10000) (by decide) ?_
  refine lv_istore (lv' := [(4, Value.int 10000), (5, Value.int 0), (3, Value.int 0), (0, Value.ref A46), (1, Value.int 0), (2, Value.int 123)]) hx hb d_Mo_done_55 hl (by decide) rfl (fun ls hl => ?_)
  refine lv_goto (tgt := 11) hx hb d_Mo_done_57 (by decide) ?_
  refine lv_iload hx hb d_Mo_done_11 (lv_at hl 0 rfl) ?_
  refine lv_if_le (tgt := 60) hx hb d_Mo_done_13 (by decide) (fun c9 => absurd c9 (by decide)) (fun _ => ?_)
  refine lv_iload_n hx hb d_Mo_done_16 rfl (lv_at hl 5 rfl) ?_
  refine lv_iload hx hb d_Mo_done_17 (lv_at hl 0 rfl) ?_
  refine lv_idiv hx hb d_Mo_done_19 (by decide) ?_
  refine gx_topi (y := 0) (by decide) ?_
  refine lv_bipush (v := 10) hx hb d_Mo_done_20 (by decide) ?_
  refine lv_irem hx hb d_Mo_done_22 (by decide) ?_
  refine gx_topi (y := 0) (by decide) ?_
  refine lv_istore (lv' := [(5, Value.int 0), (4, Value.int 10000), (3, Value.int 0), (0, Value.ref A46), (1, Value.int 0), (2, Value.int 123)]) hx hb d_Mo_done_23 hl (by decide) rfl (fun ls hl => ?_)
  refine lv_iload hx hb d_Mo_done_25 (lv_at hl 0 rfl) ?_
  refine lv_if_ne (tgt := 33) hx hb d_Mo_done_27 (by decide) (fun c9 => absurd (by decide) c9) (fun _ => ?_)
  refine lv_goto (tgt := 50) hx hb d_Mo_done_30 (by decide) ?_
  refine lv_iload hx hb d_Mo_done_50 (lv_at hl 1 rfl) ?_
  refine lv_bipush (v := 10) hx hb d_Mo_done_52 (by decide) ?_
  refine lv_idiv hx hb d_Mo_done_54 (by decide) ?_
  refine gx_topi (y := 1000) (by decide) ?_
  refine lv_istore (lv' := [(4, Value.int 1000), (5, Value.int 0), (3, Value.int 0), (0, Value.ref A46), (1, Value.int 0), (2, Value.int 123)]) hx hb d_Mo_done_55 hl (by decide) rfl (fun ls hl => ?_)
  refine lv_goto (tgt := 11) hx hb d_Mo_done_57 (by decide) ?_
  refine lv_iload hx hb d_Mo_done_11 (lv_at hl 0 rfl) ?_
  refine lv_if_le (tgt := 60) hx hb d_Mo_done_13 (by decide) (fun c9 => absurd c9 (by decide)) (fun _ => ?_)
  refine lv_iload_n hx hb d_Mo_done_16 rfl (lv_at hl 5 rfl) ?_
  refine lv_iload hx hb d_Mo_done_17 (lv_at hl 0 rfl) ?_
  refine lv_idiv hx hb d_Mo_done_19 (by decide) ?_
  refine gx_topi (y := 0) (by decide) ?_
  refine lv_bipush (v := 10) hx hb d_Mo_done_20 (by decide) ?_
  refine lv_irem hx hb d_Mo_done_22 (by decide) ?_
  refine gx_topi (y := 0) (by decide) ?_
  refine lv_istore (lv' := [(5, Value.int 0), (4, Value.int 1000), (3, Value.int 0), (0, Value.ref A46), (1, Value.int 0), (2, Value.int 123)]) hx hb d_Mo_done_23 hl (by decide) rfl (fun ls hl => ?_)
  refine lv_iload hx hb d_Mo_done_25 (lv_at hl 0 rfl) ?_
  refine lv_if_ne (tgt := 33) hx hb d_Mo_done_27 (by decide) (fun c9 => absurd (by decide) c9) (fun _ => ?_)
  refine lv_goto (tgt := 50) hx hb d_Mo_done_30 (by decide) ?_
  refine lv_iload hx hb d_Mo_done_50 (lv_at hl 1 rfl) ?_
  refine lv_bipush (v := 10) hx hb d_Mo_done_52 (by decide) ?_
  refine lv_idiv hx hb d_Mo_done_54 (by decide) ?_
  refine gx_topi (y := 100) (by decide) ?_
  refine lv_istore (lv' := [(4, Value.int 100), (5, Value.int 0), (3, Value.int 0), (0, Value.ref A46), (1, Value.int 0), (2, Value.int 123)]) hx hb d_Mo_done_55 hl (by decide) rfl (fun ls hl => ?_)
  refine lv_goto (tgt := 11) hx hb d_Mo_done_57 (by decide) ?_
  refine lv_iload hx hb d_Mo_done_11 (lv_at hl 0 rfl) ?_
  refine lv_if_le (tgt := 60) hx hb d_Mo_done_13 (by decide) (fun c9 => absurd c9 (by decide)) (fun _ => ?_)
  refine lv_iload_n hx hb d_Mo_done_16 rfl (lv_at hl 5 rfl) ?_
  refine lv_iload hx hb d_Mo_done_17 (lv_at hl 0 rfl) ?_
  refine lv_idiv hx hb d_Mo_done_19 (by decide) ?_
  refine gx_topi (y := 1) (by decide) ?_
  refine lv_bipush (v := 10) hx hb d_Mo_done_20 (by decide) ?_
  refine lv_irem hx hb d_Mo_done_22 (by decide) ?_
  refine gx_topi (y := 1) (by decide) ?_
  refine lv_istore (lv' := [(5, Value.int 1), (4, Value.int 100), (3, Value.int 0), (0, Value.ref A46), (1, Value.int 0), (2, Value.int 123)]) hx hb d_Mo_done_23 hl (by decide) rfl (fun ls hl => ?_)
  refine lv_iload hx hb d_Mo_done_25 (lv_at hl 0 rfl) ?_
  refine lv_if_ne (tgt := 33) hx hb d_Mo_done_27 (by decide) (fun _ => ?_) (fun c9 => absurd c9 (by decide))
  refine lv_iinc (v := 1) (lv' := [(3, Value.int 1), (5, Value.int 1), (4, Value.int 100), (0, Value.ref A46), (1, Value.int 0), (2, Value.int 123)]) hx hb d_Mo_done_33 hl (k := 2) rfl (by decide) (by decide) rfl (fun ls hl => ?_)
  refine lv_iload hx hb d_Mo_done_36 (lv_at hl 1 rfl) ?_
  refine lv_aload_n hx hb d_Mo_done_38 rfl (lv_at hl 3 rfl) ?_
  refine va_get (D := D) (ci := 8) (v := Value.int 1) (C := "CommitLedgerModel") (T := F_Mo) (N := 35) hx hb hts i_Mo hown hK hP 46 f_46_ws1 rfl 0 (by decide) (hts _ kf_Mo_84) (fun _ h9 => h9) rfl d_Mo_done_39 ?_
  refine lv_icmp_ne (tgt := 50) hx hb d_Mo_done_42 (by decide) (fun c9 => absurd (by decide) c9) (fun _ => ?_)
  refine lv_aload_n hx hb d_Mo_done_45 rfl (lv_at hl 3 rfl) ?_
  refine lv_iload_n hx hb d_Mo_done_46 rfl (lv_at hl 0 rfl) ?_
  refine va_put (D := D) (ci := 8) (v := Value.int 1) (ty := .int) (C := "CommitLedgerModel") (T := F_Mo) (N := 35) hx hb hts i_Mo t_Mo t_Mo_ok n_Mo hown hK hP hD hS 46 f_46_ws1 rfl 1 (by decide) (hts _ kf_Mo_80) (fun _ h9 => h9) rfl (by decide +kernel) rfl rfl (Nat.le_of_ble_eq_true rfl) d_Mo_done_47 (fun H locs hP9 hD9 hS9 => ?_)
  obtain ⟨ws2, e_ws2⟩ : ∃ x : va_W, x = ws1.set 46 ((A46, Sum.inr (8, [Value.int 1, Value.int 1, Value.ref A47, Value.ref A48, Value.ref A49, Value.int 0, Value.ref A50, Value.ref A51, Value.ref A52, Value.ref A53, Value.int 0, Value.int 0, Value.int 0, Value.int (-1), Value.int 0, Value.ref A54, Value.ref A62, Value.ref A70, Value.int 0, Value.int 0, Value.int 0, Value.ref A78, Value.ref A79, Value.int 0, Value.int 16, Value.int 4, u0, Value.ref A80, Value.ref A81, Value.ref A82, Value.int 0, Value.ref A83, Value.int 0, Value.int 0, Value.int 0])) : Nat × va_E) := ⟨_, rfl⟩
  replace hP : va_P D classes ws2 H := by rw [e_ws2]; exact hP9
  replace hD : va_D A ws2 := by rw [e_ws2]; exact hD9
  replace hS := hS9
  clear hP9 hD9 hS9
  have f_46_ws2 : ws2[46]? = some ((A46, Sum.inr (8, [Value.int 1, Value.int 1, Value.ref A47, Value.ref A48, Value.ref A49, Value.int 0, Value.ref A50, Value.ref A51, Value.ref A52, Value.ref A53, Value.int 0, Value.int 0, Value.int 0, Value.int (-1), Value.int 0, Value.ref A54, Value.ref A62, Value.ref A70, Value.int 0, Value.int 0, Value.int 0, Value.ref A78, Value.ref A79, Value.int 0, Value.int 16, Value.int 4, u0, Value.ref A80, Value.ref A81, Value.ref A82, Value.int 0, Value.ref A83, Value.int 0, Value.int 0, Value.int 0])) : Nat × va_E) := by rw [e_ws2]; exact gs_self f_46_ws1
  replace hU : gx_g ws ws2 0 [46] := by rw [e_ws2]; exact hU.put (Or.inl (by simp))
  refine lv_iload hx hb d_Mo_done_50 (lv_at hl 2 rfl) ?_
  refine lv_bipush (v := 10) hx hb d_Mo_done_52 (by decide) ?_
  refine lv_idiv hx hb d_Mo_done_54 (by decide) ?_
  refine gx_topi (y := 10) (by decide) ?_
  refine lv_istore (lv' := [(4, Value.int 10), (3, Value.int 1), (5, Value.int 1), (0, Value.ref A46), (1, Value.int 0), (2, Value.int 123)]) hx hb d_Mo_done_55 hl (by decide) rfl (fun ls hl => ?_)
  refine lv_goto (tgt := 11) hx hb d_Mo_done_57 (by decide) ?_
  refine lv_iload hx hb d_Mo_done_11 (lv_at hl 0 rfl) ?_
  refine lv_if_le (tgt := 60) hx hb d_Mo_done_13 (by decide) (fun c9 => absurd c9 (by decide)) (fun _ => ?_)
  refine lv_iload_n hx hb d_Mo_done_16 rfl (lv_at hl 5 rfl) ?_
  refine lv_iload hx hb d_Mo_done_17 (lv_at hl 0 rfl) ?_
  refine lv_idiv hx hb d_Mo_done_19 (by decide) ?_
  refine gx_topi (y := 12) (by decide) ?_
  refine lv_bipush (v := 10) hx hb d_Mo_done_20 (by decide) ?_
  refine lv_irem hx hb d_Mo_done_22 (by decide) ?_
  refine gx_topi (y := 2) (by decide) ?_
  refine lv_istore (lv' := [(5, Value.int 2), (4, Value.int 10), (3, Value.int 1), (0, Value.ref A46), (1, Value.int 0), (2, Value.int 123)]) hx hb d_Mo_done_23 hl (by decide) rfl (fun ls hl => ?_)
  refine lv_iload hx hb d_Mo_done_25 (lv_at hl 0 rfl) ?_
  refine lv_if_ne (tgt := 33) hx hb d_Mo_done_27 (by decide) (fun _ => ?_) (fun c9 => absurd c9 (by decide))
  refine lv_iinc (v := 2) (lv' := [(3, Value.int 2), (5, Value.int 2), (4, Value.int 10), (0, Value.ref A46), (1, Value.int 0), (2, Value.int 123)]) hx hb d_Mo_done_33 hl (k := 2) rfl (by decide) (by decide) rfl (fun ls hl => ?_)
  refine lv_iload hx hb d_Mo_done_36 (lv_at hl 1 rfl) ?_
  refine lv_aload_n hx hb d_Mo_done_38 rfl (lv_at hl 3 rfl) ?_
  refine va_get (D := D) (ci := 8) (v := Value.int 1) (C := "CommitLedgerModel") (T := F_Mo) (N := 35) hx hb hts i_Mo hown hK hP 46 f_46_ws2 rfl 0 (by decide) (hts _ kf_Mo_84) (fun _ h9 => h9) rfl d_Mo_done_39 ?_
  refine lv_icmp_ne (tgt := 50) hx hb d_Mo_done_42 (by decide) (fun _ => ?_) (fun c9 => absurd c9 (by decide))
  refine lv_iload hx hb d_Mo_done_50 (lv_at hl 2 rfl) ?_
  refine lv_bipush (v := 10) hx hb d_Mo_done_52 (by decide) ?_
  refine lv_idiv hx hb d_Mo_done_54 (by decide) ?_
  refine gx_topi (y := 1) (by decide) ?_
  refine lv_istore (lv' := [(4, Value.int 1), (3, Value.int 2), (5, Value.int 2), (0, Value.ref A46), (1, Value.int 0), (2, Value.int 123)]) hx hb d_Mo_done_55 hl (by decide) rfl (fun ls hl => ?_)
  refine lv_goto (tgt := 11) hx hb d_Mo_done_57 (by decide) ?_
  refine lv_iload hx hb d_Mo_done_11 (lv_at hl 0 rfl) ?_
  refine lv_if_le (tgt := 60) hx hb d_Mo_done_13 (by decide) (fun c9 => absurd c9 (by decide)) (fun _ => ?_)
  refine lv_iload_n hx hb d_Mo_done_16 rfl (lv_at hl 5 rfl) ?_
  refine lv_iload hx hb d_Mo_done_17 (lv_at hl 0 rfl) ?_
  refine lv_idiv hx hb d_Mo_done_19 (by decide) ?_
  refine gx_topi (y := 123) (by decide) ?_
  refine lv_bipush (v := 10) hx hb d_Mo_done_20 (by decide) ?_
  refine lv_irem hx hb d_Mo_done_22 (by decide) ?_
  refine gx_topi (y := 3) (by decide) ?_
  refine lv_istore (lv' := [(5, Value.int 3), (4, Value.int 1), (3, Value.int 2), (0, Value.ref A46), (1, Value.int 0), (2, Value.int 123)]) hx hb d_Mo_done_23 hl (by decide) rfl (fun ls hl => ?_)
  refine lv_iload hx hb d_Mo_done_25 (lv_at hl 0 rfl) ?_
  refine lv_if_ne (tgt := 33) hx hb d_Mo_done_27 (by decide) (fun _ => ?_) (fun c9 => absurd c9 (by decide))
  refine lv_iinc (v := 3) (lv' := [(3, Value.int 3), (5, Value.int 3), (4, Value.int 1), (0, Value.ref A46), (1, Value.int 0), (2, Value.int 123)]) hx hb d_Mo_done_33 hl (k := 2) rfl (by decide) (by decide) rfl (fun ls hl => ?_)
  refine lv_iload hx hb d_Mo_done_36 (lv_at hl 1 rfl) ?_
  refine lv_aload_n hx hb d_Mo_done_38 rfl (lv_at hl 3 rfl) ?_
  refine va_get (D := D) (ci := 8) (v := Value.int 1) (C := "CommitLedgerModel") (T := F_Mo) (N := 35) hx hb hts i_Mo hown hK hP 46 f_46_ws2 rfl 0 (by decide) (hts _ kf_Mo_84) (fun _ h9 => h9) rfl d_Mo_done_39 ?_
  refine lv_icmp_ne (tgt := 50) hx hb d_Mo_done_42 (by decide) (fun _ => ?_) (fun c9 => absurd c9 (by decide))
  refine lv_iload hx hb d_Mo_done_50 (lv_at hl 2 rfl) ?_
  refine lv_bipush (v := 10) hx hb d_Mo_done_52 (by decide) ?_
  refine lv_idiv hx hb d_Mo_done_54 (by decide) ?_
  refine gx_topi (y := 0) (by decide) ?_
  refine lv_istore (lv' := [(4, Value.int 0), (3, Value.int 3), (5, Value.int 3), (0, Value.ref A46), (1, Value.int 0), (2, Value.int 123)]) hx hb d_Mo_done_55 hl (by decide) rfl (fun ls hl => ?_)
  refine lv_goto (tgt := 11) hx hb d_Mo_done_57 (by decide) ?_
  refine lv_iload hx hb d_Mo_done_11 (lv_at hl 0 rfl) ?_
  refine lv_if_le (tgt := 60) hx hb d_Mo_done_13 (by decide) (fun _ => ?_) (fun c9 => absurd (by decide) c9)
  refine lv_aload_n hx hb d_Mo_done_60 rfl (lv_at hl 3 rfl) ?_
  refine lv_iconst (v := 0) hx hb d_Mo_done_61 (by decide) ?_
  refine va_put (D := D) (ci := 8) (v := Value.int 0) (ty := .int) (C := "CommitLedgerModel") (T := F_Mo) (N := 35) hx hb hts i_Mo t_Mo t_Mo_ok n_Mo hown hK hP hD hS 46 f_46_ws2 rfl 0 (by decide) (hts _ kf_Mo_84) (fun _ h9 => h9) rfl (by decide +kernel) rfl rfl (Nat.le_of_ble_eq_true rfl) d_Mo_done_62 (fun H locs hP9 hD9 hS9 => ?_)
  obtain ⟨ws3, e_ws3⟩ : ∃ x : va_W, x = ws2.set 46 ((A46, Sum.inr (8, [Value.int 0, Value.int 1, Value.ref A47, Value.ref A48, Value.ref A49, Value.int 0, Value.ref A50, Value.ref A51, Value.ref A52, Value.ref A53, Value.int 0, Value.int 0, Value.int 0, Value.int (-1), Value.int 0, Value.ref A54, Value.ref A62, Value.ref A70, Value.int 0, Value.int 0, Value.int 0, Value.ref A78, Value.ref A79, Value.int 0, Value.int 16, Value.int 4, u0, Value.ref A80, Value.ref A81, Value.ref A82, Value.int 0, Value.ref A83, Value.int 0, Value.int 0, Value.int 0])) : Nat × va_E) := ⟨_, rfl⟩
  replace hP : va_P D classes ws3 H := by rw [e_ws3]; exact hP9
  replace hD : va_D A ws3 := by rw [e_ws3]; exact hD9
  replace hS := hS9
  clear hP9 hD9 hS9
  have f_46_ws3 : ws3[46]? = some ((A46, Sum.inr (8, [Value.int 0, Value.int 1, Value.ref A47, Value.ref A48, Value.ref A49, Value.int 0, Value.ref A50, Value.ref A51, Value.ref A52, Value.ref A53, Value.int 0, Value.int 0, Value.int 0, Value.int (-1), Value.int 0, Value.ref A54, Value.ref A62, Value.ref A70, Value.int 0, Value.int 0, Value.int 0, Value.ref A78, Value.ref A79, Value.int 0, Value.int 16, Value.int 4, u0, Value.ref A80, Value.ref A81, Value.ref A82, Value.int 0, Value.ref A83, Value.int 0, Value.int 0, Value.int 0])) : Nat × va_E) := by rw [e_ws3]; exact gs_self f_46_ws2
  replace hU : gx_g ws ws3 0 [46] := by rw [e_ws3]; exact hU.put (Or.inl (by simp))
  refine lv_aload_n hx hb d_Mo_done_65 rfl (lv_at hl 3 rfl) ?_
  refine va_get (D := D) (ci := 8) (v := Value.int 1) (C := "CommitLedgerModel") (T := F_Mo) (N := 35) hx hb hts i_Mo hown hK hP 46 f_46_ws3 rfl 1 (by decide) (hts _ kf_Mo_80) (fun _ h9 => h9) rfl d_Mo_done_66 ?_
  refine lv_if_le (tgt := 76) hx hb d_Mo_done_69 (by decide) (fun c9 => absurd c9 (by decide)) (fun _ => ?_)
  refine lv_iconst (v := 0) hx hb d_Mo_done_72 (by decide) ?_
  refine lv_goto (tgt := 77) hx hb d_Mo_done_73 (by decide) ?_
  exact gx_ret (W.iret (v := 0) hx hb hr (gx_post hP hK hD hS (by rw [← hPQ]; exact ⟨rfl, hU, f_46_ws3⟩)) hS.2.2 d_Mo_done_77)

set_option maxHeartbeats 4000000 in
set_option maxRecDepth 100000 in
theorem c_Mo_anyReader_v1 (l : Launch) (htr : l.stackTraces = false) (D : va_G) (tys : List (ClassId × FieldType)) (z sz : Nat) (ws : va_W) (cV : ClassId) (A46 : Nat) (A47 : Nat) (A48 : Nat) (A49 : Nat) (A50 : Nat) (A51 : Nat) (A52 : Nat) (A53 : Nat) (A54 : Nat) (A62 : Nat) (A70 : Nat) (A78 : Nat) (A79 : Nat) (u0 : Value) (A80 : Nat) (A81 : Nat) (A82 : Nat) (A83 : Nat) (A84 : Nat) (A85 : Nat) (A86 : Nat) (A87 : Nat) (A88 : Nat) (A89 : Nat) (A90 : Nat) (A91 : Nat) (A92 : Nat) (A93 : Nat) (A94 : Nat) (A95 : Nat) (A96 : Nat) (A97 : Nat) (A98 : Nat) (A99 : Nat) (A100 : Nat) (A101 : Nat) (A102 : Nat) (A103 : Nat) (A104 : Nat) (A105 : Nat) (A106 : Nat) (A107 : Nat) (A108 : Nat) (A109 : Nat) (A110 : Nat) (A111 : Nat) (A112 : Nat) (A113 : Nat) (A114 : Nat) (A115 : Nat) (f_46 : ws[46]? = some ((A46, Sum.inr (8, [Value.int 0, Value.int 0, Value.ref A47, Value.ref A48, Value.ref A49, Value.int 0, Value.ref A50, Value.ref A51, Value.ref A52, Value.ref A53, Value.int 0, Value.int 0, Value.int 0, Value.int (-1), Value.int 0, Value.ref A54, Value.ref A62, Value.ref A70, Value.int 0, Value.int 0, Value.int 0, Value.ref A78, Value.ref A79, Value.int 0, Value.int 16, Value.int 4, u0, Value.ref A80, Value.ref A81, Value.ref A82, Value.int 0, Value.ref A83, Value.int 0, Value.int 0, Value.int 0])) : Nat × va_E)) (f_84 : ws[84]? = some ((A84, Sum.inr (9, [Value.ref A85, Value.ref A86, Value.ref A87, Value.ref A88, Value.ref A89, Value.ref A90, Value.ref A91, Value.int 0, Value.int 0, Value.int 0, Value.int 0])) : Nat × va_E)) (f_92 : ws[92]? = some ((A92, Sum.inr (9, [Value.ref A93, Value.ref A94, Value.ref A95, Value.ref A96, Value.ref A97, Value.ref A98, Value.ref A99, Value.int 0, Value.int 0, Value.int 0, Value.int 0])) : Nat × va_E)) (f_100 : ws[100]? = some ((A100, Sum.inr (9, [Value.ref A101, Value.ref A102, Value.ref A103, Value.ref A104, Value.ref A105, Value.ref A106, Value.ref A107, Value.int 0, Value.int 0, Value.int 0, Value.int 0])) : Nat × va_E)) (f_108 : ws[108]? = some ((A108, Sum.inr (9, [Value.ref A109, Value.ref A110, Value.ref A111, Value.ref A112, Value.ref A113, Value.ref A114, Value.ref A115, Value.int 0, Value.int 0, Value.int 0, Value.int 0])) : Nat × va_E)) (f_83 : ws[83]? = some ((A83, Sum.inl (cV, 4, Sum.inr (Sum.inr (Sum.inr (Sum.inr (va_up (va_up (va_up (va_up (fun _ => none) 0 (some A84)) 1 (some A92)) 2 (some A100)) 3 (some A108))))))) : Nat × va_E)) (ht5 : tys[5]? = some ((cV, FieldType.object "CommitLedgerModel$Version") : ClassId × FieldType)) : gx_Met l y_Mo_anyReader [Cond.code y_Mo_anyReader b_Mo_anyReader 5 (some .boolean)] { frames := 1, cells := 0, slots := 0, locals := 12 } (gx_P z sz D classes tys ws [Value.ref A46]) (gx_Q D classes tys (va_A ws sz) (fun r ws' => (r = Sum.inl (some (Value.int 0)) ∧ ws' = ws))) 0 0 (va_A ws sz) := by
  refine gx_ofW (cc := b_Mo_anyReader) (maxL := 5) (ret := (some .boolean)) (by decide) rfl ?_
  intro p e s m args below meth c s₁ B hml hv
  obtain ⟨rfl, hsz, hz, hP, hK, hD0, hY⟩ := hv
  have hx := B.exec
  have hb := B.bytes
  have hr := B.returns
  have hts := hY.hts (#[Value.ref A46] : Array Value)
  have hown : s.vm.findClass "CommitLedgerModel" = some m.cls := findClass_of_methodNamed B.named
  have hlocks := B.notSynchronized
  have hne : c.exceptionTable.isEmpty = true := B.noHandlers (atoms_spec (ws := [Cond.code y_Mo_anyReader b_Mo_anyReader 5 (some .boolean)]) B.pre _ List.mem_cons_self)
  subst hsz
  have hAz := gx_az hD0 hz
  have hD := hD0.self (sz := s.heap.size)
  have hN := gx_ns hP
  have hA : ∀ q : Nat, s.heap.size ≤ q → va_A ws s.heap.size q := fun q h => Or.inr h
  generalize va_A ws s.heap.size = A at hD hN hA hAz ⊢
  generalize hPQ : (fun (r : Option Value ⊕ String) (ws' : va_W) => (r = Sum.inl (some (Value.int 0)) ∧ ws' = ws)) = PQ
  have hS : va_S A s.heap s.heap [] := va_S.rf
  have hU : gx_g ws ws 0 [] := gx_g.rf
  have hl := lv_entry ([Value.ref A46]) (n := 5) (Nat.le_of_ble_eq_true rfl)
  rw [lg_entry_eq]
  generalize (lg_sl ([Value.ref A46]) ++ List.replicate (5 - (lg_sl ([Value.ref A46])).length) Slot.unset).toArray = ls at hl ⊢
  have hl : lv_has ls 5 [(0, Value.ref A46)] := hl
  refine lv_aload_n hx hb d_Mo_anyReader_0 rfl (lv_at hl 0 rfl) ?_
  refine va_get (D := D) (ci := 8) (v := Value.ref A83) (C := "CommitLedgerModel") (T := F_Mo) (N := 35) hx hb hts i_Mo hown hK hP 46 f_46 rfl 31 (by decide) (hts _ kf_Mo_76) (fun _ h9 => h9) rfl d_Mo_anyReader_1 ?_
  refine lv_astore_n (lv' := [(1, Value.ref A83), (0, Value.ref A46)]) hx hb d_Mo_anyReader_4 rfl hl (by decide) rfl (fun ls hl => ?_)
  refine lv_aload_n hx hb d_Mo_anyReader_5 rfl (lv_at hl 0 rfl) ?_
  refine va_alen (D := D) (v := 4) hx hb hK hP 83 5 f_83 ht5 rfl d_Mo_anyReader_6 ?_
  refine lv_istore_n (lv' := [(2, Value.int 4), (1, Value.ref A83), (0, Value.ref A46)]) hx hb d_Mo_anyReader_7 rfl hl (by decide) rfl (fun ls hl => ?_)
  refine lv_iconst (v := 0) hx hb d_Mo_anyReader_8 (by decide) ?_
  refine lv_istore_n (lv' := [(3, Value.int 0), (2, Value.int 4), (1, Value.ref A83), (0, Value.ref A46)]) hx hb d_Mo_anyReader_9 rfl hl (by decide) rfl (fun ls hl => ?_)
  refine lv_iload_n hx hb d_Mo_anyReader_10 rfl (lv_at hl 0 rfl) ?_
  refine lv_iload_n hx hb d_Mo_anyReader_11 rfl (lv_at hl 1 rfl) ?_
  refine lv_icmp_ge (tgt := 36) hx hb d_Mo_anyReader_12 (by decide) (fun c9 => absurd c9 (by decide)) (fun _ => ?_)
  refine lv_aload_n hx hb d_Mo_anyReader_15 rfl (lv_at hl 2 rfl) ?_
  refine lv_iload_n hx hb d_Mo_anyReader_16 rfl (lv_at hl 0 rfl) ?_
  refine gx_aald (D := D) (b := A84) (j := 0) hx hb hK hP 83 5 f_83 ht5 (gx_inl (by decide)) (by decide) (rfl) d_Mo_anyReader_17 ?_
  refine lv_astore (lv' := [(4, Value.ref A84), (3, Value.int 0), (2, Value.int 4), (1, Value.ref A83), (0, Value.ref A46)]) hx hb d_Mo_anyReader_18 hl (by decide) rfl (fun ls hl => ?_)
  refine lv_aload hx hb d_Mo_anyReader_20 (lv_at hl 0 rfl) ?_
  refine va_get (D := D) (ci := 9) (v := Value.int 0) (C := "CommitLedgerModel$Version") (T := F_Ve) (N := 11) hx hb hts i_Ve hown hK hP 84 f_84 rfl 10 (by decide) (hts _ kf_Mo_103) (fun _ h9 => h9) rfl d_Mo_anyReader_22 ?_
  refine lv_if_le (tgt := 30) hx hb d_Mo_anyReader_25 (by decide) (fun _ => ?_) (fun c9 => absurd (by decide) c9)
  refine lv_iinc (v := 1) (lv' := [(3, Value.int 1), (4, Value.ref A84), (2, Value.int 4), (1, Value.ref A83), (0, Value.ref A46)]) hx hb d_Mo_anyReader_30 hl (k := 1) rfl (by decide) (by decide) rfl (fun ls hl => ?_)
  refine lv_goto (tgt := 10) hx hb d_Mo_anyReader_33 (by decide) ?_
  refine lv_iload_n hx hb d_Mo_anyReader_10 rfl (lv_at hl 0 rfl) ?_
  refine lv_iload_n hx hb d_Mo_anyReader_11 rfl (lv_at hl 2 rfl) ?_
  refine lv_icmp_ge (tgt := 36) hx hb d_Mo_anyReader_12 (by decide) (fun c9 => absurd c9 (by decide)) (fun _ => ?_)
  refine lv_aload_n hx hb d_Mo_anyReader_15 rfl (lv_at hl 3 rfl) ?_
  refine lv_iload_n hx hb d_Mo_anyReader_16 rfl (lv_at hl 0 rfl) ?_
  refine gx_aald (D := D) (b := A92) (j := 1) hx hb hK hP 83 5 f_83 ht5 (gx_inl (by decide)) (by decide) (rfl) d_Mo_anyReader_17 ?_
  refine lv_astore (lv' := [(4, Value.ref A92), (3, Value.int 1), (2, Value.int 4), (1, Value.ref A83), (0, Value.ref A46)]) hx hb d_Mo_anyReader_18 hl (by decide) rfl (fun ls hl => ?_)
  refine lv_aload hx hb d_Mo_anyReader_20 (lv_at hl 0 rfl) ?_
  refine va_get (D := D) (ci := 9) (v := Value.int 0) (C := "CommitLedgerModel$Version") (T := F_Ve) (N := 11) hx hb hts i_Ve hown hK hP 92 f_92 rfl 10 (by decide) (hts _ kf_Mo_103) (fun _ h9 => h9) rfl d_Mo_anyReader_22 ?_
  refine lv_if_le (tgt := 30) hx hb d_Mo_anyReader_25 (by decide) (fun _ => ?_) (fun c9 => absurd (by decide) c9)
  refine lv_iinc (v := 2) (lv' := [(3, Value.int 2), (4, Value.ref A92), (2, Value.int 4), (1, Value.ref A83), (0, Value.ref A46)]) hx hb d_Mo_anyReader_30 hl (k := 1) rfl (by decide) (by decide) rfl (fun ls hl => ?_)
  refine lv_goto (tgt := 10) hx hb d_Mo_anyReader_33 (by decide) ?_
  refine lv_iload_n hx hb d_Mo_anyReader_10 rfl (lv_at hl 0 rfl) ?_
  refine lv_iload_n hx hb d_Mo_anyReader_11 rfl (lv_at hl 2 rfl) ?_
  refine lv_icmp_ge (tgt := 36) hx hb d_Mo_anyReader_12 (by decide) (fun c9 => absurd c9 (by decide)) (fun _ => ?_)
  refine lv_aload_n hx hb d_Mo_anyReader_15 rfl (lv_at hl 3 rfl) ?_
  refine lv_iload_n hx hb d_Mo_anyReader_16 rfl (lv_at hl 0 rfl) ?_
  refine gx_aald (D := D) (b := A100) (j := 2) hx hb hK hP 83 5 f_83 ht5 (gx_inl (by decide)) (by decide) (rfl) d_Mo_anyReader_17 ?_
  refine lv_astore (lv' := [(4, Value.ref A100), (3, Value.int 2), (2, Value.int 4), (1, Value.ref A83), (0, Value.ref A46)]) hx hb d_Mo_anyReader_18 hl (by decide) rfl (fun ls hl => ?_)
  refine lv_aload hx hb d_Mo_anyReader_20 (lv_at hl 0 rfl) ?_
  refine va_get (D := D) (ci := 9) (v := Value.int 0) (C := "CommitLedgerModel$Version") (T := F_Ve) (N := 11) hx hb hts i_Ve hown hK hP 100 f_100 rfl 10 (by decide) (hts _ kf_Mo_103) (fun _ h9 => h9) rfl d_Mo_anyReader_22 ?_
  refine lv_if_le (tgt := 30) hx hb d_Mo_anyReader_25 (by decide) (fun _ => ?_) (fun c9 => absurd (by decide) c9)
  refine lv_iinc (v := 3) (lv' := [(3, Value.int 3), (4, Value.ref A100), (2, Value.int 4), (1, Value.ref A83), (0, Value.ref A46)]) hx hb d_Mo_anyReader_30 hl (k := 1) rfl (by decide) (by decide) rfl (fun ls hl => ?_)
  refine lv_goto (tgt := 10) hx hb d_Mo_anyReader_33 (by decide) ?_
  refine lv_iload_n hx hb d_Mo_anyReader_10 rfl (lv_at hl 0 rfl) ?_
  refine lv_iload_n hx hb d_Mo_anyReader_11 rfl (lv_at hl 2 rfl) ?_
  refine lv_icmp_ge (tgt := 36) hx hb d_Mo_anyReader_12 (by decide) (fun c9 => absurd c9 (by decide)) (fun _ => ?_)
  refine lv_aload_n hx hb d_Mo_anyReader_15 rfl (lv_at hl 3 rfl) ?_
  refine lv_iload_n hx hb d_Mo_anyReader_16 rfl (lv_at hl 0 rfl) ?_
  refine gx_aald (D := D) (b := A108) (j := 3) hx hb hK hP 83 5 f_83 ht5 (gx_inl (by decide)) (by decide) (rfl) d_Mo_anyReader_17 ?_
  refine lv_astore (lv' := [(4, Value.ref A108), (3, Value.int 3), (2, Value.int 4), (1, Value.ref A83), (0, Value.ref A46)]) hx hb d_Mo_anyReader_18 hl (by decide) rfl (fun ls hl => ?_)
  refine lv_aload hx hb d_Mo_anyReader_20 (lv_at hl 0 rfl) ?_
  refine va_get (D := D) (ci := 9) (v := Value.int 0) (C := "CommitLedgerModel$Version") (T := F_Ve) (N := 11) hx hb hts i_Ve hown hK hP 108 f_108 rfl 10 (by decide) (hts _ kf_Mo_103) (fun _ h9 => h9) rfl d_Mo_anyReader_22 ?_
  refine lv_if_le (tgt := 30) hx hb d_Mo_anyReader_25 (by decide) (fun _ => ?_) (fun c9 => absurd (by decide) c9)
  refine lv_iinc (v := 4) (lv' := [(3, Value.int 4), (4, Value.ref A108), (2, Value.int 4), (1, Value.ref A83), (0, Value.ref A46)]) hx hb d_Mo_anyReader_30 hl (k := 1) rfl (by decide) (by decide) rfl (fun ls hl => ?_)
  refine lv_goto (tgt := 10) hx hb d_Mo_anyReader_33 (by decide) ?_
  refine lv_iload_n hx hb d_Mo_anyReader_10 rfl (lv_at hl 0 rfl) ?_
  refine lv_iload_n hx hb d_Mo_anyReader_11 rfl (lv_at hl 2 rfl) ?_
  refine lv_icmp_ge (tgt := 36) hx hb d_Mo_anyReader_12 (by decide) (fun _ => ?_) (fun c9 => absurd (by decide) c9)
  refine lv_iconst (v := 0) hx hb d_Mo_anyReader_36 (by decide) ?_
  exact gx_ret (W.zret (v := 0) (ty := .boolean) hx hb hr (rfl) (gx_post hP hK hD hS (by rw [← hPQ]; exact ⟨rfl, rfl⟩)) hS.2.2 d_Mo_anyReader_37)

set_option maxHeartbeats 4000000 in
set_option maxRecDepth 100000 in
theorem c_Mo_place_v1 (l : Launch) (htr : l.stackTraces = false) (D : va_G) (tys : List (ClassId × FieldType)) (z sz : Nat) (ws : va_W) (A46 : Nat) (p0 : Int32) (A47 : Nat) (A48 : Nat) (A49 : Nat) (A50 : Nat) (A51 : Nat) (A52 : Nat) (A53 : Nat) (A54 : Nat) (A62 : Nat) (A70 : Nat) (A78 : Nat) (A79 : Nat) (u0 : Value) (A80 : Nat) (A81 : Nat) (A82 : Nat) (A83 : Nat) (f_46 : ws[46]? = some ((A46, Sum.inr (8, [Value.int 0, Value.int 0, Value.ref A47, Value.ref A48, Value.ref A49, Value.int 0, Value.ref A50, Value.ref A51, Value.ref A52, Value.ref A53, Value.int 0, Value.int 0, Value.int 0, Value.int (-1), Value.int 0, Value.ref A54, Value.ref A62, Value.ref A70, Value.int 0, Value.int 0, Value.int 0, Value.ref A78, Value.ref A79, Value.int 0, Value.int 16, Value.int 4, u0, Value.ref A80, Value.ref A81, Value.ref A82, Value.int 0, Value.ref A83, Value.int 0, Value.int 0, Value.int 0])) : Nat × va_E)) : gx_Met l y_Mo_place [Cond.code y_Mo_place b_Mo_place 5 (some .int)] { frames := 1, cells := 0, slots := 0, locals := 12 } (gx_P z sz D classes tys ws [Value.ref A46, Value.int p0]) (gx_Q D classes tys (va_A ws sz) (fun r ws' => (r = Sum.inl (some (Value.int (-1))) ∧ ws' = ws))) 0 0 (va_A ws sz) := by
  refine gx_ofW (cc := b_Mo_place) (maxL := 5) (ret := (some .int)) (by decide) rfl ?_
  intro p e s m args below meth c s₁ B hml hv
  obtain ⟨rfl, hsz, hz, hP, hK, hD0, hY⟩ := hv
  have hx := B.exec
  have hb := B.bytes
  have hr := B.returns
  have hts := hY.hts (#[Value.ref A46, Value.int p0] : Array Value)
  have hown : s.vm.findClass "CommitLedgerModel" = some m.cls := findClass_of_methodNamed B.named
  have hlocks := B.notSynchronized
  have hne : c.exceptionTable.isEmpty = true := B.noHandlers (atoms_spec (ws := [Cond.code y_Mo_place b_Mo_place 5 (some .int)]) B.pre _ List.mem_cons_self)
  subst hsz
  have hAz := gx_az hD0 hz
  have hD := hD0.self (sz := s.heap.size)
  have hN := gx_ns hP
  have hA : ∀ q : Nat, s.heap.size ≤ q → va_A ws s.heap.size q := fun q h => Or.inr h
  generalize va_A ws s.heap.size = A at hD hN hA hAz ⊢
  generalize hPQ : (fun (r : Option Value ⊕ String) (ws' : va_W) => (r = Sum.inl (some (Value.int (-1))) ∧ ws' = ws)) = PQ
  have hS : va_S A s.heap s.heap [] := va_S.rf
  have hU : gx_g ws ws 0 [] := gx_g.rf
  have hl := lv_entry ([Value.ref A46, Value.int p0]) (n := 5) (Nat.le_of_ble_eq_true rfl)
  rw [lg_entry_eq]
  generalize (lg_sl ([Value.ref A46, Value.int p0]) ++ List.replicate (5 - (lg_sl ([Value.ref A46, Value.int p0])).length) Slot.unset).toArray = ls at hl ⊢
  have hl : lv_has ls 5 [(0, Value.ref A46), (1, Value.int p0)] := hl
  refine lv_iconst (v := 0) hx hb d_Mo_place_0 (by decide) ?_
  refine lv_istore_n (lv' := [(2, Value.int 0), (0, Value.ref A46), (1, Value.int p0)]) hx hb d_Mo_place_1 rfl hl (by decide) rfl (fun ls hl => ?_)
  refine lv_aload_n hx hb d_Mo_place_2 rfl (lv_at hl 1 rfl) ?_
  refine va_get (D := D) (ci := 8) (v := Value.int 0) (C := "CommitLedgerModel") (T := F_Mo) (N := 35) hx hb hts i_Mo hown hK hP 46 f_46 rfl 10 (by decide) (hts _ kf_Mo_93) (fun _ h9 => h9) rfl d_Mo_place_3 ?_
  refine lv_istore_n (lv' := [(3, Value.int 0), (2, Value.int 0), (0, Value.ref A46), (1, Value.int p0)]) hx hb d_Mo_place_6 rfl hl (by decide) rfl (fun ls hl => ?_)
  refine lv_iload_n hx hb d_Mo_place_7 rfl (lv_at hl 1 rfl) ?_
  refine lv_iload_n hx hb d_Mo_place_8 rfl (lv_at hl 0 rfl) ?_
  refine lv_icmp_ge (tgt := 44) hx hb d_Mo_place_9 (by decide) (fun _ => ?_) (fun c9 => absurd (by decide) c9)
  refine lv_iload_n hx hb d_Mo_place_44 rfl (lv_at hl 1 rfl) ?_
  refine lv_aload_n hx hb d_Mo_place_45 rfl (lv_at hl 2 rfl) ?_
  refine va_get (D := D) (ci := 8) (v := Value.int 0) (C := "CommitLedgerModel") (T := F_Mo) (N := 35) hx hb hts i_Mo hown hK hP 46 f_46 rfl 10 (by decide) (hts _ kf_Mo_93) (fun _ h9 => h9) rfl d_Mo_place_46 ?_
  refine lv_icmp_ge (tgt := 66) hx hb d_Mo_place_49 (by decide) (fun _ => ?_) (fun c9 => absurd (by decide) c9)
  refine lv_iconst (v := (-1)) hx hb d_Mo_place_66 (by decide) ?_
  exact gx_ret (W.iret (v := (-1)) hx hb hr (gx_post hP hK hD hS (by rw [← hPQ]; exact ⟨rfl, rfl⟩)) hS.2.2 d_Mo_place_67)

set_option maxHeartbeats 4000000 in
set_option maxRecDepth 100000 in
theorem c_Mo_wrong_v6 (l : Launch) (htr : l.stackTraces = false) (D : va_G) (tys : List (ClassId × FieldType)) (z sz : Nat) (ws : va_W) (A46 : Nat) (A47 : Nat) (A48 : Nat) (A49 : Nat) (A50 : Nat) (A51 : Nat) (A52 : Nat) (A53 : Nat) (A54 : Nat) (A62 : Nat) (A70 : Nat) (A78 : Nat) (A79 : Nat) (u0 : Value) (A80 : Nat) (A81 : Nat) (A82 : Nat) (A83 : Nat) (f_46 : ws[46]? = some ((A46, Sum.inr (8, [Value.int 0, Value.int 0, Value.ref A47, Value.ref A48, Value.ref A49, Value.int 0, Value.ref A50, Value.ref A51, Value.ref A52, Value.ref A53, Value.int 0, Value.int 0, Value.int 0, Value.int (-1), Value.int 0, Value.ref A54, Value.ref A62, Value.ref A70, Value.int 0, Value.int 0, Value.int 0, Value.ref A78, Value.ref A79, Value.int 0, Value.int 16, Value.int 4, u0, Value.ref A80, Value.ref A81, Value.ref A82, Value.int 0, Value.ref A83, Value.int 0, Value.int 0, Value.int 0])) : Nat × va_E)) : gx_Met l y_Mo_wrong [Cond.code y_Mo_wrong b_Mo_wrong 3 (some .boolean)] { frames := 1, cells := 0, slots := 0, locals := 12 } (gx_P z sz D classes tys ws [Value.ref A46, Value.int 1, Value.int 3]) (gx_Q D classes tys (va_A ws sz) (fun r ws' => (r = Sum.inl (some (Value.int 1)) ∧ gx_g ws ws' 0 [46] ∧ ws'[46]? = some ((A46, Sum.inr (8, [Value.int 3, Value.int 0, Value.ref A47, Value.ref A48, Value.ref A49, Value.int 0, Value.ref A50, Value.ref A51, Value.ref A52, Value.ref A53, Value.int 0, Value.int 0, Value.int 0, Value.int (-1), Value.int 0, Value.ref A54, Value.ref A62, Value.ref A70, Value.int 0, Value.int 0, Value.int 0, Value.ref A78, Value.ref A79, Value.int 0, Value.int 16, Value.int 4, u0, Value.ref A80, Value.ref A81, Value.ref A82, Value.int 0, Value.ref A83, Value.int 0, Value.int 0, Value.int 0])) : Nat × va_E)))) 0 0 (va_A ws sz) := by
  refine gx_ofW (cc := b_Mo_wrong) (maxL := 3) (ret := (some .boolean)) (by decide) rfl ?_
  intro p e s m args below meth c s₁ B hml hv
  obtain ⟨rfl, hsz, hz, hP, hK, hD0, hY⟩ := hv
  have hx := B.exec
  have hb := B.bytes
  have hr := B.returns
  have hts := hY.hts (#[Value.ref A46, Value.int 1, Value.int 3] : Array Value)
  have hown : s.vm.findClass "CommitLedgerModel" = some m.cls := findClass_of_methodNamed B.named
  have hlocks := B.notSynchronized
  have hne : c.exceptionTable.isEmpty = true := B.noHandlers (atoms_spec (ws := [Cond.code y_Mo_wrong b_Mo_wrong 3 (some .boolean)]) B.pre _ List.mem_cons_self)
  subst hsz
  have hAz := gx_az hD0 hz
  have hD := hD0.self (sz := s.heap.size)
  have hN := gx_ns hP
  have hA : ∀ q : Nat, s.heap.size ≤ q → va_A ws s.heap.size q := fun q h => Or.inr h
  generalize va_A ws s.heap.size = A at hD hN hA hAz ⊢
  generalize hPQ : (fun (r : Option Value ⊕ String) (ws' : va_W) => (r = Sum.inl (some (Value.int 1)) ∧ gx_g ws ws' 0 [46] ∧ ws'[46]? = some ((A46, Sum.inr (8, [Value.int 3, Value.int 0, Value.ref A47, Value.ref A48, Value.ref A49, Value.int 0, Value.ref A50, Value.ref A51, Value.ref A52, Value.ref A53, Value.int 0, Value.int 0, Value.int 0, Value.int (-1), Value.int 0, Value.ref A54, Value.ref A62, Value.ref A70, Value.int 0, Value.int 0, Value.int 0, Value.ref A78, Value.ref A79, Value.int 0, Value.int 16, Value.int 4, u0, Value.ref A80, Value.ref A81, Value.ref A82, Value.int 0, Value.ref A83, Value.int 0, Value.int 0, Value.int 0])) : Nat × va_E))) = PQ
  have hS : va_S A s.heap s.heap [] := va_S.rf
  have hU : gx_g ws ws 0 [46] := gx_g.rf
  have hl := lv_entry ([Value.ref A46, Value.int 1, Value.int 3]) (n := 3) (Nat.le_of_ble_eq_true rfl)
  rw [lg_entry_eq]
  generalize (lg_sl ([Value.ref A46, Value.int 1, Value.int 3]) ++ List.replicate (3 - (lg_sl ([Value.ref A46, Value.int 1, Value.int 3])).length) Slot.unset).toArray = ls at hl ⊢
  have hl : lv_has ls 3 [(0, Value.ref A46), (1, Value.int 1), (2, Value.int 3)] := hl
  refine lv_iload_n hx hb d_Mo_wrong_0 rfl (lv_at hl 1 rfl) ?_
  refine lv_if_eq (tgt := 16) hx hb d_Mo_wrong_1 (by decide) (fun c9 => absurd c9 (by decide)) (fun _ => ?_)
  refine lv_aload_n hx hb d_Mo_wrong_4 rfl (lv_at hl 0 rfl) ?_
  refine va_get (D := D) (ci := 8) (v := Value.int 0) (C := "CommitLedgerModel") (T := F_Mo) (N := 35) hx hb hts i_Mo hown hK hP 46 f_46 rfl 0 (by decide) (hts _ kf_Mo_84) (fun _ h9 => h9) rfl d_Mo_wrong_5 ?_
  refine lv_if_ne (tgt := 16) hx hb d_Mo_wrong_8 (by decide) (fun c9 => absurd (by decide) c9) (fun _ => ?_)
  refine lv_aload_n hx hb d_Mo_wrong_11 rfl (lv_at hl 0 rfl) ?_
  refine lv_iload_n hx hb d_Mo_wrong_12 rfl (lv_at hl 2 rfl) ?_
  refine va_put (D := D) (ci := 8) (v := Value.int 3) (ty := .int) (C := "CommitLedgerModel") (T := F_Mo) (N := 35) hx hb hts i_Mo t_Mo t_Mo_ok n_Mo hown hK hP hD hS 46 f_46 rfl 0 (by decide) (hts _ kf_Mo_84) (fun _ h9 => h9) rfl (by decide +kernel) rfl rfl (Nat.le_of_ble_eq_true rfl) d_Mo_wrong_13 (fun H locs hP9 hD9 hS9 => ?_)
  obtain ⟨ws1, e_ws1⟩ : ∃ x : va_W, x = ws.set 46 ((A46, Sum.inr (8, [Value.int 3, Value.int 0, Value.ref A47, Value.ref A48, Value.ref A49, Value.int 0, Value.ref A50, Value.ref A51, Value.ref A52, Value.ref A53, Value.int 0, Value.int 0, Value.int 0, Value.int (-1), Value.int 0, Value.ref A54, Value.ref A62, Value.ref A70, Value.int 0, Value.int 0, Value.int 0, Value.ref A78, Value.ref A79, Value.int 0, Value.int 16, Value.int 4, u0, Value.ref A80, Value.ref A81, Value.ref A82, Value.int 0, Value.ref A83, Value.int 0, Value.int 0, Value.int 0])) : Nat × va_E) := ⟨_, rfl⟩
  replace hP : va_P D classes ws1 H := by rw [e_ws1]; exact hP9
  replace hD : va_D A ws1 := by rw [e_ws1]; exact hD9
  replace hS := hS9
  clear hP9 hD9 hS9
  have f_46_ws1 : ws1[46]? = some ((A46, Sum.inr (8, [Value.int 3, Value.int 0, Value.ref A47, Value.ref A48, Value.ref A49, Value.int 0, Value.ref A50, Value.ref A51, Value.ref A52, Value.ref A53, Value.int 0, Value.int 0, Value.int 0, Value.int (-1), Value.int 0, Value.ref A54, Value.ref A62, Value.ref A70, Value.int 0, Value.int 0, Value.int 0, Value.ref A78, Value.ref A79, Value.int 0, Value.int 16, Value.int 4, u0, Value.ref A80, Value.ref A81, Value.ref A82, Value.int 0, Value.ref A83, Value.int 0, Value.int 0, Value.int 0])) : Nat × va_E) := by rw [e_ws1]; exact gs_self f_46
  replace hU : gx_g ws ws1 0 [46] := by rw [e_ws1]; exact hU.put (Or.inl (by simp))
  refine lv_aload_n hx hb d_Mo_wrong_16 rfl (lv_at hl 0 rfl) ?_
  refine va_get (D := D) (ci := 8) (v := Value.int 3) (C := "CommitLedgerModel") (T := F_Mo) (N := 35) hx hb hts i_Mo hown hK hP 46 f_46_ws1 rfl 0 (by decide) (hts _ kf_Mo_84) (fun _ h9 => h9) rfl d_Mo_wrong_17 ?_
  refine lv_if_eq (tgt := 27) hx hb d_Mo_wrong_20 (by decide) (fun c9 => absurd c9 (by decide)) (fun _ => ?_)
  refine lv_iconst (v := 1) hx hb d_Mo_wrong_23 (by decide) ?_
  refine lv_goto (tgt := 28) hx hb d_Mo_wrong_24 (by decide) ?_
  exact gx_ret (W.zret (v := 1) (ty := .boolean) hx hb hr (rfl) (gx_post hP hK hD hS (by rw [← hPQ]; exact ⟨rfl, hU, f_46_ws1⟩)) hS.2.2 d_Mo_wrong_28)

set_option maxHeartbeats 4000000 in
set_option maxRecDepth 100000 in
theorem c_Mo_done_v15 (l : Launch) (htr : l.stackTraces = false) (D : va_G) (tys : List (ClassId × FieldType)) (z sz : Nat) (ws : va_W) (A46 : Nat) (A47 : Nat) (A48 : Nat) (A49 : Nat) (A50 : Nat) (A51 : Nat) (A52 : Nat) (A53 : Nat) (A54 : Nat) (A62 : Nat) (A70 : Nat) (A78 : Nat) (A79 : Nat) (u0 : Value) (A80 : Nat) (A81 : Nat) (A82 : Nat) (A83 : Nat) (f_46 : ws[46]? = some ((A46, Sum.inr (8, [Value.int 3, Value.int 0, Value.ref A47, Value.ref A48, Value.ref A49, Value.int 0, Value.ref A50, Value.ref A51, Value.ref A52, Value.ref A53, Value.int 0, Value.int 0, Value.int 0, Value.int (-1), Value.int 0, Value.ref A54, Value.ref A62, Value.ref A70, Value.int 0, Value.int 0, Value.int 0, Value.ref A78, Value.ref A79, Value.int 0, Value.int 16, Value.int 4, u0, Value.ref A80, Value.ref A81, Value.ref A82, Value.int 0, Value.ref A83, Value.int 0, Value.int 0, Value.int 0])) : Nat × va_E)) : gx_Met l y_Mo_done [Cond.code y_Mo_done b_Mo_done 6 (some .int)] { frames := 1, cells := 0, slots := 0, locals := 12 } (gx_P z sz D classes tys ws [Value.ref A46, Value.int 0, Value.int 123]) (gx_Q D classes tys (va_A ws sz) (fun r ws' => (r = Sum.inl (some (Value.int 0)) ∧ gx_g ws ws' 0 [46] ∧ ws'[46]? = some ((A46, Sum.inr (8, [Value.int 0, Value.int 3, Value.ref A47, Value.ref A48, Value.ref A49, Value.int 0, Value.ref A50, Value.ref A51, Value.ref A52, Value.ref A53, Value.int 0, Value.int 0, Value.int 0, Value.int (-1), Value.int 0, Value.ref A54, Value.ref A62, Value.ref A70, Value.int 0, Value.int 0, Value.int 0, Value.ref A78, Value.ref A79, Value.int 0, Value.int 16, Value.int 4, u0, Value.ref A80, Value.ref A81, Value.ref A82, Value.int 0, Value.ref A83, Value.int 0, Value.int 0, Value.int 0])) : Nat × va_E)))) 0 0 (va_A ws sz) := by
  refine gx_ofW (cc := b_Mo_done) (maxL := 6) (ret := (some .int)) (by decide) rfl ?_
  intro p e s m args below meth c s₁ B hml hv
  obtain ⟨rfl, hsz, hz, hP, hK, hD0, hY⟩ := hv
  have hx := B.exec
  have hb := B.bytes
  have hr := B.returns
  have hts := hY.hts (#[Value.ref A46, Value.int 0, Value.int 123] : Array Value)
  have hown : s.vm.findClass "CommitLedgerModel" = some m.cls := findClass_of_methodNamed B.named
  have hlocks := B.notSynchronized
  have hne : c.exceptionTable.isEmpty = true := B.noHandlers (atoms_spec (ws := [Cond.code y_Mo_done b_Mo_done 6 (some .int)]) B.pre _ List.mem_cons_self)
  subst hsz
  have hAz := gx_az hD0 hz
  have hD := hD0.self (sz := s.heap.size)
  have hN := gx_ns hP
  have hA : ∀ q : Nat, s.heap.size ≤ q → va_A ws s.heap.size q := fun q h => Or.inr h
  generalize va_A ws s.heap.size = A at hD hN hA hAz ⊢
  generalize hPQ : (fun (r : Option Value ⊕ String) (ws' : va_W) => (r = Sum.inl (some (Value.int 0)) ∧ gx_g ws ws' 0 [46] ∧ ws'[46]? = some ((A46, Sum.inr (8, [Value.int 0, Value.int 3, Value.ref A47, Value.ref A48, Value.ref A49, Value.int 0, Value.ref A50, Value.ref A51, Value.ref A52, Value.ref A53, Value.int 0, Value.int 0, Value.int 0, Value.int (-1), Value.int 0, Value.ref A54, Value.ref A62, Value.ref A70, Value.int 0, Value.int 0, Value.int 0, Value.ref A78, Value.ref A79, Value.int 0, Value.int 16, Value.int 4, u0, Value.ref A80, Value.ref A81, Value.ref A82, Value.int 0, Value.ref A83, Value.int 0, Value.int 0, Value.int 0])) : Nat × va_E))) = PQ
  have hS : va_S A s.heap s.heap [] := va_S.rf
  have hU : gx_g ws ws 0 [46] := gx_g.rf
  have hl := lv_entry ([Value.ref A46, Value.int 0, Value.int 123]) (n := 6) (Nat.le_of_ble_eq_true rfl)
  rw [lg_entry_eq]
  generalize (lg_sl ([Value.ref A46, Value.int 0, Value.int 123]) ++ List.replicate (6 - (lg_sl ([Value.ref A46, Value.int 0, Value.int 123])).length) Slot.unset).toArray = ls at hl ⊢
  have hl : lv_has ls 6 [(0, Value.ref A46), (1, Value.int 0), (2, Value.int 123)] := hl
  refine lv_aload_n hx hb d_Mo_done_0 rfl (lv_at hl 0 rfl) ?_
  refine lv_iconst (v := 0) hx hb d_Mo_done_1 (by decide) ?_
  refine va_put (D := D) (ci := 8) (v := Value.int 0) (ty := .int) (C := "CommitLedgerModel") (T := F_Mo) (N := 35) hx hb hts i_Mo t_Mo t_Mo_ok n_Mo hown hK hP hD hS 46 f_46 rfl 1 (by decide) (hts _ kf_Mo_80) (fun _ h9 => h9) rfl (by decide +kernel) rfl rfl (Nat.le_of_ble_eq_true rfl) d_Mo_done_2 (fun H locs hP9 hD9 hS9 => ?_)
  obtain ⟨ws1, e_ws1⟩ : ∃ x : va_W, x = ws.set 46 ((A46, Sum.inr (8, [Value.int 3, Value.int 0, Value.ref A47, Value.ref A48, Value.ref A49, Value.int 0, Value.ref A50, Value.ref A51, Value.ref A52, Value.ref A53, Value.int 0, Value.int 0, Value.int 0, Value.int (-1), Value.int 0, Value.ref A54, Value.ref A62, Value.ref A70, Value.int 0, Value.int 0, Value.int 0, Value.ref A78, Value.ref A79, Value.int 0, Value.int 16, Value.int 4, u0, Value.ref A80, Value.ref A81, Value.ref A82, Value.int 0, Value.ref A83, Value.int 0, Value.int 0, Value.int 0])) : Nat × va_E) := ⟨_, rfl⟩
  replace hP : va_P D classes ws1 H := by rw [e_ws1]; exact hP9
  replace hD : va_D A ws1 := by rw [e_ws1]; exact hD9
  replace hS := hS9
  clear hP9 hD9 hS9
  have f_46_ws1 : ws1[46]? = some ((A46, Sum.inr (8, [Value.int 3, Value.int 0, Value.ref A47, Value.ref A48, Value.ref A49, Value.int 0, Value.ref A50, Value.ref A51, Value.ref A52, Value.ref A53, Value.int 0, Value.int 0, Value.int 0, Value.int (-1), Value.int 0, Value.ref A54, Value.ref A62, Value.ref A70, Value.int 0, Value.int 0, Value.int 0, Value.ref A78, Value.ref A79, Value.int 0, Value.int 16, Value.int 4, u0, Value.ref A80, Value.ref A81, Value.ref A82, Value.int 0, Value.ref A83, Value.int 0, Value.int 0, Value.int 0])) : Nat × va_E) := by rw [e_ws1]; exact gs_self f_46
  replace hU : gx_g ws ws1 0 [46] := by rw [e_ws1]; exact hU.put (Or.inl (by simp))
  refine lv_iconst (v := 0) hx hb d_Mo_done_5 (by decide) ?_
  refine lv_istore_n (lv' := [(3, Value.int 0), (0, Value.ref A46), (1, Value.int 0), (2, Value.int 123)]) hx hb d_Mo_done_6 rfl hl (by decide) rfl (fun ls hl => ?_)
  refine lv_ldc (v := 100000) hx hb hown (hts _ ki_Mo_83) d_Mo_done_7 ?_
  refine lv_istore (lv' := [(4, Value.int 100000), (3, Value.int 0), (0, Value.ref A46), (1, Value.int 0), (2, Value.int 123)]) hx hb d_Mo_done_9 hl (by decide) rfl (fun ls hl => ?_)
  refine lv_iload hx hb d_Mo_done_11 (lv_at hl 0 rfl) ?_
  refine lv_if_le (tgt := 60) hx hb d_Mo_done_13 (by decide) (fun c9 => absurd c9 (by decide)) (fun _ => ?_)
  refine lv_iload_n hx hb d_Mo_done_16 rfl (lv_at hl 4 rfl) ?_
  refine lv_iload hx hb d_Mo_done_17 (lv_at hl 0 rfl) ?_
  refine lv_idiv hx hb d_Mo_done_19 (by decide) ?_
  refine gx_topi (y := 0) (by decide) ?_
  refine lv_bipush (v := 10) hx hb d_Mo_done_20 (by decide) ?_
  refine lv_irem hx hb d_Mo_done_22 (by decide) ?_
  refine gx_topi (y := 0) (by decide) ?_
  refine lv_istore (lv' := [(5, Value.int 0), (4, Value.int 100000), (3, Value.int 0), (0, Value.ref A46), (1, Value.int 0), (2, Value.int 123)]) hx hb d_Mo_done_23 hl (by decide) rfl (fun ls hl => ?_)
  refine lv_iload hx hb d_Mo_done_25 (lv_at hl 0 rfl) ?_
  refine lv_if_ne (tgt := 33) hx hb d_Mo_done_27 (by decide) (fun c9 => absurd (by decide) c9) (fun _ => ?_)
  refine lv_goto (tgt := 50) hx hb d_Mo_done_30 (by decide) ?_
  refine lv_iload hx hb d_Mo_done_50 (lv_at hl 1 rfl) ?_
  refine lv_bipush (v := 10) hx hb d_Mo_done_52 (by decide) ?_
  refine lv_idiv hx hb d_Mo_done_54 (by decide) ?_
  refine gx_topi (y := 10000) (by decide) ?_
  refine lv_istore (lv' := [(4, Value.int 10000), (5, Value.int 0), (3, Value.int 0), (0, Value.ref A46), (1, Value.int 0), (2, Value.int 123)]) hx hb d_Mo_done_55 hl (by decide) rfl (fun ls hl => ?_)
  refine lv_goto (tgt := 11) hx hb d_Mo_done_57 (by decide) ?_
  refine lv_iload hx hb d_Mo_done_11 (lv_at hl 0 rfl) ?_
  refine lv_if_le (tgt := 60) hx hb d_Mo_done_13 (by decide) (fun c9 => absurd c9 (by decide)) (fun _ => ?_)
  refine lv_iload_n hx hb d_Mo_done_16 rfl (lv_at hl 5 rfl) ?_
  refine lv_iload hx hb d_Mo_done_17 (lv_at hl 0 rfl) ?_
  refine lv_idiv hx hb d_Mo_done_19 (by decide) ?_
  refine gx_topi (y := 0) (by decide) ?_
  refine lv_bipush (v := 10) hx hb d_Mo_done_20 (by decide) ?_
  refine lv_irem hx hb d_Mo_done_22 (by decide) ?_
  refine gx_topi (y := 0) (by decide) ?_
  refine lv_istore (lv' := [(5, Value.int 0), (4, Value.int 10000), (3, Value.int 0), (0, Value.ref A46), (1, Value.int 0), (2, Value.int 123)]) hx hb d_Mo_done_23 hl (by decide) rfl (fun ls hl => ?_)
  refine lv_iload hx hb d_Mo_done_25 (lv_at hl 0 rfl) ?_
  refine lv_if_ne (tgt := 33) hx hb d_Mo_done_27 (by decide) (fun c9 => absurd (by decide) c9) (fun _ => ?_)
  refine lv_goto (tgt := 50) hx hb d_Mo_done_30 (by decide) ?_
  refine lv_iload hx hb d_Mo_done_50 (lv_at hl 1 rfl) ?_
  refine lv_bipush (v := 10) hx hb d_Mo_done_52 (by decide) ?_
  refine lv_idiv hx hb d_Mo_done_54 (by decide) ?_
  refine gx_topi (y := 1000) (by decide) ?_
  refine lv_istore (lv' := [(4, Value.int 1000), (5, Value.int 0), (3, Value.int 0), (0, Value.ref A46), (1, Value.int 0), (2, Value.int 123)]) hx hb d_Mo_done_55 hl (by decide) rfl (fun ls hl => ?_)
  refine lv_goto (tgt := 11) hx hb d_Mo_done_57 (by decide) ?_
  refine lv_iload hx hb d_Mo_done_11 (lv_at hl 0 rfl) ?_
  refine lv_if_le (tgt := 60) hx hb d_Mo_done_13 (by decide) (fun c9 => absurd c9 (by decide)) (fun _ => ?_)
  refine lv_iload_n hx hb d_Mo_done_16 rfl (lv_at hl 5 rfl) ?_
  refine lv_iload hx hb d_Mo_done_17 (lv_at hl 0 rfl) ?_
  refine lv_idiv hx hb d_Mo_done_19 (by decide) ?_
  refine gx_topi (y := 0) (by decide) ?_
  refine lv_bipush (v := 10) hx hb d_Mo_done_20 (by decide) ?_
  refine lv_irem hx hb d_Mo_done_22 (by decide) ?_
  refine gx_topi (y := 0) (by decide) ?_
  refine lv_istore (lv' := [(5, Value.int 0), (4, Value.int 1000), (3, Value.int 0), (0, Value.ref A46), (1, Value.int 0), (2, Value.int 123)]) hx hb d_Mo_done_23 hl (by decide) rfl (fun ls hl => ?_)
  refine lv_iload hx hb d_Mo_done_25 (lv_at hl 0 rfl) ?_
  refine lv_if_ne (tgt := 33) hx hb d_Mo_done_27 (by decide) (fun c9 => absurd (by decide) c9) (fun _ => ?_)
  refine lv_goto (tgt := 50) hx hb d_Mo_done_30 (by decide) ?_
  refine lv_iload hx hb d_Mo_done_50 (lv_at hl 1 rfl) ?_
  refine lv_bipush (v := 10) hx hb d_Mo_done_52 (by decide) ?_
  refine lv_idiv hx hb d_Mo_done_54 (by decide) ?_
  refine gx_topi (y := 100) (by decide) ?_
  refine lv_istore (lv' := [(4, Value.int 100), (5, Value.int 0), (3, Value.int 0), (0, Value.ref A46), (1, Value.int 0), (2, Value.int 123)]) hx hb d_Mo_done_55 hl (by decide) rfl (fun ls hl => ?_)
  refine lv_goto (tgt := 11) hx hb d_Mo_done_57 (by decide) ?_
  refine lv_iload hx hb d_Mo_done_11 (lv_at hl 0 rfl) ?_
  refine lv_if_le (tgt := 60) hx hb d_Mo_done_13 (by decide) (fun c9 => absurd c9 (by decide)) (fun _ => ?_)
  refine lv_iload_n hx hb d_Mo_done_16 rfl (lv_at hl 5 rfl) ?_
  refine lv_iload hx hb d_Mo_done_17 (lv_at hl 0 rfl) ?_
  refine lv_idiv hx hb d_Mo_done_19 (by decide) ?_
  refine gx_topi (y := 1) (by decide) ?_
  refine lv_bipush (v := 10) hx hb d_Mo_done_20 (by decide) ?_
  refine lv_irem hx hb d_Mo_done_22 (by decide) ?_
  refine gx_topi (y := 1) (by decide) ?_
  refine lv_istore (lv' := [(5, Value.int 1), (4, Value.int 100), (3, Value.int 0), (0, Value.ref A46), (1, Value.int 0), (2, Value.int 123)]) hx hb d_Mo_done_23 hl (by decide) rfl (fun ls hl => ?_)
  refine lv_iload hx hb d_Mo_done_25 (lv_at hl 0 rfl) ?_
  refine lv_if_ne (tgt := 33) hx hb d_Mo_done_27 (by decide) (fun _ => ?_) (fun c9 => absurd c9 (by decide))
  refine lv_iinc (v := 1) (lv' := [(3, Value.int 1), (5, Value.int 1), (4, Value.int 100), (0, Value.ref A46), (1, Value.int 0), (2, Value.int 123)]) hx hb d_Mo_done_33 hl (k := 2) rfl (by decide) (by decide) rfl (fun ls hl => ?_)
  refine lv_iload hx hb d_Mo_done_36 (lv_at hl 1 rfl) ?_
  refine lv_aload_n hx hb d_Mo_done_38 rfl (lv_at hl 3 rfl) ?_
  refine va_get (D := D) (ci := 8) (v := Value.int 3) (C := "CommitLedgerModel") (T := F_Mo) (N := 35) hx hb hts i_Mo hown hK hP 46 f_46_ws1 rfl 0 (by decide) (hts _ kf_Mo_84) (fun _ h9 => h9) rfl d_Mo_done_39 ?_
  refine lv_icmp_ne (tgt := 50) hx hb d_Mo_done_42 (by decide) (fun _ => ?_) (fun c9 => absurd c9 (by decide))
  refine lv_iload hx hb d_Mo_done_50 (lv_at hl 2 rfl) ?_
  refine lv_bipush (v := 10) hx hb d_Mo_done_52 (by decide) ?_
  refine lv_idiv hx hb d_Mo_done_54 (by decide) ?_
  refine gx_topi (y := 10) (by decide) ?_
  refine lv_istore (lv' := [(4, Value.int 10), (3, Value.int 1), (5, Value.int 1), (0, Value.ref A46), (1, Value.int 0), (2, Value.int 123)]) hx hb d_Mo_done_55 hl (by decide) rfl (fun ls hl => ?_)
  refine lv_goto (tgt := 11) hx hb d_Mo_done_57 (by decide) ?_
  refine lv_iload hx hb d_Mo_done_11 (lv_at hl 0 rfl) ?_
  refine lv_if_le (tgt := 60) hx hb d_Mo_done_13 (by decide) (fun c9 => absurd c9 (by decide)) (fun _ => ?_)
  refine lv_iload_n hx hb d_Mo_done_16 rfl (lv_at hl 5 rfl) ?_
  refine lv_iload hx hb d_Mo_done_17 (lv_at hl 0 rfl) ?_
  refine lv_idiv hx hb d_Mo_done_19 (by decide) ?_
  refine gx_topi (y := 12) (by decide) ?_
  refine lv_bipush (v := 10) hx hb d_Mo_done_20 (by decide) ?_
  refine lv_irem hx hb d_Mo_done_22 (by decide) ?_
  refine gx_topi (y := 2) (by decide) ?_
  refine lv_istore (lv' := [(5, Value.int 2), (4, Value.int 10), (3, Value.int 1), (0, Value.ref A46), (1, Value.int 0), (2, Value.int 123)]) hx hb d_Mo_done_23 hl (by decide) rfl (fun ls hl => ?_)
  refine lv_iload hx hb d_Mo_done_25 (lv_at hl 0 rfl) ?_
  refine lv_if_ne (tgt := 33) hx hb d_Mo_done_27 (by decide) (fun _ => ?_) (fun c9 => absurd c9 (by decide))
  refine lv_iinc (v := 2) (lv' := [(3, Value.int 2), (5, Value.int 2), (4, Value.int 10), (0, Value.ref A46), (1, Value.int 0), (2, Value.int 123)]) hx hb d_Mo_done_33 hl (k := 2) rfl (by decide) (by decide) rfl (fun ls hl => ?_)
  refine lv_iload hx hb d_Mo_done_36 (lv_at hl 1 rfl) ?_
  refine lv_aload_n hx hb d_Mo_done_38 rfl (lv_at hl 3 rfl) ?_
  refine va_get (D := D) (ci := 8) (v := Value.int 3) (C := "CommitLedgerModel") (T := F_Mo) (N := 35) hx hb hts i_Mo hown hK hP 46 f_46_ws1 rfl 0 (by decide) (hts _ kf_Mo_84) (fun _ h9 => h9) rfl d_Mo_done_39 ?_
  refine lv_icmp_ne (tgt := 50) hx hb d_Mo_done_42 (by decide) (fun _ => ?_) (fun c9 => absurd c9 (by decide))
  refine lv_iload hx hb d_Mo_done_50 (lv_at hl 2 rfl) ?_
  refine lv_bipush (v := 10) hx hb d_Mo_done_52 (by decide) ?_
  refine lv_idiv hx hb d_Mo_done_54 (by decide) ?_
  refine gx_topi (y := 1) (by decide) ?_
  refine lv_istore (lv' := [(4, Value.int 1), (3, Value.int 2), (5, Value.int 2), (0, Value.ref A46), (1, Value.int 0), (2, Value.int 123)]) hx hb d_Mo_done_55 hl (by decide) rfl (fun ls hl => ?_)
  refine lv_goto (tgt := 11) hx hb d_Mo_done_57 (by decide) ?_
  refine lv_iload hx hb d_Mo_done_11 (lv_at hl 0 rfl) ?_
  refine lv_if_le (tgt := 60) hx hb d_Mo_done_13 (by decide) (fun c9 => absurd c9 (by decide)) (fun _ => ?_)
  refine lv_iload_n hx hb d_Mo_done_16 rfl (lv_at hl 5 rfl) ?_
  refine lv_iload hx hb d_Mo_done_17 (lv_at hl 0 rfl) ?_
  refine lv_idiv hx hb d_Mo_done_19 (by decide) ?_
  refine gx_topi (y := 123) (by decide) ?_
  refine lv_bipush (v := 10) hx hb d_Mo_done_20 (by decide) ?_
  refine lv_irem hx hb d_Mo_done_22 (by decide) ?_
  refine gx_topi (y := 3) (by decide) ?_
  refine lv_istore (lv' := [(5, Value.int 3), (4, Value.int 1), (3, Value.int 2), (0, Value.ref A46), (1, Value.int 0), (2, Value.int 123)]) hx hb d_Mo_done_23 hl (by decide) rfl (fun ls hl => ?_)
  refine lv_iload hx hb d_Mo_done_25 (lv_at hl 0 rfl) ?_
  refine lv_if_ne (tgt := 33) hx hb d_Mo_done_27 (by decide) (fun _ => ?_) (fun c9 => absurd c9 (by decide))
  refine lv_iinc (v := 3) (lv' := [(3, Value.int 3), (5, Value.int 3), (4, Value.int 1), (0, Value.ref A46), (1, Value.int 0), (2, Value.int 123)]) hx hb d_Mo_done_33 hl (k := 2) rfl (by decide) (by decide) rfl (fun ls hl => ?_)
  refine lv_iload hx hb d_Mo_done_36 (lv_at hl 1 rfl) ?_
  refine lv_aload_n hx hb d_Mo_done_38 rfl (lv_at hl 3 rfl) ?_
  refine va_get (D := D) (ci := 8) (v := Value.int 3) (C := "CommitLedgerModel") (T := F_Mo) (N := 35) hx hb hts i_Mo hown hK hP 46 f_46_ws1 rfl 0 (by decide) (hts _ kf_Mo_84) (fun _ h9 => h9) rfl d_Mo_done_39 ?_
  refine lv_icmp_ne (tgt := 50) hx hb d_Mo_done_42 (by decide) (fun c9 => absurd (by decide) c9) (fun _ => ?_)
  refine lv_aload_n hx hb d_Mo_done_45 rfl (lv_at hl 3 rfl) ?_
  refine lv_iload_n hx hb d_Mo_done_46 rfl (lv_at hl 0 rfl) ?_
  refine va_put (D := D) (ci := 8) (v := Value.int 3) (ty := .int) (C := "CommitLedgerModel") (T := F_Mo) (N := 35) hx hb hts i_Mo t_Mo t_Mo_ok n_Mo hown hK hP hD hS 46 f_46_ws1 rfl 1 (by decide) (hts _ kf_Mo_80) (fun _ h9 => h9) rfl (by decide +kernel) rfl rfl (Nat.le_of_ble_eq_true rfl) d_Mo_done_47 (fun H locs hP9 hD9 hS9 => ?_)
  obtain ⟨ws2, e_ws2⟩ : ∃ x : va_W, x = ws1.set 46 ((A46, Sum.inr (8, [Value.int 3, Value.int 3, Value.ref A47, Value.ref A48, Value.ref A49, Value.int 0, Value.ref A50, Value.ref A51, Value.ref A52, Value.ref A53, Value.int 0, Value.int 0, Value.int 0, Value.int (-1), Value.int 0, Value.ref A54, Value.ref A62, Value.ref A70, Value.int 0, Value.int 0, Value.int 0, Value.ref A78, Value.ref A79, Value.int 0, Value.int 16, Value.int 4, u0, Value.ref A80, Value.ref A81, Value.ref A82, Value.int 0, Value.ref A83, Value.int 0, Value.int 0, Value.int 0])) : Nat × va_E) := ⟨_, rfl⟩
  replace hP : va_P D classes ws2 H := by rw [e_ws2]; exact hP9
  replace hD : va_D A ws2 := by rw [e_ws2]; exact hD9
  replace hS := hS9
  clear hP9 hD9 hS9
  have f_46_ws2 : ws2[46]? = some ((A46, Sum.inr (8, [Value.int 3, Value.int 3, Value.ref A47, Value.ref A48, Value.ref A49, Value.int 0, Value.ref A50, Value.ref A51, Value.ref A52, Value.ref A53, Value.int 0, Value.int 0, Value.int 0, Value.int (-1), Value.int 0, Value.ref A54, Value.ref A62, Value.ref A70, Value.int 0, Value.int 0, Value.int 0, Value.ref A78, Value.ref A79, Value.int 0, Value.int 16, Value.int 4, u0, Value.ref A80, Value.ref A81, Value.ref A82, Value.int 0, Value.ref A83, Value.int 0, Value.int 0, Value.int 0])) : Nat × va_E) := by rw [e_ws2]; exact gs_self f_46_ws1
  replace hU : gx_g ws ws2 0 [46] := by rw [e_ws2]; exact hU.put (Or.inl (by simp))
  refine lv_iload hx hb d_Mo_done_50 (lv_at hl 2 rfl) ?_
  refine lv_bipush (v := 10) hx hb d_Mo_done_52 (by decide) ?_
  refine lv_idiv hx hb d_Mo_done_54 (by decide) ?_
  refine gx_topi (y := 0) (by decide) ?_
  refine lv_istore (lv' := [(4, Value.int 0), (3, Value.int 3), (5, Value.int 3), (0, Value.ref A46), (1, Value.int 0), (2, Value.int 123)]) hx hb d_Mo_done_55 hl (by decide) rfl (fun ls hl => ?_)
  refine lv_goto (tgt := 11) hx hb d_Mo_done_57 (by decide) ?_
  refine lv_iload hx hb d_Mo_done_11 (lv_at hl 0 rfl) ?_
  refine lv_if_le (tgt := 60) hx hb d_Mo_done_13 (by decide) (fun _ => ?_) (fun c9 => absurd (by decide) c9)
  refine lv_aload_n hx hb d_Mo_done_60 rfl (lv_at hl 3 rfl) ?_
  refine lv_iconst (v := 0) hx hb d_Mo_done_61 (by decide) ?_
  refine va_put (D := D) (ci := 8) (v := Value.int 0) (ty := .int) (C := "CommitLedgerModel") (T := F_Mo) (N := 35) hx hb hts i_Mo t_Mo t_Mo_ok n_Mo hown hK hP hD hS 46 f_46_ws2 rfl 0 (by decide) (hts _ kf_Mo_84) (fun _ h9 => h9) rfl (by decide +kernel) rfl rfl (Nat.le_of_ble_eq_true rfl) d_Mo_done_62 (fun H locs hP9 hD9 hS9 => ?_)
  obtain ⟨ws3, e_ws3⟩ : ∃ x : va_W, x = ws2.set 46 ((A46, Sum.inr (8, [Value.int 0, Value.int 3, Value.ref A47, Value.ref A48, Value.ref A49, Value.int 0, Value.ref A50, Value.ref A51, Value.ref A52, Value.ref A53, Value.int 0, Value.int 0, Value.int 0, Value.int (-1), Value.int 0, Value.ref A54, Value.ref A62, Value.ref A70, Value.int 0, Value.int 0, Value.int 0, Value.ref A78, Value.ref A79, Value.int 0, Value.int 16, Value.int 4, u0, Value.ref A80, Value.ref A81, Value.ref A82, Value.int 0, Value.ref A83, Value.int 0, Value.int 0, Value.int 0])) : Nat × va_E) := ⟨_, rfl⟩
  replace hP : va_P D classes ws3 H := by rw [e_ws3]; exact hP9
  replace hD : va_D A ws3 := by rw [e_ws3]; exact hD9
  replace hS := hS9
  clear hP9 hD9 hS9
  have f_46_ws3 : ws3[46]? = some ((A46, Sum.inr (8, [Value.int 0, Value.int 3, Value.ref A47, Value.ref A48, Value.ref A49, Value.int 0, Value.ref A50, Value.ref A51, Value.ref A52, Value.ref A53, Value.int 0, Value.int 0, Value.int 0, Value.int (-1), Value.int 0, Value.ref A54, Value.ref A62, Value.ref A70, Value.int 0, Value.int 0, Value.int 0, Value.ref A78, Value.ref A79, Value.int 0, Value.int 16, Value.int 4, u0, Value.ref A80, Value.ref A81, Value.ref A82, Value.int 0, Value.ref A83, Value.int 0, Value.int 0, Value.int 0])) : Nat × va_E) := by rw [e_ws3]; exact gs_self f_46_ws2
  replace hU : gx_g ws ws3 0 [46] := by rw [e_ws3]; exact hU.put (Or.inl (by simp))
  refine lv_aload_n hx hb d_Mo_done_65 rfl (lv_at hl 3 rfl) ?_
  refine va_get (D := D) (ci := 8) (v := Value.int 3) (C := "CommitLedgerModel") (T := F_Mo) (N := 35) hx hb hts i_Mo hown hK hP 46 f_46_ws3 rfl 1 (by decide) (hts _ kf_Mo_80) (fun _ h9 => h9) rfl d_Mo_done_66 ?_
  refine lv_if_le (tgt := 76) hx hb d_Mo_done_69 (by decide) (fun c9 => absurd c9 (by decide)) (fun _ => ?_)
  refine lv_iconst (v := 0) hx hb d_Mo_done_72 (by decide) ?_
  refine lv_goto (tgt := 77) hx hb d_Mo_done_73 (by decide) ?_
  exact gx_ret (W.iret (v := 0) hx hb hr (gx_post hP hK hD hS (by rw [← hPQ]; exact ⟨rfl, hU, f_46_ws3⟩)) hS.2.2 d_Mo_done_77)

set_option maxHeartbeats 4000000 in
set_option maxRecDepth 100000 in
theorem c_Mo_harm_v1 (l : Launch) (htr : l.stackTraces = false) (D : va_G) (tys : List (ClassId × FieldType)) (z sz : Nat) (ws : va_W) (cV : ClassId) (A46 : Nat) (p0 : Int32) (p1 : Int32) (A47 : Nat) (A48 : Nat) (A49 : Nat) (A50 : Nat) (A51 : Nat) (A52 : Nat) (A53 : Nat) (A54 : Nat) (A62 : Nat) (A70 : Nat) (A78 : Nat) (A79 : Nat) (u0 : Value) (A80 : Nat) (A81 : Nat) (A82 : Nat) (A83 : Nat) (A84 : Nat) (A85 : Nat) (A86 : Nat) (A87 : Nat) (A88 : Nat) (A89 : Nat) (A90 : Nat) (A91 : Nat) (A92 : Nat) (A93 : Nat) (A94 : Nat) (A95 : Nat) (A96 : Nat) (A97 : Nat) (A98 : Nat) (A99 : Nat) (A100 : Nat) (A101 : Nat) (A102 : Nat) (A103 : Nat) (A104 : Nat) (A105 : Nat) (A106 : Nat) (A107 : Nat) (A108 : Nat) (A109 : Nat) (A110 : Nat) (A111 : Nat) (A112 : Nat) (A113 : Nat) (A114 : Nat) (A115 : Nat) (f_46 : ws[46]? = some ((A46, Sum.inr (8, [Value.int 0, Value.int 0, Value.ref A47, Value.ref A48, Value.ref A49, Value.int 0, Value.ref A50, Value.ref A51, Value.ref A52, Value.ref A53, Value.int 0, Value.int 0, Value.int 0, Value.int (-1), Value.int 0, Value.ref A54, Value.ref A62, Value.ref A70, Value.int 0, Value.int 0, Value.int 0, Value.ref A78, Value.ref A79, Value.int 0, Value.int 16, Value.int 4, u0, Value.ref A80, Value.ref A81, Value.ref A82, Value.int 0, Value.ref A83, Value.int 0, Value.int 0, Value.int 0])) : Nat × va_E)) (f_84 : ws[84]? = some ((A84, Sum.inr (9, [Value.ref A85, Value.ref A86, Value.ref A87, Value.ref A88, Value.ref A89, Value.ref A90, Value.ref A91, Value.int 0, Value.int 0, Value.int 0, Value.int 0])) : Nat × va_E)) (f_92 : ws[92]? = some ((A92, Sum.inr (9, [Value.ref A93, Value.ref A94, Value.ref A95, Value.ref A96, Value.ref A97, Value.ref A98, Value.ref A99, Value.int 0, Value.int 0, Value.int 0, Value.int 0])) : Nat × va_E)) (f_100 : ws[100]? = some ((A100, Sum.inr (9, [Value.ref A101, Value.ref A102, Value.ref A103, Value.ref A104, Value.ref A105, Value.ref A106, Value.ref A107, Value.int 0, Value.int 0, Value.int 0, Value.int 0])) : Nat × va_E)) (f_108 : ws[108]? = some ((A108, Sum.inr (9, [Value.ref A109, Value.ref A110, Value.ref A111, Value.ref A112, Value.ref A113, Value.ref A114, Value.ref A115, Value.int 0, Value.int 0, Value.int 0, Value.int 0])) : Nat × va_E)) (f_83 : ws[83]? = some ((A83, Sum.inl (cV, 4, Sum.inr (Sum.inr (Sum.inr (Sum.inr (va_up (va_up (va_up (va_up (fun _ => none) 0 (some A84)) 1 (some A92)) 2 (some A100)) 3 (some A108))))))) : Nat × va_E)) (ht5 : tys[5]? = some ((cV, FieldType.object "CommitLedgerModel$Version") : ClassId × FieldType)) : gx_Met l y_Mo_harm [Cond.code y_Mo_harm b_Mo_harm 4 none] { frames := 2, cells := 0, slots := 0, locals := 37 } (gx_P z sz D classes tys ws [Value.ref A46, Value.int p0, Value.int p1]) (gx_Q D classes tys (va_A ws sz) (fun r ws' => (r = Sum.inl none ∧ gx_g ws ws' 0 [46] ∧ ws'[46]? = some ((A46, Sum.inr (8, [Value.int 0, Value.int 1, Value.ref A47, Value.ref A48, Value.ref A49, Value.int 0, Value.ref A50, Value.ref A51, Value.ref A52, Value.ref A53, Value.int 0, Value.int 0, Value.int 0, Value.int (-1), Value.int 0, Value.ref A54, Value.ref A62, Value.ref A70, Value.int 0, Value.int 0, Value.int 0, Value.ref A78, Value.ref A79, Value.int 0, Value.int 16, Value.int 4, u0, Value.ref A80, Value.ref A81, Value.ref A82, Value.int 0, Value.ref A83, Value.int 0, Value.int 0, Value.int 0])) : Nat × va_E) ∧ p0 < 0) ∨ (r = Sum.inl none ∧ gx_g ws ws' 0 [46] ∧ ws'[46]? = some ((A46, Sum.inr (8, [Value.int 0, Value.int 3, Value.ref A47, Value.ref A48, Value.ref A49, Value.int 0, Value.ref A50, Value.ref A51, Value.ref A52, Value.ref A53, Value.int 0, Value.int 0, Value.int 0, Value.int (-1), Value.int 0, Value.ref A54, Value.ref A62, Value.ref A70, Value.int 0, Value.int 0, Value.int 0, Value.ref A78, Value.ref A79, Value.int 0, Value.int 16, Value.int 4, u0, Value.ref A80, Value.ref A81, Value.ref A82, Value.int 0, Value.ref A83, Value.int 0, Value.int 0, Value.int 0])) : Nat × va_E) ∧ ¬ p0 < 0 ∧ 0 ≤ p1) ∨ (r = Sum.inl none ∧ gx_g ws ws' 0 [46] ∧ ws'[46]? = some ((A46, Sum.inr (8, [Value.int 0, Value.int 1, Value.ref A47, Value.ref A48, Value.ref A49, Value.int 0, Value.ref A50, Value.ref A51, Value.ref A52, Value.ref A53, Value.int 0, Value.int 0, Value.int 0, Value.int (-1), Value.int 0, Value.ref A54, Value.ref A62, Value.ref A70, Value.int 0, Value.int 0, Value.int 0, Value.ref A78, Value.ref A79, Value.int 0, Value.int 16, Value.int 4, u0, Value.ref A80, Value.ref A81, Value.ref A82, Value.int 0, Value.ref A83, Value.int 0, Value.int 0, Value.int 0])) : Nat × va_E) ∧ ¬ p0 < 0 ∧ ¬ 0 ≤ p1))) 0 0 (va_A ws sz) := by
  refine gx_ofW (cc := b_Mo_harm) (maxL := 4) (ret := none) (by decide) rfl ?_
  intro p e s m args below meth c s₁ B hml hv
  obtain ⟨rfl, hsz, hz, hP, hK, hD0, hY⟩ := hv
  have hx := B.exec
  have hb := B.bytes
  have hr := B.returns
  have hts := hY.hts (#[Value.ref A46, Value.int p0, Value.int p1] : Array Value)
  have hown : s.vm.findClass "CommitLedgerModel" = some m.cls := findClass_of_methodNamed B.named
  have hlocks := B.notSynchronized
  have hne : c.exceptionTable.isEmpty = true := B.noHandlers (atoms_spec (ws := [Cond.code y_Mo_harm b_Mo_harm 4 none]) B.pre _ List.mem_cons_self)
  subst hsz
  have hAz := gx_az hD0 hz
  have hD := hD0.self (sz := s.heap.size)
  have hN := gx_ns hP
  have hA : ∀ q : Nat, s.heap.size ≤ q → va_A ws s.heap.size q := fun q h => Or.inr h
  generalize va_A ws s.heap.size = A at hD hN hA hAz ⊢
  generalize hPQ : (fun (r : Option Value ⊕ String) (ws' : va_W) => (r = Sum.inl none ∧ gx_g ws ws' 0 [46] ∧ ws'[46]? = some ((A46, Sum.inr (8, [Value.int 0, Value.int 1, Value.ref A47, Value.ref A48, Value.ref A49, Value.int 0, Value.ref A50, Value.ref A51, Value.ref A52, Value.ref A53, Value.int 0, Value.int 0, Value.int 0, Value.int (-1), Value.int 0, Value.ref A54, Value.ref A62, Value.ref A70, Value.int 0, Value.int 0, Value.int 0, Value.ref A78, Value.ref A79, Value.int 0, Value.int 16, Value.int 4, u0, Value.ref A80, Value.ref A81, Value.ref A82, Value.int 0, Value.ref A83, Value.int 0, Value.int 0, Value.int 0])) : Nat × va_E) ∧ p0 < 0) ∨ (r = Sum.inl none ∧ gx_g ws ws' 0 [46] ∧ ws'[46]? = some ((A46, Sum.inr (8, [Value.int 0, Value.int 3, Value.ref A47, Value.ref A48, Value.ref A49, Value.int 0, Value.ref A50, Value.ref A51, Value.ref A52, Value.ref A53, Value.int 0, Value.int 0, Value.int 0, Value.int (-1), Value.int 0, Value.ref A54, Value.ref A62, Value.ref A70, Value.int 0, Value.int 0, Value.int 0, Value.ref A78, Value.ref A79, Value.int 0, Value.int 16, Value.int 4, u0, Value.ref A80, Value.ref A81, Value.ref A82, Value.int 0, Value.ref A83, Value.int 0, Value.int 0, Value.int 0])) : Nat × va_E) ∧ ¬ p0 < 0 ∧ 0 ≤ p1) ∨ (r = Sum.inl none ∧ gx_g ws ws' 0 [46] ∧ ws'[46]? = some ((A46, Sum.inr (8, [Value.int 0, Value.int 1, Value.ref A47, Value.ref A48, Value.ref A49, Value.int 0, Value.ref A50, Value.ref A51, Value.ref A52, Value.ref A53, Value.int 0, Value.int 0, Value.int 0, Value.int (-1), Value.int 0, Value.ref A54, Value.ref A62, Value.ref A70, Value.int 0, Value.int 0, Value.int 0, Value.ref A78, Value.ref A79, Value.int 0, Value.int 16, Value.int 4, u0, Value.ref A80, Value.ref A81, Value.ref A82, Value.int 0, Value.ref A83, Value.int 0, Value.int 0, Value.int 0])) : Nat × va_E) ∧ ¬ p0 < 0 ∧ ¬ 0 ≤ p1)) = PQ
  have hS : va_S A s.heap s.heap [] := va_S.rf
  have hU : gx_g ws ws 0 [46] := gx_g.rf
  have hl := lv_entry ([Value.ref A46, Value.int p0, Value.int p1]) (n := 4) (Nat.le_of_ble_eq_true rfl)
  rw [lg_entry_eq]
  generalize (lg_sl ([Value.ref A46, Value.int p0, Value.int p1]) ++ List.replicate (4 - (lg_sl ([Value.ref A46, Value.int p0, Value.int p1])).length) Slot.unset).toArray = ls at hl ⊢
  have hl : lv_has ls 4 [(0, Value.ref A46), (1, Value.int p0), (2, Value.int p1)] := hl
  refine lv_aload_n hx hb d_Mo_harm_0 rfl (lv_at hl 0 rfl) ?_
  refine lv_iload_n hx hb d_Mo_harm_1 rfl (lv_at hl 1 rfl) ?_
  refine lv_if_lt (tgt := 9) hx hb d_Mo_harm_2 (by decide) (fun c2_1 => ?_) (fun c2_1 => ?_)
  · refine lv_iconst (v := 1) hx hb d_Mo_harm_9 (by decide) ?_
    refine lv_goto (tgt := 14) hx hb d_Mo_harm_10 (by decide) ?_
    refine lv_iconst (v := 1) hx hb d_Mo_harm_14 (by decide) ?_
    refine gx_call (ig := .invokevirtual 152) (c_Mo_wrong_v1 l htr D tys z _ ws A46 A47 A48 A49 A50 A51 A52 A53 A54 A62 A70 A78 A79 (u0) A80 A81 A82 A83 f_46) (gx_invV (As := [Value.int 1, Value.int 1]) (rest := []) hx hb hown hts km_Mo_152 kI_Mo_wrong kV_Mo_wrong kc_Mo_wrong (by decide) (show (parseMethodDescriptor y_Mo_wrong.desc).map (fun d => d.parameters.length) = some 2 by decide +kernel) (gx_recv (ci := 8) hK hP rfl f_46) rfl rfl d_Mo_harm_15) (gx_cw (z := 0) hts kc_Mo_wrong kN_Mo rfl rfl ⟨Nat.le_of_ble_eq_true rfl, Nat.le_of_ble_eq_true rfl⟩) hb hml gx_blind (gx_pre hz hP hK hD hY hS hAz [Value.ref A46, Value.int 1, Value.int 1]) rfl hl.1 (lv_room (Nat.le_of_ble_eq_true rfl)) d_Mo_harm_15 ⟨Nat.le_of_ble_eq_true rfl, Nat.le_of_ble_eq_true rfl⟩ (fun v2 st2 t2 L2 h0_2 hW_2 hQ_2 hL_2 => ?_) (fun v2 st2 t2 L2 h0_2 hW_2 hQ_2 hL_2 => ?_)
    · obtain ⟨ws3, hp, hP9, -, hD9, hS9⟩ := gx_back h0_2 hW_2 hQ_2 hL_2 hD hS hA
      clear hQ_2 h0_2 hL_2 hW_2 hP hD hS
      have hP := hP9
      have hD := hD9
      have hS := hS9
      clear hP9 hD9 hS9
      rcases hp with ⟨hv9, e_ws3, f_46_ws3⟩
      cases hv9
      have f_46_ws3 : ws3[46]? = some ((A46, Sum.inr (8, [Value.int 1, Value.int 0, Value.ref A47, Value.ref A48, Value.ref A49, Value.int 0, Value.ref A50, Value.ref A51, Value.ref A52, Value.ref A53, Value.int 0, Value.int 0, Value.int 0, Value.int (-1), Value.int 0, Value.ref A54, Value.ref A62, Value.ref A70, Value.int 0, Value.int 0, Value.int 0, Value.ref A78, Value.ref A79, Value.int 0, Value.int 16, Value.int 4, u0, Value.ref A80, Value.ref A81, Value.ref A82, Value.int 0, Value.ref A83, Value.int 0, Value.int 0, Value.int 0])) : Nat × va_E) := f_46_ws3
      replace hU : gx_g ws ws3 0 [46] := hU.call e_ws3 (by simp; first | done | omega)
      refine W.eq (g2 := F0 m 18 ls [Value.int 1]) rfl ?_
      generalize t2.heap = H at hP hS ⊢
      generalize [] ++ L2 = locs at hS ⊢
      refine lv_if_ne (tgt := 98) hx hb d_Mo_harm_18 (by decide) (fun _ => ?_) (fun c9 => absurd c9 (by decide))
      refine lv_aload_n hx hb d_Mo_harm_98 rfl (lv_at hl 0 rfl) ?_
      refine lv_iconst (v := 0) hx hb d_Mo_harm_99 (by decide) ?_
      refine lv_bipush (v := 123) hx hb d_Mo_harm_100 (by decide) ?_
      refine gx_call (ig := .invokevirtual 148) (c_Mo_done_v14 l htr D tys z _ ws3 A46 A47 A48 A49 A50 A51 A52 A53 A54 A62 A70 A78 A79 (u0) A80 A81 A82 A83 f_46_ws3) (gx_invV (As := [Value.int 0, Value.int 123]) (rest := []) hx hb hown hts km_Mo_148 kI_Mo_done kV_Mo_done kc_Mo_done (by decide) (show (parseMethodDescriptor y_Mo_done.desc).map (fun d => d.parameters.length) = some 2 by decide +kernel) (gx_recv (ci := 8) hK hP rfl f_46_ws3) rfl rfl d_Mo_harm_102) (gx_cw (z := 0) hts kc_Mo_done kN_Mo rfl rfl ⟨Nat.le_of_ble_eq_true rfl, Nat.le_of_ble_eq_true rfl⟩) hb hml gx_blind (gx_pre hz hP hK hD hY hS hAz [Value.ref A46, Value.int 0, Value.int 123]) rfl hl.1 (lv_room (Nat.le_of_ble_eq_true rfl)) d_Mo_harm_102 ⟨Nat.le_of_ble_eq_true rfl, Nat.le_of_ble_eq_true rfl⟩ (fun v4 st4 t4 L4 h0_4 hW_4 hQ_4 hL_4 => ?_) (fun v4 st4 t4 L4 h0_4 hW_4 hQ_4 hL_4 => ?_)
      · obtain ⟨ws5, hp, hP9, -, hD9, hS9⟩ := gx_back h0_4 hW_4 hQ_4 hL_4 hD hS hA
        clear hQ_4 h0_4 hL_4 hW_4 hP hD hS
        have hP := hP9
        have hD := hD9
        have hS := hS9
        clear hP9 hD9 hS9
        rcases hp with ⟨hv9, e_ws5, f_46_ws5⟩
        cases hv9
        have f_46_ws5 : ws5[46]? = some ((A46, Sum.inr (8, [Value.int 0, Value.int 1, Value.ref A47, Value.ref A48, Value.ref A49, Value.int 0, Value.ref A50, Value.ref A51, Value.ref A52, Value.ref A53, Value.int 0, Value.int 0, Value.int 0, Value.int (-1), Value.int 0, Value.ref A54, Value.ref A62, Value.ref A70, Value.int 0, Value.int 0, Value.int 0, Value.ref A78, Value.ref A79, Value.int 0, Value.int 16, Value.int 4, u0, Value.ref A80, Value.ref A81, Value.ref A82, Value.int 0, Value.ref A83, Value.int 0, Value.int 0, Value.int 0])) : Nat × va_E) := f_46_ws5
        replace hU : gx_g ws ws5 0 [46] := hU.call e_ws5 (by simp; first | done | omega)
        refine W.eq (g2 := F0 m 105 ls [Value.int 0]) rfl ?_
        generalize t4.heap = H at hP hS ⊢
        generalize locs ++ L4 = locs at hS ⊢
        refine lv_istore_n (lv' := [(3, Value.int 0), (0, Value.ref A46), (1, Value.int p0), (2, Value.int p1)]) hx hb d_Mo_harm_105 rfl hl (by decide) rfl (fun ls hl => ?_)
        exact gx_ret (W.vret hx hb hr (gx_post hP hK hD hS (by rw [← hPQ]; exact Or.inl ⟨rfl, hU, f_46_ws5, c2_1⟩)) hS.2.2 d_Mo_harm_106)
      · obtain ⟨E9, ws6, ce, hp, hce, hP9, -, hD9, hS9⟩ := gx_backT h0_4 hW_4 hQ_4 hL_4 hD hS hA
        clear hQ_4 h0_4 hL_4 hW_4 hP hD hS
        have hP := hP9
        have hD := hD9
        have hS := hS9
        clear hP9 hD9 hS9
        rcases hp with ⟨hv9, e_ws6, f_46_ws6⟩
        cases hv9
    · obtain ⟨E9, ws7, ce, hp, hce, hP9, -, hD9, hS9⟩ := gx_backT h0_2 hW_2 hQ_2 hL_2 hD hS hA
      clear hQ_2 h0_2 hL_2 hW_2 hP hD hS
      have hP := hP9
      have hD := hD9
      have hS := hS9
      clear hP9 hD9 hS9
      rcases hp with ⟨hv9, e_ws7, f_46_ws7⟩
      cases hv9
  · refine lv_iload_n hx hb d_Mo_harm_5 rfl (lv_at hl 2 rfl) ?_
    refine lv_if_ge (tgt := 13) hx hb d_Mo_harm_6 (by decide) (fun c6_8 => ?_) (fun c6_8 => ?_)
    · refine lv_iconst (v := 0) hx hb d_Mo_harm_13 (by decide) ?_
      refine lv_iconst (v := 1) hx hb d_Mo_harm_14 (by decide) ?_
      refine gx_call (ig := .invokevirtual 152) (c_Mo_wrong_v2 l htr D tys z _ ws A46 A47 A48 A49 A50 A51 A52 A53 A54 A62 A70 A78 A79 (u0) A80 A81 A82 A83 f_46) (gx_invV (As := [Value.int 0, Value.int 1]) (rest := []) hx hb hown hts km_Mo_152 kI_Mo_wrong kV_Mo_wrong kc_Mo_wrong (by decide) (show (parseMethodDescriptor y_Mo_wrong.desc).map (fun d => d.parameters.length) = some 2 by decide +kernel) (gx_recv (ci := 8) hK hP rfl f_46) rfl rfl d_Mo_harm_15) (gx_cw (z := 0) hts kc_Mo_wrong kN_Mo rfl rfl ⟨Nat.le_of_ble_eq_true rfl, Nat.le_of_ble_eq_true rfl⟩) hb hml gx_blind (gx_pre hz hP hK hD hY hS hAz [Value.ref A46, Value.int 0, Value.int 1]) rfl hl.1 (lv_room (Nat.le_of_ble_eq_true rfl)) d_Mo_harm_15 ⟨Nat.le_of_ble_eq_true rfl, Nat.le_of_ble_eq_true rfl⟩ (fun v9 st9 t9 L9 h0_9 hW_9 hQ_9 hL_9 => ?_) (fun v9 st9 t9 L9 h0_9 hW_9 hQ_9 hL_9 => ?_)
      · obtain ⟨ws10, hp, hP9, -, hD9, hS9⟩ := gx_back h0_9 hW_9 hQ_9 hL_9 hD hS hA
        clear hQ_9 h0_9 hL_9 hW_9 hP hD hS
        have hP := hP9
        have hD := hD9
        have hS := hS9
        clear hP9 hD9 hS9
        rcases hp with ⟨hv9, e_ws10⟩
        cases hv9
        rw [e_ws10] at hP hD
        refine W.eq (g2 := F0 m 18 ls [Value.int 0]) rfl ?_
        generalize t9.heap = H at hP hS ⊢
        generalize [] ++ L9 = locs at hS ⊢
        refine lv_if_ne (tgt := 98) hx hb d_Mo_harm_18 (by decide) (fun c9 => absurd (by decide) c9) (fun _ => ?_)
        refine lv_aload_n hx hb d_Mo_harm_21 rfl (lv_at hl 0 rfl) ?_
        refine lv_aload_n hx hb d_Mo_harm_22 rfl (lv_at hl 0 rfl) ?_
        refine va_get (D := D) (ci := 8) (v := Value.int 0) (C := "CommitLedgerModel") (T := F_Mo) (N := 35) hx hb hts i_Mo hown hK hP 46 f_46 rfl 18 (by decide) (hts _ kf_Mo_99) (fun _ h9 => h9) rfl d_Mo_harm_23 ?_
        refine lv_if_ne (tgt := 36) hx hb d_Mo_harm_26 (by decide) (fun c9 => absurd (by decide) c9) (fun _ => ?_)
        refine lv_aload_n hx hb d_Mo_harm_29 rfl (lv_at hl 0 rfl) ?_
        refine gx_call (ig := .invokevirtual 250) (c_Mo_anyReader_v1 l htr D tys z _ ws cV A46 A47 A48 A49 A50 A51 A52 A53 A54 A62 A70 A78 A79 (u0) A80 A81 A82 A83 A84 A85 A86 A87 A88 A89 A90 A91 A92 A93 A94 A95 A96 A97 A98 A99 A100 A101 A102 A103 A104 A105 A106 A107 A108 A109 A110 A111 A112 A113 A114 A115 f_46 f_84 f_92 f_100 f_108 f_83 ht5) (gx_invV (As := []) (rest := [Value.ref A46]) hx hb hown hts km_Mo_250 kI_Mo_anyReader kV_Mo_anyReader kc_Mo_anyReader (by decide) (show (parseMethodDescriptor y_Mo_anyReader.desc).map (fun d => d.parameters.length) = some 0 by decide +kernel) (gx_recv (ci := 8) hK hP rfl f_46) rfl rfl d_Mo_harm_30) (gx_cw (z := 0) hts kc_Mo_anyReader kN_Mo rfl rfl ⟨Nat.le_of_ble_eq_true rfl, Nat.le_of_ble_eq_true rfl⟩) hb hml gx_blind (gx_pre hz hP hK hD hY hS hAz [Value.ref A46]) rfl hl.1 (lv_room (Nat.le_of_ble_eq_true rfl)) d_Mo_harm_30 ⟨Nat.le_of_ble_eq_true rfl, Nat.le_of_ble_eq_true rfl⟩ (fun v11 st11 t11 L11 h0_11 hW_11 hQ_11 hL_11 => ?_) (fun v11 st11 t11 L11 h0_11 hW_11 hQ_11 hL_11 => ?_)
        · obtain ⟨ws12, hp, hP9, -, hD9, hS9⟩ := gx_back h0_11 hW_11 hQ_11 hL_11 hD hS hA
          clear hQ_11 h0_11 hL_11 hW_11 hP hD hS
          have hP := hP9
          have hD := hD9
          have hS := hS9
          clear hP9 hD9 hS9
          rcases hp with ⟨hv9, e_ws12⟩
          cases hv9
          rw [e_ws12] at hP hD
          refine W.eq (g2 := F0 m 33 ls [Value.int 0, Value.ref A46]) rfl ?_
          generalize t11.heap = H at hP hS ⊢
          generalize locs ++ L11 = locs at hS ⊢
          refine lv_if_eq (tgt := 40) hx hb d_Mo_harm_33 (by decide) (fun _ => ?_) (fun c9 => absurd (by decide) c9)
          refine lv_iconst (v := 0) hx hb d_Mo_harm_40 (by decide) ?_
          refine lv_iconst (v := 2) hx hb d_Mo_harm_41 (by decide) ?_
          refine gx_call (ig := .invokevirtual 152) (c_Mo_wrong_v3 l htr D tys z _ ws A46 A47 A48 A49 A50 A51 A52 A53 A54 A62 A70 A78 A79 (u0) A80 A81 A82 A83 f_46) (gx_invV (As := [Value.int 0, Value.int 2]) (rest := []) hx hb hown hts km_Mo_152 kI_Mo_wrong kV_Mo_wrong kc_Mo_wrong (by decide) (show (parseMethodDescriptor y_Mo_wrong.desc).map (fun d => d.parameters.length) = some 2 by decide +kernel) (gx_recv (ci := 8) hK hP rfl f_46) rfl rfl d_Mo_harm_42) (gx_cw (z := 0) hts kc_Mo_wrong kN_Mo rfl rfl ⟨Nat.le_of_ble_eq_true rfl, Nat.le_of_ble_eq_true rfl⟩) hb hml gx_blind (gx_pre hz hP hK hD hY hS hAz [Value.ref A46, Value.int 0, Value.int 2]) rfl hl.1 (lv_room (Nat.le_of_ble_eq_true rfl)) d_Mo_harm_42 ⟨Nat.le_of_ble_eq_true rfl, Nat.le_of_ble_eq_true rfl⟩ (fun v13 st13 t13 L13 h0_13 hW_13 hQ_13 hL_13 => ?_) (fun v13 st13 t13 L13 h0_13 hW_13 hQ_13 hL_13 => ?_)
          · obtain ⟨ws14, hp, hP9, -, hD9, hS9⟩ := gx_back h0_13 hW_13 hQ_13 hL_13 hD hS hA
            clear hQ_13 h0_13 hL_13 hW_13 hP hD hS
            have hP := hP9
            have hD := hD9
            have hS := hS9
            clear hP9 hD9 hS9
            rcases hp with ⟨hv9, e_ws14⟩
            cases hv9
            rw [e_ws14] at hP hD
            refine W.eq (g2 := F0 m 45 ls [Value.int 0]) rfl ?_
            generalize t13.heap = H at hP hS ⊢
            generalize locs ++ L13 = locs at hS ⊢
            refine lv_if_ne (tgt := 98) hx hb d_Mo_harm_45 (by decide) (fun c9 => absurd (by decide) c9) (fun _ => ?_)
            refine lv_aload_n hx hb d_Mo_harm_48 rfl (lv_at hl 0 rfl) ?_
            refine lv_aload_n hx hb d_Mo_harm_49 rfl (lv_at hl 0 rfl) ?_
            refine lv_iload_n hx hb d_Mo_harm_50 rfl (lv_at hl 1 rfl) ?_
            refine gx_call (ig := .invokevirtual 128) (c_Mo_place_v1 l htr D tys z _ ws A46 p0 A47 A48 A49 A50 A51 A52 A53 A54 A62 A70 A78 A79 (u0) A80 A81 A82 A83 f_46) (gx_invV (As := [Value.int p0]) (rest := [Value.ref A46]) hx hb hown hts km_Mo_128 kI_Mo_place kV_Mo_place kc_Mo_place (by decide) (show (parseMethodDescriptor y_Mo_place.desc).map (fun d => d.parameters.length) = some 1 by decide +kernel) (gx_recv (ci := 8) hK hP rfl f_46) rfl rfl d_Mo_harm_51) (gx_cw (z := 0) hts kc_Mo_place kN_Mo rfl rfl ⟨Nat.le_of_ble_eq_true rfl, Nat.le_of_ble_eq_true rfl⟩) hb hml gx_blind (gx_pre hz hP hK hD hY hS hAz [Value.ref A46, Value.int p0]) rfl hl.1 (lv_room (Nat.le_of_ble_eq_true rfl)) d_Mo_harm_51 ⟨Nat.le_of_ble_eq_true rfl, Nat.le_of_ble_eq_true rfl⟩ (fun v15 st15 t15 L15 h0_15 hW_15 hQ_15 hL_15 => ?_) (fun v15 st15 t15 L15 h0_15 hW_15 hQ_15 hL_15 => ?_)
            · obtain ⟨ws16, hp, hP9, -, hD9, hS9⟩ := gx_back h0_15 hW_15 hQ_15 hL_15 hD hS hA
              clear hQ_15 h0_15 hL_15 hW_15 hP hD hS
              have hP := hP9
              have hD := hD9
              have hS := hS9
              clear hP9 hD9 hS9
              rcases hp with ⟨hv9, e_ws16⟩
              cases hv9
              rw [e_ws16] at hP hD
              refine W.eq (g2 := F0 m 54 ls [Value.int (-1), Value.ref A46]) rfl ?_
              generalize t15.heap = H at hP hS ⊢
              generalize locs ++ L15 = locs at hS ⊢
              refine lv_if_ge (tgt := 61) hx hb d_Mo_harm_54 (by decide) (fun c9 => absurd c9 (by decide)) (fun _ => ?_)
              refine lv_iconst (v := 1) hx hb d_Mo_harm_57 (by decide) ?_
              refine lv_goto (tgt := 62) hx hb d_Mo_harm_58 (by decide) ?_
              refine lv_iconst (v := 3) hx hb d_Mo_harm_62 (by decide) ?_
              refine gx_call (ig := .invokevirtual 152) (c_Mo_wrong_v6 l htr D tys z _ ws A46 A47 A48 A49 A50 A51 A52 A53 A54 A62 A70 A78 A79 (u0) A80 A81 A82 A83 f_46) (gx_invV (As := [Value.int 1, Value.int 3]) (rest := []) hx hb hown hts km_Mo_152 kI_Mo_wrong kV_Mo_wrong kc_Mo_wrong (by decide) (show (parseMethodDescriptor y_Mo_wrong.desc).map (fun d => d.parameters.length) = some 2 by decide +kernel) (gx_recv (ci := 8) hK hP rfl f_46) rfl rfl d_Mo_harm_63) (gx_cw (z := 0) hts kc_Mo_wrong kN_Mo rfl rfl ⟨Nat.le_of_ble_eq_true rfl, Nat.le_of_ble_eq_true rfl⟩) hb hml gx_blind (gx_pre hz hP hK hD hY hS hAz [Value.ref A46, Value.int 1, Value.int 3]) rfl hl.1 (lv_room (Nat.le_of_ble_eq_true rfl)) d_Mo_harm_63 ⟨Nat.le_of_ble_eq_true rfl, Nat.le_of_ble_eq_true rfl⟩ (fun v17 st17 t17 L17 h0_17 hW_17 hQ_17 hL_17 => ?_) (fun v17 st17 t17 L17 h0_17 hW_17 hQ_17 hL_17 => ?_)
              · obtain ⟨ws18, hp, hP9, -, hD9, hS9⟩ := gx_back h0_17 hW_17 hQ_17 hL_17 hD hS hA
                clear hQ_17 h0_17 hL_17 hW_17 hP hD hS
                have hP := hP9
                have hD := hD9
                have hS := hS9
                clear hP9 hD9 hS9
                rcases hp with ⟨hv9, e_ws18, f_46_ws18⟩
                cases hv9
                have f_46_ws18 : ws18[46]? = some ((A46, Sum.inr (8, [Value.int 3, Value.int 0, Value.ref A47, Value.ref A48, Value.ref A49, Value.int 0, Value.ref A50, Value.ref A51, Value.ref A52, Value.ref A53, Value.int 0, Value.int 0, Value.int 0, Value.int (-1), Value.int 0, Value.ref A54, Value.ref A62, Value.ref A70, Value.int 0, Value.int 0, Value.int 0, Value.ref A78, Value.ref A79, Value.int 0, Value.int 16, Value.int 4, u0, Value.ref A80, Value.ref A81, Value.ref A82, Value.int 0, Value.ref A83, Value.int 0, Value.int 0, Value.int 0])) : Nat × va_E) := f_46_ws18
                replace hU : gx_g ws ws18 0 [46] := hU.call e_ws18 (by simp; first | done | omega)
                refine W.eq (g2 := F0 m 66 ls [Value.int 1]) rfl ?_
                generalize t17.heap = H at hP hS ⊢
                generalize locs ++ L17 = locs at hS ⊢
                refine lv_if_ne (tgt := 98) hx hb d_Mo_harm_66 (by decide) (fun _ => ?_) (fun c9 => absurd c9 (by decide))
                refine lv_aload_n hx hb d_Mo_harm_98 rfl (lv_at hl 0 rfl) ?_
                refine lv_iconst (v := 0) hx hb d_Mo_harm_99 (by decide) ?_
                refine lv_bipush (v := 123) hx hb d_Mo_harm_100 (by decide) ?_
                refine gx_call (ig := .invokevirtual 148) (c_Mo_done_v15 l htr D tys z _ ws18 A46 A47 A48 A49 A50 A51 A52 A53 A54 A62 A70 A78 A79 (u0) A80 A81 A82 A83 f_46_ws18) (gx_invV (As := [Value.int 0, Value.int 123]) (rest := []) hx hb hown hts km_Mo_148 kI_Mo_done kV_Mo_done kc_Mo_done (by decide) (show (parseMethodDescriptor y_Mo_done.desc).map (fun d => d.parameters.length) = some 2 by decide +kernel) (gx_recv (ci := 8) hK hP rfl f_46_ws18) rfl rfl d_Mo_harm_102) (gx_cw (z := 0) hts kc_Mo_done kN_Mo rfl rfl ⟨Nat.le_of_ble_eq_true rfl, Nat.le_of_ble_eq_true rfl⟩) hb hml gx_blind (gx_pre hz hP hK hD hY hS hAz [Value.ref A46, Value.int 0, Value.int 123]) rfl hl.1 (lv_room (Nat.le_of_ble_eq_true rfl)) d_Mo_harm_102 ⟨Nat.le_of_ble_eq_true rfl, Nat.le_of_ble_eq_true rfl⟩ (fun v19 st19 t19 L19 h0_19 hW_19 hQ_19 hL_19 => ?_) (fun v19 st19 t19 L19 h0_19 hW_19 hQ_19 hL_19 => ?_)
                · obtain ⟨ws20, hp, hP9, -, hD9, hS9⟩ := gx_back h0_19 hW_19 hQ_19 hL_19 hD hS hA
                  clear hQ_19 h0_19 hL_19 hW_19 hP hD hS
                  have hP := hP9
                  have hD := hD9
                  have hS := hS9
                  clear hP9 hD9 hS9
                  rcases hp with ⟨hv9, e_ws20, f_46_ws20⟩
                  cases hv9
                  have f_46_ws20 : ws20[46]? = some ((A46, Sum.inr (8, [Value.int 0, Value.int 3, Value.ref A47, Value.ref A48, Value.ref A49, Value.int 0, Value.ref A50, Value.ref A51, Value.ref A52, Value.ref A53, Value.int 0, Value.int 0, Value.int 0, Value.int (-1), Value.int 0, Value.ref A54, Value.ref A62, Value.ref A70, Value.int 0, Value.int 0, Value.int 0, Value.ref A78, Value.ref A79, Value.int 0, Value.int 16, Value.int 4, u0, Value.ref A80, Value.ref A81, Value.ref A82, Value.int 0, Value.ref A83, Value.int 0, Value.int 0, Value.int 0])) : Nat × va_E) := f_46_ws20
                  replace hU : gx_g ws ws20 0 [46] := hU.call e_ws20 (by simp; first | done | omega)
                  refine W.eq (g2 := F0 m 105 ls [Value.int 0]) rfl ?_
                  generalize t19.heap = H at hP hS ⊢
                  generalize locs ++ L19 = locs at hS ⊢
                  refine lv_istore_n (lv' := [(3, Value.int 0), (0, Value.ref A46), (1, Value.int p0), (2, Value.int p1)]) hx hb d_Mo_harm_105 rfl hl (by decide) rfl (fun ls hl => ?_)
                  exact gx_ret (W.vret hx hb hr (gx_post hP hK hD hS (by rw [← hPQ]; exact Or.inr (Or.inl ⟨rfl, hU, f_46_ws20, c2_1, c6_8⟩))) hS.2.2 d_Mo_harm_106)
                · obtain ⟨E9, ws21, ce, hp, hce, hP9, -, hD9, hS9⟩ := gx_backT h0_19 hW_19 hQ_19 hL_19 hD hS hA
                  clear hQ_19 h0_19 hL_19 hW_19 hP hD hS
                  have hP := hP9
                  have hD := hD9
                  have hS := hS9
                  clear hP9 hD9 hS9
                  rcases hp with ⟨hv9, e_ws21, f_46_ws21⟩
                  cases hv9
              · obtain ⟨E9, ws22, ce, hp, hce, hP9, -, hD9, hS9⟩ := gx_backT h0_17 hW_17 hQ_17 hL_17 hD hS hA
                clear hQ_17 h0_17 hL_17 hW_17 hP hD hS
                have hP := hP9
                have hD := hD9
                have hS := hS9
                clear hP9 hD9 hS9
                rcases hp with ⟨hv9, e_ws22, f_46_ws22⟩
                cases hv9
            · obtain ⟨E9, ws23, ce, hp, hce, hP9, -, hD9, hS9⟩ := gx_backT h0_15 hW_15 hQ_15 hL_15 hD hS hA
              clear hQ_15 h0_15 hL_15 hW_15 hP hD hS
              have hP := hP9
              have hD := hD9
              have hS := hS9
              clear hP9 hD9 hS9
              rcases hp with ⟨hv9, e_ws23⟩
              cases hv9
          · obtain ⟨E9, ws24, ce, hp, hce, hP9, -, hD9, hS9⟩ := gx_backT h0_13 hW_13 hQ_13 hL_13 hD hS hA
            clear hQ_13 h0_13 hL_13 hW_13 hP hD hS
            have hP := hP9
            have hD := hD9
            have hS := hS9
            clear hP9 hD9 hS9
            rcases hp with ⟨hv9, e_ws24⟩
            cases hv9
        · obtain ⟨E9, ws25, ce, hp, hce, hP9, -, hD9, hS9⟩ := gx_backT h0_11 hW_11 hQ_11 hL_11 hD hS hA
          clear hQ_11 h0_11 hL_11 hW_11 hP hD hS
          have hP := hP9
          have hD := hD9
          have hS := hS9
          clear hP9 hD9 hS9
          rcases hp with ⟨hv9, e_ws25⟩
          cases hv9
      · obtain ⟨E9, ws26, ce, hp, hce, hP9, -, hD9, hS9⟩ := gx_backT h0_9 hW_9 hQ_9 hL_9 hD hS hA
        clear hQ_9 h0_9 hL_9 hW_9 hP hD hS
        have hP := hP9
        have hD := hD9
        have hS := hS9
        clear hP9 hD9 hS9
        rcases hp with ⟨hv9, e_ws26⟩
        cases hv9
    · refine lv_iconst (v := 1) hx hb d_Mo_harm_9 (by decide) ?_
      refine lv_goto (tgt := 14) hx hb d_Mo_harm_10 (by decide) ?_
      refine lv_iconst (v := 1) hx hb d_Mo_harm_14 (by decide) ?_
      refine gx_call (ig := .invokevirtual 152) (c_Mo_wrong_v1 l htr D tys z _ ws A46 A47 A48 A49 A50 A51 A52 A53 A54 A62 A70 A78 A79 (u0) A80 A81 A82 A83 f_46) (gx_invV (As := [Value.int 1, Value.int 1]) (rest := []) hx hb hown hts km_Mo_152 kI_Mo_wrong kV_Mo_wrong kc_Mo_wrong (by decide) (show (parseMethodDescriptor y_Mo_wrong.desc).map (fun d => d.parameters.length) = some 2 by decide +kernel) (gx_recv (ci := 8) hK hP rfl f_46) rfl rfl d_Mo_harm_15) (gx_cw (z := 0) hts kc_Mo_wrong kN_Mo rfl rfl ⟨Nat.le_of_ble_eq_true rfl, Nat.le_of_ble_eq_true rfl⟩) hb hml gx_blind (gx_pre hz hP hK hD hY hS hAz [Value.ref A46, Value.int 1, Value.int 1]) rfl hl.1 (lv_room (Nat.le_of_ble_eq_true rfl)) d_Mo_harm_15 ⟨Nat.le_of_ble_eq_true rfl, Nat.le_of_ble_eq_true rfl⟩ (fun v27 st27 t27 L27 h0_27 hW_27 hQ_27 hL_27 => ?_) (fun v27 st27 t27 L27 h0_27 hW_27 hQ_27 hL_27 => ?_)
      · obtain ⟨ws28, hp, hP9, -, hD9, hS9⟩ := gx_back h0_27 hW_27 hQ_27 hL_27 hD hS hA
        clear hQ_27 h0_27 hL_27 hW_27 hP hD hS
        have hP := hP9
        have hD := hD9
        have hS := hS9
        clear hP9 hD9 hS9
        rcases hp with ⟨hv9, e_ws28, f_46_ws28⟩
        cases hv9
        have f_46_ws28 : ws28[46]? = some ((A46, Sum.inr (8, [Value.int 1, Value.int 0, Value.ref A47, Value.ref A48, Value.ref A49, Value.int 0, Value.ref A50, Value.ref A51, Value.ref A52, Value.ref A53, Value.int 0, Value.int 0, Value.int 0, Value.int (-1), Value.int 0, Value.ref A54, Value.ref A62, Value.ref A70, Value.int 0, Value.int 0, Value.int 0, Value.ref A78, Value.ref A79, Value.int 0, Value.int 16, Value.int 4, u0, Value.ref A80, Value.ref A81, Value.ref A82, Value.int 0, Value.ref A83, Value.int 0, Value.int 0, Value.int 0])) : Nat × va_E) := f_46_ws28
        replace hU : gx_g ws ws28 0 [46] := hU.call e_ws28 (by simp; first | done | omega)
        refine W.eq (g2 := F0 m 18 ls [Value.int 1]) rfl ?_
        generalize t27.heap = H at hP hS ⊢
        generalize [] ++ L27 = locs at hS ⊢
        refine lv_if_ne (tgt := 98) hx hb d_Mo_harm_18 (by decide) (fun _ => ?_) (fun c9 => absurd c9 (by decide))
        refine lv_aload_n hx hb d_Mo_harm_98 rfl (lv_at hl 0 rfl) ?_
        refine lv_iconst (v := 0) hx hb d_Mo_harm_99 (by decide) ?_
        refine lv_bipush (v := 123) hx hb d_Mo_harm_100 (by decide) ?_
        refine gx_call (ig := .invokevirtual 148) (c_Mo_done_v14 l htr D tys z _ ws28 A46 A47 A48 A49 A50 A51 A52 A53 A54 A62 A70 A78 A79 (u0) A80 A81 A82 A83 f_46_ws28) (gx_invV (As := [Value.int 0, Value.int 123]) (rest := []) hx hb hown hts km_Mo_148 kI_Mo_done kV_Mo_done kc_Mo_done (by decide) (show (parseMethodDescriptor y_Mo_done.desc).map (fun d => d.parameters.length) = some 2 by decide +kernel) (gx_recv (ci := 8) hK hP rfl f_46_ws28) rfl rfl d_Mo_harm_102) (gx_cw (z := 0) hts kc_Mo_done kN_Mo rfl rfl ⟨Nat.le_of_ble_eq_true rfl, Nat.le_of_ble_eq_true rfl⟩) hb hml gx_blind (gx_pre hz hP hK hD hY hS hAz [Value.ref A46, Value.int 0, Value.int 123]) rfl hl.1 (lv_room (Nat.le_of_ble_eq_true rfl)) d_Mo_harm_102 ⟨Nat.le_of_ble_eq_true rfl, Nat.le_of_ble_eq_true rfl⟩ (fun v29 st29 t29 L29 h0_29 hW_29 hQ_29 hL_29 => ?_) (fun v29 st29 t29 L29 h0_29 hW_29 hQ_29 hL_29 => ?_)
        · obtain ⟨ws30, hp, hP9, -, hD9, hS9⟩ := gx_back h0_29 hW_29 hQ_29 hL_29 hD hS hA
          clear hQ_29 h0_29 hL_29 hW_29 hP hD hS
          have hP := hP9
          have hD := hD9
          have hS := hS9
          clear hP9 hD9 hS9
          rcases hp with ⟨hv9, e_ws30, f_46_ws30⟩
          cases hv9
          have f_46_ws30 : ws30[46]? = some ((A46, Sum.inr (8, [Value.int 0, Value.int 1, Value.ref A47, Value.ref A48, Value.ref A49, Value.int 0, Value.ref A50, Value.ref A51, Value.ref A52, Value.ref A53, Value.int 0, Value.int 0, Value.int 0, Value.int (-1), Value.int 0, Value.ref A54, Value.ref A62, Value.ref A70, Value.int 0, Value.int 0, Value.int 0, Value.ref A78, Value.ref A79, Value.int 0, Value.int 16, Value.int 4, u0, Value.ref A80, Value.ref A81, Value.ref A82, Value.int 0, Value.ref A83, Value.int 0, Value.int 0, Value.int 0])) : Nat × va_E) := f_46_ws30
          replace hU : gx_g ws ws30 0 [46] := hU.call e_ws30 (by simp; first | done | omega)
          refine W.eq (g2 := F0 m 105 ls [Value.int 0]) rfl ?_
          generalize t29.heap = H at hP hS ⊢
          generalize locs ++ L29 = locs at hS ⊢
          refine lv_istore_n (lv' := [(3, Value.int 0), (0, Value.ref A46), (1, Value.int p0), (2, Value.int p1)]) hx hb d_Mo_harm_105 rfl hl (by decide) rfl (fun ls hl => ?_)
          exact gx_ret (W.vret hx hb hr (gx_post hP hK hD hS (by rw [← hPQ]; exact Or.inr (Or.inr (⟨rfl, hU, f_46_ws30, c2_1, c6_8⟩)))) hS.2.2 d_Mo_harm_106)
        · obtain ⟨E9, ws31, ce, hp, hce, hP9, -, hD9, hS9⟩ := gx_backT h0_29 hW_29 hQ_29 hL_29 hD hS hA
          clear hQ_29 h0_29 hL_29 hW_29 hP hD hS
          have hP := hP9
          have hD := hD9
          have hS := hS9
          clear hP9 hD9 hS9
          rcases hp with ⟨hv9, e_ws31, f_46_ws31⟩
          cases hv9
      · obtain ⟨E9, ws32, ce, hp, hce, hP9, -, hD9, hS9⟩ := gx_backT h0_27 hW_27 hQ_27 hL_27 hD hS hA
        clear hQ_27 h0_27 hL_27 hW_27 hP hD hS
        have hP := hP9
        have hD := hD9
        have hS := hS9
        clear hP9 hD9 hS9
        rcases hp with ⟨hv9, e_ws32, f_46_ws32⟩
        cases hv9

set_option maxHeartbeats 4000000 in
set_option maxRecDepth 100000 in
theorem c_Mo_done_v16 (l : Launch) (htr : l.stackTraces = false) (D : va_G) (tys : List (ClassId × FieldType)) (z sz : Nat) (ws : va_W) (A46 : Nat) (A47 : Nat) (A48 : Nat) (A49 : Nat) (A50 : Nat) (A51 : Nat) (A52 : Nat) (A53 : Nat) (A54 : Nat) (A62 : Nat) (A70 : Nat) (A78 : Nat) (A79 : Nat) (u0 : Value) (A80 : Nat) (A81 : Nat) (A82 : Nat) (A83 : Nat) (f_46 : ws[46]? = some ((A46, Sum.inr (8, [Value.int 1, Value.int 0, Value.ref A47, Value.ref A48, Value.ref A49, Value.int 0, Value.ref A50, Value.ref A51, Value.ref A52, Value.ref A53, Value.int 0, Value.int 0, Value.int 0, Value.int (-1), Value.int 0, Value.ref A54, Value.ref A62, Value.ref A70, Value.int 0, Value.int 0, Value.int 0, Value.ref A78, Value.ref A79, Value.int 0, Value.int 16, Value.int 4, u0, Value.ref A80, Value.ref A81, Value.ref A82, Value.int 0, Value.ref A83, Value.int 0, Value.int 0, Value.int 0])) : Nat × va_E)) : gx_Met l y_Mo_done [Cond.code y_Mo_done b_Mo_done 6 (some .int)] { frames := 1, cells := 0, slots := 0, locals := 12 } (gx_P z sz D classes tys ws [Value.ref A46, Value.int 0, Value.int 123456]) (gx_Q D classes tys (va_A ws sz) (fun r ws' => (r = Sum.inl (some (Value.int 0)) ∧ gx_g ws ws' 0 [46] ∧ ws'[46]? = some ((A46, Sum.inr (8, [Value.int 0, Value.int 1, Value.ref A47, Value.ref A48, Value.ref A49, Value.int 0, Value.ref A50, Value.ref A51, Value.ref A52, Value.ref A53, Value.int 0, Value.int 0, Value.int 0, Value.int (-1), Value.int 0, Value.ref A54, Value.ref A62, Value.ref A70, Value.int 0, Value.int 0, Value.int 0, Value.ref A78, Value.ref A79, Value.int 0, Value.int 16, Value.int 4, u0, Value.ref A80, Value.ref A81, Value.ref A82, Value.int 0, Value.ref A83, Value.int 0, Value.int 0, Value.int 0])) : Nat × va_E)))) 0 0 (va_A ws sz) := by
  refine gx_ofW (cc := b_Mo_done) (maxL := 6) (ret := (some .int)) (by decide) rfl ?_
  intro p e s m args below meth c s₁ B hml hv
  obtain ⟨rfl, hsz, hz, hP, hK, hD0, hY⟩ := hv
  have hx := B.exec
  have hb := B.bytes
  have hr := B.returns
  have hts := hY.hts (#[Value.ref A46, Value.int 0, Value.int 123456] : Array Value)
  have hown : s.vm.findClass "CommitLedgerModel" = some m.cls := findClass_of_methodNamed B.named
  have hlocks := B.notSynchronized
  have hne : c.exceptionTable.isEmpty = true := B.noHandlers (atoms_spec (ws := [Cond.code y_Mo_done b_Mo_done 6 (some .int)]) B.pre _ List.mem_cons_self)
  subst hsz
  have hAz := gx_az hD0 hz
  have hD := hD0.self (sz := s.heap.size)
  have hN := gx_ns hP
  have hA : ∀ q : Nat, s.heap.size ≤ q → va_A ws s.heap.size q := fun q h => Or.inr h
  generalize va_A ws s.heap.size = A at hD hN hA hAz ⊢
  generalize hPQ : (fun (r : Option Value ⊕ String) (ws' : va_W) => (r = Sum.inl (some (Value.int 0)) ∧ gx_g ws ws' 0 [46] ∧ ws'[46]? = some ((A46, Sum.inr (8, [Value.int 0, Value.int 1, Value.ref A47, Value.ref A48, Value.ref A49, Value.int 0, Value.ref A50, Value.ref A51, Value.ref A52, Value.ref A53, Value.int 0, Value.int 0, Value.int 0, Value.int (-1), Value.int 0, Value.ref A54, Value.ref A62, Value.ref A70, Value.int 0, Value.int 0, Value.int 0, Value.ref A78, Value.ref A79, Value.int 0, Value.int 16, Value.int 4, u0, Value.ref A80, Value.ref A81, Value.ref A82, Value.int 0, Value.ref A83, Value.int 0, Value.int 0, Value.int 0])) : Nat × va_E))) = PQ
  have hS : va_S A s.heap s.heap [] := va_S.rf
  have hU : gx_g ws ws 0 [46] := gx_g.rf
  have hl := lv_entry ([Value.ref A46, Value.int 0, Value.int 123456]) (n := 6) (Nat.le_of_ble_eq_true rfl)
  rw [lg_entry_eq]
  generalize (lg_sl ([Value.ref A46, Value.int 0, Value.int 123456]) ++ List.replicate (6 - (lg_sl ([Value.ref A46, Value.int 0, Value.int 123456])).length) Slot.unset).toArray = ls at hl ⊢
  have hl : lv_has ls 6 [(0, Value.ref A46), (1, Value.int 0), (2, Value.int 123456)] := hl
  refine lv_aload_n hx hb d_Mo_done_0 rfl (lv_at hl 0 rfl) ?_
  refine lv_iconst (v := 0) hx hb d_Mo_done_1 (by decide) ?_
  refine va_put (D := D) (ci := 8) (v := Value.int 0) (ty := .int) (C := "CommitLedgerModel") (T := F_Mo) (N := 35) hx hb hts i_Mo t_Mo t_Mo_ok n_Mo hown hK hP hD hS 46 f_46 rfl 1 (by decide) (hts _ kf_Mo_80) (fun _ h9 => h9) rfl (by decide +kernel) rfl rfl (Nat.le_of_ble_eq_true rfl) d_Mo_done_2 (fun H locs hP9 hD9 hS9 => ?_)
  obtain ⟨ws1, e_ws1⟩ : ∃ x : va_W, x = ws.set 46 ((A46, Sum.inr (8, [Value.int 1, Value.int 0, Value.ref A47, Value.ref A48, Value.ref A49, Value.int 0, Value.ref A50, Value.ref A51, Value.ref A52, Value.ref A53, Value.int 0, Value.int 0, Value.int 0, Value.int (-1), Value.int 0, Value.ref A54, Value.ref A62, Value.ref A70, Value.int 0, Value.int 0, Value.int 0, Value.ref A78, Value.ref A79, Value.int 0, Value.int 16, Value.int 4, u0, Value.ref A80, Value.ref A81, Value.ref A82, Value.int 0, Value.ref A83, Value.int 0, Value.int 0, Value.int 0])) : Nat × va_E) := ⟨_, rfl⟩
  replace hP : va_P D classes ws1 H := by rw [e_ws1]; exact hP9
  replace hD : va_D A ws1 := by rw [e_ws1]; exact hD9
  replace hS := hS9
  clear hP9 hD9 hS9
  have f_46_ws1 : ws1[46]? = some ((A46, Sum.inr (8, [Value.int 1, Value.int 0, Value.ref A47, Value.ref A48, Value.ref A49, Value.int 0, Value.ref A50, Value.ref A51, Value.ref A52, Value.ref A53, Value.int 0, Value.int 0, Value.int 0, Value.int (-1), Value.int 0, Value.ref A54, Value.ref A62, Value.ref A70, Value.int 0, Value.int 0, Value.int 0, Value.ref A78, Value.ref A79, Value.int 0, Value.int 16, Value.int 4, u0, Value.ref A80, Value.ref A81, Value.ref A82, Value.int 0, Value.ref A83, Value.int 0, Value.int 0, Value.int 0])) : Nat × va_E) := by rw [e_ws1]; exact gs_self f_46
  replace hU : gx_g ws ws1 0 [46] := by rw [e_ws1]; exact hU.put (Or.inl (by simp))
  refine lv_iconst (v := 0) hx hb d_Mo_done_5 (by decide) ?_
  refine lv_istore_n (lv' := [(3, Value.int 0), (0, Value.ref A46), (1, Value.int 0), (2, Value.int 123456)]) hx hb d_Mo_done_6 rfl hl (by decide) rfl (fun ls hl => ?_)
  refine lv_ldc (v := 100000) hx hb hown (hts _ ki_Mo_83) d_Mo_done_7 ?_
  refine lv_istore (lv' := [(4, Value.int 100000), (3, Value.int 0), (0, Value.ref A46), (1, Value.int 0), (2, Value.int 123456)]) hx hb d_Mo_done_9 hl (by decide) rfl (fun ls hl => ?_)
  refine lv_iload hx hb d_Mo_done_11 (lv_at hl 0 rfl) ?_
  refine lv_if_le (tgt := 60) hx hb d_Mo_done_13 (by decide) (fun c9 => absurd c9 (by decide)) (fun _ => ?_)
  refine lv_iload_n hx hb d_Mo_done_16 rfl (lv_at hl 4 rfl) ?_
  refine lv_iload hx hb d_Mo_done_17 (lv_at hl 0 rfl) ?_
  refine lv_idiv hx hb d_Mo_done_19 (by decide) ?_
  refine gx_topi (y := 1) (by decide) ?_
  refine lv_bipush (v := 10) hx hb d_Mo_done_20 (by decide) ?_
  refine lv_irem hx hb d_Mo_done_22 (by decide) ?_
  refine gx_topi (y := 1) (by decide) ?_
  refine lv_istore (lv' := [(5, Value.int 1), (4, Value.int 100000), (3, Value.int 0), (0, Value.ref A46), (1, Value.int 0), (2, Value.int 123456)]) hx hb d_Mo_done_23 hl (by decide) rfl (fun ls hl => ?_)
  refine lv_iload hx hb d_Mo_done_25 (lv_at hl 0 rfl) ?_
  refine lv_if_ne (tgt := 33) hx hb d_Mo_done_27 (by decide) (fun _ => ?_) (fun c9 => absurd c9 (by decide))
  refine lv_iinc (v := 1) (lv' := [(3, Value.int 1), (5, Value.int 1), (4, Value.int 100000), (0, Value.ref A46), (1, Value.int 0), (2, Value.int 123456)]) hx hb d_Mo_done_33 hl (k := 2) rfl (by decide) (by decide) rfl (fun ls hl => ?_)
  refine lv_iload hx hb d_Mo_done_36 (lv_at hl 1 rfl) ?_
  refine lv_aload_n hx hb d_Mo_done_38 rfl (lv_at hl 3 rfl) ?_
  refine va_get (D := D) (ci := 8) (v := Value.int 1) (C := "CommitLedgerModel") (T := F_Mo) (N := 35) hx hb hts i_Mo hown hK hP 46 f_46_ws1 rfl 0 (by decide) (hts _ kf_Mo_84) (fun _ h9 => h9) rfl d_Mo_done_39 ?_
  refine lv_icmp_ne (tgt := 50) hx hb d_Mo_done_42 (by decide) (fun c9 => absurd (by decide) c9) (fun _ => ?_)
  refine lv_aload_n hx hb d_Mo_done_45 rfl (lv_at hl 3 rfl) ?_
  refine lv_iload_n hx hb d_Mo_done_46 rfl (lv_at hl 0 rfl) ?_
  refine va_put (D := D) (ci := 8) (v := Value.int 1) (ty := .int) (C := "CommitLedgerModel") (T := F_Mo) (N := 35) hx hb hts i_Mo t_Mo t_Mo_ok n_Mo hown hK hP hD hS 46 f_46_ws1 rfl 1 (by decide) (hts _ kf_Mo_80) (fun _ h9 => h9) rfl (by decide +kernel) rfl rfl (Nat.le_of_ble_eq_true rfl) d_Mo_done_47 (fun H locs hP9 hD9 hS9 => ?_)
  obtain ⟨ws2, e_ws2⟩ : ∃ x : va_W, x = ws1.set 46 ((A46, Sum.inr (8, [Value.int 1, Value.int 1, Value.ref A47, Value.ref A48, Value.ref A49, Value.int 0, Value.ref A50, Value.ref A51, Value.ref A52, Value.ref A53, Value.int 0, Value.int 0, Value.int 0, Value.int (-1), Value.int 0, Value.ref A54, Value.ref A62, Value.ref A70, Value.int 0, Value.int 0, Value.int 0, Value.ref A78, Value.ref A79, Value.int 0, Value.int 16, Value.int 4, u0, Value.ref A80, Value.ref A81, Value.ref A82, Value.int 0, Value.ref A83, Value.int 0, Value.int 0, Value.int 0])) : Nat × va_E) := ⟨_, rfl⟩
  replace hP : va_P D classes ws2 H := by rw [e_ws2]; exact hP9
  replace hD : va_D A ws2 := by rw [e_ws2]; exact hD9
  replace hS := hS9
  clear hP9 hD9 hS9
  have f_46_ws2 : ws2[46]? = some ((A46, Sum.inr (8, [Value.int 1, Value.int 1, Value.ref A47, Value.ref A48, Value.ref A49, Value.int 0, Value.ref A50, Value.ref A51, Value.ref A52, Value.ref A53, Value.int 0, Value.int 0, Value.int 0, Value.int (-1), Value.int 0, Value.ref A54, Value.ref A62, Value.ref A70, Value.int 0, Value.int 0, Value.int 0, Value.ref A78, Value.ref A79, Value.int 0, Value.int 16, Value.int 4, u0, Value.ref A80, Value.ref A81, Value.ref A82, Value.int 0, Value.ref A83, Value.int 0, Value.int 0, Value.int 0])) : Nat × va_E) := by rw [e_ws2]; exact gs_self f_46_ws1
  replace hU : gx_g ws ws2 0 [46] := by rw [e_ws2]; exact hU.put (Or.inl (by simp))
  refine lv_iload hx hb d_Mo_done_50 (lv_at hl 2 rfl) ?_
  refine lv_bipush (v := 10) hx hb d_Mo_done_52 (by decide) ?_
  refine lv_idiv hx hb d_Mo_done_54 (by decide) ?_
  refine gx_topi (y := 10000) (by decide) ?_
  refine lv_istore (lv' := [(4, Value.int 10000), (3, Value.int 1), (5, Value.int 1), (0, Value.ref A46), (1, Value.int 0), (2, Value.int 123456)]) hx hb d_Mo_done_55 hl (by decide) rfl (fun ls hl => ?_)
  refine lv_goto (tgt := 11) hx hb d_Mo_done_57 (by decide) ?_
  refine lv_iload hx hb d_Mo_done_11 (lv_at hl 0 rfl) ?_
  refine lv_if_le (tgt := 60) hx hb d_Mo_done_13 (by decide) (fun c9 => absurd c9 (by decide)) (fun _ => ?_)
  refine lv_iload_n hx hb d_Mo_done_16 rfl (lv_at hl 5 rfl) ?_
  refine lv_iload hx hb d_Mo_done_17 (lv_at hl 0 rfl) ?_
  refine lv_idiv hx hb d_Mo_done_19 (by decide) ?_
  refine gx_topi (y := 12) (by decide) ?_
  refine lv_bipush (v := 10) hx hb d_Mo_done_20 (by decide) ?_
  refine lv_irem hx hb d_Mo_done_22 (by decide) ?_
  refine gx_topi (y := 2) (by decide) ?_
  refine lv_istore (lv' := [(5, Value.int 2), (4, Value.int 10000), (3, Value.int 1), (0, Value.ref A46), (1, Value.int 0), (2, Value.int 123456)]) hx hb d_Mo_done_23 hl (by decide) rfl (fun ls hl => ?_)
  refine lv_iload hx hb d_Mo_done_25 (lv_at hl 0 rfl) ?_
  refine lv_if_ne (tgt := 33) hx hb d_Mo_done_27 (by decide) (fun _ => ?_) (fun c9 => absurd c9 (by decide))
  refine lv_iinc (v := 2) (lv' := [(3, Value.int 2), (5, Value.int 2), (4, Value.int 10000), (0, Value.ref A46), (1, Value.int 0), (2, Value.int 123456)]) hx hb d_Mo_done_33 hl (k := 2) rfl (by decide) (by decide) rfl (fun ls hl => ?_)
  refine lv_iload hx hb d_Mo_done_36 (lv_at hl 1 rfl) ?_
  refine lv_aload_n hx hb d_Mo_done_38 rfl (lv_at hl 3 rfl) ?_
  refine va_get (D := D) (ci := 8) (v := Value.int 1) (C := "CommitLedgerModel") (T := F_Mo) (N := 35) hx hb hts i_Mo hown hK hP 46 f_46_ws2 rfl 0 (by decide) (hts _ kf_Mo_84) (fun _ h9 => h9) rfl d_Mo_done_39 ?_
  refine lv_icmp_ne (tgt := 50) hx hb d_Mo_done_42 (by decide) (fun _ => ?_) (fun c9 => absurd c9 (by decide))
  refine lv_iload hx hb d_Mo_done_50 (lv_at hl 2 rfl) ?_
  refine lv_bipush (v := 10) hx hb d_Mo_done_52 (by decide) ?_
  refine lv_idiv hx hb d_Mo_done_54 (by decide) ?_
  refine gx_topi (y := 1000) (by decide) ?_
  refine lv_istore (lv' := [(4, Value.int 1000), (3, Value.int 2), (5, Value.int 2), (0, Value.ref A46), (1, Value.int 0), (2, Value.int 123456)]) hx hb d_Mo_done_55 hl (by decide) rfl (fun ls hl => ?_)
  refine lv_goto (tgt := 11) hx hb d_Mo_done_57 (by decide) ?_
  refine lv_iload hx hb d_Mo_done_11 (lv_at hl 0 rfl) ?_
  refine lv_if_le (tgt := 60) hx hb d_Mo_done_13 (by decide) (fun c9 => absurd c9 (by decide)) (fun _ => ?_)
  refine lv_iload_n hx hb d_Mo_done_16 rfl (lv_at hl 5 rfl) ?_
  refine lv_iload hx hb d_Mo_done_17 (lv_at hl 0 rfl) ?_
  refine lv_idiv hx hb d_Mo_done_19 (by decide) ?_
  refine gx_topi (y := 123) (by decide) ?_
  refine lv_bipush (v := 10) hx hb d_Mo_done_20 (by decide) ?_
  refine lv_irem hx hb d_Mo_done_22 (by decide) ?_
  refine gx_topi (y := 3) (by decide) ?_
  refine lv_istore (lv' := [(5, Value.int 3), (4, Value.int 1000), (3, Value.int 2), (0, Value.ref A46), (1, Value.int 0), (2, Value.int 123456)]) hx hb d_Mo_done_23 hl (by decide) rfl (fun ls hl => ?_)
  refine lv_iload hx hb d_Mo_done_25 (lv_at hl 0 rfl) ?_
  refine lv_if_ne (tgt := 33) hx hb d_Mo_done_27 (by decide) (fun _ => ?_) (fun c9 => absurd c9 (by decide))
  refine lv_iinc (v := 3) (lv' := [(3, Value.int 3), (5, Value.int 3), (4, Value.int 1000), (0, Value.ref A46), (1, Value.int 0), (2, Value.int 123456)]) hx hb d_Mo_done_33 hl (k := 2) rfl (by decide) (by decide) rfl (fun ls hl => ?_)
  refine lv_iload hx hb d_Mo_done_36 (lv_at hl 1 rfl) ?_
  refine lv_aload_n hx hb d_Mo_done_38 rfl (lv_at hl 3 rfl) ?_
  refine va_get (D := D) (ci := 8) (v := Value.int 1) (C := "CommitLedgerModel") (T := F_Mo) (N := 35) hx hb hts i_Mo hown hK hP 46 f_46_ws2 rfl 0 (by decide) (hts _ kf_Mo_84) (fun _ h9 => h9) rfl d_Mo_done_39 ?_
  refine lv_icmp_ne (tgt := 50) hx hb d_Mo_done_42 (by decide) (fun _ => ?_) (fun c9 => absurd c9 (by decide))
  refine lv_iload hx hb d_Mo_done_50 (lv_at hl 2 rfl) ?_
  refine lv_bipush (v := 10) hx hb d_Mo_done_52 (by decide) ?_
  refine lv_idiv hx hb d_Mo_done_54 (by decide) ?_
  refine gx_topi (y := 100) (by decide) ?_
  refine lv_istore (lv' := [(4, Value.int 100), (3, Value.int 3), (5, Value.int 3), (0, Value.ref A46), (1, Value.int 0), (2, Value.int 123456)]) hx hb d_Mo_done_55 hl (by decide) rfl (fun ls hl => ?_)
  refine lv_goto (tgt := 11) hx hb d_Mo_done_57 (by decide) ?_
  refine lv_iload hx hb d_Mo_done_11 (lv_at hl 0 rfl) ?_
  refine lv_if_le (tgt := 60) hx hb d_Mo_done_13 (by decide) (fun c9 => absurd c9 (by decide)) (fun _ => ?_)
  refine lv_iload_n hx hb d_Mo_done_16 rfl (lv_at hl 5 rfl) ?_
  refine lv_iload hx hb d_Mo_done_17 (lv_at hl 0 rfl) ?_
  refine lv_idiv hx hb d_Mo_done_19 (by decide) ?_
  refine gx_topi (y := 1234) (by decide) ?_
  refine lv_bipush (v := 10) hx hb d_Mo_done_20 (by decide) ?_
  refine lv_irem hx hb d_Mo_done_22 (by decide) ?_
  refine gx_topi (y := 4) (by decide) ?_
  refine lv_istore (lv' := [(5, Value.int 4), (4, Value.int 100), (3, Value.int 3), (0, Value.ref A46), (1, Value.int 0), (2, Value.int 123456)]) hx hb d_Mo_done_23 hl (by decide) rfl (fun ls hl => ?_)
  refine lv_iload hx hb d_Mo_done_25 (lv_at hl 0 rfl) ?_
  refine lv_if_ne (tgt := 33) hx hb d_Mo_done_27 (by decide) (fun _ => ?_) (fun c9 => absurd c9 (by decide))
  refine lv_iinc (v := 4) (lv' := [(3, Value.int 4), (5, Value.int 4), (4, Value.int 100), (0, Value.ref A46), (1, Value.int 0), (2, Value.int 123456)]) hx hb d_Mo_done_33 hl (k := 2) rfl (by decide) (by decide) rfl (fun ls hl => ?_)
  refine lv_iload hx hb d_Mo_done_36 (lv_at hl 1 rfl) ?_
  refine lv_aload_n hx hb d_Mo_done_38 rfl (lv_at hl 3 rfl) ?_
  refine va_get (D := D) (ci := 8) (v := Value.int 1) (C := "CommitLedgerModel") (T := F_Mo) (N := 35) hx hb hts i_Mo hown hK hP 46 f_46_ws2 rfl 0 (by decide) (hts _ kf_Mo_84) (fun _ h9 => h9) rfl d_Mo_done_39 ?_
  refine lv_icmp_ne (tgt := 50) hx hb d_Mo_done_42 (by decide) (fun _ => ?_) (fun c9 => absurd c9 (by decide))
  refine lv_iload hx hb d_Mo_done_50 (lv_at hl 2 rfl) ?_
  refine lv_bipush (v := 10) hx hb d_Mo_done_52 (by decide) ?_
  refine lv_idiv hx hb d_Mo_done_54 (by decide) ?_
  refine gx_topi (y := 10) (by decide) ?_
  refine lv_istore (lv' := [(4, Value.int 10), (3, Value.int 4), (5, Value.int 4), (0, Value.ref A46), (1, Value.int 0), (2, Value.int 123456)]) hx hb d_Mo_done_55 hl (by decide) rfl (fun ls hl => ?_)
  refine lv_goto (tgt := 11) hx hb d_Mo_done_57 (by decide) ?_
  refine lv_iload hx hb d_Mo_done_11 (lv_at hl 0 rfl) ?_
  refine lv_if_le (tgt := 60) hx hb d_Mo_done_13 (by decide) (fun c9 => absurd c9 (by decide)) (fun _ => ?_)
  refine lv_iload_n hx hb d_Mo_done_16 rfl (lv_at hl 5 rfl) ?_
  refine lv_iload hx hb d_Mo_done_17 (lv_at hl 0 rfl) ?_
  refine lv_idiv hx hb d_Mo_done_19 (by decide) ?_
  refine gx_topi (y := 12345) (by decide) ?_
  refine lv_bipush (v := 10) hx hb d_Mo_done_20 (by decide) ?_
  refine lv_irem hx hb d_Mo_done_22 (by decide) ?_
  refine gx_topi (y := 5) (by decide) ?_
  refine lv_istore (lv' := [(5, Value.int 5), (4, Value.int 10), (3, Value.int 4), (0, Value.ref A46), (1, Value.int 0), (2, Value.int 123456)]) hx hb d_Mo_done_23 hl (by decide) rfl (fun ls hl => ?_)
  refine lv_iload hx hb d_Mo_done_25 (lv_at hl 0 rfl) ?_
  refine lv_if_ne (tgt := 33) hx hb d_Mo_done_27 (by decide) (fun _ => ?_) (fun c9 => absurd c9 (by decide))
  refine lv_iinc (v := 5) (lv' := [(3, Value.int 5), (5, Value.int 5), (4, Value.int 10), (0, Value.ref A46), (1, Value.int 0), (2, Value.int 123456)]) hx hb d_Mo_done_33 hl (k := 2) rfl (by decide) (by decide) rfl (fun ls hl => ?_)
  refine lv_iload hx hb d_Mo_done_36 (lv_at hl 1 rfl) ?_
  refine lv_aload_n hx hb d_Mo_done_38 rfl (lv_at hl 3 rfl) ?_
  refine va_get (D := D) (ci := 8) (v := Value.int 1) (C := "CommitLedgerModel") (T := F_Mo) (N := 35) hx hb hts i_Mo hown hK hP 46 f_46_ws2 rfl 0 (by decide) (hts _ kf_Mo_84) (fun _ h9 => h9) rfl d_Mo_done_39 ?_
  refine lv_icmp_ne (tgt := 50) hx hb d_Mo_done_42 (by decide) (fun _ => ?_) (fun c9 => absurd c9 (by decide))
  refine lv_iload hx hb d_Mo_done_50 (lv_at hl 2 rfl) ?_
  refine lv_bipush (v := 10) hx hb d_Mo_done_52 (by decide) ?_
  refine lv_idiv hx hb d_Mo_done_54 (by decide) ?_
  refine gx_topi (y := 1) (by decide) ?_
  refine lv_istore (lv' := [(4, Value.int 1), (3, Value.int 5), (5, Value.int 5), (0, Value.ref A46), (1, Value.int 0), (2, Value.int 123456)]) hx hb d_Mo_done_55 hl (by decide) rfl (fun ls hl => ?_)
  refine lv_goto (tgt := 11) hx hb d_Mo_done_57 (by decide) ?_
  refine lv_iload hx hb d_Mo_done_11 (lv_at hl 0 rfl) ?_
  refine lv_if_le (tgt := 60) hx hb d_Mo_done_13 (by decide) (fun c9 => absurd c9 (by decide)) (fun _ => ?_)
  refine lv_iload_n hx hb d_Mo_done_16 rfl (lv_at hl 5 rfl) ?_
  refine lv_iload hx hb d_Mo_done_17 (lv_at hl 0 rfl) ?_
  refine lv_idiv hx hb d_Mo_done_19 (by decide) ?_
  refine gx_topi (y := 123456) (by decide) ?_
  refine lv_bipush (v := 10) hx hb d_Mo_done_20 (by decide) ?_
  refine lv_irem hx hb d_Mo_done_22 (by decide) ?_
  refine gx_topi (y := 6) (by decide) ?_
  refine lv_istore (lv' := [(5, Value.int 6), (4, Value.int 1), (3, Value.int 5), (0, Value.ref A46), (1, Value.int 0), (2, Value.int 123456)]) hx hb d_Mo_done_23 hl (by decide) rfl (fun ls hl => ?_)
  refine lv_iload hx hb d_Mo_done_25 (lv_at hl 0 rfl) ?_
  refine lv_if_ne (tgt := 33) hx hb d_Mo_done_27 (by decide) (fun _ => ?_) (fun c9 => absurd c9 (by decide))
  refine lv_iinc (v := 6) (lv' := [(3, Value.int 6), (5, Value.int 6), (4, Value.int 1), (0, Value.ref A46), (1, Value.int 0), (2, Value.int 123456)]) hx hb d_Mo_done_33 hl (k := 2) rfl (by decide) (by decide) rfl (fun ls hl => ?_)
  refine lv_iload hx hb d_Mo_done_36 (lv_at hl 1 rfl) ?_
  refine lv_aload_n hx hb d_Mo_done_38 rfl (lv_at hl 3 rfl) ?_
  refine va_get (D := D) (ci := 8) (v := Value.int 1) (C := "CommitLedgerModel") (T := F_Mo) (N := 35) hx hb hts i_Mo hown hK hP 46 f_46_ws2 rfl 0 (by decide) (hts _ kf_Mo_84) (fun _ h9 => h9) rfl d_Mo_done_39 ?_
  refine lv_icmp_ne (tgt := 50) hx hb d_Mo_done_42 (by decide) (fun _ => ?_) (fun c9 => absurd c9 (by decide))
  refine lv_iload hx hb d_Mo_done_50 (lv_at hl 2 rfl) ?_
  refine lv_bipush (v := 10) hx hb d_Mo_done_52 (by decide) ?_
  refine lv_idiv hx hb d_Mo_done_54 (by decide) ?_
  refine gx_topi (y := 0) (by decide) ?_
  refine lv_istore (lv' := [(4, Value.int 0), (3, Value.int 6), (5, Value.int 6), (0, Value.ref A46), (1, Value.int 0), (2, Value.int 123456)]) hx hb d_Mo_done_55 hl (by decide) rfl (fun ls hl => ?_)
  refine lv_goto (tgt := 11) hx hb d_Mo_done_57 (by decide) ?_
  refine lv_iload hx hb d_Mo_done_11 (lv_at hl 0 rfl) ?_
  refine lv_if_le (tgt := 60) hx hb d_Mo_done_13 (by decide) (fun _ => ?_) (fun c9 => absurd (by decide) c9)
  refine lv_aload_n hx hb d_Mo_done_60 rfl (lv_at hl 3 rfl) ?_
  refine lv_iconst (v := 0) hx hb d_Mo_done_61 (by decide) ?_
  refine va_put (D := D) (ci := 8) (v := Value.int 0) (ty := .int) (C := "CommitLedgerModel") (T := F_Mo) (N := 35) hx hb hts i_Mo t_Mo t_Mo_ok n_Mo hown hK hP hD hS 46 f_46_ws2 rfl 0 (by decide) (hts _ kf_Mo_84) (fun _ h9 => h9) rfl (by decide +kernel) rfl rfl (Nat.le_of_ble_eq_true rfl) d_Mo_done_62 (fun H locs hP9 hD9 hS9 => ?_)
  obtain ⟨ws3, e_ws3⟩ : ∃ x : va_W, x = ws2.set 46 ((A46, Sum.inr (8, [Value.int 0, Value.int 1, Value.ref A47, Value.ref A48, Value.ref A49, Value.int 0, Value.ref A50, Value.ref A51, Value.ref A52, Value.ref A53, Value.int 0, Value.int 0, Value.int 0, Value.int (-1), Value.int 0, Value.ref A54, Value.ref A62, Value.ref A70, Value.int 0, Value.int 0, Value.int 0, Value.ref A78, Value.ref A79, Value.int 0, Value.int 16, Value.int 4, u0, Value.ref A80, Value.ref A81, Value.ref A82, Value.int 0, Value.ref A83, Value.int 0, Value.int 0, Value.int 0])) : Nat × va_E) := ⟨_, rfl⟩
  replace hP : va_P D classes ws3 H := by rw [e_ws3]; exact hP9
  replace hD : va_D A ws3 := by rw [e_ws3]; exact hD9
  replace hS := hS9
  clear hP9 hD9 hS9
  have f_46_ws3 : ws3[46]? = some ((A46, Sum.inr (8, [Value.int 0, Value.int 1, Value.ref A47, Value.ref A48, Value.ref A49, Value.int 0, Value.ref A50, Value.ref A51, Value.ref A52, Value.ref A53, Value.int 0, Value.int 0, Value.int 0, Value.int (-1), Value.int 0, Value.ref A54, Value.ref A62, Value.ref A70, Value.int 0, Value.int 0, Value.int 0, Value.ref A78, Value.ref A79, Value.int 0, Value.int 16, Value.int 4, u0, Value.ref A80, Value.ref A81, Value.ref A82, Value.int 0, Value.ref A83, Value.int 0, Value.int 0, Value.int 0])) : Nat × va_E) := by rw [e_ws3]; exact gs_self f_46_ws2
  replace hU : gx_g ws ws3 0 [46] := by rw [e_ws3]; exact hU.put (Or.inl (by simp))
  refine lv_aload_n hx hb d_Mo_done_65 rfl (lv_at hl 3 rfl) ?_
  refine va_get (D := D) (ci := 8) (v := Value.int 1) (C := "CommitLedgerModel") (T := F_Mo) (N := 35) hx hb hts i_Mo hown hK hP 46 f_46_ws3 rfl 1 (by decide) (hts _ kf_Mo_80) (fun _ h9 => h9) rfl d_Mo_done_66 ?_
  refine lv_if_le (tgt := 76) hx hb d_Mo_done_69 (by decide) (fun c9 => absurd c9 (by decide)) (fun _ => ?_)
  refine lv_iconst (v := 0) hx hb d_Mo_done_72 (by decide) ?_
  refine lv_goto (tgt := 77) hx hb d_Mo_done_73 (by decide) ?_
  exact gx_ret (W.iret (v := 0) hx hb hr (gx_post hP hK hD hS (by rw [← hPQ]; exact ⟨rfl, hU, f_46_ws3⟩)) hS.2.2 d_Mo_done_77)

set_option maxHeartbeats 4000000 in
set_option maxRecDepth 100000 in
theorem c_Mo_wrong_v7 (l : Launch) (htr : l.stackTraces = false) (D : va_G) (tys : List (ClassId × FieldType)) (z sz : Nat) (ws : va_W) (A46 : Nat) (A47 : Nat) (A48 : Nat) (A49 : Nat) (A50 : Nat) (A51 : Nat) (A52 : Nat) (A53 : Nat) (A54 : Nat) (A62 : Nat) (A70 : Nat) (A78 : Nat) (A79 : Nat) (u0 : Value) (A80 : Nat) (A81 : Nat) (A82 : Nat) (A83 : Nat) (f_46 : ws[46]? = some ((A46, Sum.inr (8, [Value.int 0, Value.int 0, Value.ref A47, Value.ref A48, Value.ref A49, Value.int 0, Value.ref A50, Value.ref A51, Value.ref A52, Value.ref A53, Value.int 0, Value.int 0, Value.int 0, Value.int (-1), Value.int 0, Value.ref A54, Value.ref A62, Value.ref A70, Value.int 0, Value.int 0, Value.int 0, Value.ref A78, Value.ref A79, Value.int 0, Value.int 16, Value.int 4, u0, Value.ref A80, Value.ref A81, Value.ref A82, Value.int 0, Value.ref A83, Value.int 0, Value.int 0, Value.int 0])) : Nat × va_E)) : gx_Met l y_Mo_wrong [Cond.code y_Mo_wrong b_Mo_wrong 3 (some .boolean)] { frames := 1, cells := 0, slots := 0, locals := 12 } (gx_P z sz D classes tys ws [Value.ref A46, Value.int 0, Value.int 5]) (gx_Q D classes tys (va_A ws sz) (fun r ws' => (r = Sum.inl (some (Value.int 0)) ∧ ws' = ws))) 0 0 (va_A ws sz) := by
  refine gx_ofW (cc := b_Mo_wrong) (maxL := 3) (ret := (some .boolean)) (by decide) rfl ?_
  intro p e s m args below meth c s₁ B hml hv
  obtain ⟨rfl, hsz, hz, hP, hK, hD0, hY⟩ := hv
  have hx := B.exec
  have hb := B.bytes
  have hr := B.returns
  have hts := hY.hts (#[Value.ref A46, Value.int 0, Value.int 5] : Array Value)
  have hown : s.vm.findClass "CommitLedgerModel" = some m.cls := findClass_of_methodNamed B.named
  have hlocks := B.notSynchronized
  have hne : c.exceptionTable.isEmpty = true := B.noHandlers (atoms_spec (ws := [Cond.code y_Mo_wrong b_Mo_wrong 3 (some .boolean)]) B.pre _ List.mem_cons_self)
  subst hsz
  have hAz := gx_az hD0 hz
  have hD := hD0.self (sz := s.heap.size)
  have hN := gx_ns hP
  have hA : ∀ q : Nat, s.heap.size ≤ q → va_A ws s.heap.size q := fun q h => Or.inr h
  generalize va_A ws s.heap.size = A at hD hN hA hAz ⊢
  generalize hPQ : (fun (r : Option Value ⊕ String) (ws' : va_W) => (r = Sum.inl (some (Value.int 0)) ∧ ws' = ws)) = PQ
  have hS : va_S A s.heap s.heap [] := va_S.rf
  have hU : gx_g ws ws 0 [] := gx_g.rf
  have hl := lv_entry ([Value.ref A46, Value.int 0, Value.int 5]) (n := 3) (Nat.le_of_ble_eq_true rfl)
  rw [lg_entry_eq]
  generalize (lg_sl ([Value.ref A46, Value.int 0, Value.int 5]) ++ List.replicate (3 - (lg_sl ([Value.ref A46, Value.int 0, Value.int 5])).length) Slot.unset).toArray = ls at hl ⊢
  have hl : lv_has ls 3 [(0, Value.ref A46), (1, Value.int 0), (2, Value.int 5)] := hl
  refine lv_iload_n hx hb d_Mo_wrong_0 rfl (lv_at hl 1 rfl) ?_
  refine lv_if_eq (tgt := 16) hx hb d_Mo_wrong_1 (by decide) (fun _ => ?_) (fun c9 => absurd (by decide) c9)
  refine lv_aload_n hx hb d_Mo_wrong_16 rfl (lv_at hl 0 rfl) ?_
  refine va_get (D := D) (ci := 8) (v := Value.int 0) (C := "CommitLedgerModel") (T := F_Mo) (N := 35) hx hb hts i_Mo hown hK hP 46 f_46 rfl 0 (by decide) (hts _ kf_Mo_84) (fun _ h9 => h9) rfl d_Mo_wrong_17 ?_
  refine lv_if_eq (tgt := 27) hx hb d_Mo_wrong_20 (by decide) (fun _ => ?_) (fun c9 => absurd (by decide) c9)
  refine lv_iconst (v := 0) hx hb d_Mo_wrong_27 (by decide) ?_
  exact gx_ret (W.zret (v := 0) (ty := .boolean) hx hb hr (rfl) (gx_post hP hK hD hS (by rw [← hPQ]; exact ⟨rfl, rfl⟩)) hS.2.2 d_Mo_wrong_28)

set_option maxHeartbeats 4000000 in
set_option maxRecDepth 100000 in
theorem c_Mo_done_v17 (l : Launch) (htr : l.stackTraces = false) (D : va_G) (tys : List (ClassId × FieldType)) (z sz : Nat) (ws : va_W) (A46 : Nat) (A47 : Nat) (A48 : Nat) (A49 : Nat) (A50 : Nat) (A51 : Nat) (A52 : Nat) (A53 : Nat) (A54 : Nat) (A62 : Nat) (A70 : Nat) (A78 : Nat) (A79 : Nat) (u0 : Value) (A80 : Nat) (A81 : Nat) (A82 : Nat) (A83 : Nat) (f_46 : ws[46]? = some ((A46, Sum.inr (8, [Value.int 3, Value.int 0, Value.ref A47, Value.ref A48, Value.ref A49, Value.int 0, Value.ref A50, Value.ref A51, Value.ref A52, Value.ref A53, Value.int 0, Value.int 0, Value.int 0, Value.int (-1), Value.int 0, Value.ref A54, Value.ref A62, Value.ref A70, Value.int 0, Value.int 0, Value.int 0, Value.ref A78, Value.ref A79, Value.int 0, Value.int 16, Value.int 4, u0, Value.ref A80, Value.ref A81, Value.ref A82, Value.int 0, Value.ref A83, Value.int 0, Value.int 0, Value.int 0])) : Nat × va_E)) : gx_Met l y_Mo_done [Cond.code y_Mo_done b_Mo_done 6 (some .int)] { frames := 1, cells := 0, slots := 0, locals := 12 } (gx_P z sz D classes tys ws [Value.ref A46, Value.int 0, Value.int 123456]) (gx_Q D classes tys (va_A ws sz) (fun r ws' => (r = Sum.inl (some (Value.int 0)) ∧ gx_g ws ws' 0 [46] ∧ ws'[46]? = some ((A46, Sum.inr (8, [Value.int 0, Value.int 3, Value.ref A47, Value.ref A48, Value.ref A49, Value.int 0, Value.ref A50, Value.ref A51, Value.ref A52, Value.ref A53, Value.int 0, Value.int 0, Value.int 0, Value.int (-1), Value.int 0, Value.ref A54, Value.ref A62, Value.ref A70, Value.int 0, Value.int 0, Value.int 0, Value.ref A78, Value.ref A79, Value.int 0, Value.int 16, Value.int 4, u0, Value.ref A80, Value.ref A81, Value.ref A82, Value.int 0, Value.ref A83, Value.int 0, Value.int 0, Value.int 0])) : Nat × va_E)))) 0 0 (va_A ws sz) := by
  refine gx_ofW (cc := b_Mo_done) (maxL := 6) (ret := (some .int)) (by decide) rfl ?_
  intro p e s m args below meth c s₁ B hml hv
  obtain ⟨rfl, hsz, hz, hP, hK, hD0, hY⟩ := hv
  have hx := B.exec
  have hb := B.bytes
  have hr := B.returns
  have hts := hY.hts (#[Value.ref A46, Value.int 0, Value.int 123456] : Array Value)
  have hown : s.vm.findClass "CommitLedgerModel" = some m.cls := findClass_of_methodNamed B.named
  have hlocks := B.notSynchronized
  have hne : c.exceptionTable.isEmpty = true := B.noHandlers (atoms_spec (ws := [Cond.code y_Mo_done b_Mo_done 6 (some .int)]) B.pre _ List.mem_cons_self)
  subst hsz
  have hAz := gx_az hD0 hz
  have hD := hD0.self (sz := s.heap.size)
  have hN := gx_ns hP
  have hA : ∀ q : Nat, s.heap.size ≤ q → va_A ws s.heap.size q := fun q h => Or.inr h
  generalize va_A ws s.heap.size = A at hD hN hA hAz ⊢
  generalize hPQ : (fun (r : Option Value ⊕ String) (ws' : va_W) => (r = Sum.inl (some (Value.int 0)) ∧ gx_g ws ws' 0 [46] ∧ ws'[46]? = some ((A46, Sum.inr (8, [Value.int 0, Value.int 3, Value.ref A47, Value.ref A48, Value.ref A49, Value.int 0, Value.ref A50, Value.ref A51, Value.ref A52, Value.ref A53, Value.int 0, Value.int 0, Value.int 0, Value.int (-1), Value.int 0, Value.ref A54, Value.ref A62, Value.ref A70, Value.int 0, Value.int 0, Value.int 0, Value.ref A78, Value.ref A79, Value.int 0, Value.int 16, Value.int 4, u0, Value.ref A80, Value.ref A81, Value.ref A82, Value.int 0, Value.ref A83, Value.int 0, Value.int 0, Value.int 0])) : Nat × va_E))) = PQ
  have hS : va_S A s.heap s.heap [] := va_S.rf
  have hU : gx_g ws ws 0 [46] := gx_g.rf
  have hl := lv_entry ([Value.ref A46, Value.int 0, Value.int 123456]) (n := 6) (Nat.le_of_ble_eq_true rfl)
  rw [lg_entry_eq]
  generalize (lg_sl ([Value.ref A46, Value.int 0, Value.int 123456]) ++ List.replicate (6 - (lg_sl ([Value.ref A46, Value.int 0, Value.int 123456])).length) Slot.unset).toArray = ls at hl ⊢
  have hl : lv_has ls 6 [(0, Value.ref A46), (1, Value.int 0), (2, Value.int 123456)] := hl
  refine lv_aload_n hx hb d_Mo_done_0 rfl (lv_at hl 0 rfl) ?_
  refine lv_iconst (v := 0) hx hb d_Mo_done_1 (by decide) ?_
  refine va_put (D := D) (ci := 8) (v := Value.int 0) (ty := .int) (C := "CommitLedgerModel") (T := F_Mo) (N := 35) hx hb hts i_Mo t_Mo t_Mo_ok n_Mo hown hK hP hD hS 46 f_46 rfl 1 (by decide) (hts _ kf_Mo_80) (fun _ h9 => h9) rfl (by decide +kernel) rfl rfl (Nat.le_of_ble_eq_true rfl) d_Mo_done_2 (fun H locs hP9 hD9 hS9 => ?_)
  obtain ⟨ws1, e_ws1⟩ : ∃ x : va_W, x = ws.set 46 ((A46, Sum.inr (8, [Value.int 3, Value.int 0, Value.ref A47, Value.ref A48, Value.ref A49, Value.int 0, Value.ref A50, Value.ref A51, Value.ref A52, Value.ref A53, Value.int 0, Value.int 0, Value.int 0, Value.int (-1), Value.int 0, Value.ref A54, Value.ref A62, Value.ref A70, Value.int 0, Value.int 0, Value.int 0, Value.ref A78, Value.ref A79, Value.int 0, Value.int 16, Value.int 4, u0, Value.ref A80, Value.ref A81, Value.ref A82, Value.int 0, Value.ref A83, Value.int 0, Value.int 0, Value.int 0])) : Nat × va_E) := ⟨_, rfl⟩
  replace hP : va_P D classes ws1 H := by rw [e_ws1]; exact hP9
  replace hD : va_D A ws1 := by rw [e_ws1]; exact hD9
  replace hS := hS9
  clear hP9 hD9 hS9
  have f_46_ws1 : ws1[46]? = some ((A46, Sum.inr (8, [Value.int 3, Value.int 0, Value.ref A47, Value.ref A48, Value.ref A49, Value.int 0, Value.ref A50, Value.ref A51, Value.ref A52, Value.ref A53, Value.int 0, Value.int 0, Value.int 0, Value.int (-1), Value.int 0, Value.ref A54, Value.ref A62, Value.ref A70, Value.int 0, Value.int 0, Value.int 0, Value.ref A78, Value.ref A79, Value.int 0, Value.int 16, Value.int 4, u0, Value.ref A80, Value.ref A81, Value.ref A82, Value.int 0, Value.ref A83, Value.int 0, Value.int 0, Value.int 0])) : Nat × va_E) := by rw [e_ws1]; exact gs_self f_46
  replace hU : gx_g ws ws1 0 [46] := by rw [e_ws1]; exact hU.put (Or.inl (by simp))
  refine lv_iconst (v := 0) hx hb d_Mo_done_5 (by decide) ?_
  refine lv_istore_n (lv' := [(3, Value.int 0), (0, Value.ref A46), (1, Value.int 0), (2, Value.int 123456)]) hx hb d_Mo_done_6 rfl hl (by decide) rfl (fun ls hl => ?_)
  refine lv_ldc (v := 100000) hx hb hown (hts _ ki_Mo_83) d_Mo_done_7 ?_
  refine lv_istore (lv' := [(4, Value.int 100000), (3, Value.int 0), (0, Value.ref A46), (1, Value.int 0), (2, Value.int 123456)]) hx hb d_Mo_done_9 hl (by decide) rfl (fun ls hl => ?_)
  refine lv_iload hx hb d_Mo_done_11 (lv_at hl 0 rfl) ?_
  refine lv_if_le (tgt := 60) hx hb d_Mo_done_13 (by decide) (fun c9 => absurd c9 (by decide)) (fun _ => ?_)
  refine lv_iload_n hx hb d_Mo_done_16 rfl (lv_at hl 4 rfl) ?_
  refine lv_iload hx hb d_Mo_done_17 (lv_at hl 0 rfl) ?_
  refine lv_idiv hx hb d_Mo_done_19 (by decide) ?_
  refine gx_topi (y := 1) (by decide) ?_
  refine lv_bipush (v := 10) hx hb d_Mo_done_20 (by decide) ?_
  refine lv_irem hx hb d_Mo_done_22 (by decide) ?_
  refine gx_topi (y := 1) (by decide) ?_
  refine lv_istore (lv' := [(5, Value.int 1), (4, Value.int 100000), (3, Value.int 0), (0, Value.ref A46), (1, Value.int 0), (2, Value.int 123456)]) hx hb d_Mo_done_23 hl (by decide) rfl (fun ls hl => ?_)
  refine lv_iload hx hb d_Mo_done_25 (lv_at hl 0 rfl) ?_
  refine lv_if_ne (tgt := 33) hx hb d_Mo_done_27 (by decide) (fun _ => ?_) (fun c9 => absurd c9 (by decide))
  refine lv_iinc (v := 1) (lv' := [(3, Value.int 1), (5, Value.int 1), (4, Value.int 100000), (0, Value.ref A46), (1, Value.int 0), (2, Value.int 123456)]) hx hb d_Mo_done_33 hl (k := 2) rfl (by decide) (by decide) rfl (fun ls hl => ?_)
  refine lv_iload hx hb d_Mo_done_36 (lv_at hl 1 rfl) ?_
  refine lv_aload_n hx hb d_Mo_done_38 rfl (lv_at hl 3 rfl) ?_
  refine va_get (D := D) (ci := 8) (v := Value.int 3) (C := "CommitLedgerModel") (T := F_Mo) (N := 35) hx hb hts i_Mo hown hK hP 46 f_46_ws1 rfl 0 (by decide) (hts _ kf_Mo_84) (fun _ h9 => h9) rfl d_Mo_done_39 ?_
  refine lv_icmp_ne (tgt := 50) hx hb d_Mo_done_42 (by decide) (fun _ => ?_) (fun c9 => absurd c9 (by decide))
  refine lv_iload hx hb d_Mo_done_50 (lv_at hl 2 rfl) ?_
  refine lv_bipush (v := 10) hx hb d_Mo_done_52 (by decide) ?_
  refine lv_idiv hx hb d_Mo_done_54 (by decide) ?_
  refine gx_topi (y := 10000) (by decide) ?_
  refine lv_istore (lv' := [(4, Value.int 10000), (3, Value.int 1), (5, Value.int 1), (0, Value.ref A46), (1, Value.int 0), (2, Value.int 123456)]) hx hb d_Mo_done_55 hl (by decide) rfl (fun ls hl => ?_)
  refine lv_goto (tgt := 11) hx hb d_Mo_done_57 (by decide) ?_
  refine lv_iload hx hb d_Mo_done_11 (lv_at hl 0 rfl) ?_
  refine lv_if_le (tgt := 60) hx hb d_Mo_done_13 (by decide) (fun c9 => absurd c9 (by decide)) (fun _ => ?_)
  refine lv_iload_n hx hb d_Mo_done_16 rfl (lv_at hl 5 rfl) ?_
  refine lv_iload hx hb d_Mo_done_17 (lv_at hl 0 rfl) ?_
  refine lv_idiv hx hb d_Mo_done_19 (by decide) ?_
  refine gx_topi (y := 12) (by decide) ?_
  refine lv_bipush (v := 10) hx hb d_Mo_done_20 (by decide) ?_
  refine lv_irem hx hb d_Mo_done_22 (by decide) ?_
  refine gx_topi (y := 2) (by decide) ?_
  refine lv_istore (lv' := [(5, Value.int 2), (4, Value.int 10000), (3, Value.int 1), (0, Value.ref A46), (1, Value.int 0), (2, Value.int 123456)]) hx hb d_Mo_done_23 hl (by decide) rfl (fun ls hl => ?_)
  refine lv_iload hx hb d_Mo_done_25 (lv_at hl 0 rfl) ?_
  refine lv_if_ne (tgt := 33) hx hb d_Mo_done_27 (by decide) (fun _ => ?_) (fun c9 => absurd c9 (by decide))
  refine lv_iinc (v := 2) (lv' := [(3, Value.int 2), (5, Value.int 2), (4, Value.int 10000), (0, Value.ref A46), (1, Value.int 0), (2, Value.int 123456)]) hx hb d_Mo_done_33 hl (k := 2) rfl (by decide) (by decide) rfl (fun ls hl => ?_)
  refine lv_iload hx hb d_Mo_done_36 (lv_at hl 1 rfl) ?_
  refine lv_aload_n hx hb d_Mo_done_38 rfl (lv_at hl 3 rfl) ?_
  refine va_get (D := D) (ci := 8) (v := Value.int 3) (C := "CommitLedgerModel") (T := F_Mo) (N := 35) hx hb hts i_Mo hown hK hP 46 f_46_ws1 rfl 0 (by decide) (hts _ kf_Mo_84) (fun _ h9 => h9) rfl d_Mo_done_39 ?_
  refine lv_icmp_ne (tgt := 50) hx hb d_Mo_done_42 (by decide) (fun _ => ?_) (fun c9 => absurd c9 (by decide))
  refine lv_iload hx hb d_Mo_done_50 (lv_at hl 2 rfl) ?_
  refine lv_bipush (v := 10) hx hb d_Mo_done_52 (by decide) ?_
  refine lv_idiv hx hb d_Mo_done_54 (by decide) ?_
  refine gx_topi (y := 1000) (by decide) ?_
  refine lv_istore (lv' := [(4, Value.int 1000), (3, Value.int 2), (5, Value.int 2), (0, Value.ref A46), (1, Value.int 0), (2, Value.int 123456)]) hx hb d_Mo_done_55 hl (by decide) rfl (fun ls hl => ?_)
  refine lv_goto (tgt := 11) hx hb d_Mo_done_57 (by decide) ?_
  refine lv_iload hx hb d_Mo_done_11 (lv_at hl 0 rfl) ?_
  refine lv_if_le (tgt := 60) hx hb d_Mo_done_13 (by decide) (fun c9 => absurd c9 (by decide)) (fun _ => ?_)
  refine lv_iload_n hx hb d_Mo_done_16 rfl (lv_at hl 5 rfl) ?_
  refine lv_iload hx hb d_Mo_done_17 (lv_at hl 0 rfl) ?_
  refine lv_idiv hx hb d_Mo_done_19 (by decide) ?_
  refine gx_topi (y := 123) (by decide) ?_
  refine lv_bipush (v := 10) hx hb d_Mo_done_20 (by decide) ?_
  refine lv_irem hx hb d_Mo_done_22 (by decide) ?_
  refine gx_topi (y := 3) (by decide) ?_
  refine lv_istore (lv' := [(5, Value.int 3), (4, Value.int 1000), (3, Value.int 2), (0, Value.ref A46), (1, Value.int 0), (2, Value.int 123456)]) hx hb d_Mo_done_23 hl (by decide) rfl (fun ls hl => ?_)
  refine lv_iload hx hb d_Mo_done_25 (lv_at hl 0 rfl) ?_
  refine lv_if_ne (tgt := 33) hx hb d_Mo_done_27 (by decide) (fun _ => ?_) (fun c9 => absurd c9 (by decide))
  refine lv_iinc (v := 3) (lv' := [(3, Value.int 3), (5, Value.int 3), (4, Value.int 1000), (0, Value.ref A46), (1, Value.int 0), (2, Value.int 123456)]) hx hb d_Mo_done_33 hl (k := 2) rfl (by decide) (by decide) rfl (fun ls hl => ?_)
  refine lv_iload hx hb d_Mo_done_36 (lv_at hl 1 rfl) ?_
  refine lv_aload_n hx hb d_Mo_done_38 rfl (lv_at hl 3 rfl) ?_
  refine va_get (D := D) (ci := 8) (v := Value.int 3) (C := "CommitLedgerModel") (T := F_Mo) (N := 35) hx hb hts i_Mo hown hK hP 46 f_46_ws1 rfl 0 (by decide) (hts _ kf_Mo_84) (fun _ h9 => h9) rfl d_Mo_done_39 ?_
  refine lv_icmp_ne (tgt := 50) hx hb d_Mo_done_42 (by decide) (fun c9 => absurd (by decide) c9) (fun _ => ?_)
  refine lv_aload_n hx hb d_Mo_done_45 rfl (lv_at hl 3 rfl) ?_
  refine lv_iload_n hx hb d_Mo_done_46 rfl (lv_at hl 0 rfl) ?_
  refine va_put (D := D) (ci := 8) (v := Value.int 3) (ty := .int) (C := "CommitLedgerModel") (T := F_Mo) (N := 35) hx hb hts i_Mo t_Mo t_Mo_ok n_Mo hown hK hP hD hS 46 f_46_ws1 rfl 1 (by decide) (hts _ kf_Mo_80) (fun _ h9 => h9) rfl (by decide +kernel) rfl rfl (Nat.le_of_ble_eq_true rfl) d_Mo_done_47 (fun H locs hP9 hD9 hS9 => ?_)
  obtain ⟨ws2, e_ws2⟩ : ∃ x : va_W, x = ws1.set 46 ((A46, Sum.inr (8, [Value.int 3, Value.int 3, Value.ref A47, Value.ref A48, Value.ref A49, Value.int 0, Value.ref A50, Value.ref A51, Value.ref A52, Value.ref A53, Value.int 0, Value.int 0, Value.int 0, Value.int (-1), Value.int 0, Value.ref A54, Value.ref A62, Value.ref A70, Value.int 0, Value.int 0, Value.int 0, Value.ref A78, Value.ref A79, Value.int 0, Value.int 16, Value.int 4, u0, Value.ref A80, Value.ref A81, Value.ref A82, Value.int 0, Value.ref A83, Value.int 0, Value.int 0, Value.int 0])) : Nat × va_E) := ⟨_, rfl⟩
  replace hP : va_P D classes ws2 H := by rw [e_ws2]; exact hP9
  replace hD : va_D A ws2 := by rw [e_ws2]; exact hD9
  replace hS := hS9
  clear hP9 hD9 hS9
  have f_46_ws2 : ws2[46]? = some ((A46, Sum.inr (8, [Value.int 3, Value.int 3, Value.ref A47, Value.ref A48, Value.ref A49, Value.int 0, Value.ref A50, Value.ref A51, Value.ref A52, Value.ref A53, Value.int 0, Value.int 0, Value.int 0, Value.int (-1), Value.int 0, Value.ref A54, Value.ref A62, Value.ref A70, Value.int 0, Value.int 0, Value.int 0, Value.ref A78, Value.ref A79, Value.int 0, Value.int 16, Value.int 4, u0, Value.ref A80, Value.ref A81, Value.ref A82, Value.int 0, Value.ref A83, Value.int 0, Value.int 0, Value.int 0])) : Nat × va_E) := by rw [e_ws2]; exact gs_self f_46_ws1
  replace hU : gx_g ws ws2 0 [46] := by rw [e_ws2]; exact hU.put (Or.inl (by simp))
  refine lv_iload hx hb d_Mo_done_50 (lv_at hl 2 rfl) ?_
  refine lv_bipush (v := 10) hx hb d_Mo_done_52 (by decide) ?_
  refine lv_idiv hx hb d_Mo_done_54 (by decide) ?_
  refine gx_topi (y := 100) (by decide) ?_
  refine lv_istore (lv' := [(4, Value.int 100), (3, Value.int 3), (5, Value.int 3), (0, Value.ref A46), (1, Value.int 0), (2, Value.int 123456)]) hx hb d_Mo_done_55 hl (by decide) rfl (fun ls hl => ?_)
  refine lv_goto (tgt := 11) hx hb d_Mo_done_57 (by decide) ?_
  refine lv_iload hx hb d_Mo_done_11 (lv_at hl 0 rfl) ?_
  refine lv_if_le (tgt := 60) hx hb d_Mo_done_13 (by decide) (fun c9 => absurd c9 (by decide)) (fun _ => ?_)
  refine lv_iload_n hx hb d_Mo_done_16 rfl (lv_at hl 5 rfl) ?_
  refine lv_iload hx hb d_Mo_done_17 (lv_at hl 0 rfl) ?_
  refine lv_idiv hx hb d_Mo_done_19 (by decide) ?_
  refine gx_topi (y := 1234) (by decide) ?_
  refine lv_bipush (v := 10) hx hb d_Mo_done_20 (by decide) ?_
  refine lv_irem hx hb d_Mo_done_22 (by decide) ?_
  refine gx_topi (y := 4) (by decide) ?_
  refine lv_istore (lv' := [(5, Value.int 4), (4, Value.int 100), (3, Value.int 3), (0, Value.ref A46), (1, Value.int 0), (2, Value.int 123456)]) hx hb d_Mo_done_23 hl (by decide) rfl (fun ls hl => ?_)
  refine lv_iload hx hb d_Mo_done_25 (lv_at hl 0 rfl) ?_
  refine lv_if_ne (tgt := 33) hx hb d_Mo_done_27 (by decide) (fun _ => ?_) (fun c9 => absurd c9 (by decide))
  refine lv_iinc (v := 4) (lv' := [(3, Value.int 4), (5, Value.int 4), (4, Value.int 100), (0, Value.ref A46), (1, Value.int 0), (2, Value.int 123456)]) hx hb d_Mo_done_33 hl (k := 2) rfl (by decide) (by decide) rfl (fun ls hl => ?_)
  refine lv_iload hx hb d_Mo_done_36 (lv_at hl 1 rfl) ?_
  refine lv_aload_n hx hb d_Mo_done_38 rfl (lv_at hl 3 rfl) ?_
  refine va_get (D := D) (ci := 8) (v := Value.int 3) (C := "CommitLedgerModel") (T := F_Mo) (N := 35) hx hb hts i_Mo hown hK hP 46 f_46_ws2 rfl 0 (by decide) (hts _ kf_Mo_84) (fun _ h9 => h9) rfl d_Mo_done_39 ?_
  refine lv_icmp_ne (tgt := 50) hx hb d_Mo_done_42 (by decide) (fun _ => ?_) (fun c9 => absurd c9 (by decide))
  refine lv_iload hx hb d_Mo_done_50 (lv_at hl 2 rfl) ?_
  refine lv_bipush (v := 10) hx hb d_Mo_done_52 (by decide) ?_
  refine lv_idiv hx hb d_Mo_done_54 (by decide) ?_
  refine gx_topi (y := 10) (by decide) ?_
  refine lv_istore (lv' := [(4, Value.int 10), (3, Value.int 4), (5, Value.int 4), (0, Value.ref A46), (1, Value.int 0), (2, Value.int 123456)]) hx hb d_Mo_done_55 hl (by decide) rfl (fun ls hl => ?_)
  refine lv_goto (tgt := 11) hx hb d_Mo_done_57 (by decide) ?_
  refine lv_iload hx hb d_Mo_done_11 (lv_at hl 0 rfl) ?_
  refine lv_if_le (tgt := 60) hx hb d_Mo_done_13 (by decide) (fun c9 => absurd c9 (by decide)) (fun _ => ?_)
  refine lv_iload_n hx hb d_Mo_done_16 rfl (lv_at hl 5 rfl) ?_
  refine lv_iload hx hb d_Mo_done_17 (lv_at hl 0 rfl) ?_
  refine lv_idiv hx hb d_Mo_done_19 (by decide) ?_
  refine gx_topi (y := 12345) (by decide) ?_
  refine lv_bipush (v := 10) hx hb d_Mo_done_20 (by decide) ?_
  refine lv_irem hx hb d_Mo_done_22 (by decide) ?_
  refine gx_topi (y := 5) (by decide) ?_
  refine lv_istore (lv' := [(5, Value.int 5), (4, Value.int 10), (3, Value.int 4), (0, Value.ref A46), (1, Value.int 0), (2, Value.int 123456)]) hx hb d_Mo_done_23 hl (by decide) rfl (fun ls hl => ?_)
  refine lv_iload hx hb d_Mo_done_25 (lv_at hl 0 rfl) ?_
  refine lv_if_ne (tgt := 33) hx hb d_Mo_done_27 (by decide) (fun _ => ?_) (fun c9 => absurd c9 (by decide))
  refine lv_iinc (v := 5) (lv' := [(3, Value.int 5), (5, Value.int 5), (4, Value.int 10), (0, Value.ref A46), (1, Value.int 0), (2, Value.int 123456)]) hx hb d_Mo_done_33 hl (k := 2) rfl (by decide) (by decide) rfl (fun ls hl => ?_)
  refine lv_iload hx hb d_Mo_done_36 (lv_at hl 1 rfl) ?_
  refine lv_aload_n hx hb d_Mo_done_38 rfl (lv_at hl 3 rfl) ?_
  refine va_get (D := D) (ci := 8) (v := Value.int 3) (C := "CommitLedgerModel") (T := F_Mo) (N := 35) hx hb hts i_Mo hown hK hP 46 f_46_ws2 rfl 0 (by decide) (hts _ kf_Mo_84) (fun _ h9 => h9) rfl d_Mo_done_39 ?_
  refine lv_icmp_ne (tgt := 50) hx hb d_Mo_done_42 (by decide) (fun _ => ?_) (fun c9 => absurd c9 (by decide))
  refine lv_iload hx hb d_Mo_done_50 (lv_at hl 2 rfl) ?_
  refine lv_bipush (v := 10) hx hb d_Mo_done_52 (by decide) ?_
  refine lv_idiv hx hb d_Mo_done_54 (by decide) ?_
  refine gx_topi (y := 1) (by decide) ?_
  refine lv_istore (lv' := [(4, Value.int 1), (3, Value.int 5), (5, Value.int 5), (0, Value.ref A46), (1, Value.int 0), (2, Value.int 123456)]) hx hb d_Mo_done_55 hl (by decide) rfl (fun ls hl => ?_)
  refine lv_goto (tgt := 11) hx hb d_Mo_done_57 (by decide) ?_
  refine lv_iload hx hb d_Mo_done_11 (lv_at hl 0 rfl) ?_
  refine lv_if_le (tgt := 60) hx hb d_Mo_done_13 (by decide) (fun c9 => absurd c9 (by decide)) (fun _ => ?_)
  refine lv_iload_n hx hb d_Mo_done_16 rfl (lv_at hl 5 rfl) ?_
  refine lv_iload hx hb d_Mo_done_17 (lv_at hl 0 rfl) ?_
  refine lv_idiv hx hb d_Mo_done_19 (by decide) ?_
  refine gx_topi (y := 123456) (by decide) ?_
  refine lv_bipush (v := 10) hx hb d_Mo_done_20 (by decide) ?_
  refine lv_irem hx hb d_Mo_done_22 (by decide) ?_
  refine gx_topi (y := 6) (by decide) ?_
  refine lv_istore (lv' := [(5, Value.int 6), (4, Value.int 1), (3, Value.int 5), (0, Value.ref A46), (1, Value.int 0), (2, Value.int 123456)]) hx hb d_Mo_done_23 hl (by decide) rfl (fun ls hl => ?_)
  refine lv_iload hx hb d_Mo_done_25 (lv_at hl 0 rfl) ?_
  refine lv_if_ne (tgt := 33) hx hb d_Mo_done_27 (by decide) (fun _ => ?_) (fun c9 => absurd c9 (by decide))
  refine lv_iinc (v := 6) (lv' := [(3, Value.int 6), (5, Value.int 6), (4, Value.int 1), (0, Value.ref A46), (1, Value.int 0), (2, Value.int 123456)]) hx hb d_Mo_done_33 hl (k := 2) rfl (by decide) (by decide) rfl (fun ls hl => ?_)
  refine lv_iload hx hb d_Mo_done_36 (lv_at hl 1 rfl) ?_
  refine lv_aload_n hx hb d_Mo_done_38 rfl (lv_at hl 3 rfl) ?_
  refine va_get (D := D) (ci := 8) (v := Value.int 3) (C := "CommitLedgerModel") (T := F_Mo) (N := 35) hx hb hts i_Mo hown hK hP 46 f_46_ws2 rfl 0 (by decide) (hts _ kf_Mo_84) (fun _ h9 => h9) rfl d_Mo_done_39 ?_
  refine lv_icmp_ne (tgt := 50) hx hb d_Mo_done_42 (by decide) (fun _ => ?_) (fun c9 => absurd c9 (by decide))
  refine lv_iload hx hb d_Mo_done_50 (lv_at hl 2 rfl) ?_
  refine lv_bipush (v := 10) hx hb d_Mo_done_52 (by decide) ?_
  refine lv_idiv hx hb d_Mo_done_54 (by decide) ?_
  refine gx_topi (y := 0) (by decide) ?_
  refine lv_istore (lv' := [(4, Value.int 0), (3, Value.int 6), (5, Value.int 6), (0, Value.ref A46), (1, Value.int 0), (2, Value.int 123456)]) hx hb d_Mo_done_55 hl (by decide) rfl (fun ls hl => ?_)
  refine lv_goto (tgt := 11) hx hb d_Mo_done_57 (by decide) ?_
  refine lv_iload hx hb d_Mo_done_11 (lv_at hl 0 rfl) ?_
  refine lv_if_le (tgt := 60) hx hb d_Mo_done_13 (by decide) (fun _ => ?_) (fun c9 => absurd (by decide) c9)
  refine lv_aload_n hx hb d_Mo_done_60 rfl (lv_at hl 3 rfl) ?_
  refine lv_iconst (v := 0) hx hb d_Mo_done_61 (by decide) ?_
  refine va_put (D := D) (ci := 8) (v := Value.int 0) (ty := .int) (C := "CommitLedgerModel") (T := F_Mo) (N := 35) hx hb hts i_Mo t_Mo t_Mo_ok n_Mo hown hK hP hD hS 46 f_46_ws2 rfl 0 (by decide) (hts _ kf_Mo_84) (fun _ h9 => h9) rfl (by decide +kernel) rfl rfl (Nat.le_of_ble_eq_true rfl) d_Mo_done_62 (fun H locs hP9 hD9 hS9 => ?_)
  obtain ⟨ws3, e_ws3⟩ : ∃ x : va_W, x = ws2.set 46 ((A46, Sum.inr (8, [Value.int 0, Value.int 3, Value.ref A47, Value.ref A48, Value.ref A49, Value.int 0, Value.ref A50, Value.ref A51, Value.ref A52, Value.ref A53, Value.int 0, Value.int 0, Value.int 0, Value.int (-1), Value.int 0, Value.ref A54, Value.ref A62, Value.ref A70, Value.int 0, Value.int 0, Value.int 0, Value.ref A78, Value.ref A79, Value.int 0, Value.int 16, Value.int 4, u0, Value.ref A80, Value.ref A81, Value.ref A82, Value.int 0, Value.ref A83, Value.int 0, Value.int 0, Value.int 0])) : Nat × va_E) := ⟨_, rfl⟩
  replace hP : va_P D classes ws3 H := by rw [e_ws3]; exact hP9
  replace hD : va_D A ws3 := by rw [e_ws3]; exact hD9
  replace hS := hS9
  clear hP9 hD9 hS9
  have f_46_ws3 : ws3[46]? = some ((A46, Sum.inr (8, [Value.int 0, Value.int 3, Value.ref A47, Value.ref A48, Value.ref A49, Value.int 0, Value.ref A50, Value.ref A51, Value.ref A52, Value.ref A53, Value.int 0, Value.int 0, Value.int 0, Value.int (-1), Value.int 0, Value.ref A54, Value.ref A62, Value.ref A70, Value.int 0, Value.int 0, Value.int 0, Value.ref A78, Value.ref A79, Value.int 0, Value.int 16, Value.int 4, u0, Value.ref A80, Value.ref A81, Value.ref A82, Value.int 0, Value.ref A83, Value.int 0, Value.int 0, Value.int 0])) : Nat × va_E) := by rw [e_ws3]; exact gs_self f_46_ws2
  replace hU : gx_g ws ws3 0 [46] := by rw [e_ws3]; exact hU.put (Or.inl (by simp))
  refine lv_aload_n hx hb d_Mo_done_65 rfl (lv_at hl 3 rfl) ?_
  refine va_get (D := D) (ci := 8) (v := Value.int 3) (C := "CommitLedgerModel") (T := F_Mo) (N := 35) hx hb hts i_Mo hown hK hP 46 f_46_ws3 rfl 1 (by decide) (hts _ kf_Mo_80) (fun _ h9 => h9) rfl d_Mo_done_66 ?_
  refine lv_if_le (tgt := 76) hx hb d_Mo_done_69 (by decide) (fun c9 => absurd c9 (by decide)) (fun _ => ?_)
  refine lv_iconst (v := 0) hx hb d_Mo_done_72 (by decide) ?_
  refine lv_goto (tgt := 77) hx hb d_Mo_done_73 (by decide) ?_
  exact gx_ret (W.iret (v := 0) hx hb hr (gx_post hP hK hD hS (by rw [← hPQ]; exact ⟨rfl, hU, f_46_ws3⟩)) hS.2.2 d_Mo_done_77)

set_option maxHeartbeats 4000000 in
set_option maxRecDepth 100000 in
theorem c_Mo_done_v18 (l : Launch) (htr : l.stackTraces = false) (D : va_G) (tys : List (ClassId × FieldType)) (z sz : Nat) (ws : va_W) (A46 : Nat) (A47 : Nat) (A48 : Nat) (A49 : Nat) (A50 : Nat) (A51 : Nat) (A52 : Nat) (A53 : Nat) (A54 : Nat) (A62 : Nat) (A70 : Nat) (A78 : Nat) (A79 : Nat) (u0 : Value) (A80 : Nat) (A81 : Nat) (A82 : Nat) (A83 : Nat) (f_46 : ws[46]? = some ((A46, Sum.inr (8, [Value.int 2, Value.int 0, Value.ref A47, Value.ref A48, Value.ref A49, Value.int 0, Value.ref A50, Value.ref A51, Value.ref A52, Value.ref A53, Value.int 0, Value.int 0, Value.int 0, Value.int (-1), Value.int 0, Value.ref A54, Value.ref A62, Value.ref A70, Value.int 0, Value.int 0, Value.int 0, Value.ref A78, Value.ref A79, Value.int 0, Value.int 16, Value.int 4, u0, Value.ref A80, Value.ref A81, Value.ref A82, Value.int 0, Value.ref A83, Value.int 0, Value.int 0, Value.int 0])) : Nat × va_E)) : gx_Met l y_Mo_done [Cond.code y_Mo_done b_Mo_done 6 (some .int)] { frames := 1, cells := 0, slots := 0, locals := 12 } (gx_P z sz D classes tys ws [Value.ref A46, Value.int 0, Value.int 123456]) (gx_Q D classes tys (va_A ws sz) (fun r ws' => (r = Sum.inl (some (Value.int 0)) ∧ gx_g ws ws' 0 [46] ∧ ws'[46]? = some ((A46, Sum.inr (8, [Value.int 0, Value.int 2, Value.ref A47, Value.ref A48, Value.ref A49, Value.int 0, Value.ref A50, Value.ref A51, Value.ref A52, Value.ref A53, Value.int 0, Value.int 0, Value.int 0, Value.int (-1), Value.int 0, Value.ref A54, Value.ref A62, Value.ref A70, Value.int 0, Value.int 0, Value.int 0, Value.ref A78, Value.ref A79, Value.int 0, Value.int 16, Value.int 4, u0, Value.ref A80, Value.ref A81, Value.ref A82, Value.int 0, Value.ref A83, Value.int 0, Value.int 0, Value.int 0])) : Nat × va_E)))) 0 0 (va_A ws sz) := by
  refine gx_ofW (cc := b_Mo_done) (maxL := 6) (ret := (some .int)) (by decide) rfl ?_
  intro p e s m args below meth c s₁ B hml hv
  obtain ⟨rfl, hsz, hz, hP, hK, hD0, hY⟩ := hv
  have hx := B.exec
  have hb := B.bytes
  have hr := B.returns
  have hts := hY.hts (#[Value.ref A46, Value.int 0, Value.int 123456] : Array Value)
  have hown : s.vm.findClass "CommitLedgerModel" = some m.cls := findClass_of_methodNamed B.named
  have hlocks := B.notSynchronized
  have hne : c.exceptionTable.isEmpty = true := B.noHandlers (atoms_spec (ws := [Cond.code y_Mo_done b_Mo_done 6 (some .int)]) B.pre _ List.mem_cons_self)
  subst hsz
  have hAz := gx_az hD0 hz
  have hD := hD0.self (sz := s.heap.size)
  have hN := gx_ns hP
  have hA : ∀ q : Nat, s.heap.size ≤ q → va_A ws s.heap.size q := fun q h => Or.inr h
  generalize va_A ws s.heap.size = A at hD hN hA hAz ⊢
  generalize hPQ : (fun (r : Option Value ⊕ String) (ws' : va_W) => (r = Sum.inl (some (Value.int 0)) ∧ gx_g ws ws' 0 [46] ∧ ws'[46]? = some ((A46, Sum.inr (8, [Value.int 0, Value.int 2, Value.ref A47, Value.ref A48, Value.ref A49, Value.int 0, Value.ref A50, Value.ref A51, Value.ref A52, Value.ref A53, Value.int 0, Value.int 0, Value.int 0, Value.int (-1), Value.int 0, Value.ref A54, Value.ref A62, Value.ref A70, Value.int 0, Value.int 0, Value.int 0, Value.ref A78, Value.ref A79, Value.int 0, Value.int 16, Value.int 4, u0, Value.ref A80, Value.ref A81, Value.ref A82, Value.int 0, Value.ref A83, Value.int 0, Value.int 0, Value.int 0])) : Nat × va_E))) = PQ
  have hS : va_S A s.heap s.heap [] := va_S.rf
  have hU : gx_g ws ws 0 [46] := gx_g.rf
  have hl := lv_entry ([Value.ref A46, Value.int 0, Value.int 123456]) (n := 6) (Nat.le_of_ble_eq_true rfl)
  rw [lg_entry_eq]
  generalize (lg_sl ([Value.ref A46, Value.int 0, Value.int 123456]) ++ List.replicate (6 - (lg_sl ([Value.ref A46, Value.int 0, Value.int 123456])).length) Slot.unset).toArray = ls at hl ⊢
  have hl : lv_has ls 6 [(0, Value.ref A46), (1, Value.int 0), (2, Value.int 123456)] := hl
  refine lv_aload_n hx hb d_Mo_done_0 rfl (lv_at hl 0 rfl) ?_
  refine lv_iconst (v := 0) hx hb d_Mo_done_1 (by decide) ?_
  refine va_put (D := D) (ci := 8) (v := Value.int 0) (ty := .int) (C := "CommitLedgerModel") (T := F_Mo) (N := 35) hx hb hts i_Mo t_Mo t_Mo_ok n_Mo hown hK hP hD hS 46 f_46 rfl 1 (by decide) (hts _ kf_Mo_80) (fun _ h9 => h9) rfl (by decide +kernel) rfl rfl (Nat.le_of_ble_eq_true rfl) d_Mo_done_2 (fun H locs hP9 hD9 hS9 => ?_)
  obtain ⟨ws1, e_ws1⟩ : ∃ x : va_W, x = ws.set 46 ((A46, Sum.inr (8, [Value.int 2, Value.int 0, Value.ref A47, Value.ref A48, Value.ref A49, Value.int 0, Value.ref A50, Value.ref A51, Value.ref A52, Value.ref A53, Value.int 0, Value.int 0, Value.int 0, Value.int (-1), Value.int 0, Value.ref A54, Value.ref A62, Value.ref A70, Value.int 0, Value.int 0, Value.int 0, Value.ref A78, Value.ref A79, Value.int 0, Value.int 16, Value.int 4, u0, Value.ref A80, Value.ref A81, Value.ref A82, Value.int 0, Value.ref A83, Value.int 0, Value.int 0, Value.int 0])) : Nat × va_E) := ⟨_, rfl⟩
  replace hP : va_P D classes ws1 H := by rw [e_ws1]; exact hP9
  replace hD : va_D A ws1 := by rw [e_ws1]; exact hD9
  replace hS := hS9
  clear hP9 hD9 hS9
  have f_46_ws1 : ws1[46]? = some ((A46, Sum.inr (8, [Value.int 2, Value.int 0, Value.ref A47, Value.ref A48, Value.ref A49, Value.int 0, Value.ref A50, Value.ref A51, Value.ref A52, Value.ref A53, Value.int 0, Value.int 0, Value.int 0, Value.int (-1), Value.int 0, Value.ref A54, Value.ref A62, Value.ref A70, Value.int 0, Value.int 0, Value.int 0, Value.ref A78, Value.ref A79, Value.int 0, Value.int 16, Value.int 4, u0, Value.ref A80, Value.ref A81, Value.ref A82, Value.int 0, Value.ref A83, Value.int 0, Value.int 0, Value.int 0])) : Nat × va_E) := by rw [e_ws1]; exact gs_self f_46
  replace hU : gx_g ws ws1 0 [46] := by rw [e_ws1]; exact hU.put (Or.inl (by simp))
  refine lv_iconst (v := 0) hx hb d_Mo_done_5 (by decide) ?_
  refine lv_istore_n (lv' := [(3, Value.int 0), (0, Value.ref A46), (1, Value.int 0), (2, Value.int 123456)]) hx hb d_Mo_done_6 rfl hl (by decide) rfl (fun ls hl => ?_)
  refine lv_ldc (v := 100000) hx hb hown (hts _ ki_Mo_83) d_Mo_done_7 ?_
  refine lv_istore (lv' := [(4, Value.int 100000), (3, Value.int 0), (0, Value.ref A46), (1, Value.int 0), (2, Value.int 123456)]) hx hb d_Mo_done_9 hl (by decide) rfl (fun ls hl => ?_)
  refine lv_iload hx hb d_Mo_done_11 (lv_at hl 0 rfl) ?_
  refine lv_if_le (tgt := 60) hx hb d_Mo_done_13 (by decide) (fun c9 => absurd c9 (by decide)) (fun _ => ?_)
  refine lv_iload_n hx hb d_Mo_done_16 rfl (lv_at hl 4 rfl) ?_
  refine lv_iload hx hb d_Mo_done_17 (lv_at hl 0 rfl) ?_
  refine lv_idiv hx hb d_Mo_done_19 (by decide) ?_
  refine gx_topi (y := 1) (by decide) ?_
  refine lv_bipush (v := 10) hx hb d_Mo_done_20 (by decide) ?_
  refine lv_irem hx hb d_Mo_done_22 (by decide) ?_
  refine gx_topi (y := 1) (by decide) ?_
  refine lv_istore (lv' := [(5, Value.int 1), (4, Value.int 100000), (3, Value.int 0), (0, Value.ref A46), (1, Value.int 0), (2, Value.int 123456)]) hx hb d_Mo_done_23 hl (by decide) rfl (fun ls hl => ?_)
  refine lv_iload hx hb d_Mo_done_25 (lv_at hl 0 rfl) ?_
  refine lv_if_ne (tgt := 33) hx hb d_Mo_done_27 (by decide) (fun _ => ?_) (fun c9 => absurd c9 (by decide))
  refine lv_iinc (v := 1) (lv' := [(3, Value.int 1), (5, Value.int 1), (4, Value.int 100000), (0, Value.ref A46), (1, Value.int 0), (2, Value.int 123456)]) hx hb d_Mo_done_33 hl (k := 2) rfl (by decide) (by decide) rfl (fun ls hl => ?_)
  refine lv_iload hx hb d_Mo_done_36 (lv_at hl 1 rfl) ?_
  refine lv_aload_n hx hb d_Mo_done_38 rfl (lv_at hl 3 rfl) ?_
  refine va_get (D := D) (ci := 8) (v := Value.int 2) (C := "CommitLedgerModel") (T := F_Mo) (N := 35) hx hb hts i_Mo hown hK hP 46 f_46_ws1 rfl 0 (by decide) (hts _ kf_Mo_84) (fun _ h9 => h9) rfl d_Mo_done_39 ?_
  refine lv_icmp_ne (tgt := 50) hx hb d_Mo_done_42 (by decide) (fun _ => ?_) (fun c9 => absurd c9 (by decide))
  refine lv_iload hx hb d_Mo_done_50 (lv_at hl 2 rfl) ?_
  refine lv_bipush (v := 10) hx hb d_Mo_done_52 (by decide) ?_
  refine lv_idiv hx hb d_Mo_done_54 (by decide) ?_
  refine gx_topi (y := 10000) (by decide) ?_
  refine lv_istore (lv' := [(4, Value.int 10000), (3, Value.int 1), (5, Value.int 1), (0, Value.ref A46), (1, Value.int 0), (2, Value.int 123456)]) hx hb d_Mo_done_55 hl (by decide) rfl (fun ls hl => ?_)
  refine lv_goto (tgt := 11) hx hb d_Mo_done_57 (by decide) ?_
  refine lv_iload hx hb d_Mo_done_11 (lv_at hl 0 rfl) ?_
  refine lv_if_le (tgt := 60) hx hb d_Mo_done_13 (by decide) (fun c9 => absurd c9 (by decide)) (fun _ => ?_)
  refine lv_iload_n hx hb d_Mo_done_16 rfl (lv_at hl 5 rfl) ?_
  refine lv_iload hx hb d_Mo_done_17 (lv_at hl 0 rfl) ?_
  refine lv_idiv hx hb d_Mo_done_19 (by decide) ?_
  refine gx_topi (y := 12) (by decide) ?_
  refine lv_bipush (v := 10) hx hb d_Mo_done_20 (by decide) ?_
  refine lv_irem hx hb d_Mo_done_22 (by decide) ?_
  refine gx_topi (y := 2) (by decide) ?_
  refine lv_istore (lv' := [(5, Value.int 2), (4, Value.int 10000), (3, Value.int 1), (0, Value.ref A46), (1, Value.int 0), (2, Value.int 123456)]) hx hb d_Mo_done_23 hl (by decide) rfl (fun ls hl => ?_)
  refine lv_iload hx hb d_Mo_done_25 (lv_at hl 0 rfl) ?_
  refine lv_if_ne (tgt := 33) hx hb d_Mo_done_27 (by decide) (fun _ => ?_) (fun c9 => absurd c9 (by decide))
  refine lv_iinc (v := 2) (lv' := [(3, Value.int 2), (5, Value.int 2), (4, Value.int 10000), (0, Value.ref A46), (1, Value.int 0), (2, Value.int 123456)]) hx hb d_Mo_done_33 hl (k := 2) rfl (by decide) (by decide) rfl (fun ls hl => ?_)
  refine lv_iload hx hb d_Mo_done_36 (lv_at hl 1 rfl) ?_
  refine lv_aload_n hx hb d_Mo_done_38 rfl (lv_at hl 3 rfl) ?_
  refine va_get (D := D) (ci := 8) (v := Value.int 2) (C := "CommitLedgerModel") (T := F_Mo) (N := 35) hx hb hts i_Mo hown hK hP 46 f_46_ws1 rfl 0 (by decide) (hts _ kf_Mo_84) (fun _ h9 => h9) rfl d_Mo_done_39 ?_
  refine lv_icmp_ne (tgt := 50) hx hb d_Mo_done_42 (by decide) (fun c9 => absurd (by decide) c9) (fun _ => ?_)
  refine lv_aload_n hx hb d_Mo_done_45 rfl (lv_at hl 3 rfl) ?_
  refine lv_iload_n hx hb d_Mo_done_46 rfl (lv_at hl 0 rfl) ?_
  refine va_put (D := D) (ci := 8) (v := Value.int 2) (ty := .int) (C := "CommitLedgerModel") (T := F_Mo) (N := 35) hx hb hts i_Mo t_Mo t_Mo_ok n_Mo hown hK hP hD hS 46 f_46_ws1 rfl 1 (by decide) (hts _ kf_Mo_80) (fun _ h9 => h9) rfl (by decide +kernel) rfl rfl (Nat.le_of_ble_eq_true rfl) d_Mo_done_47 (fun H locs hP9 hD9 hS9 => ?_)
  obtain ⟨ws2, e_ws2⟩ : ∃ x : va_W, x = ws1.set 46 ((A46, Sum.inr (8, [Value.int 2, Value.int 2, Value.ref A47, Value.ref A48, Value.ref A49, Value.int 0, Value.ref A50, Value.ref A51, Value.ref A52, Value.ref A53, Value.int 0, Value.int 0, Value.int 0, Value.int (-1), Value.int 0, Value.ref A54, Value.ref A62, Value.ref A70, Value.int 0, Value.int 0, Value.int 0, Value.ref A78, Value.ref A79, Value.int 0, Value.int 16, Value.int 4, u0, Value.ref A80, Value.ref A81, Value.ref A82, Value.int 0, Value.ref A83, Value.int 0, Value.int 0, Value.int 0])) : Nat × va_E) := ⟨_, rfl⟩
  replace hP : va_P D classes ws2 H := by rw [e_ws2]; exact hP9
  replace hD : va_D A ws2 := by rw [e_ws2]; exact hD9
  replace hS := hS9
  clear hP9 hD9 hS9
  have f_46_ws2 : ws2[46]? = some ((A46, Sum.inr (8, [Value.int 2, Value.int 2, Value.ref A47, Value.ref A48, Value.ref A49, Value.int 0, Value.ref A50, Value.ref A51, Value.ref A52, Value.ref A53, Value.int 0, Value.int 0, Value.int 0, Value.int (-1), Value.int 0, Value.ref A54, Value.ref A62, Value.ref A70, Value.int 0, Value.int 0, Value.int 0, Value.ref A78, Value.ref A79, Value.int 0, Value.int 16, Value.int 4, u0, Value.ref A80, Value.ref A81, Value.ref A82, Value.int 0, Value.ref A83, Value.int 0, Value.int 0, Value.int 0])) : Nat × va_E) := by rw [e_ws2]; exact gs_self f_46_ws1
  replace hU : gx_g ws ws2 0 [46] := by rw [e_ws2]; exact hU.put (Or.inl (by simp))
  refine lv_iload hx hb d_Mo_done_50 (lv_at hl 2 rfl) ?_
  refine lv_bipush (v := 10) hx hb d_Mo_done_52 (by decide) ?_
  refine lv_idiv hx hb d_Mo_done_54 (by decide) ?_
  refine gx_topi (y := 1000) (by decide) ?_
  refine lv_istore (lv' := [(4, Value.int 1000), (3, Value.int 2), (5, Value.int 2), (0, Value.ref A46), (1, Value.int 0), (2, Value.int 123456)]) hx hb d_Mo_done_55 hl (by decide) rfl (fun ls hl => ?_)
  refine lv_goto (tgt := 11) hx hb d_Mo_done_57 (by decide) ?_
  refine lv_iload hx hb d_Mo_done_11 (lv_at hl 0 rfl) ?_
  refine lv_if_le (tgt := 60) hx hb d_Mo_done_13 (by decide) (fun c9 => absurd c9 (by decide)) (fun _ => ?_)
  refine lv_iload_n hx hb d_Mo_done_16 rfl (lv_at hl 5 rfl) ?_
  refine lv_iload hx hb d_Mo_done_17 (lv_at hl 0 rfl) ?_
  refine lv_idiv hx hb d_Mo_done_19 (by decide) ?_
  refine gx_topi (y := 123) (by decide) ?_
  refine lv_bipush (v := 10) hx hb d_Mo_done_20 (by decide) ?_
  refine lv_irem hx hb d_Mo_done_22 (by decide) ?_
  refine gx_topi (y := 3) (by decide) ?_
  refine lv_istore (lv' := [(5, Value.int 3), (4, Value.int 1000), (3, Value.int 2), (0, Value.ref A46), (1, Value.int 0), (2, Value.int 123456)]) hx hb d_Mo_done_23 hl (by decide) rfl (fun ls hl => ?_)
  refine lv_iload hx hb d_Mo_done_25 (lv_at hl 0 rfl) ?_
  refine lv_if_ne (tgt := 33) hx hb d_Mo_done_27 (by decide) (fun _ => ?_) (fun c9 => absurd c9 (by decide))
  refine lv_iinc (v := 3) (lv' := [(3, Value.int 3), (5, Value.int 3), (4, Value.int 1000), (0, Value.ref A46), (1, Value.int 0), (2, Value.int 123456)]) hx hb d_Mo_done_33 hl (k := 2) rfl (by decide) (by decide) rfl (fun ls hl => ?_)
  refine lv_iload hx hb d_Mo_done_36 (lv_at hl 1 rfl) ?_
  refine lv_aload_n hx hb d_Mo_done_38 rfl (lv_at hl 3 rfl) ?_
  refine va_get (D := D) (ci := 8) (v := Value.int 2) (C := "CommitLedgerModel") (T := F_Mo) (N := 35) hx hb hts i_Mo hown hK hP 46 f_46_ws2 rfl 0 (by decide) (hts _ kf_Mo_84) (fun _ h9 => h9) rfl d_Mo_done_39 ?_
  refine lv_icmp_ne (tgt := 50) hx hb d_Mo_done_42 (by decide) (fun _ => ?_) (fun c9 => absurd c9 (by decide))
  refine lv_iload hx hb d_Mo_done_50 (lv_at hl 2 rfl) ?_
  refine lv_bipush (v := 10) hx hb d_Mo_done_52 (by decide) ?_
  refine lv_idiv hx hb d_Mo_done_54 (by decide) ?_
  refine gx_topi (y := 100) (by decide) ?_
  refine lv_istore (lv' := [(4, Value.int 100), (3, Value.int 3), (5, Value.int 3), (0, Value.ref A46), (1, Value.int 0), (2, Value.int 123456)]) hx hb d_Mo_done_55 hl (by decide) rfl (fun ls hl => ?_)
  refine lv_goto (tgt := 11) hx hb d_Mo_done_57 (by decide) ?_
  refine lv_iload hx hb d_Mo_done_11 (lv_at hl 0 rfl) ?_
  refine lv_if_le (tgt := 60) hx hb d_Mo_done_13 (by decide) (fun c9 => absurd c9 (by decide)) (fun _ => ?_)
  refine lv_iload_n hx hb d_Mo_done_16 rfl (lv_at hl 5 rfl) ?_
  refine lv_iload hx hb d_Mo_done_17 (lv_at hl 0 rfl) ?_
  refine lv_idiv hx hb d_Mo_done_19 (by decide) ?_
  refine gx_topi (y := 1234) (by decide) ?_
  refine lv_bipush (v := 10) hx hb d_Mo_done_20 (by decide) ?_
  refine lv_irem hx hb d_Mo_done_22 (by decide) ?_
  refine gx_topi (y := 4) (by decide) ?_
  refine lv_istore (lv' := [(5, Value.int 4), (4, Value.int 100), (3, Value.int 3), (0, Value.ref A46), (1, Value.int 0), (2, Value.int 123456)]) hx hb d_Mo_done_23 hl (by decide) rfl (fun ls hl => ?_)
  refine lv_iload hx hb d_Mo_done_25 (lv_at hl 0 rfl) ?_
  refine lv_if_ne (tgt := 33) hx hb d_Mo_done_27 (by decide) (fun _ => ?_) (fun c9 => absurd c9 (by decide))
  refine lv_iinc (v := 4) (lv' := [(3, Value.int 4), (5, Value.int 4), (4, Value.int 100), (0, Value.ref A46), (1, Value.int 0), (2, Value.int 123456)]) hx hb d_Mo_done_33 hl (k := 2) rfl (by decide) (by decide) rfl (fun ls hl => ?_)
  refine lv_iload hx hb d_Mo_done_36 (lv_at hl 1 rfl) ?_
  refine lv_aload_n hx hb d_Mo_done_38 rfl (lv_at hl 3 rfl) ?_
  refine va_get (D := D) (ci := 8) (v := Value.int 2) (C := "CommitLedgerModel") (T := F_Mo) (N := 35) hx hb hts i_Mo hown hK hP 46 f_46_ws2 rfl 0 (by decide) (hts _ kf_Mo_84) (fun _ h9 => h9) rfl d_Mo_done_39 ?_
  refine lv_icmp_ne (tgt := 50) hx hb d_Mo_done_42 (by decide) (fun _ => ?_) (fun c9 => absurd c9 (by decide))
  refine lv_iload hx hb d_Mo_done_50 (lv_at hl 2 rfl) ?_
  refine lv_bipush (v := 10) hx hb d_Mo_done_52 (by decide) ?_
  refine lv_idiv hx hb d_Mo_done_54 (by decide) ?_
  refine gx_topi (y := 10) (by decide) ?_
  refine lv_istore (lv' := [(4, Value.int 10), (3, Value.int 4), (5, Value.int 4), (0, Value.ref A46), (1, Value.int 0), (2, Value.int 123456)]) hx hb d_Mo_done_55 hl (by decide) rfl (fun ls hl => ?_)
  refine lv_goto (tgt := 11) hx hb d_Mo_done_57 (by decide) ?_
  refine lv_iload hx hb d_Mo_done_11 (lv_at hl 0 rfl) ?_
  refine lv_if_le (tgt := 60) hx hb d_Mo_done_13 (by decide) (fun c9 => absurd c9 (by decide)) (fun _ => ?_)
  refine lv_iload_n hx hb d_Mo_done_16 rfl (lv_at hl 5 rfl) ?_
  refine lv_iload hx hb d_Mo_done_17 (lv_at hl 0 rfl) ?_
  refine lv_idiv hx hb d_Mo_done_19 (by decide) ?_
  refine gx_topi (y := 12345) (by decide) ?_
  refine lv_bipush (v := 10) hx hb d_Mo_done_20 (by decide) ?_
  refine lv_irem hx hb d_Mo_done_22 (by decide) ?_
  refine gx_topi (y := 5) (by decide) ?_
  refine lv_istore (lv' := [(5, Value.int 5), (4, Value.int 10), (3, Value.int 4), (0, Value.ref A46), (1, Value.int 0), (2, Value.int 123456)]) hx hb d_Mo_done_23 hl (by decide) rfl (fun ls hl => ?_)
  refine lv_iload hx hb d_Mo_done_25 (lv_at hl 0 rfl) ?_
  refine lv_if_ne (tgt := 33) hx hb d_Mo_done_27 (by decide) (fun _ => ?_) (fun c9 => absurd c9 (by decide))
  refine lv_iinc (v := 5) (lv' := [(3, Value.int 5), (5, Value.int 5), (4, Value.int 10), (0, Value.ref A46), (1, Value.int 0), (2, Value.int 123456)]) hx hb d_Mo_done_33 hl (k := 2) rfl (by decide) (by decide) rfl (fun ls hl => ?_)
  refine lv_iload hx hb d_Mo_done_36 (lv_at hl 1 rfl) ?_
  refine lv_aload_n hx hb d_Mo_done_38 rfl (lv_at hl 3 rfl) ?_
  refine va_get (D := D) (ci := 8) (v := Value.int 2) (C := "CommitLedgerModel") (T := F_Mo) (N := 35) hx hb hts i_Mo hown hK hP 46 f_46_ws2 rfl 0 (by decide) (hts _ kf_Mo_84) (fun _ h9 => h9) rfl d_Mo_done_39 ?_
  refine lv_icmp_ne (tgt := 50) hx hb d_Mo_done_42 (by decide) (fun _ => ?_) (fun c9 => absurd c9 (by decide))
  refine lv_iload hx hb d_Mo_done_50 (lv_at hl 2 rfl) ?_
  refine lv_bipush (v := 10) hx hb d_Mo_done_52 (by decide) ?_
  refine lv_idiv hx hb d_Mo_done_54 (by decide) ?_
  refine gx_topi (y := 1) (by decide) ?_
  refine lv_istore (lv' := [(4, Value.int 1), (3, Value.int 5), (5, Value.int 5), (0, Value.ref A46), (1, Value.int 0), (2, Value.int 123456)]) hx hb d_Mo_done_55 hl (by decide) rfl (fun ls hl => ?_)
  refine lv_goto (tgt := 11) hx hb d_Mo_done_57 (by decide) ?_
  refine lv_iload hx hb d_Mo_done_11 (lv_at hl 0 rfl) ?_
  refine lv_if_le (tgt := 60) hx hb d_Mo_done_13 (by decide) (fun c9 => absurd c9 (by decide)) (fun _ => ?_)
  refine lv_iload_n hx hb d_Mo_done_16 rfl (lv_at hl 5 rfl) ?_
  refine lv_iload hx hb d_Mo_done_17 (lv_at hl 0 rfl) ?_
  refine lv_idiv hx hb d_Mo_done_19 (by decide) ?_
  refine gx_topi (y := 123456) (by decide) ?_
  refine lv_bipush (v := 10) hx hb d_Mo_done_20 (by decide) ?_
  refine lv_irem hx hb d_Mo_done_22 (by decide) ?_
  refine gx_topi (y := 6) (by decide) ?_
  refine lv_istore (lv' := [(5, Value.int 6), (4, Value.int 1), (3, Value.int 5), (0, Value.ref A46), (1, Value.int 0), (2, Value.int 123456)]) hx hb d_Mo_done_23 hl (by decide) rfl (fun ls hl => ?_)
  refine lv_iload hx hb d_Mo_done_25 (lv_at hl 0 rfl) ?_
  refine lv_if_ne (tgt := 33) hx hb d_Mo_done_27 (by decide) (fun _ => ?_) (fun c9 => absurd c9 (by decide))
  refine lv_iinc (v := 6) (lv' := [(3, Value.int 6), (5, Value.int 6), (4, Value.int 1), (0, Value.ref A46), (1, Value.int 0), (2, Value.int 123456)]) hx hb d_Mo_done_33 hl (k := 2) rfl (by decide) (by decide) rfl (fun ls hl => ?_)
  refine lv_iload hx hb d_Mo_done_36 (lv_at hl 1 rfl) ?_
  refine lv_aload_n hx hb d_Mo_done_38 rfl (lv_at hl 3 rfl) ?_
  refine va_get (D := D) (ci := 8) (v := Value.int 2) (C := "CommitLedgerModel") (T := F_Mo) (N := 35) hx hb hts i_Mo hown hK hP 46 f_46_ws2 rfl 0 (by decide) (hts _ kf_Mo_84) (fun _ h9 => h9) rfl d_Mo_done_39 ?_
  refine lv_icmp_ne (tgt := 50) hx hb d_Mo_done_42 (by decide) (fun _ => ?_) (fun c9 => absurd c9 (by decide))
  refine lv_iload hx hb d_Mo_done_50 (lv_at hl 2 rfl) ?_
  refine lv_bipush (v := 10) hx hb d_Mo_done_52 (by decide) ?_
  refine lv_idiv hx hb d_Mo_done_54 (by decide) ?_
  refine gx_topi (y := 0) (by decide) ?_
  refine lv_istore (lv' := [(4, Value.int 0), (3, Value.int 6), (5, Value.int 6), (0, Value.ref A46), (1, Value.int 0), (2, Value.int 123456)]) hx hb d_Mo_done_55 hl (by decide) rfl (fun ls hl => ?_)
  refine lv_goto (tgt := 11) hx hb d_Mo_done_57 (by decide) ?_
  refine lv_iload hx hb d_Mo_done_11 (lv_at hl 0 rfl) ?_
  refine lv_if_le (tgt := 60) hx hb d_Mo_done_13 (by decide) (fun _ => ?_) (fun c9 => absurd (by decide) c9)
  refine lv_aload_n hx hb d_Mo_done_60 rfl (lv_at hl 3 rfl) ?_
  refine lv_iconst (v := 0) hx hb d_Mo_done_61 (by decide) ?_
  refine va_put (D := D) (ci := 8) (v := Value.int 0) (ty := .int) (C := "CommitLedgerModel") (T := F_Mo) (N := 35) hx hb hts i_Mo t_Mo t_Mo_ok n_Mo hown hK hP hD hS 46 f_46_ws2 rfl 0 (by decide) (hts _ kf_Mo_84) (fun _ h9 => h9) rfl (by decide +kernel) rfl rfl (Nat.le_of_ble_eq_true rfl) d_Mo_done_62 (fun H locs hP9 hD9 hS9 => ?_)
  obtain ⟨ws3, e_ws3⟩ : ∃ x : va_W, x = ws2.set 46 ((A46, Sum.inr (8, [Value.int 0, Value.int 2, Value.ref A47, Value.ref A48, Value.ref A49, Value.int 0, Value.ref A50, Value.ref A51, Value.ref A52, Value.ref A53, Value.int 0, Value.int 0, Value.int 0, Value.int (-1), Value.int 0, Value.ref A54, Value.ref A62, Value.ref A70, Value.int 0, Value.int 0, Value.int 0, Value.ref A78, Value.ref A79, Value.int 0, Value.int 16, Value.int 4, u0, Value.ref A80, Value.ref A81, Value.ref A82, Value.int 0, Value.ref A83, Value.int 0, Value.int 0, Value.int 0])) : Nat × va_E) := ⟨_, rfl⟩
  replace hP : va_P D classes ws3 H := by rw [e_ws3]; exact hP9
  replace hD : va_D A ws3 := by rw [e_ws3]; exact hD9
  replace hS := hS9
  clear hP9 hD9 hS9
  have f_46_ws3 : ws3[46]? = some ((A46, Sum.inr (8, [Value.int 0, Value.int 2, Value.ref A47, Value.ref A48, Value.ref A49, Value.int 0, Value.ref A50, Value.ref A51, Value.ref A52, Value.ref A53, Value.int 0, Value.int 0, Value.int 0, Value.int (-1), Value.int 0, Value.ref A54, Value.ref A62, Value.ref A70, Value.int 0, Value.int 0, Value.int 0, Value.ref A78, Value.ref A79, Value.int 0, Value.int 16, Value.int 4, u0, Value.ref A80, Value.ref A81, Value.ref A82, Value.int 0, Value.ref A83, Value.int 0, Value.int 0, Value.int 0])) : Nat × va_E) := by rw [e_ws3]; exact gs_self f_46_ws2
  replace hU : gx_g ws ws3 0 [46] := by rw [e_ws3]; exact hU.put (Or.inl (by simp))
  refine lv_aload_n hx hb d_Mo_done_65 rfl (lv_at hl 3 rfl) ?_
  refine va_get (D := D) (ci := 8) (v := Value.int 2) (C := "CommitLedgerModel") (T := F_Mo) (N := 35) hx hb hts i_Mo hown hK hP 46 f_46_ws3 rfl 1 (by decide) (hts _ kf_Mo_80) (fun _ h9 => h9) rfl d_Mo_done_66 ?_
  refine lv_if_le (tgt := 76) hx hb d_Mo_done_69 (by decide) (fun c9 => absurd c9 (by decide)) (fun _ => ?_)
  refine lv_iconst (v := 0) hx hb d_Mo_done_72 (by decide) ?_
  refine lv_goto (tgt := 77) hx hb d_Mo_done_73 (by decide) ?_
  exact gx_ret (W.iret (v := 0) hx hb hr (gx_post hP hK hD hS (by rw [← hPQ]; exact ⟨rfl, hU, f_46_ws3⟩)) hS.2.2 d_Mo_done_77)

set_option maxHeartbeats 4000000 in
set_option maxRecDepth 100000 in
theorem c_Mo_reader_v1 (l : Launch) (htr : l.stackTraces = false) (D : va_G) (tys : List (ClassId × FieldType)) (z sz : Nat) (ws : va_W) (cV : ClassId) (A46 : Nat) (p0 : Int32) (A47 : Nat) (A48 : Nat) (A49 : Nat) (A50 : Nat) (A51 : Nat) (A52 : Nat) (A53 : Nat) (A54 : Nat) (A62 : Nat) (A70 : Nat) (A78 : Nat) (A79 : Nat) (u0 : Value) (A80 : Nat) (A81 : Nat) (A82 : Nat) (A83 : Nat) (A84 : Nat) (A85 : Nat) (A86 : Nat) (A87 : Nat) (A88 : Nat) (A89 : Nat) (A90 : Nat) (A91 : Nat) (A92 : Nat) (A100 : Nat) (A108 : Nat) (f_46 : ws[46]? = some ((A46, Sum.inr (8, [Value.int 0, Value.int 0, Value.ref A47, Value.ref A48, Value.ref A49, Value.int 0, Value.ref A50, Value.ref A51, Value.ref A52, Value.ref A53, Value.int 0, Value.int 0, Value.int 0, Value.int (-1), Value.int 0, Value.ref A54, Value.ref A62, Value.ref A70, Value.int 0, Value.int 0, Value.int 0, Value.ref A78, Value.ref A79, Value.int 0, Value.int 16, Value.int 4, u0, Value.ref A80, Value.ref A81, Value.ref A82, Value.int 0, Value.ref A83, Value.int 0, Value.int 0, Value.int 0])) : Nat × va_E)) (f_84 : ws[84]? = some ((A84, Sum.inr (9, [Value.ref A85, Value.ref A86, Value.ref A87, Value.ref A88, Value.ref A89, Value.ref A90, Value.ref A91, Value.int 0, Value.int 0, Value.int 0, Value.int 0])) : Nat × va_E)) (f_83 : ws[83]? = some ((A83, Sum.inl (cV, 4, Sum.inr (Sum.inr (Sum.inr (Sum.inr (va_up (va_up (va_up (va_up (fun _ => none) 0 (some A84)) 1 (some A92)) 2 (some A100)) 3 (some A108))))))) : Nat × va_E)) (ht5 : tys[5]? = some ((cV, FieldType.object "CommitLedgerModel$Version") : ClassId × FieldType)) : gx_Met l y_Mo_reader [Cond.code y_Mo_reader b_Mo_reader 3 (some .int)] { frames := 2, cells := 0, slots := 0, locals := 37 } (gx_P z sz D classes tys ws [Value.ref A46, Value.int p0]) (gx_Q D classes tys (va_A ws sz) (fun r ws' => (r = Sum.inl (some (Value.int 0)) ∧ gx_g ws ws' 0 [46] ∧ ws'[46]? = some ((A46, Sum.inr (8, [Value.int 0, Value.int 1, Value.ref A47, Value.ref A48, Value.ref A49, Value.int 0, Value.ref A50, Value.ref A51, Value.ref A52, Value.ref A53, Value.int 0, Value.int 0, Value.int 0, Value.int (-1), Value.int 0, Value.ref A54, Value.ref A62, Value.ref A70, Value.int 0, Value.int 0, Value.int 0, Value.ref A78, Value.ref A79, Value.int 0, Value.int 16, Value.int 4, u0, Value.ref A80, Value.ref A81, Value.ref A82, Value.int 0, Value.ref A83, Value.int 0, Value.int 0, Value.int 0])) : Nat × va_E) ∧ p0 < 0) ∨ (r = Sum.inl (some (Value.int 0)) ∧ gx_g ws ws' 0 [46] ∧ ws'[46]? = some ((A46, Sum.inr (8, [Value.int 0, Value.int 3, Value.ref A47, Value.ref A48, Value.ref A49, Value.int 0, Value.ref A50, Value.ref A51, Value.ref A52, Value.ref A53, Value.int 0, Value.int 0, Value.int 0, Value.int (-1), Value.int 0, Value.ref A54, Value.ref A62, Value.ref A70, Value.int 0, Value.int 0, Value.int 0, Value.ref A78, Value.ref A79, Value.int 0, Value.int 16, Value.int 4, u0, Value.ref A80, Value.ref A81, Value.ref A82, Value.int 0, Value.ref A83, Value.int 0, Value.int 0, Value.int 0])) : Nat × va_E) ∧ ¬ p0 < 0 ∧ p0 ≤ 1 ∧ ¬ p0 = 1 ∧ p0 = 0) ∨ (r = Sum.inl (some (Value.int 0)) ∧ gx_g ws ws' 0 [46] ∧ ws'[46]? = some ((A46, Sum.inr (8, [Value.int 0, Value.int 2, Value.ref A47, Value.ref A48, Value.ref A49, Value.int 0, Value.ref A50, Value.ref A51, Value.ref A52, Value.ref A53, Value.int 0, Value.int 0, Value.int 0, Value.int (-1), Value.int 0, Value.ref A54, Value.ref A62, Value.ref A70, Value.int 0, Value.int 0, Value.int 0, Value.ref A78, Value.ref A79, Value.int 0, Value.int 16, Value.int 4, u0, Value.ref A80, Value.ref A81, Value.ref A82, Value.int 0, Value.ref A83, Value.int 0, Value.int 0, Value.int 0])) : Nat × va_E) ∧ ¬ p0 < 0 ∧ p0 ≤ 1 ∧ p0 = 1) ∨ (r = Sum.inl (some (Value.int 0)) ∧ gx_g ws ws' 0 [46] ∧ ws'[46]? = some ((A46, Sum.inr (8, [Value.int 0, Value.int 1, Value.ref A47, Value.ref A48, Value.ref A49, Value.int 0, Value.ref A50, Value.ref A51, Value.ref A52, Value.ref A53, Value.int 0, Value.int 0, Value.int 0, Value.int (-1), Value.int 0, Value.ref A54, Value.ref A62, Value.ref A70, Value.int 0, Value.int 0, Value.int 0, Value.ref A78, Value.ref A79, Value.int 0, Value.int 16, Value.int 4, u0, Value.ref A80, Value.ref A81, Value.ref A82, Value.int 0, Value.ref A83, Value.int 0, Value.int 0, Value.int 0])) : Nat × va_E) ∧ ¬ p0 < 0 ∧ ¬ p0 ≤ 1))) 0 0 (va_A ws sz) := by
  refine gx_ofW (cc := b_Mo_reader) (maxL := 3) (ret := (some .int)) (by decide) rfl ?_
  intro p e s m args below meth c s₁ B hml hv
  obtain ⟨rfl, hsz, hz, hP, hK, hD0, hY⟩ := hv
  have hx := B.exec
  have hb := B.bytes
  have hr := B.returns
  have hts := hY.hts (#[Value.ref A46, Value.int p0] : Array Value)
  have hown : s.vm.findClass "CommitLedgerModel" = some m.cls := findClass_of_methodNamed B.named
  have hlocks := B.notSynchronized
  have hne : c.exceptionTable.isEmpty = true := B.noHandlers (atoms_spec (ws := [Cond.code y_Mo_reader b_Mo_reader 3 (some .int)]) B.pre _ List.mem_cons_self)
  subst hsz
  have hAz := gx_az hD0 hz
  have hD := hD0.self (sz := s.heap.size)
  have hN := gx_ns hP
  have hA : ∀ q : Nat, s.heap.size ≤ q → va_A ws s.heap.size q := fun q h => Or.inr h
  generalize va_A ws s.heap.size = A at hD hN hA hAz ⊢
  generalize hPQ : (fun (r : Option Value ⊕ String) (ws' : va_W) => (r = Sum.inl (some (Value.int 0)) ∧ gx_g ws ws' 0 [46] ∧ ws'[46]? = some ((A46, Sum.inr (8, [Value.int 0, Value.int 1, Value.ref A47, Value.ref A48, Value.ref A49, Value.int 0, Value.ref A50, Value.ref A51, Value.ref A52, Value.ref A53, Value.int 0, Value.int 0, Value.int 0, Value.int (-1), Value.int 0, Value.ref A54, Value.ref A62, Value.ref A70, Value.int 0, Value.int 0, Value.int 0, Value.ref A78, Value.ref A79, Value.int 0, Value.int 16, Value.int 4, u0, Value.ref A80, Value.ref A81, Value.ref A82, Value.int 0, Value.ref A83, Value.int 0, Value.int 0, Value.int 0])) : Nat × va_E) ∧ p0 < 0) ∨ (r = Sum.inl (some (Value.int 0)) ∧ gx_g ws ws' 0 [46] ∧ ws'[46]? = some ((A46, Sum.inr (8, [Value.int 0, Value.int 3, Value.ref A47, Value.ref A48, Value.ref A49, Value.int 0, Value.ref A50, Value.ref A51, Value.ref A52, Value.ref A53, Value.int 0, Value.int 0, Value.int 0, Value.int (-1), Value.int 0, Value.ref A54, Value.ref A62, Value.ref A70, Value.int 0, Value.int 0, Value.int 0, Value.ref A78, Value.ref A79, Value.int 0, Value.int 16, Value.int 4, u0, Value.ref A80, Value.ref A81, Value.ref A82, Value.int 0, Value.ref A83, Value.int 0, Value.int 0, Value.int 0])) : Nat × va_E) ∧ ¬ p0 < 0 ∧ p0 ≤ 1 ∧ ¬ p0 = 1 ∧ p0 = 0) ∨ (r = Sum.inl (some (Value.int 0)) ∧ gx_g ws ws' 0 [46] ∧ ws'[46]? = some ((A46, Sum.inr (8, [Value.int 0, Value.int 2, Value.ref A47, Value.ref A48, Value.ref A49, Value.int 0, Value.ref A50, Value.ref A51, Value.ref A52, Value.ref A53, Value.int 0, Value.int 0, Value.int 0, Value.int (-1), Value.int 0, Value.ref A54, Value.ref A62, Value.ref A70, Value.int 0, Value.int 0, Value.int 0, Value.ref A78, Value.ref A79, Value.int 0, Value.int 16, Value.int 4, u0, Value.ref A80, Value.ref A81, Value.ref A82, Value.int 0, Value.ref A83, Value.int 0, Value.int 0, Value.int 0])) : Nat × va_E) ∧ ¬ p0 < 0 ∧ p0 ≤ 1 ∧ p0 = 1) ∨ (r = Sum.inl (some (Value.int 0)) ∧ gx_g ws ws' 0 [46] ∧ ws'[46]? = some ((A46, Sum.inr (8, [Value.int 0, Value.int 1, Value.ref A47, Value.ref A48, Value.ref A49, Value.int 0, Value.ref A50, Value.ref A51, Value.ref A52, Value.ref A53, Value.int 0, Value.int 0, Value.int 0, Value.int (-1), Value.int 0, Value.ref A54, Value.ref A62, Value.ref A70, Value.int 0, Value.int 0, Value.int 0, Value.ref A78, Value.ref A79, Value.int 0, Value.int 16, Value.int 4, u0, Value.ref A80, Value.ref A81, Value.ref A82, Value.int 0, Value.ref A83, Value.int 0, Value.int 0, Value.int 0])) : Nat × va_E) ∧ ¬ p0 < 0 ∧ ¬ p0 ≤ 1)) = PQ
  have hS : va_S A s.heap s.heap [] := va_S.rf
  have hU : gx_g ws ws 0 [46] := gx_g.rf
  have hl := lv_entry ([Value.ref A46, Value.int p0]) (n := 3) (Nat.le_of_ble_eq_true rfl)
  rw [lg_entry_eq]
  generalize (lg_sl ([Value.ref A46, Value.int p0]) ++ List.replicate (3 - (lg_sl ([Value.ref A46, Value.int p0])).length) Slot.unset).toArray = ls at hl ⊢
  have hl : lv_has ls 3 [(0, Value.ref A46), (1, Value.int p0)] := hl
  refine lv_iconst (v := 0) hx hb d_Mo_reader_0 (by decide) ?_
  refine lv_istore_n (lv' := [(2, Value.int 0), (0, Value.ref A46), (1, Value.int p0)]) hx hb d_Mo_reader_1 rfl hl (by decide) rfl (fun ls hl => ?_)
  refine lv_iload_n hx hb d_Mo_reader_2 rfl (lv_at hl 0 rfl) ?_
  refine lv_iconst (v := 4) hx hb d_Mo_reader_3 (by decide) ?_
  refine lv_icmp_ge (tgt := 25) hx hb d_Mo_reader_4 (by decide) (fun c9 => absurd c9 (by decide)) (fun _ => ?_)
  refine lv_aload_n hx hb d_Mo_reader_7 rfl (lv_at hl 1 rfl) ?_
  refine va_get (D := D) (ci := 8) (v := Value.ref A83) (C := "CommitLedgerModel") (T := F_Mo) (N := 35) hx hb hts i_Mo hown hK hP 46 f_46 rfl 31 (by decide) (hts _ kf_Mo_76) (fun _ h9 => h9) rfl d_Mo_reader_8 ?_
  refine lv_iload_n hx hb d_Mo_reader_11 rfl (lv_at hl 0 rfl) ?_
  refine gx_aald (D := D) (b := A84) (j := 0) hx hb hK hP 83 5 f_83 ht5 (gx_inl (by decide)) (by decide) (rfl) d_Mo_reader_12 ?_
  refine va_get (D := D) (ci := 9) (v := Value.int 0) (C := "CommitLedgerModel$Version") (T := F_Ve) (N := 11) hx hb hts i_Ve hown hK hP 84 f_84 rfl 10 (by decide) (hts _ kf_Mo_103) (fun _ h9 => h9) rfl d_Mo_reader_13 ?_
  refine lv_if_le (tgt := 25) hx hb d_Mo_reader_16 (by decide) (fun _ => ?_) (fun c9 => absurd (by decide) c9)
  refine lv_aload_n hx hb d_Mo_reader_25 rfl (lv_at hl 1 rfl) ?_
  refine lv_iload_n hx hb d_Mo_reader_26 rfl (lv_at hl 2 rfl) ?_
  refine lv_if_lt (tgt := 35) hx hb d_Mo_reader_27 (by decide) (fun c27_1 => ?_) (fun c27_1 => ?_)
  · refine lv_iconst (v := 1) hx hb d_Mo_reader_35 (by decide) ?_
    refine lv_goto (tgt := 40) hx hb d_Mo_reader_36 (by decide) ?_
    refine lv_iconst (v := 1) hx hb d_Mo_reader_40 (by decide) ?_
    refine gx_call (ig := .invokevirtual 152) (c_Mo_wrong_v1 l htr D tys z _ ws A46 A47 A48 A49 A50 A51 A52 A53 A54 A62 A70 A78 A79 (u0) A80 A81 A82 A83 f_46) (gx_invV (As := [Value.int 1, Value.int 1]) (rest := []) hx hb hown hts km_Mo_152 kI_Mo_wrong kV_Mo_wrong kc_Mo_wrong (by decide) (show (parseMethodDescriptor y_Mo_wrong.desc).map (fun d => d.parameters.length) = some 2 by decide +kernel) (gx_recv (ci := 8) hK hP rfl f_46) rfl rfl d_Mo_reader_41) (gx_cw (z := 0) hts kc_Mo_wrong kN_Mo rfl rfl ⟨Nat.le_of_ble_eq_true rfl, Nat.le_of_ble_eq_true rfl⟩) hb hml gx_blind (gx_pre hz hP hK hD hY hS hAz [Value.ref A46, Value.int 1, Value.int 1]) rfl hl.1 (lv_room (Nat.le_of_ble_eq_true rfl)) d_Mo_reader_41 ⟨Nat.le_of_ble_eq_true rfl, Nat.le_of_ble_eq_true rfl⟩ (fun v2 st2 t2 L2 h0_2 hW_2 hQ_2 hL_2 => ?_) (fun v2 st2 t2 L2 h0_2 hW_2 hQ_2 hL_2 => ?_)
    · obtain ⟨ws3, hp, hP9, -, hD9, hS9⟩ := gx_back h0_2 hW_2 hQ_2 hL_2 hD hS hA
      clear hQ_2 h0_2 hL_2 hW_2 hP hD hS
      have hP := hP9
      have hD := hD9
      have hS := hS9
      clear hP9 hD9 hS9
      rcases hp with ⟨hv9, e_ws3, f_46_ws3⟩
      cases hv9
      have f_46_ws3 : ws3[46]? = some ((A46, Sum.inr (8, [Value.int 1, Value.int 0, Value.ref A47, Value.ref A48, Value.ref A49, Value.int 0, Value.ref A50, Value.ref A51, Value.ref A52, Value.ref A53, Value.int 0, Value.int 0, Value.int 0, Value.int (-1), Value.int 0, Value.ref A54, Value.ref A62, Value.ref A70, Value.int 0, Value.int 0, Value.int 0, Value.ref A78, Value.ref A79, Value.int 0, Value.int 16, Value.int 4, u0, Value.ref A80, Value.ref A81, Value.ref A82, Value.int 0, Value.ref A83, Value.int 0, Value.int 0, Value.int 0])) : Nat × va_E) := f_46_ws3
      replace hU : gx_g ws ws3 0 [46] := hU.call e_ws3 (by simp; first | done | omega)
      refine W.eq (g2 := F0 m 44 ls [Value.int 1]) rfl ?_
      generalize t2.heap = H at hP hS ⊢
      generalize [] ++ L2 = locs at hS ⊢
      refine lv_if_ne (tgt := 138) hx hb d_Mo_reader_44 (by decide) (fun _ => ?_) (fun c9 => absurd c9 (by decide))
      refine lv_aload_n hx hb d_Mo_reader_138 rfl (lv_at hl 1 rfl) ?_
      refine lv_iconst (v := 0) hx hb d_Mo_reader_139 (by decide) ?_
      refine lv_ldc (v := 123456) hx hb hown (hts _ ki_Mo_253) d_Mo_reader_140 ?_
      refine gx_call (ig := .invokevirtual 148) (c_Mo_done_v16 l htr D tys z _ ws3 A46 A47 A48 A49 A50 A51 A52 A53 A54 A62 A70 A78 A79 (u0) A80 A81 A82 A83 f_46_ws3) (gx_invV (As := [Value.int 0, Value.int 123456]) (rest := []) hx hb hown hts km_Mo_148 kI_Mo_done kV_Mo_done kc_Mo_done (by decide) (show (parseMethodDescriptor y_Mo_done.desc).map (fun d => d.parameters.length) = some 2 by decide +kernel) (gx_recv (ci := 8) hK hP rfl f_46_ws3) rfl rfl d_Mo_reader_142) (gx_cw (z := 0) hts kc_Mo_done kN_Mo rfl rfl ⟨Nat.le_of_ble_eq_true rfl, Nat.le_of_ble_eq_true rfl⟩) hb hml gx_blind (gx_pre hz hP hK hD hY hS hAz [Value.ref A46, Value.int 0, Value.int 123456]) rfl hl.1 (lv_room (Nat.le_of_ble_eq_true rfl)) d_Mo_reader_142 ⟨Nat.le_of_ble_eq_true rfl, Nat.le_of_ble_eq_true rfl⟩ (fun v4 st4 t4 L4 h0_4 hW_4 hQ_4 hL_4 => ?_) (fun v4 st4 t4 L4 h0_4 hW_4 hQ_4 hL_4 => ?_)
      · obtain ⟨ws5, hp, hP9, -, hD9, hS9⟩ := gx_back h0_4 hW_4 hQ_4 hL_4 hD hS hA
        clear hQ_4 h0_4 hL_4 hW_4 hP hD hS
        have hP := hP9
        have hD := hD9
        have hS := hS9
        clear hP9 hD9 hS9
        rcases hp with ⟨hv9, e_ws5, f_46_ws5⟩
        cases hv9
        have f_46_ws5 : ws5[46]? = some ((A46, Sum.inr (8, [Value.int 0, Value.int 1, Value.ref A47, Value.ref A48, Value.ref A49, Value.int 0, Value.ref A50, Value.ref A51, Value.ref A52, Value.ref A53, Value.int 0, Value.int 0, Value.int 0, Value.int (-1), Value.int 0, Value.ref A54, Value.ref A62, Value.ref A70, Value.int 0, Value.int 0, Value.int 0, Value.ref A78, Value.ref A79, Value.int 0, Value.int 16, Value.int 4, u0, Value.ref A80, Value.ref A81, Value.ref A82, Value.int 0, Value.ref A83, Value.int 0, Value.int 0, Value.int 0])) : Nat × va_E) := f_46_ws5
        replace hU : gx_g ws ws5 0 [46] := hU.call e_ws5 (by simp; first | done | omega)
        refine W.eq (g2 := F0 m 145 ls [Value.int 0]) rfl ?_
        generalize t4.heap = H at hP hS ⊢
        generalize locs ++ L4 = locs at hS ⊢
        exact gx_ret (W.iret (v := 0) hx hb hr (gx_post hP hK hD hS (by rw [← hPQ]; exact Or.inl ⟨rfl, hU, f_46_ws5, c27_1⟩)) hS.2.2 d_Mo_reader_145)
      · obtain ⟨E9, ws6, ce, hp, hce, hP9, -, hD9, hS9⟩ := gx_backT h0_4 hW_4 hQ_4 hL_4 hD hS hA
        clear hQ_4 h0_4 hL_4 hW_4 hP hD hS
        have hP := hP9
        have hD := hD9
        have hS := hS9
        clear hP9 hD9 hS9
        rcases hp with ⟨hv9, e_ws6, f_46_ws6⟩
        cases hv9
    · obtain ⟨E9, ws7, ce, hp, hce, hP9, -, hD9, hS9⟩ := gx_backT h0_2 hW_2 hQ_2 hL_2 hD hS hA
      clear hQ_2 h0_2 hL_2 hW_2 hP hD hS
      have hP := hP9
      have hD := hD9
      have hS := hS9
      clear hP9 hD9 hS9
      rcases hp with ⟨hv9, e_ws7, f_46_ws7⟩
      cases hv9
  · refine lv_iload_n hx hb d_Mo_reader_30 rfl (lv_at hl 2 rfl) ?_
    refine lv_iconst (v := 1) hx hb d_Mo_reader_31 (by decide) ?_
    refine lv_icmp_le (tgt := 39) hx hb d_Mo_reader_32 (by decide) (fun c32_8 => ?_) (fun c32_8 => ?_)
    · refine lv_iconst (v := 0) hx hb d_Mo_reader_39 (by decide) ?_
      refine lv_iconst (v := 1) hx hb d_Mo_reader_40 (by decide) ?_
      refine gx_call (ig := .invokevirtual 152) (c_Mo_wrong_v2 l htr D tys z _ ws A46 A47 A48 A49 A50 A51 A52 A53 A54 A62 A70 A78 A79 (u0) A80 A81 A82 A83 f_46) (gx_invV (As := [Value.int 0, Value.int 1]) (rest := []) hx hb hown hts km_Mo_152 kI_Mo_wrong kV_Mo_wrong kc_Mo_wrong (by decide) (show (parseMethodDescriptor y_Mo_wrong.desc).map (fun d => d.parameters.length) = some 2 by decide +kernel) (gx_recv (ci := 8) hK hP rfl f_46) rfl rfl d_Mo_reader_41) (gx_cw (z := 0) hts kc_Mo_wrong kN_Mo rfl rfl ⟨Nat.le_of_ble_eq_true rfl, Nat.le_of_ble_eq_true rfl⟩) hb hml gx_blind (gx_pre hz hP hK hD hY hS hAz [Value.ref A46, Value.int 0, Value.int 1]) rfl hl.1 (lv_room (Nat.le_of_ble_eq_true rfl)) d_Mo_reader_41 ⟨Nat.le_of_ble_eq_true rfl, Nat.le_of_ble_eq_true rfl⟩ (fun v9 st9 t9 L9 h0_9 hW_9 hQ_9 hL_9 => ?_) (fun v9 st9 t9 L9 h0_9 hW_9 hQ_9 hL_9 => ?_)
      · obtain ⟨ws10, hp, hP9, -, hD9, hS9⟩ := gx_back h0_9 hW_9 hQ_9 hL_9 hD hS hA
        clear hQ_9 h0_9 hL_9 hW_9 hP hD hS
        have hP := hP9
        have hD := hD9
        have hS := hS9
        clear hP9 hD9 hS9
        rcases hp with ⟨hv9, e_ws10⟩
        cases hv9
        rw [e_ws10] at hP hD
        refine W.eq (g2 := F0 m 44 ls [Value.int 0]) rfl ?_
        generalize t9.heap = H at hP hS ⊢
        generalize [] ++ L9 = locs at hS ⊢
        refine lv_if_ne (tgt := 138) hx hb d_Mo_reader_44 (by decide) (fun c9 => absurd (by decide) c9) (fun _ => ?_)
        refine lv_aload_n hx hb d_Mo_reader_47 rfl (lv_at hl 1 rfl) ?_
        refine lv_iload_n hx hb d_Mo_reader_48 rfl (lv_at hl 2 rfl) ?_
        refine lv_iconst (v := 1) hx hb d_Mo_reader_49 (by decide) ?_
        refine lv_icmp_ne (tgt := 64) hx hb d_Mo_reader_50 (by decide) (fun c50_11 => ?_) (fun c50_11 => ?_)
        · refine lv_iconst (v := 0) hx hb d_Mo_reader_64 (by decide) ?_
          refine lv_iconst (v := 2) hx hb d_Mo_reader_65 (by decide) ?_
          refine gx_call (ig := .invokevirtual 152) (c_Mo_wrong_v3 l htr D tys z _ ws A46 A47 A48 A49 A50 A51 A52 A53 A54 A62 A70 A78 A79 (u0) A80 A81 A82 A83 f_46) (gx_invV (As := [Value.int 0, Value.int 2]) (rest := []) hx hb hown hts km_Mo_152 kI_Mo_wrong kV_Mo_wrong kc_Mo_wrong (by decide) (show (parseMethodDescriptor y_Mo_wrong.desc).map (fun d => d.parameters.length) = some 2 by decide +kernel) (gx_recv (ci := 8) hK hP rfl f_46) rfl rfl d_Mo_reader_66) (gx_cw (z := 0) hts kc_Mo_wrong kN_Mo rfl rfl ⟨Nat.le_of_ble_eq_true rfl, Nat.le_of_ble_eq_true rfl⟩) hb hml gx_blind (gx_pre hz hP hK hD hY hS hAz [Value.ref A46, Value.int 0, Value.int 2]) rfl hl.1 (lv_room (Nat.le_of_ble_eq_true rfl)) d_Mo_reader_66 ⟨Nat.le_of_ble_eq_true rfl, Nat.le_of_ble_eq_true rfl⟩ (fun v12 st12 t12 L12 h0_12 hW_12 hQ_12 hL_12 => ?_) (fun v12 st12 t12 L12 h0_12 hW_12 hQ_12 hL_12 => ?_)
          · obtain ⟨ws13, hp, hP9, -, hD9, hS9⟩ := gx_back h0_12 hW_12 hQ_12 hL_12 hD hS hA
            clear hQ_12 h0_12 hL_12 hW_12 hP hD hS
            have hP := hP9
            have hD := hD9
            have hS := hS9
            clear hP9 hD9 hS9
            rcases hp with ⟨hv9, e_ws13⟩
            cases hv9
            rw [e_ws13] at hP hD
            refine W.eq (g2 := F0 m 69 ls [Value.int 0]) rfl ?_
            generalize t12.heap = H at hP hS ⊢
            generalize locs ++ L12 = locs at hS ⊢
            refine lv_if_ne (tgt := 138) hx hb d_Mo_reader_69 (by decide) (fun c9 => absurd (by decide) c9) (fun _ => ?_)
            refine lv_aload_n hx hb d_Mo_reader_72 rfl (lv_at hl 1 rfl) ?_
            refine lv_iload_n hx hb d_Mo_reader_73 rfl (lv_at hl 0 rfl) ?_
            refine lv_iconst (v := 4) hx hb d_Mo_reader_74 (by decide) ?_
            refine lv_icmp_ne (tgt := 82) hx hb d_Mo_reader_75 (by decide) (fun _ => ?_) (fun c9 => absurd c9 (by decide))
            refine lv_iconst (v := 0) hx hb d_Mo_reader_82 (by decide) ?_
            refine lv_iconst (v := 5) hx hb d_Mo_reader_83 (by decide) ?_
            refine gx_call (ig := .invokevirtual 152) (c_Mo_wrong_v7 l htr D tys z _ ws A46 A47 A48 A49 A50 A51 A52 A53 A54 A62 A70 A78 A79 (u0) A80 A81 A82 A83 f_46) (gx_invV (As := [Value.int 0, Value.int 5]) (rest := []) hx hb hown hts km_Mo_152 kI_Mo_wrong kV_Mo_wrong kc_Mo_wrong (by decide) (show (parseMethodDescriptor y_Mo_wrong.desc).map (fun d => d.parameters.length) = some 2 by decide +kernel) (gx_recv (ci := 8) hK hP rfl f_46) rfl rfl d_Mo_reader_84) (gx_cw (z := 0) hts kc_Mo_wrong kN_Mo rfl rfl ⟨Nat.le_of_ble_eq_true rfl, Nat.le_of_ble_eq_true rfl⟩) hb hml gx_blind (gx_pre hz hP hK hD hY hS hAz [Value.ref A46, Value.int 0, Value.int 5]) rfl hl.1 (lv_room (Nat.le_of_ble_eq_true rfl)) d_Mo_reader_84 ⟨Nat.le_of_ble_eq_true rfl, Nat.le_of_ble_eq_true rfl⟩ (fun v14 st14 t14 L14 h0_14 hW_14 hQ_14 hL_14 => ?_) (fun v14 st14 t14 L14 h0_14 hW_14 hQ_14 hL_14 => ?_)
            · obtain ⟨ws15, hp, hP9, -, hD9, hS9⟩ := gx_back h0_14 hW_14 hQ_14 hL_14 hD hS hA
              clear hQ_14 h0_14 hL_14 hW_14 hP hD hS
              have hP := hP9
              have hD := hD9
              have hS := hS9
              clear hP9 hD9 hS9
              rcases hp with ⟨hv9, e_ws15⟩
              cases hv9
              rw [e_ws15] at hP hD
              refine W.eq (g2 := F0 m 87 ls [Value.int 0]) rfl ?_
              generalize t14.heap = H at hP hS ⊢
              generalize locs ++ L14 = locs at hS ⊢
              refine lv_if_ne (tgt := 138) hx hb d_Mo_reader_87 (by decide) (fun c9 => absurd (by decide) c9) (fun _ => ?_)
              refine lv_aload_n hx hb d_Mo_reader_90 rfl (lv_at hl 1 rfl) ?_
              refine lv_iload_n hx hb d_Mo_reader_91 rfl (lv_at hl 2 rfl) ?_
              refine lv_if_ne (tgt := 106) hx hb d_Mo_reader_92 (by decide) (fun c92_16 => ?_) (fun c92_16 => ?_)
              · exact (gx_no01 c27_1 c32_8 c92_16 c50_11).elim
              · refine lv_aload_n hx hb d_Mo_reader_95 rfl (lv_at hl 1 rfl) ?_
                refine va_get (D := D) (ci := 8) (v := Value.int 0) (C := "CommitLedgerModel") (T := F_Mo) (N := 35) hx hb hts i_Mo hown hK hP 46 f_46 rfl 20 (by decide) (hts _ kf_Mo_135) (fun _ h9 => h9) rfl d_Mo_reader_96 ?_
                refine lv_if_ne (tgt := 106) hx hb d_Mo_reader_99 (by decide) (fun c9 => absurd (by decide) c9) (fun _ => ?_)
                refine lv_iconst (v := 1) hx hb d_Mo_reader_102 (by decide) ?_
                refine lv_goto (tgt := 107) hx hb d_Mo_reader_103 (by decide) ?_
                refine lv_iconst (v := 3) hx hb d_Mo_reader_107 (by decide) ?_
                refine gx_call (ig := .invokevirtual 152) (c_Mo_wrong_v6 l htr D tys z _ ws A46 A47 A48 A49 A50 A51 A52 A53 A54 A62 A70 A78 A79 (u0) A80 A81 A82 A83 f_46) (gx_invV (As := [Value.int 1, Value.int 3]) (rest := []) hx hb hown hts km_Mo_152 kI_Mo_wrong kV_Mo_wrong kc_Mo_wrong (by decide) (show (parseMethodDescriptor y_Mo_wrong.desc).map (fun d => d.parameters.length) = some 2 by decide +kernel) (gx_recv (ci := 8) hK hP rfl f_46) rfl rfl d_Mo_reader_108) (gx_cw (z := 0) hts kc_Mo_wrong kN_Mo rfl rfl ⟨Nat.le_of_ble_eq_true rfl, Nat.le_of_ble_eq_true rfl⟩) hb hml gx_blind (gx_pre hz hP hK hD hY hS hAz [Value.ref A46, Value.int 1, Value.int 3]) rfl hl.1 (lv_room (Nat.le_of_ble_eq_true rfl)) d_Mo_reader_108 ⟨Nat.le_of_ble_eq_true rfl, Nat.le_of_ble_eq_true rfl⟩ (fun v17 st17 t17 L17 h0_17 hW_17 hQ_17 hL_17 => ?_) (fun v17 st17 t17 L17 h0_17 hW_17 hQ_17 hL_17 => ?_)
                · obtain ⟨ws18, hp, hP9, -, hD9, hS9⟩ := gx_back h0_17 hW_17 hQ_17 hL_17 hD hS hA
                  clear hQ_17 h0_17 hL_17 hW_17 hP hD hS
                  have hP := hP9
                  have hD := hD9
                  have hS := hS9
                  clear hP9 hD9 hS9
                  rcases hp with ⟨hv9, e_ws18, f_46_ws18⟩
                  cases hv9
                  have f_46_ws18 : ws18[46]? = some ((A46, Sum.inr (8, [Value.int 3, Value.int 0, Value.ref A47, Value.ref A48, Value.ref A49, Value.int 0, Value.ref A50, Value.ref A51, Value.ref A52, Value.ref A53, Value.int 0, Value.int 0, Value.int 0, Value.int (-1), Value.int 0, Value.ref A54, Value.ref A62, Value.ref A70, Value.int 0, Value.int 0, Value.int 0, Value.ref A78, Value.ref A79, Value.int 0, Value.int 16, Value.int 4, u0, Value.ref A80, Value.ref A81, Value.ref A82, Value.int 0, Value.ref A83, Value.int 0, Value.int 0, Value.int 0])) : Nat × va_E) := f_46_ws18
                  replace hU : gx_g ws ws18 0 [46] := hU.call e_ws18 (by simp; first | done | omega)
                  refine W.eq (g2 := F0 m 111 ls [Value.int 1]) rfl ?_
                  generalize t17.heap = H at hP hS ⊢
                  generalize locs ++ L17 = locs at hS ⊢
                  refine lv_if_ne (tgt := 138) hx hb d_Mo_reader_111 (by decide) (fun _ => ?_) (fun c9 => absurd c9 (by decide))
                  refine lv_aload_n hx hb d_Mo_reader_138 rfl (lv_at hl 1 rfl) ?_
                  refine lv_iconst (v := 0) hx hb d_Mo_reader_139 (by decide) ?_
                  refine lv_ldc (v := 123456) hx hb hown (hts _ ki_Mo_253) d_Mo_reader_140 ?_
                  refine gx_call (ig := .invokevirtual 148) (c_Mo_done_v17 l htr D tys z _ ws18 A46 A47 A48 A49 A50 A51 A52 A53 A54 A62 A70 A78 A79 (u0) A80 A81 A82 A83 f_46_ws18) (gx_invV (As := [Value.int 0, Value.int 123456]) (rest := []) hx hb hown hts km_Mo_148 kI_Mo_done kV_Mo_done kc_Mo_done (by decide) (show (parseMethodDescriptor y_Mo_done.desc).map (fun d => d.parameters.length) = some 2 by decide +kernel) (gx_recv (ci := 8) hK hP rfl f_46_ws18) rfl rfl d_Mo_reader_142) (gx_cw (z := 0) hts kc_Mo_done kN_Mo rfl rfl ⟨Nat.le_of_ble_eq_true rfl, Nat.le_of_ble_eq_true rfl⟩) hb hml gx_blind (gx_pre hz hP hK hD hY hS hAz [Value.ref A46, Value.int 0, Value.int 123456]) rfl hl.1 (lv_room (Nat.le_of_ble_eq_true rfl)) d_Mo_reader_142 ⟨Nat.le_of_ble_eq_true rfl, Nat.le_of_ble_eq_true rfl⟩ (fun v19 st19 t19 L19 h0_19 hW_19 hQ_19 hL_19 => ?_) (fun v19 st19 t19 L19 h0_19 hW_19 hQ_19 hL_19 => ?_)
                  · obtain ⟨ws20, hp, hP9, -, hD9, hS9⟩ := gx_back h0_19 hW_19 hQ_19 hL_19 hD hS hA
                    clear hQ_19 h0_19 hL_19 hW_19 hP hD hS
                    have hP := hP9
                    have hD := hD9
                    have hS := hS9
                    clear hP9 hD9 hS9
                    rcases hp with ⟨hv9, e_ws20, f_46_ws20⟩
                    cases hv9
                    have f_46_ws20 : ws20[46]? = some ((A46, Sum.inr (8, [Value.int 0, Value.int 3, Value.ref A47, Value.ref A48, Value.ref A49, Value.int 0, Value.ref A50, Value.ref A51, Value.ref A52, Value.ref A53, Value.int 0, Value.int 0, Value.int 0, Value.int (-1), Value.int 0, Value.ref A54, Value.ref A62, Value.ref A70, Value.int 0, Value.int 0, Value.int 0, Value.ref A78, Value.ref A79, Value.int 0, Value.int 16, Value.int 4, u0, Value.ref A80, Value.ref A81, Value.ref A82, Value.int 0, Value.ref A83, Value.int 0, Value.int 0, Value.int 0])) : Nat × va_E) := f_46_ws20
                    replace hU : gx_g ws ws20 0 [46] := hU.call e_ws20 (by simp; first | done | omega)
                    refine W.eq (g2 := F0 m 145 ls [Value.int 0]) rfl ?_
                    generalize t19.heap = H at hP hS ⊢
                    generalize locs ++ L19 = locs at hS ⊢
                    exact gx_ret (W.iret (v := 0) hx hb hr (gx_post hP hK hD hS (by rw [← hPQ]; exact Or.inr (Or.inl ⟨rfl, hU, f_46_ws20, c27_1, c32_8, c50_11, c92_16⟩))) hS.2.2 d_Mo_reader_145)
                  · obtain ⟨E9, ws21, ce, hp, hce, hP9, -, hD9, hS9⟩ := gx_backT h0_19 hW_19 hQ_19 hL_19 hD hS hA
                    clear hQ_19 h0_19 hL_19 hW_19 hP hD hS
                    have hP := hP9
                    have hD := hD9
                    have hS := hS9
                    clear hP9 hD9 hS9
                    rcases hp with ⟨hv9, e_ws21, f_46_ws21⟩
                    cases hv9
                · obtain ⟨E9, ws22, ce, hp, hce, hP9, -, hD9, hS9⟩ := gx_backT h0_17 hW_17 hQ_17 hL_17 hD hS hA
                  clear hQ_17 h0_17 hL_17 hW_17 hP hD hS
                  have hP := hP9
                  have hD := hD9
                  have hS := hS9
                  clear hP9 hD9 hS9
                  rcases hp with ⟨hv9, e_ws22, f_46_ws22⟩
                  cases hv9
            · obtain ⟨E9, ws23, ce, hp, hce, hP9, -, hD9, hS9⟩ := gx_backT h0_14 hW_14 hQ_14 hL_14 hD hS hA
              clear hQ_14 h0_14 hL_14 hW_14 hP hD hS
              have hP := hP9
              have hD := hD9
              have hS := hS9
              clear hP9 hD9 hS9
              rcases hp with ⟨hv9, e_ws23⟩
              cases hv9
          · obtain ⟨E9, ws24, ce, hp, hce, hP9, -, hD9, hS9⟩ := gx_backT h0_12 hW_12 hQ_12 hL_12 hD hS hA
            clear hQ_12 h0_12 hL_12 hW_12 hP hD hS
            have hP := hP9
            have hD := hD9
            have hS := hS9
            clear hP9 hD9 hS9
            rcases hp with ⟨hv9, e_ws24⟩
            cases hv9
        · refine lv_aload_n hx hb d_Mo_reader_53 rfl (lv_at hl 1 rfl) ?_
          refine va_get (D := D) (ci := 8) (v := Value.int 0) (C := "CommitLedgerModel") (T := F_Mo) (N := 35) hx hb hts i_Mo hown hK hP 46 f_46 rfl 18 (by decide) (hts _ kf_Mo_99) (fun _ h9 => h9) rfl d_Mo_reader_54 ?_
          refine lv_if_ne (tgt := 64) hx hb d_Mo_reader_57 (by decide) (fun c9 => absurd (by decide) c9) (fun _ => ?_)
          refine lv_iconst (v := 1) hx hb d_Mo_reader_60 (by decide) ?_
          refine lv_goto (tgt := 65) hx hb d_Mo_reader_61 (by decide) ?_
          refine lv_iconst (v := 2) hx hb d_Mo_reader_65 (by decide) ?_
          refine gx_call (ig := .invokevirtual 152) (c_Mo_wrong_v5 l htr D tys z _ ws A46 A47 A48 A49 A50 A51 A52 A53 A54 A62 A70 A78 A79 (u0) A80 A81 A82 A83 f_46) (gx_invV (As := [Value.int 1, Value.int 2]) (rest := []) hx hb hown hts km_Mo_152 kI_Mo_wrong kV_Mo_wrong kc_Mo_wrong (by decide) (show (parseMethodDescriptor y_Mo_wrong.desc).map (fun d => d.parameters.length) = some 2 by decide +kernel) (gx_recv (ci := 8) hK hP rfl f_46) rfl rfl d_Mo_reader_66) (gx_cw (z := 0) hts kc_Mo_wrong kN_Mo rfl rfl ⟨Nat.le_of_ble_eq_true rfl, Nat.le_of_ble_eq_true rfl⟩) hb hml gx_blind (gx_pre hz hP hK hD hY hS hAz [Value.ref A46, Value.int 1, Value.int 2]) rfl hl.1 (lv_room (Nat.le_of_ble_eq_true rfl)) d_Mo_reader_66 ⟨Nat.le_of_ble_eq_true rfl, Nat.le_of_ble_eq_true rfl⟩ (fun v25 st25 t25 L25 h0_25 hW_25 hQ_25 hL_25 => ?_) (fun v25 st25 t25 L25 h0_25 hW_25 hQ_25 hL_25 => ?_)
          · obtain ⟨ws26, hp, hP9, -, hD9, hS9⟩ := gx_back h0_25 hW_25 hQ_25 hL_25 hD hS hA
            clear hQ_25 h0_25 hL_25 hW_25 hP hD hS
            have hP := hP9
            have hD := hD9
            have hS := hS9
            clear hP9 hD9 hS9
            rcases hp with ⟨hv9, e_ws26, f_46_ws26⟩
            cases hv9
            have f_46_ws26 : ws26[46]? = some ((A46, Sum.inr (8, [Value.int 2, Value.int 0, Value.ref A47, Value.ref A48, Value.ref A49, Value.int 0, Value.ref A50, Value.ref A51, Value.ref A52, Value.ref A53, Value.int 0, Value.int 0, Value.int 0, Value.int (-1), Value.int 0, Value.ref A54, Value.ref A62, Value.ref A70, Value.int 0, Value.int 0, Value.int 0, Value.ref A78, Value.ref A79, Value.int 0, Value.int 16, Value.int 4, u0, Value.ref A80, Value.ref A81, Value.ref A82, Value.int 0, Value.ref A83, Value.int 0, Value.int 0, Value.int 0])) : Nat × va_E) := f_46_ws26
            replace hU : gx_g ws ws26 0 [46] := hU.call e_ws26 (by simp; first | done | omega)
            refine W.eq (g2 := F0 m 69 ls [Value.int 1]) rfl ?_
            generalize t25.heap = H at hP hS ⊢
            generalize locs ++ L25 = locs at hS ⊢
            refine lv_if_ne (tgt := 138) hx hb d_Mo_reader_69 (by decide) (fun _ => ?_) (fun c9 => absurd c9 (by decide))
            refine lv_aload_n hx hb d_Mo_reader_138 rfl (lv_at hl 1 rfl) ?_
            refine lv_iconst (v := 0) hx hb d_Mo_reader_139 (by decide) ?_
            refine lv_ldc (v := 123456) hx hb hown (hts _ ki_Mo_253) d_Mo_reader_140 ?_
            refine gx_call (ig := .invokevirtual 148) (c_Mo_done_v18 l htr D tys z _ ws26 A46 A47 A48 A49 A50 A51 A52 A53 A54 A62 A70 A78 A79 (u0) A80 A81 A82 A83 f_46_ws26) (gx_invV (As := [Value.int 0, Value.int 123456]) (rest := []) hx hb hown hts km_Mo_148 kI_Mo_done kV_Mo_done kc_Mo_done (by decide) (show (parseMethodDescriptor y_Mo_done.desc).map (fun d => d.parameters.length) = some 2 by decide +kernel) (gx_recv (ci := 8) hK hP rfl f_46_ws26) rfl rfl d_Mo_reader_142) (gx_cw (z := 0) hts kc_Mo_done kN_Mo rfl rfl ⟨Nat.le_of_ble_eq_true rfl, Nat.le_of_ble_eq_true rfl⟩) hb hml gx_blind (gx_pre hz hP hK hD hY hS hAz [Value.ref A46, Value.int 0, Value.int 123456]) rfl hl.1 (lv_room (Nat.le_of_ble_eq_true rfl)) d_Mo_reader_142 ⟨Nat.le_of_ble_eq_true rfl, Nat.le_of_ble_eq_true rfl⟩ (fun v27 st27 t27 L27 h0_27 hW_27 hQ_27 hL_27 => ?_) (fun v27 st27 t27 L27 h0_27 hW_27 hQ_27 hL_27 => ?_)
            · obtain ⟨ws28, hp, hP9, -, hD9, hS9⟩ := gx_back h0_27 hW_27 hQ_27 hL_27 hD hS hA
              clear hQ_27 h0_27 hL_27 hW_27 hP hD hS
              have hP := hP9
              have hD := hD9
              have hS := hS9
              clear hP9 hD9 hS9
              rcases hp with ⟨hv9, e_ws28, f_46_ws28⟩
              cases hv9
              have f_46_ws28 : ws28[46]? = some ((A46, Sum.inr (8, [Value.int 0, Value.int 2, Value.ref A47, Value.ref A48, Value.ref A49, Value.int 0, Value.ref A50, Value.ref A51, Value.ref A52, Value.ref A53, Value.int 0, Value.int 0, Value.int 0, Value.int (-1), Value.int 0, Value.ref A54, Value.ref A62, Value.ref A70, Value.int 0, Value.int 0, Value.int 0, Value.ref A78, Value.ref A79, Value.int 0, Value.int 16, Value.int 4, u0, Value.ref A80, Value.ref A81, Value.ref A82, Value.int 0, Value.ref A83, Value.int 0, Value.int 0, Value.int 0])) : Nat × va_E) := f_46_ws28
              replace hU : gx_g ws ws28 0 [46] := hU.call e_ws28 (by simp; first | done | omega)
              refine W.eq (g2 := F0 m 145 ls [Value.int 0]) rfl ?_
              generalize t27.heap = H at hP hS ⊢
              generalize locs ++ L27 = locs at hS ⊢
              exact gx_ret (W.iret (v := 0) hx hb hr (gx_post hP hK hD hS (by rw [← hPQ]; exact Or.inr (Or.inr (Or.inl ⟨rfl, hU, f_46_ws28, c27_1, c32_8, c50_11⟩)))) hS.2.2 d_Mo_reader_145)
            · obtain ⟨E9, ws29, ce, hp, hce, hP9, -, hD9, hS9⟩ := gx_backT h0_27 hW_27 hQ_27 hL_27 hD hS hA
              clear hQ_27 h0_27 hL_27 hW_27 hP hD hS
              have hP := hP9
              have hD := hD9
              have hS := hS9
              clear hP9 hD9 hS9
              rcases hp with ⟨hv9, e_ws29, f_46_ws29⟩
              cases hv9
          · obtain ⟨E9, ws30, ce, hp, hce, hP9, -, hD9, hS9⟩ := gx_backT h0_25 hW_25 hQ_25 hL_25 hD hS hA
            clear hQ_25 h0_25 hL_25 hW_25 hP hD hS
            have hP := hP9
            have hD := hD9
            have hS := hS9
            clear hP9 hD9 hS9
            rcases hp with ⟨hv9, e_ws30, f_46_ws30⟩
            cases hv9
      · obtain ⟨E9, ws31, ce, hp, hce, hP9, -, hD9, hS9⟩ := gx_backT h0_9 hW_9 hQ_9 hL_9 hD hS hA
        clear hQ_9 h0_9 hL_9 hW_9 hP hD hS
        have hP := hP9
        have hD := hD9
        have hS := hS9
        clear hP9 hD9 hS9
        rcases hp with ⟨hv9, e_ws31⟩
        cases hv9
    · refine lv_iconst (v := 1) hx hb d_Mo_reader_35 (by decide) ?_
      refine lv_goto (tgt := 40) hx hb d_Mo_reader_36 (by decide) ?_
      refine lv_iconst (v := 1) hx hb d_Mo_reader_40 (by decide) ?_
      refine gx_call (ig := .invokevirtual 152) (c_Mo_wrong_v1 l htr D tys z _ ws A46 A47 A48 A49 A50 A51 A52 A53 A54 A62 A70 A78 A79 (u0) A80 A81 A82 A83 f_46) (gx_invV (As := [Value.int 1, Value.int 1]) (rest := []) hx hb hown hts km_Mo_152 kI_Mo_wrong kV_Mo_wrong kc_Mo_wrong (by decide) (show (parseMethodDescriptor y_Mo_wrong.desc).map (fun d => d.parameters.length) = some 2 by decide +kernel) (gx_recv (ci := 8) hK hP rfl f_46) rfl rfl d_Mo_reader_41) (gx_cw (z := 0) hts kc_Mo_wrong kN_Mo rfl rfl ⟨Nat.le_of_ble_eq_true rfl, Nat.le_of_ble_eq_true rfl⟩) hb hml gx_blind (gx_pre hz hP hK hD hY hS hAz [Value.ref A46, Value.int 1, Value.int 1]) rfl hl.1 (lv_room (Nat.le_of_ble_eq_true rfl)) d_Mo_reader_41 ⟨Nat.le_of_ble_eq_true rfl, Nat.le_of_ble_eq_true rfl⟩ (fun v32 st32 t32 L32 h0_32 hW_32 hQ_32 hL_32 => ?_) (fun v32 st32 t32 L32 h0_32 hW_32 hQ_32 hL_32 => ?_)
      · obtain ⟨ws33, hp, hP9, -, hD9, hS9⟩ := gx_back h0_32 hW_32 hQ_32 hL_32 hD hS hA
        clear hQ_32 h0_32 hL_32 hW_32 hP hD hS
        have hP := hP9
        have hD := hD9
        have hS := hS9
        clear hP9 hD9 hS9
        rcases hp with ⟨hv9, e_ws33, f_46_ws33⟩
        cases hv9
        have f_46_ws33 : ws33[46]? = some ((A46, Sum.inr (8, [Value.int 1, Value.int 0, Value.ref A47, Value.ref A48, Value.ref A49, Value.int 0, Value.ref A50, Value.ref A51, Value.ref A52, Value.ref A53, Value.int 0, Value.int 0, Value.int 0, Value.int (-1), Value.int 0, Value.ref A54, Value.ref A62, Value.ref A70, Value.int 0, Value.int 0, Value.int 0, Value.ref A78, Value.ref A79, Value.int 0, Value.int 16, Value.int 4, u0, Value.ref A80, Value.ref A81, Value.ref A82, Value.int 0, Value.ref A83, Value.int 0, Value.int 0, Value.int 0])) : Nat × va_E) := f_46_ws33
        replace hU : gx_g ws ws33 0 [46] := hU.call e_ws33 (by simp; first | done | omega)
        refine W.eq (g2 := F0 m 44 ls [Value.int 1]) rfl ?_
        generalize t32.heap = H at hP hS ⊢
        generalize [] ++ L32 = locs at hS ⊢
        refine lv_if_ne (tgt := 138) hx hb d_Mo_reader_44 (by decide) (fun _ => ?_) (fun c9 => absurd c9 (by decide))
        refine lv_aload_n hx hb d_Mo_reader_138 rfl (lv_at hl 1 rfl) ?_
        refine lv_iconst (v := 0) hx hb d_Mo_reader_139 (by decide) ?_
        refine lv_ldc (v := 123456) hx hb hown (hts _ ki_Mo_253) d_Mo_reader_140 ?_
        refine gx_call (ig := .invokevirtual 148) (c_Mo_done_v16 l htr D tys z _ ws33 A46 A47 A48 A49 A50 A51 A52 A53 A54 A62 A70 A78 A79 (u0) A80 A81 A82 A83 f_46_ws33) (gx_invV (As := [Value.int 0, Value.int 123456]) (rest := []) hx hb hown hts km_Mo_148 kI_Mo_done kV_Mo_done kc_Mo_done (by decide) (show (parseMethodDescriptor y_Mo_done.desc).map (fun d => d.parameters.length) = some 2 by decide +kernel) (gx_recv (ci := 8) hK hP rfl f_46_ws33) rfl rfl d_Mo_reader_142) (gx_cw (z := 0) hts kc_Mo_done kN_Mo rfl rfl ⟨Nat.le_of_ble_eq_true rfl, Nat.le_of_ble_eq_true rfl⟩) hb hml gx_blind (gx_pre hz hP hK hD hY hS hAz [Value.ref A46, Value.int 0, Value.int 123456]) rfl hl.1 (lv_room (Nat.le_of_ble_eq_true rfl)) d_Mo_reader_142 ⟨Nat.le_of_ble_eq_true rfl, Nat.le_of_ble_eq_true rfl⟩ (fun v34 st34 t34 L34 h0_34 hW_34 hQ_34 hL_34 => ?_) (fun v34 st34 t34 L34 h0_34 hW_34 hQ_34 hL_34 => ?_)
        · obtain ⟨ws35, hp, hP9, -, hD9, hS9⟩ := gx_back h0_34 hW_34 hQ_34 hL_34 hD hS hA
          clear hQ_34 h0_34 hL_34 hW_34 hP hD hS
          have hP := hP9
          have hD := hD9
          have hS := hS9
          clear hP9 hD9 hS9
          rcases hp with ⟨hv9, e_ws35, f_46_ws35⟩
          cases hv9
          have f_46_ws35 : ws35[46]? = some ((A46, Sum.inr (8, [Value.int 0, Value.int 1, Value.ref A47, Value.ref A48, Value.ref A49, Value.int 0, Value.ref A50, Value.ref A51, Value.ref A52, Value.ref A53, Value.int 0, Value.int 0, Value.int 0, Value.int (-1), Value.int 0, Value.ref A54, Value.ref A62, Value.ref A70, Value.int 0, Value.int 0, Value.int 0, Value.ref A78, Value.ref A79, Value.int 0, Value.int 16, Value.int 4, u0, Value.ref A80, Value.ref A81, Value.ref A82, Value.int 0, Value.ref A83, Value.int 0, Value.int 0, Value.int 0])) : Nat × va_E) := f_46_ws35
          replace hU : gx_g ws ws35 0 [46] := hU.call e_ws35 (by simp; first | done | omega)
          refine W.eq (g2 := F0 m 145 ls [Value.int 0]) rfl ?_
          generalize t34.heap = H at hP hS ⊢
          generalize locs ++ L34 = locs at hS ⊢
          exact gx_ret (W.iret (v := 0) hx hb hr (gx_post hP hK hD hS (by rw [← hPQ]; exact Or.inr (Or.inr (Or.inr (⟨rfl, hU, f_46_ws35, c27_1, c32_8⟩))))) hS.2.2 d_Mo_reader_145)
        · obtain ⟨E9, ws36, ce, hp, hce, hP9, -, hD9, hS9⟩ := gx_backT h0_34 hW_34 hQ_34 hL_34 hD hS hA
          clear hQ_34 h0_34 hL_34 hW_34 hP hD hS
          have hP := hP9
          have hD := hD9
          have hS := hS9
          clear hP9 hD9 hS9
          rcases hp with ⟨hv9, e_ws36, f_46_ws36⟩
          cases hv9
      · obtain ⟨E9, ws37, ce, hp, hce, hP9, -, hD9, hS9⟩ := gx_backT h0_32 hW_32 hQ_32 hL_32 hD hS hA
        clear hQ_32 h0_32 hL_32 hW_32 hP hD hS
        have hP := hP9
        have hD := hD9
        have hS := hS9
        clear hP9 hD9 hS9
        rcases hp with ⟨hv9, e_ws37, f_46_ws37⟩
        cases hv9

set_option maxHeartbeats 4000000 in
set_option maxRecDepth 100000 in
theorem c_Mo_reading_v1 (l : Launch) (htr : l.stackTraces = false) (D : va_G) (tys : List (ClassId × FieldType)) (z sz : Nat) (ws : va_W) (cV : ClassId) (A46 : Nat) (p0 : Int32) (A47 : Nat) (A48 : Nat) (A49 : Nat) (A50 : Nat) (A51 : Nat) (A52 : Nat) (A53 : Nat) (A54 : Nat) (A62 : Nat) (A70 : Nat) (A78 : Nat) (A79 : Nat) (u0 : Value) (A80 : Nat) (A81 : Nat) (A82 : Nat) (A83 : Nat) (A84 : Nat) (A85 : Nat) (A86 : Nat) (A87 : Nat) (A88 : Nat) (A89 : Nat) (A90 : Nat) (A91 : Nat) (A92 : Nat) (A93 : Nat) (A94 : Nat) (A95 : Nat) (A96 : Nat) (A97 : Nat) (A98 : Nat) (A99 : Nat) (A100 : Nat) (A101 : Nat) (A102 : Nat) (A103 : Nat) (A104 : Nat) (A105 : Nat) (A106 : Nat) (A107 : Nat) (A108 : Nat) (A109 : Nat) (A110 : Nat) (A111 : Nat) (A112 : Nat) (A113 : Nat) (A114 : Nat) (A115 : Nat) (f_46 : ws[46]? = some ((A46, Sum.inr (8, [Value.int 0, Value.int 0, Value.ref A47, Value.ref A48, Value.ref A49, Value.int 0, Value.ref A50, Value.ref A51, Value.ref A52, Value.ref A53, Value.int 0, Value.int 0, Value.int 0, Value.int (-1), Value.int 0, Value.ref A54, Value.ref A62, Value.ref A70, Value.int 0, Value.int 0, Value.int 0, Value.ref A78, Value.ref A79, Value.int 0, Value.int 16, Value.int 4, u0, Value.ref A80, Value.ref A81, Value.ref A82, Value.int 0, Value.ref A83, Value.int 0, Value.int 0, Value.int 0])) : Nat × va_E)) (f_84 : ws[84]? = some ((A84, Sum.inr (9, [Value.ref A85, Value.ref A86, Value.ref A87, Value.ref A88, Value.ref A89, Value.ref A90, Value.ref A91, Value.int 0, Value.int 0, Value.int 0, Value.int 0])) : Nat × va_E)) (f_92 : ws[92]? = some ((A92, Sum.inr (9, [Value.ref A93, Value.ref A94, Value.ref A95, Value.ref A96, Value.ref A97, Value.ref A98, Value.ref A99, Value.int 0, Value.int 0, Value.int 0, Value.int 0])) : Nat × va_E)) (f_100 : ws[100]? = some ((A100, Sum.inr (9, [Value.ref A101, Value.ref A102, Value.ref A103, Value.ref A104, Value.ref A105, Value.ref A106, Value.ref A107, Value.int 0, Value.int 0, Value.int 0, Value.int 0])) : Nat × va_E)) (f_108 : ws[108]? = some ((A108, Sum.inr (9, [Value.ref A109, Value.ref A110, Value.ref A111, Value.ref A112, Value.ref A113, Value.ref A114, Value.ref A115, Value.int 0, Value.int 0, Value.int 0, Value.int 0])) : Nat × va_E)) (f_83 : ws[83]? = some ((A83, Sum.inl (cV, 4, Sum.inr (Sum.inr (Sum.inr (Sum.inr (va_up (va_up (va_up (va_up (fun _ => none) 0 (some A84)) 1 (some A92)) 2 (some A100)) 3 (some A108))))))) : Nat × va_E)) (ht5 : tys[5]? = some ((cV, FieldType.object "CommitLedgerModel$Version") : ClassId × FieldType)) : gx_Met l y_Mo_reading [Cond.code y_Mo_reading b_Mo_reading 6 (some (.object "CommitLedgerModel$Version"))] { frames := 1, cells := 0, slots := 0, locals := 12 } (gx_P z sz D classes tys ws [Value.ref A46, Value.int p0]) (gx_Q D classes tys (va_A ws sz) (fun r ws' => (r = Sum.inl (some (Value.ref A84)) ∧ gx_g ws ws' 0 [46] ∧ ws'[46]? = some ((A46, Sum.inr (8, [Value.int 3, Value.int 0, Value.ref A47, Value.ref A48, Value.ref A49, Value.int 0, Value.ref A50, Value.ref A51, Value.ref A52, Value.ref A53, Value.int 0, Value.int 0, Value.int 0, Value.int (-1), Value.int 0, Value.ref A54, Value.ref A62, Value.ref A70, Value.int 0, Value.int 0, Value.int 0, Value.ref A78, Value.ref A79, Value.int 0, Value.int 16, Value.int 4, u0, Value.ref A80, Value.ref A81, Value.ref A82, Value.int 0, Value.ref A83, Value.int 0, Value.int 0, Value.int 0])) : Nat × va_E)))) 0 0 (va_A ws sz) := by
  refine gx_ofW (cc := b_Mo_reading) (maxL := 6) (ret := (some (.object "CommitLedgerModel$Version"))) (by decide) rfl ?_
  intro p e s m args below meth c s₁ B hml hv
  obtain ⟨rfl, hsz, hz, hP, hK, hD0, hY⟩ := hv
  have hx := B.exec
  have hb := B.bytes
  have hr := B.returns
  have hts := hY.hts (#[Value.ref A46, Value.int p0] : Array Value)
  have hown : s.vm.findClass "CommitLedgerModel" = some m.cls := findClass_of_methodNamed B.named
  have hlocks := B.notSynchronized
  have hne : c.exceptionTable.isEmpty = true := B.noHandlers (atoms_spec (ws := [Cond.code y_Mo_reading b_Mo_reading 6 (some (.object "CommitLedgerModel$Version"))]) B.pre _ List.mem_cons_self)
  subst hsz
  have hAz := gx_az hD0 hz
  have hD := hD0.self (sz := s.heap.size)
  have hN := gx_ns hP
  have hA : ∀ q : Nat, s.heap.size ≤ q → va_A ws s.heap.size q := fun q h => Or.inr h
  generalize va_A ws s.heap.size = A at hD hN hA hAz ⊢
  generalize hPQ : (fun (r : Option Value ⊕ String) (ws' : va_W) => (r = Sum.inl (some (Value.ref A84)) ∧ gx_g ws ws' 0 [46] ∧ ws'[46]? = some ((A46, Sum.inr (8, [Value.int 3, Value.int 0, Value.ref A47, Value.ref A48, Value.ref A49, Value.int 0, Value.ref A50, Value.ref A51, Value.ref A52, Value.ref A53, Value.int 0, Value.int 0, Value.int 0, Value.int (-1), Value.int 0, Value.ref A54, Value.ref A62, Value.ref A70, Value.int 0, Value.int 0, Value.int 0, Value.ref A78, Value.ref A79, Value.int 0, Value.int 16, Value.int 4, u0, Value.ref A80, Value.ref A81, Value.ref A82, Value.int 0, Value.ref A83, Value.int 0, Value.int 0, Value.int 0])) : Nat × va_E))) = PQ
  have hS : va_S A s.heap s.heap [] := va_S.rf
  have hU : gx_g ws ws 0 [46] := gx_g.rf
  have hl := lv_entry ([Value.ref A46, Value.int p0]) (n := 6) (Nat.le_of_ble_eq_true rfl)
  rw [lg_entry_eq]
  generalize (lg_sl ([Value.ref A46, Value.int p0]) ++ List.replicate (6 - (lg_sl ([Value.ref A46, Value.int p0])).length) Slot.unset).toArray = ls at hl ⊢
  have hl : lv_has ls 6 [(0, Value.ref A46), (1, Value.int p0)] := hl
  refine lv_aload_n hx hb d_Mo_reading_0 rfl (lv_at hl 0 rfl) ?_
  refine va_get (D := D) (ci := 8) (v := Value.ref A83) (C := "CommitLedgerModel") (T := F_Mo) (N := 35) hx hb hts i_Mo hown hK hP 46 f_46 rfl 31 (by decide) (hts _ kf_Mo_76) (fun _ h9 => h9) rfl d_Mo_reading_1 ?_
  refine lv_astore_n (lv' := [(2, Value.ref A83), (0, Value.ref A46), (1, Value.int p0)]) hx hb d_Mo_reading_4 rfl hl (by decide) rfl (fun ls hl => ?_)
  refine lv_aload_n hx hb d_Mo_reading_5 rfl (lv_at hl 0 rfl) ?_
  refine va_alen (D := D) (v := 4) hx hb hK hP 83 5 f_83 ht5 rfl d_Mo_reading_6 ?_
  refine lv_istore_n (lv' := [(3, Value.int 4), (2, Value.ref A83), (0, Value.ref A46), (1, Value.int p0)]) hx hb d_Mo_reading_7 rfl hl (by decide) rfl (fun ls hl => ?_)
  refine lv_iconst (v := 0) hx hb d_Mo_reading_8 (by decide) ?_
  refine lv_istore (lv' := [(4, Value.int 0), (3, Value.int 4), (2, Value.ref A83), (0, Value.ref A46), (1, Value.int p0)]) hx hb d_Mo_reading_9 hl (by decide) rfl (fun ls hl => ?_)
  refine lv_iload hx hb d_Mo_reading_11 (lv_at hl 0 rfl) ?_
  refine lv_iload_n hx hb d_Mo_reading_13 rfl (lv_at hl 1 rfl) ?_
  refine lv_icmp_ge (tgt := 49) hx hb d_Mo_reading_14 (by decide) (fun c9 => absurd c9 (by decide)) (fun _ => ?_)
  refine lv_aload_n hx hb d_Mo_reading_17 rfl (lv_at hl 2 rfl) ?_
  refine lv_iload hx hb d_Mo_reading_18 (lv_at hl 0 rfl) ?_
  refine gx_aald (D := D) (b := A84) (j := 0) hx hb hK hP 83 5 f_83 ht5 (gx_inl (by decide)) (by decide) (rfl) d_Mo_reading_20 ?_
  refine lv_astore (lv' := [(5, Value.ref A84), (4, Value.int 0), (3, Value.int 4), (2, Value.ref A83), (0, Value.ref A46), (1, Value.int p0)]) hx hb d_Mo_reading_21 hl (by decide) rfl (fun ls hl => ?_)
  refine lv_aload hx hb d_Mo_reading_23 (lv_at hl 0 rfl) ?_
  refine va_get (D := D) (ci := 9) (v := Value.int 0) (C := "CommitLedgerModel$Version") (T := F_Ve) (N := 11) hx hb hts i_Ve hown hK hP 84 f_84 rfl 10 (by decide) (hts _ kf_Mo_103) (fun _ h9 => h9) rfl d_Mo_reading_25 ?_
  refine lv_if_le (tgt := 43) hx hb d_Mo_reading_28 (by decide) (fun _ => ?_) (fun c9 => absurd (by decide) c9)
  refine lv_iinc (v := 1) (lv' := [(4, Value.int 1), (5, Value.ref A84), (3, Value.int 4), (2, Value.ref A83), (0, Value.ref A46), (1, Value.int p0)]) hx hb d_Mo_reading_43 hl (k := 1) rfl (by decide) (by decide) rfl (fun ls hl => ?_)
  refine lv_goto (tgt := 11) hx hb d_Mo_reading_46 (by decide) ?_
  refine lv_iload hx hb d_Mo_reading_11 (lv_at hl 0 rfl) ?_
  refine lv_iload_n hx hb d_Mo_reading_13 rfl (lv_at hl 2 rfl) ?_
  refine lv_icmp_ge (tgt := 49) hx hb d_Mo_reading_14 (by decide) (fun c9 => absurd c9 (by decide)) (fun _ => ?_)
  refine lv_aload_n hx hb d_Mo_reading_17 rfl (lv_at hl 3 rfl) ?_
  refine lv_iload hx hb d_Mo_reading_18 (lv_at hl 0 rfl) ?_
  refine gx_aald (D := D) (b := A92) (j := 1) hx hb hK hP 83 5 f_83 ht5 (gx_inl (by decide)) (by decide) (rfl) d_Mo_reading_20 ?_
  refine lv_astore (lv' := [(5, Value.ref A92), (4, Value.int 1), (3, Value.int 4), (2, Value.ref A83), (0, Value.ref A46), (1, Value.int p0)]) hx hb d_Mo_reading_21 hl (by decide) rfl (fun ls hl => ?_)
  refine lv_aload hx hb d_Mo_reading_23 (lv_at hl 0 rfl) ?_
  refine va_get (D := D) (ci := 9) (v := Value.int 0) (C := "CommitLedgerModel$Version") (T := F_Ve) (N := 11) hx hb hts i_Ve hown hK hP 92 f_92 rfl 10 (by decide) (hts _ kf_Mo_103) (fun _ h9 => h9) rfl d_Mo_reading_25 ?_
  refine lv_if_le (tgt := 43) hx hb d_Mo_reading_28 (by decide) (fun _ => ?_) (fun c9 => absurd (by decide) c9)
  refine lv_iinc (v := 2) (lv' := [(4, Value.int 2), (5, Value.ref A92), (3, Value.int 4), (2, Value.ref A83), (0, Value.ref A46), (1, Value.int p0)]) hx hb d_Mo_reading_43 hl (k := 1) rfl (by decide) (by decide) rfl (fun ls hl => ?_)
  refine lv_goto (tgt := 11) hx hb d_Mo_reading_46 (by decide) ?_
  refine lv_iload hx hb d_Mo_reading_11 (lv_at hl 0 rfl) ?_
  refine lv_iload_n hx hb d_Mo_reading_13 rfl (lv_at hl 2 rfl) ?_
  refine lv_icmp_ge (tgt := 49) hx hb d_Mo_reading_14 (by decide) (fun c9 => absurd c9 (by decide)) (fun _ => ?_)
  refine lv_aload_n hx hb d_Mo_reading_17 rfl (lv_at hl 3 rfl) ?_
  refine lv_iload hx hb d_Mo_reading_18 (lv_at hl 0 rfl) ?_
  refine gx_aald (D := D) (b := A100) (j := 2) hx hb hK hP 83 5 f_83 ht5 (gx_inl (by decide)) (by decide) (rfl) d_Mo_reading_20 ?_
  refine lv_astore (lv' := [(5, Value.ref A100), (4, Value.int 2), (3, Value.int 4), (2, Value.ref A83), (0, Value.ref A46), (1, Value.int p0)]) hx hb d_Mo_reading_21 hl (by decide) rfl (fun ls hl => ?_)
  refine lv_aload hx hb d_Mo_reading_23 (lv_at hl 0 rfl) ?_
  refine va_get (D := D) (ci := 9) (v := Value.int 0) (C := "CommitLedgerModel$Version") (T := F_Ve) (N := 11) hx hb hts i_Ve hown hK hP 100 f_100 rfl 10 (by decide) (hts _ kf_Mo_103) (fun _ h9 => h9) rfl d_Mo_reading_25 ?_
  refine lv_if_le (tgt := 43) hx hb d_Mo_reading_28 (by decide) (fun _ => ?_) (fun c9 => absurd (by decide) c9)
  refine lv_iinc (v := 3) (lv' := [(4, Value.int 3), (5, Value.ref A100), (3, Value.int 4), (2, Value.ref A83), (0, Value.ref A46), (1, Value.int p0)]) hx hb d_Mo_reading_43 hl (k := 1) rfl (by decide) (by decide) rfl (fun ls hl => ?_)
  refine lv_goto (tgt := 11) hx hb d_Mo_reading_46 (by decide) ?_
  refine lv_iload hx hb d_Mo_reading_11 (lv_at hl 0 rfl) ?_
  refine lv_iload_n hx hb d_Mo_reading_13 rfl (lv_at hl 2 rfl) ?_
  refine lv_icmp_ge (tgt := 49) hx hb d_Mo_reading_14 (by decide) (fun c9 => absurd c9 (by decide)) (fun _ => ?_)
  refine lv_aload_n hx hb d_Mo_reading_17 rfl (lv_at hl 3 rfl) ?_
  refine lv_iload hx hb d_Mo_reading_18 (lv_at hl 0 rfl) ?_
  refine gx_aald (D := D) (b := A108) (j := 3) hx hb hK hP 83 5 f_83 ht5 (gx_inl (by decide)) (by decide) (rfl) d_Mo_reading_20 ?_
  refine lv_astore (lv' := [(5, Value.ref A108), (4, Value.int 3), (3, Value.int 4), (2, Value.ref A83), (0, Value.ref A46), (1, Value.int p0)]) hx hb d_Mo_reading_21 hl (by decide) rfl (fun ls hl => ?_)
  refine lv_aload hx hb d_Mo_reading_23 (lv_at hl 0 rfl) ?_
  refine va_get (D := D) (ci := 9) (v := Value.int 0) (C := "CommitLedgerModel$Version") (T := F_Ve) (N := 11) hx hb hts i_Ve hown hK hP 108 f_108 rfl 10 (by decide) (hts _ kf_Mo_103) (fun _ h9 => h9) rfl d_Mo_reading_25 ?_
  refine lv_if_le (tgt := 43) hx hb d_Mo_reading_28 (by decide) (fun _ => ?_) (fun c9 => absurd (by decide) c9)
  refine lv_iinc (v := 4) (lv' := [(4, Value.int 4), (5, Value.ref A108), (3, Value.int 4), (2, Value.ref A83), (0, Value.ref A46), (1, Value.int p0)]) hx hb d_Mo_reading_43 hl (k := 1) rfl (by decide) (by decide) rfl (fun ls hl => ?_)
  refine lv_goto (tgt := 11) hx hb d_Mo_reading_46 (by decide) ?_
  refine lv_iload hx hb d_Mo_reading_11 (lv_at hl 0 rfl) ?_
  refine lv_iload_n hx hb d_Mo_reading_13 rfl (lv_at hl 2 rfl) ?_
  refine lv_icmp_ge (tgt := 49) hx hb d_Mo_reading_14 (by decide) (fun _ => ?_) (fun c9 => absurd (by decide) c9)
  refine lv_aload_n hx hb d_Mo_reading_49 rfl (lv_at hl 4 rfl) ?_
  refine lv_aload_n hx hb d_Mo_reading_50 rfl (lv_at hl 4 rfl) ?_
  refine va_get (D := D) (ci := 8) (v := Value.int 0) (C := "CommitLedgerModel") (T := F_Mo) (N := 35) hx hb hts i_Mo hown hK hP 46 f_46 rfl 0 (by decide) (hts _ kf_Mo_84) (fun _ h9 => h9) rfl d_Mo_reading_51 ?_
  refine lv_if_ne (tgt := 61) hx hb d_Mo_reading_54 (by decide) (fun c9 => absurd (by decide) c9) (fun _ => ?_)
  refine lv_iconst (v := 3) hx hb d_Mo_reading_57 (by decide) ?_
  refine lv_goto (tgt := 65) hx hb d_Mo_reading_58 (by decide) ?_
  refine va_put (D := D) (ci := 8) (v := Value.int 3) (ty := .int) (C := "CommitLedgerModel") (T := F_Mo) (N := 35) hx hb hts i_Mo t_Mo t_Mo_ok n_Mo hown hK hP hD hS 46 f_46 rfl 0 (by decide) (hts _ kf_Mo_84) (fun _ h9 => h9) rfl (by decide +kernel) rfl rfl (Nat.le_of_ble_eq_true rfl) d_Mo_reading_65 (fun H locs hP9 hD9 hS9 => ?_)
  obtain ⟨ws1, e_ws1⟩ : ∃ x : va_W, x = ws.set 46 ((A46, Sum.inr (8, [Value.int 3, Value.int 0, Value.ref A47, Value.ref A48, Value.ref A49, Value.int 0, Value.ref A50, Value.ref A51, Value.ref A52, Value.ref A53, Value.int 0, Value.int 0, Value.int 0, Value.int (-1), Value.int 0, Value.ref A54, Value.ref A62, Value.ref A70, Value.int 0, Value.int 0, Value.int 0, Value.ref A78, Value.ref A79, Value.int 0, Value.int 16, Value.int 4, u0, Value.ref A80, Value.ref A81, Value.ref A82, Value.int 0, Value.ref A83, Value.int 0, Value.int 0, Value.int 0])) : Nat × va_E) := ⟨_, rfl⟩
  replace hP : va_P D classes ws1 H := by rw [e_ws1]; exact hP9
  replace hD : va_D A ws1 := by rw [e_ws1]; exact hD9
  replace hS := hS9
  clear hP9 hD9 hS9
  have f_46_ws1 : ws1[46]? = some ((A46, Sum.inr (8, [Value.int 3, Value.int 0, Value.ref A47, Value.ref A48, Value.ref A49, Value.int 0, Value.ref A50, Value.ref A51, Value.ref A52, Value.ref A53, Value.int 0, Value.int 0, Value.int 0, Value.int (-1), Value.int 0, Value.ref A54, Value.ref A62, Value.ref A70, Value.int 0, Value.int 0, Value.int 0, Value.ref A78, Value.ref A79, Value.int 0, Value.int 16, Value.int 4, u0, Value.ref A80, Value.ref A81, Value.ref A82, Value.int 0, Value.ref A83, Value.int 0, Value.int 0, Value.int 0])) : Nat × va_E) := by rw [e_ws1]; exact gs_self f_46
  replace hU : gx_g ws ws1 0 [46] := by rw [e_ws1]; exact hU.put (Or.inl (by simp))
  refine lv_aload_n hx hb d_Mo_reading_68 rfl (lv_at hl 4 rfl) ?_
  refine va_get (D := D) (ci := 8) (v := Value.ref A83) (C := "CommitLedgerModel") (T := F_Mo) (N := 35) hx hb hts i_Mo hown hK hP 46 f_46_ws1 rfl 31 (by decide) (hts _ kf_Mo_76) (fun _ h9 => h9) rfl d_Mo_reading_69 ?_
  refine lv_iconst (v := 0) hx hb d_Mo_reading_72 (by decide) ?_
  have f_83_ws1 : ws1[83]? = some ((A83, Sum.inl (cV, 4, Sum.inr (Sum.inr (Sum.inr (Sum.inr (va_up (va_up (va_up (va_up (fun _ => none) 0 (some A84)) 1 (some A92)) 2 (some A100)) 3 (some A108))))))) : Nat × va_E) := by rw [e_ws1]; exact gs_ne (by decide) f_83
  clear f_83
  refine gx_aald (D := D) (b := A84) (j := 0) hx hb hK hP 83 5 f_83_ws1 ht5 (gx_inl (by decide)) (by decide) (rfl) d_Mo_reading_73 ?_
  exact gx_ret (W.aret (v := Value.ref A84) hx hb hr (Or.inl ⟨_, rfl⟩) (Or.inr ⟨_, rfl⟩) (gx_post hP hK hD hS (by rw [← hPQ]; exact ⟨rfl, hU, f_46_ws1⟩)) hS.2.2 d_Mo_reading_74)

set_option maxHeartbeats 4000000 in
set_option maxRecDepth 100000 in
theorem c_Mo_keepNeeded_v4 (l : Launch) (htr : l.stackTraces = false) (D : va_G) (tys : List (ClassId × FieldType)) (z sz : Nat) (ws : va_W) (A46 : Nat) (A47 : Nat) (A48 : Nat) (A49 : Nat) (A50 : Nat) (A51 : Nat) (A52 : Nat) (A53 : Nat) (A54 : Nat) (A62 : Nat) (A70 : Nat) (A78 : Nat) (A79 : Nat) (u0 : Value) (A80 : Nat) (A81 : Nat) (A82 : Nat) (A83 : Nat) (f_46 : ws[46]? = some ((A46, Sum.inr (8, [Value.int 3, Value.int 0, Value.ref A47, Value.ref A48, Value.ref A49, Value.int 0, Value.ref A50, Value.ref A51, Value.ref A52, Value.ref A53, Value.int 0, Value.int 0, Value.int 0, Value.int (-1), Value.int 0, Value.ref A54, Value.ref A62, Value.ref A70, Value.int 0, Value.int 0, Value.int 0, Value.ref A78, Value.ref A79, Value.int 0, Value.int 16, Value.int 4, u0, Value.ref A80, Value.ref A81, Value.ref A82, Value.int 0, Value.ref A83, Value.int 0, Value.int 0, Value.int 0])) : Nat × va_E)) : gx_Met l y_Mo_keepNeeded [Cond.code y_Mo_keepNeeded b_Mo_keepNeeded 3 none] { frames := 1, cells := 0, slots := 0, locals := 12 } (gx_P z sz D classes tys ws [Value.ref A46]) (gx_Q D classes tys (va_A ws sz) (fun r ws' => (r = Sum.inl none ∧ gx_g ws ws' 0 [46] ∧ ws'[46]? = some ((A46, Sum.inr (8, [Value.int 3, Value.int 0, Value.ref A47, Value.ref A48, Value.ref A49, Value.int 0, Value.ref A50, Value.ref A51, Value.ref A52, Value.ref A53, Value.int 0, Value.int 0, Value.int 0, Value.int (-1), Value.int 0, Value.ref A54, Value.ref A62, Value.ref A70, Value.int 0, Value.int 0, Value.int 0, Value.ref A78, Value.ref A79, Value.int 0, Value.int 16, Value.int 4, u0, Value.ref A80, Value.ref A81, Value.ref A82, Value.int 0, Value.ref A83, Value.int 0, Value.int 0, Value.int 0])) : Nat × va_E)))) 0 0 (va_A ws sz) := by
  refine gx_ofW (cc := b_Mo_keepNeeded) (maxL := 3) (ret := none) (by decide) rfl ?_
  intro p e s m args below meth c s₁ B hml hv
  obtain ⟨rfl, hsz, hz, hP, hK, hD0, hY⟩ := hv
  have hx := B.exec
  have hb := B.bytes
  have hr := B.returns
  have hts := hY.hts (#[Value.ref A46] : Array Value)
  have hown : s.vm.findClass "CommitLedgerModel" = some m.cls := findClass_of_methodNamed B.named
  have hlocks := B.notSynchronized
  have hne : c.exceptionTable.isEmpty = true := B.noHandlers (atoms_spec (ws := [Cond.code y_Mo_keepNeeded b_Mo_keepNeeded 3 none]) B.pre _ List.mem_cons_self)
  subst hsz
  have hAz := gx_az hD0 hz
  have hD := hD0.self (sz := s.heap.size)
  have hN := gx_ns hP
  have hA : ∀ q : Nat, s.heap.size ≤ q → va_A ws s.heap.size q := fun q h => Or.inr h
  generalize va_A ws s.heap.size = A at hD hN hA hAz ⊢
  generalize hPQ : (fun (r : Option Value ⊕ String) (ws' : va_W) => (r = Sum.inl none ∧ gx_g ws ws' 0 [46] ∧ ws'[46]? = some ((A46, Sum.inr (8, [Value.int 3, Value.int 0, Value.ref A47, Value.ref A48, Value.ref A49, Value.int 0, Value.ref A50, Value.ref A51, Value.ref A52, Value.ref A53, Value.int 0, Value.int 0, Value.int 0, Value.int (-1), Value.int 0, Value.ref A54, Value.ref A62, Value.ref A70, Value.int 0, Value.int 0, Value.int 0, Value.ref A78, Value.ref A79, Value.int 0, Value.int 16, Value.int 4, u0, Value.ref A80, Value.ref A81, Value.ref A82, Value.int 0, Value.ref A83, Value.int 0, Value.int 0, Value.int 0])) : Nat × va_E))) = PQ
  have hS : va_S A s.heap s.heap [] := va_S.rf
  have hU : gx_g ws ws 0 [46] := gx_g.rf
  have hl := lv_entry ([Value.ref A46]) (n := 3) (Nat.le_of_ble_eq_true rfl)
  rw [lg_entry_eq]
  generalize (lg_sl ([Value.ref A46]) ++ List.replicate (3 - (lg_sl ([Value.ref A46])).length) Slot.unset).toArray = ls at hl ⊢
  have hl : lv_has ls 3 [(0, Value.ref A46)] := hl
  refine lv_iconst (v := 0) hx hb d_Mo_keepNeeded_0 (by decide) ?_
  refine lv_istore_n (lv' := [(1, Value.int 0), (0, Value.ref A46)]) hx hb d_Mo_keepNeeded_1 rfl hl (by decide) rfl (fun ls hl => ?_)
  refine lv_iconst (v := 0) hx hb d_Mo_keepNeeded_2 (by decide) ?_
  refine lv_istore_n (lv' := [(2, Value.int 0), (1, Value.int 0), (0, Value.ref A46)]) hx hb d_Mo_keepNeeded_3 rfl hl (by decide) rfl (fun ls hl => ?_)
  refine lv_iload_n hx hb d_Mo_keepNeeded_4 rfl (lv_at hl 0 rfl) ?_
  refine lv_aload_n hx hb d_Mo_keepNeeded_5 rfl (lv_at hl 2 rfl) ?_
  refine va_get (D := D) (ci := 8) (v := Value.int 0) (C := "CommitLedgerModel") (T := F_Mo) (N := 35) hx hb hts i_Mo hown hK hP 46 f_46 rfl 10 (by decide) (hts _ kf_Mo_93) (fun _ h9 => h9) rfl d_Mo_keepNeeded_6 ?_
  refine lv_icmp_ge (tgt := 69) hx hb d_Mo_keepNeeded_9 (by decide) (fun _ => ?_) (fun c9 => absurd (by decide) c9)
  refine lv_aload_n hx hb d_Mo_keepNeeded_69 rfl (lv_at hl 2 rfl) ?_
  refine lv_iload_n hx hb d_Mo_keepNeeded_70 rfl (lv_at hl 1 rfl) ?_
  refine va_put (D := D) (ci := 8) (v := Value.int 0) (ty := .int) (C := "CommitLedgerModel") (T := F_Mo) (N := 35) hx hb hts i_Mo t_Mo t_Mo_ok n_Mo hown hK hP hD hS 46 f_46 rfl 10 (by decide) (hts _ kf_Mo_93) (fun _ h9 => h9) rfl (by decide +kernel) rfl rfl (Nat.le_of_ble_eq_true rfl) d_Mo_keepNeeded_71 (fun H locs hP9 hD9 hS9 => ?_)
  obtain ⟨ws1, e_ws1⟩ : ∃ x : va_W, x = ws.set 46 ((A46, Sum.inr (8, [Value.int 3, Value.int 0, Value.ref A47, Value.ref A48, Value.ref A49, Value.int 0, Value.ref A50, Value.ref A51, Value.ref A52, Value.ref A53, Value.int 0, Value.int 0, Value.int 0, Value.int (-1), Value.int 0, Value.ref A54, Value.ref A62, Value.ref A70, Value.int 0, Value.int 0, Value.int 0, Value.ref A78, Value.ref A79, Value.int 0, Value.int 16, Value.int 4, u0, Value.ref A80, Value.ref A81, Value.ref A82, Value.int 0, Value.ref A83, Value.int 0, Value.int 0, Value.int 0])) : Nat × va_E) := ⟨_, rfl⟩
  replace hP : va_P D classes ws1 H := by rw [e_ws1]; exact hP9
  replace hD : va_D A ws1 := by rw [e_ws1]; exact hD9
  replace hS := hS9
  clear hP9 hD9 hS9
  have f_46_ws1 : ws1[46]? = some ((A46, Sum.inr (8, [Value.int 3, Value.int 0, Value.ref A47, Value.ref A48, Value.ref A49, Value.int 0, Value.ref A50, Value.ref A51, Value.ref A52, Value.ref A53, Value.int 0, Value.int 0, Value.int 0, Value.int (-1), Value.int 0, Value.ref A54, Value.ref A62, Value.ref A70, Value.int 0, Value.int 0, Value.int 0, Value.ref A78, Value.ref A79, Value.int 0, Value.int 16, Value.int 4, u0, Value.ref A80, Value.ref A81, Value.ref A82, Value.int 0, Value.ref A83, Value.int 0, Value.int 0, Value.int 0])) : Nat × va_E) := by rw [e_ws1]; exact gs_self f_46
  replace hU : gx_g ws ws1 0 [46] := by rw [e_ws1]; exact hU.put (Or.inl (by simp))
  exact gx_ret (W.vret hx hb hr (gx_post hP hK hD hS (by rw [← hPQ]; exact ⟨rfl, hU, f_46_ws1⟩)) hS.2.2 d_Mo_keepNeeded_74)

set_option maxHeartbeats 4000000 in
set_option maxRecDepth 100000 in
theorem c_Mo_tidyFiles_v3 (l : Launch) (htr : l.stackTraces = false) (D : va_G) (tys : List (ClassId × FieldType)) (z sz : Nat) (ws : va_W) (cV : ClassId) (A46 : Nat) (A47 : Nat) (A48 : Nat) (A49 : Nat) (A50 : Nat) (A51 : Nat) (A52 : Nat) (A53 : Nat) (A54 : Nat) (A62 : Nat) (A70 : Nat) (A78 : Nat) (A79 : Nat) (u0 : Value) (A80 : Nat) (A81 : Nat) (A82 : Nat) (A83 : Nat) (A84 : Nat) (A85 : Nat) (A86 : Nat) (A87 : Nat) (A88 : Nat) (A89 : Nat) (A90 : Nat) (A91 : Nat) (A92 : Nat) (A93 : Nat) (A94 : Nat) (A95 : Nat) (A96 : Nat) (A97 : Nat) (A98 : Nat) (A99 : Nat) (A100 : Nat) (A101 : Nat) (A102 : Nat) (A103 : Nat) (A104 : Nat) (A105 : Nat) (A106 : Nat) (A107 : Nat) (A108 : Nat) (A109 : Nat) (A110 : Nat) (A111 : Nat) (A112 : Nat) (A113 : Nat) (A114 : Nat) (A115 : Nat) (f_46 : ws[46]? = some ((A46, Sum.inr (8, [Value.int 3, Value.int 0, Value.ref A47, Value.ref A48, Value.ref A49, Value.int 0, Value.ref A50, Value.ref A51, Value.ref A52, Value.ref A53, Value.int 0, Value.int 0, Value.int 0, Value.int (-1), Value.int 0, Value.ref A54, Value.ref A62, Value.ref A70, Value.int 0, Value.int 0, Value.int 0, Value.ref A78, Value.ref A79, Value.int 0, Value.int 16, Value.int 4, u0, Value.ref A80, Value.ref A81, Value.ref A82, Value.int 0, Value.ref A83, Value.int 0, Value.int 0, Value.int 0])) : Nat × va_E)) (f_84 : ws[84]? = some ((A84, Sum.inr (9, [Value.ref A85, Value.ref A86, Value.ref A87, Value.ref A88, Value.ref A89, Value.ref A90, Value.ref A91, Value.int 0, Value.int 0, Value.int 0, Value.int 0])) : Nat × va_E)) (f_92 : ws[92]? = some ((A92, Sum.inr (9, [Value.ref A93, Value.ref A94, Value.ref A95, Value.ref A96, Value.ref A97, Value.ref A98, Value.ref A99, Value.int 0, Value.int 0, Value.int 0, Value.int 0])) : Nat × va_E)) (f_100 : ws[100]? = some ((A100, Sum.inr (9, [Value.ref A101, Value.ref A102, Value.ref A103, Value.ref A104, Value.ref A105, Value.ref A106, Value.ref A107, Value.int 0, Value.int 0, Value.int 0, Value.int 0])) : Nat × va_E)) (f_108 : ws[108]? = some ((A108, Sum.inr (9, [Value.ref A109, Value.ref A110, Value.ref A111, Value.ref A112, Value.ref A113, Value.ref A114, Value.ref A115, Value.int 0, Value.int 0, Value.int 0, Value.int 0])) : Nat × va_E)) (f_83 : ws[83]? = some ((A83, Sum.inl (cV, 4, Sum.inr (Sum.inr (Sum.inr (Sum.inr (va_up (va_up (va_up (va_up (fun _ => none) 0 (some A84)) 1 (some A92)) 2 (some A100)) 3 (some A108))))))) : Nat × va_E)) (ht5 : tys[5]? = some ((cV, FieldType.object "CommitLedgerModel$Version") : ClassId × FieldType)) : gx_Met l y_Mo_tidyFiles [Cond.code y_Mo_tidyFiles b_Mo_tidyFiles 5 none] { frames := 2, cells := 0, slots := 0, locals := 34 } (gx_P z sz D classes tys ws [Value.ref A46]) (gx_Q D classes tys (va_A ws sz) (fun r ws' => (r = Sum.inl none ∧ gx_g ws ws' 0 [46] ∧ ws'[46]? = some ((A46, Sum.inr (8, [Value.int 3, Value.int 0, Value.ref A47, Value.ref A48, Value.ref A49, Value.int 0, Value.ref A50, Value.ref A51, Value.ref A52, Value.ref A53, Value.int 0, Value.int 0, Value.int 0, Value.int (-1), Value.int 0, Value.ref A54, Value.ref A62, Value.ref A70, Value.int 0, Value.int 0, Value.int 0, Value.ref A78, Value.ref A79, Value.int 0, Value.int 16, Value.int 4, u0, Value.ref A80, Value.ref A81, Value.ref A82, Value.int 0, Value.ref A83, Value.int 0, Value.int 0, Value.int 0])) : Nat × va_E)))) 0 0 (va_A ws sz) := by
  refine gx_ofW (cc := b_Mo_tidyFiles) (maxL := 5) (ret := none) (by decide) rfl ?_
  intro p e s m args below meth c s₁ B hml hv
  obtain ⟨rfl, hsz, hz, hP, hK, hD0, hY⟩ := hv
  have hx := B.exec
  have hb := B.bytes
  have hr := B.returns
  have hts := hY.hts (#[Value.ref A46] : Array Value)
  have hown : s.vm.findClass "CommitLedgerModel" = some m.cls := findClass_of_methodNamed B.named
  have hlocks := B.notSynchronized
  have hne : c.exceptionTable.isEmpty = true := B.noHandlers (atoms_spec (ws := [Cond.code y_Mo_tidyFiles b_Mo_tidyFiles 5 none]) B.pre _ List.mem_cons_self)
  subst hsz
  have hAz := gx_az hD0 hz
  have hD := hD0.self (sz := s.heap.size)
  have hN := gx_ns hP
  have hA : ∀ q : Nat, s.heap.size ≤ q → va_A ws s.heap.size q := fun q h => Or.inr h
  generalize va_A ws s.heap.size = A at hD hN hA hAz ⊢
  generalize hPQ : (fun (r : Option Value ⊕ String) (ws' : va_W) => (r = Sum.inl none ∧ gx_g ws ws' 0 [46] ∧ ws'[46]? = some ((A46, Sum.inr (8, [Value.int 3, Value.int 0, Value.ref A47, Value.ref A48, Value.ref A49, Value.int 0, Value.ref A50, Value.ref A51, Value.ref A52, Value.ref A53, Value.int 0, Value.int 0, Value.int 0, Value.int (-1), Value.int 0, Value.ref A54, Value.ref A62, Value.ref A70, Value.int 0, Value.int 0, Value.int 0, Value.ref A78, Value.ref A79, Value.int 0, Value.int 16, Value.int 4, u0, Value.ref A80, Value.ref A81, Value.ref A82, Value.int 0, Value.ref A83, Value.int 0, Value.int 0, Value.int 0])) : Nat × va_E))) = PQ
  have hS : va_S A s.heap s.heap [] := va_S.rf
  have hU : gx_g ws ws 0 [46] := gx_g.rf
  have hl := lv_entry ([Value.ref A46]) (n := 5) (Nat.le_of_ble_eq_true rfl)
  rw [lg_entry_eq]
  generalize (lg_sl ([Value.ref A46]) ++ List.replicate (5 - (lg_sl ([Value.ref A46])).length) Slot.unset).toArray = ls at hl ⊢
  have hl : lv_has ls 5 [(0, Value.ref A46)] := hl
  refine lv_aload_n hx hb d_Mo_tidyFiles_0 rfl (lv_at hl 0 rfl) ?_
  refine va_get (D := D) (ci := 8) (v := Value.int 0) (C := "CommitLedgerModel") (T := F_Mo) (N := 35) hx hb hts i_Mo hown hK hP 46 f_46 rfl 14 (by decide) (hts _ kf_Mo_112) (fun _ h9 => h9) rfl d_Mo_tidyFiles_1 ?_
  refine lv_if_eq (tgt := 8) hx hb d_Mo_tidyFiles_4 (by decide) (fun _ => ?_) (fun c9 => absurd (by decide) c9)
  refine lv_iconst (v := 0) hx hb d_Mo_tidyFiles_8 (by decide) ?_
  refine lv_istore_n (lv' := [(1, Value.int 0), (0, Value.ref A46)]) hx hb d_Mo_tidyFiles_9 rfl hl (by decide) rfl (fun ls hl => ?_)
  refine lv_iload_n hx hb d_Mo_tidyFiles_10 rfl (lv_at hl 0 rfl) ?_
  refine lv_aload_n hx hb d_Mo_tidyFiles_11 rfl (lv_at hl 1 rfl) ?_
  refine va_get (D := D) (ci := 8) (v := Value.int 0) (C := "CommitLedgerModel") (T := F_Mo) (N := 35) hx hb hts i_Mo hown hK hP 46 f_46 rfl 10 (by decide) (hts _ kf_Mo_93) (fun _ h9 => h9) rfl d_Mo_tidyFiles_12 ?_
  refine lv_icmp_ge (tgt := 31) hx hb d_Mo_tidyFiles_15 (by decide) (fun _ => ?_) (fun c9 => absurd (by decide) c9)
  refine lv_aload_n hx hb d_Mo_tidyFiles_31 rfl (lv_at hl 1 rfl) ?_
  refine va_get (D := D) (ci := 8) (v := Value.int 0) (C := "CommitLedgerModel") (T := F_Mo) (N := 35) hx hb hts i_Mo hown hK hP 46 f_46 rfl 20 (by decide) (hts _ kf_Mo_135) (fun _ h9 => h9) rfl d_Mo_tidyFiles_32 ?_
  refine lv_if_le (tgt := 64) hx hb d_Mo_tidyFiles_35 (by decide) (fun _ => ?_) (fun c9 => absurd (by decide) c9)
  refine lv_aload_n hx hb d_Mo_tidyFiles_64 rfl (lv_at hl 1 rfl) ?_
  refine va_get (D := D) (ci := 8) (v := Value.int 0) (C := "CommitLedgerModel") (T := F_Mo) (N := 35) hx hb hts i_Mo hown hK hP 46 f_46 rfl 19 (by decide) (hts _ kf_Mo_109) (fun _ h9 => h9) rfl d_Mo_tidyFiles_65 ?_
  refine lv_if_eq (tgt := 97) hx hb d_Mo_tidyFiles_68 (by decide) (fun _ => ?_) (fun c9 => absurd (by decide) c9)
  refine lv_aload_n hx hb d_Mo_tidyFiles_97 rfl (lv_at hl 1 rfl) ?_
  refine va_get (D := D) (ci := 8) (v := Value.int 0) (C := "CommitLedgerModel") (T := F_Mo) (N := 35) hx hb hts i_Mo hown hK hP 46 f_46 rfl 18 (by decide) (hts _ kf_Mo_99) (fun _ h9 => h9) rfl d_Mo_tidyFiles_98 ?_
  refine lv_if_eq (tgt := 113) hx hb d_Mo_tidyFiles_101 (by decide) (fun _ => ?_) (fun c9 => absurd (by decide) c9)
  refine lv_iconst (v := 0) hx hb d_Mo_tidyFiles_113 (by decide) ?_
  refine lv_istore_n (lv' := [(1, Value.int 0), (0, Value.ref A46)]) hx hb d_Mo_tidyFiles_114 rfl hl (by decide) rfl (fun ls hl => ?_)
  refine lv_iload_n hx hb d_Mo_tidyFiles_115 rfl (lv_at hl 0 rfl) ?_
  refine lv_aload_n hx hb d_Mo_tidyFiles_116 rfl (lv_at hl 1 rfl) ?_
  refine va_get (D := D) (ci := 8) (v := Value.int 0) (C := "CommitLedgerModel") (T := F_Mo) (N := 35) hx hb hts i_Mo hown hK hP 46 f_46 rfl 30 (by decide) (hts _ kf_Mo_106) (fun _ h9 => h9) rfl d_Mo_tidyFiles_117 ?_
  refine lv_icmp_ge (tgt := 145) hx hb d_Mo_tidyFiles_120 (by decide) (fun _ => ?_) (fun c9 => absurd (by decide) c9)
  refine lv_aload_n hx hb d_Mo_tidyFiles_145 rfl (lv_at hl 1 rfl) ?_
  refine va_get (D := D) (ci := 8) (v := Value.ref A83) (C := "CommitLedgerModel") (T := F_Mo) (N := 35) hx hb hts i_Mo hown hK hP 46 f_46 rfl 31 (by decide) (hts _ kf_Mo_76) (fun _ h9 => h9) rfl d_Mo_tidyFiles_146 ?_
  refine lv_astore_n (lv' := [(1, Value.ref A83), (0, Value.ref A46)]) hx hb d_Mo_tidyFiles_149 rfl hl (by decide) rfl (fun ls hl => ?_)
  refine lv_aload_n hx hb d_Mo_tidyFiles_150 rfl (lv_at hl 0 rfl) ?_
  refine va_alen (D := D) (v := 4) hx hb hK hP 83 5 f_83 ht5 rfl d_Mo_tidyFiles_151 ?_
  refine lv_istore_n (lv' := [(2, Value.int 4), (1, Value.ref A83), (0, Value.ref A46)]) hx hb d_Mo_tidyFiles_152 rfl hl (by decide) rfl (fun ls hl => ?_)
  refine lv_iconst (v := 0) hx hb d_Mo_tidyFiles_153 (by decide) ?_
  refine lv_istore_n (lv' := [(3, Value.int 0), (2, Value.int 4), (1, Value.ref A83), (0, Value.ref A46)]) hx hb d_Mo_tidyFiles_154 rfl hl (by decide) rfl (fun ls hl => ?_)
  refine lv_iload_n hx hb d_Mo_tidyFiles_155 rfl (lv_at hl 0 rfl) ?_
  refine lv_iload_n hx hb d_Mo_tidyFiles_156 rfl (lv_at hl 1 rfl) ?_
  refine lv_icmp_ge (tgt := 186) hx hb d_Mo_tidyFiles_157 (by decide) (fun c9 => absurd c9 (by decide)) (fun _ => ?_)
  refine lv_aload_n hx hb d_Mo_tidyFiles_160 rfl (lv_at hl 2 rfl) ?_
  refine lv_iload_n hx hb d_Mo_tidyFiles_161 rfl (lv_at hl 0 rfl) ?_
  refine gx_aald (D := D) (b := A84) (j := 0) hx hb hK hP 83 5 f_83 ht5 (gx_inl (by decide)) (by decide) (rfl) d_Mo_tidyFiles_162 ?_
  refine lv_astore (lv' := [(4, Value.ref A84), (3, Value.int 0), (2, Value.int 4), (1, Value.ref A83), (0, Value.ref A46)]) hx hb d_Mo_tidyFiles_163 hl (by decide) rfl (fun ls hl => ?_)
  refine lv_aload hx hb d_Mo_tidyFiles_165 (lv_at hl 0 rfl) ?_
  refine va_get (D := D) (ci := 9) (v := Value.int 0) (C := "CommitLedgerModel$Version") (T := F_Ve) (N := 11) hx hb hts i_Ve hown hK hP 84 f_84 rfl 10 (by decide) (hts _ kf_Mo_103) (fun _ h9 => h9) rfl d_Mo_tidyFiles_167 ?_
  refine lv_if_le (tgt := 180) hx hb d_Mo_tidyFiles_170 (by decide) (fun _ => ?_) (fun c9 => absurd (by decide) c9)
  refine lv_iinc (v := 1) (lv' := [(3, Value.int 1), (4, Value.ref A84), (2, Value.int 4), (1, Value.ref A83), (0, Value.ref A46)]) hx hb d_Mo_tidyFiles_180 hl (k := 1) rfl (by decide) (by decide) rfl (fun ls hl => ?_)
  refine lv_goto (tgt := 155) hx hb d_Mo_tidyFiles_183 (by decide) ?_
  refine lv_iload_n hx hb d_Mo_tidyFiles_155 rfl (lv_at hl 0 rfl) ?_
  refine lv_iload_n hx hb d_Mo_tidyFiles_156 rfl (lv_at hl 2 rfl) ?_
  refine lv_icmp_ge (tgt := 186) hx hb d_Mo_tidyFiles_157 (by decide) (fun c9 => absurd c9 (by decide)) (fun _ => ?_)
  refine lv_aload_n hx hb d_Mo_tidyFiles_160 rfl (lv_at hl 3 rfl) ?_
  refine lv_iload_n hx hb d_Mo_tidyFiles_161 rfl (lv_at hl 0 rfl) ?_
  refine gx_aald (D := D) (b := A92) (j := 1) hx hb hK hP 83 5 f_83 ht5 (gx_inl (by decide)) (by decide) (rfl) d_Mo_tidyFiles_162 ?_
  refine lv_astore (lv' := [(4, Value.ref A92), (3, Value.int 1), (2, Value.int 4), (1, Value.ref A83), (0, Value.ref A46)]) hx hb d_Mo_tidyFiles_163 hl (by decide) rfl (fun ls hl => ?_)
  refine lv_aload hx hb d_Mo_tidyFiles_165 (lv_at hl 0 rfl) ?_
  refine va_get (D := D) (ci := 9) (v := Value.int 0) (C := "CommitLedgerModel$Version") (T := F_Ve) (N := 11) hx hb hts i_Ve hown hK hP 92 f_92 rfl 10 (by decide) (hts _ kf_Mo_103) (fun _ h9 => h9) rfl d_Mo_tidyFiles_167 ?_
  refine lv_if_le (tgt := 180) hx hb d_Mo_tidyFiles_170 (by decide) (fun _ => ?_) (fun c9 => absurd (by decide) c9)
  refine lv_iinc (v := 2) (lv' := [(3, Value.int 2), (4, Value.ref A92), (2, Value.int 4), (1, Value.ref A83), (0, Value.ref A46)]) hx hb d_Mo_tidyFiles_180 hl (k := 1) rfl (by decide) (by decide) rfl (fun ls hl => ?_)
  refine lv_goto (tgt := 155) hx hb d_Mo_tidyFiles_183 (by decide) ?_
  refine lv_iload_n hx hb d_Mo_tidyFiles_155 rfl (lv_at hl 0 rfl) ?_
  refine lv_iload_n hx hb d_Mo_tidyFiles_156 rfl (lv_at hl 2 rfl) ?_
  refine lv_icmp_ge (tgt := 186) hx hb d_Mo_tidyFiles_157 (by decide) (fun c9 => absurd c9 (by decide)) (fun _ => ?_)
  refine lv_aload_n hx hb d_Mo_tidyFiles_160 rfl (lv_at hl 3 rfl) ?_
  refine lv_iload_n hx hb d_Mo_tidyFiles_161 rfl (lv_at hl 0 rfl) ?_
  refine gx_aald (D := D) (b := A100) (j := 2) hx hb hK hP 83 5 f_83 ht5 (gx_inl (by decide)) (by decide) (rfl) d_Mo_tidyFiles_162 ?_
  refine lv_astore (lv' := [(4, Value.ref A100), (3, Value.int 2), (2, Value.int 4), (1, Value.ref A83), (0, Value.ref A46)]) hx hb d_Mo_tidyFiles_163 hl (by decide) rfl (fun ls hl => ?_)
  refine lv_aload hx hb d_Mo_tidyFiles_165 (lv_at hl 0 rfl) ?_
  refine va_get (D := D) (ci := 9) (v := Value.int 0) (C := "CommitLedgerModel$Version") (T := F_Ve) (N := 11) hx hb hts i_Ve hown hK hP 100 f_100 rfl 10 (by decide) (hts _ kf_Mo_103) (fun _ h9 => h9) rfl d_Mo_tidyFiles_167 ?_
  refine lv_if_le (tgt := 180) hx hb d_Mo_tidyFiles_170 (by decide) (fun _ => ?_) (fun c9 => absurd (by decide) c9)
  refine lv_iinc (v := 3) (lv' := [(3, Value.int 3), (4, Value.ref A100), (2, Value.int 4), (1, Value.ref A83), (0, Value.ref A46)]) hx hb d_Mo_tidyFiles_180 hl (k := 1) rfl (by decide) (by decide) rfl (fun ls hl => ?_)
  refine lv_goto (tgt := 155) hx hb d_Mo_tidyFiles_183 (by decide) ?_
  refine lv_iload_n hx hb d_Mo_tidyFiles_155 rfl (lv_at hl 0 rfl) ?_
  refine lv_iload_n hx hb d_Mo_tidyFiles_156 rfl (lv_at hl 2 rfl) ?_
  refine lv_icmp_ge (tgt := 186) hx hb d_Mo_tidyFiles_157 (by decide) (fun c9 => absurd c9 (by decide)) (fun _ => ?_)
  refine lv_aload_n hx hb d_Mo_tidyFiles_160 rfl (lv_at hl 3 rfl) ?_
  refine lv_iload_n hx hb d_Mo_tidyFiles_161 rfl (lv_at hl 0 rfl) ?_
  refine gx_aald (D := D) (b := A108) (j := 3) hx hb hK hP 83 5 f_83 ht5 (gx_inl (by decide)) (by decide) (rfl) d_Mo_tidyFiles_162 ?_
  refine lv_astore (lv' := [(4, Value.ref A108), (3, Value.int 3), (2, Value.int 4), (1, Value.ref A83), (0, Value.ref A46)]) hx hb d_Mo_tidyFiles_163 hl (by decide) rfl (fun ls hl => ?_)
  refine lv_aload hx hb d_Mo_tidyFiles_165 (lv_at hl 0 rfl) ?_
  refine va_get (D := D) (ci := 9) (v := Value.int 0) (C := "CommitLedgerModel$Version") (T := F_Ve) (N := 11) hx hb hts i_Ve hown hK hP 108 f_108 rfl 10 (by decide) (hts _ kf_Mo_103) (fun _ h9 => h9) rfl d_Mo_tidyFiles_167 ?_
  refine lv_if_le (tgt := 180) hx hb d_Mo_tidyFiles_170 (by decide) (fun _ => ?_) (fun c9 => absurd (by decide) c9)
  refine lv_iinc (v := 4) (lv' := [(3, Value.int 4), (4, Value.ref A108), (2, Value.int 4), (1, Value.ref A83), (0, Value.ref A46)]) hx hb d_Mo_tidyFiles_180 hl (k := 1) rfl (by decide) (by decide) rfl (fun ls hl => ?_)
  refine lv_goto (tgt := 155) hx hb d_Mo_tidyFiles_183 (by decide) ?_
  refine lv_iload_n hx hb d_Mo_tidyFiles_155 rfl (lv_at hl 0 rfl) ?_
  refine lv_iload_n hx hb d_Mo_tidyFiles_156 rfl (lv_at hl 2 rfl) ?_
  refine lv_icmp_ge (tgt := 186) hx hb d_Mo_tidyFiles_157 (by decide) (fun _ => ?_) (fun c9 => absurd (by decide) c9)
  refine lv_aload_n hx hb d_Mo_tidyFiles_186 rfl (lv_at hl 4 rfl) ?_
  refine gx_call (ig := .invokevirtual 96) (c_Mo_keepNeeded_v4 l htr D tys z _ ws A46 A47 A48 A49 A50 A51 A52 A53 A54 A62 A70 A78 A79 (u0) A80 A81 A82 A83 f_46) (gx_invV (As := []) (rest := []) hx hb hown hts km_Mo_96 kI_Mo_keepNeeded kV_Mo_keepNeeded kc_Mo_keepNeeded (by decide) (show (parseMethodDescriptor y_Mo_keepNeeded.desc).map (fun d => d.parameters.length) = some 0 by decide +kernel) (gx_recv (ci := 8) hK hP rfl f_46) rfl rfl d_Mo_tidyFiles_187) (gx_cw (z := 0) hts kc_Mo_keepNeeded kN_Mo rfl rfl ⟨Nat.le_of_ble_eq_true rfl, Nat.le_of_ble_eq_true rfl⟩) hb hml gx_blind (gx_pre hz hP hK hD hY hS hAz [Value.ref A46]) rfl hl.1 (lv_room (Nat.le_of_ble_eq_true rfl)) d_Mo_tidyFiles_187 ⟨Nat.le_of_ble_eq_true rfl, Nat.le_of_ble_eq_true rfl⟩ (fun v1 st1 t1 L1 h0_1 hW_1 hQ_1 hL_1 => ?_) (fun v1 st1 t1 L1 h0_1 hW_1 hQ_1 hL_1 => ?_)
  · obtain ⟨ws2, hp, hP9, -, hD9, hS9⟩ := gx_back h0_1 hW_1 hQ_1 hL_1 hD hS hA
    clear hQ_1 h0_1 hL_1 hW_1 hP hD hS
    have hP := hP9
    have hD := hD9
    have hS := hS9
    clear hP9 hD9 hS9
    rcases hp with ⟨hv9, e_ws2, f_46_ws2⟩
    cases hv9
    have f_46_ws2 : ws2[46]? = some ((A46, Sum.inr (8, [Value.int 3, Value.int 0, Value.ref A47, Value.ref A48, Value.ref A49, Value.int 0, Value.ref A50, Value.ref A51, Value.ref A52, Value.ref A53, Value.int 0, Value.int 0, Value.int 0, Value.int (-1), Value.int 0, Value.ref A54, Value.ref A62, Value.ref A70, Value.int 0, Value.int 0, Value.int 0, Value.ref A78, Value.ref A79, Value.int 0, Value.int 16, Value.int 4, u0, Value.ref A80, Value.ref A81, Value.ref A82, Value.int 0, Value.ref A83, Value.int 0, Value.int 0, Value.int 0])) : Nat × va_E) := f_46_ws2
    replace hU : gx_g ws ws2 0 [46] := hU.call e_ws2 (by simp; first | done | omega)
    refine W.eq (g2 := F0 m 190 ls []) rfl ?_
    generalize t1.heap = H at hP hS ⊢
    generalize [] ++ L1 = locs at hS ⊢
    exact gx_ret (W.vret hx hb hr (gx_post hP hK hD hS (by rw [← hPQ]; exact ⟨rfl, hU, f_46_ws2⟩)) hS.2.2 d_Mo_tidyFiles_190)
  · obtain ⟨E9, ws3, ce, hp, hce, hP9, -, hD9, hS9⟩ := gx_backT h0_1 hW_1 hQ_1 hL_1 hD hS hA
    clear hQ_1 h0_1 hL_1 hW_1 hP hD hS
    have hP := hP9
    have hD := hD9
    have hS := hS9
    clear hP9 hD9 hS9
    rcases hp with ⟨hv9, e_ws3, f_46_ws3⟩
    cases hv9

set_option maxHeartbeats 4000000 in
set_option maxRecDepth 100000 in
theorem c_Mo_done_v19 (l : Launch) (htr : l.stackTraces = false) (D : va_G) (tys : List (ClassId × FieldType)) (z sz : Nat) (ws : va_W) (A46 : Nat) (A47 : Nat) (A48 : Nat) (A49 : Nat) (A50 : Nat) (A51 : Nat) (A52 : Nat) (A53 : Nat) (A54 : Nat) (A62 : Nat) (A70 : Nat) (A78 : Nat) (A79 : Nat) (u0 : Value) (A80 : Nat) (A81 : Nat) (A82 : Nat) (A83 : Nat) (f_46 : ws[46]? = some ((A46, Sum.inr (8, [Value.int 3, Value.int 0, Value.ref A47, Value.ref A48, Value.ref A49, Value.int 0, Value.ref A50, Value.ref A51, Value.ref A52, Value.ref A53, Value.int 0, Value.int 0, Value.int 0, Value.int (-1), Value.int 0, Value.ref A54, Value.ref A62, Value.ref A70, Value.int 0, Value.int 0, Value.int 0, Value.ref A78, Value.ref A79, Value.int 0, Value.int 16, Value.int 4, u0, Value.ref A80, Value.ref A81, Value.ref A82, Value.int 0, Value.ref A83, Value.int 0, Value.int 0, Value.int 0])) : Nat × va_E)) : gx_Met l y_Mo_done [Cond.code y_Mo_done b_Mo_done 6 (some .int)] { frames := 1, cells := 0, slots := 0, locals := 12 } (gx_P z sz D classes tys ws [Value.ref A46, Value.int 0, Value.int 3]) (gx_Q D classes tys (va_A ws sz) (fun r ws' => (r = Sum.inl (some (Value.int 0)) ∧ gx_g ws ws' 0 [46] ∧ ws'[46]? = some ((A46, Sum.inr (8, [Value.int 0, Value.int 1, Value.ref A47, Value.ref A48, Value.ref A49, Value.int 0, Value.ref A50, Value.ref A51, Value.ref A52, Value.ref A53, Value.int 0, Value.int 0, Value.int 0, Value.int (-1), Value.int 0, Value.ref A54, Value.ref A62, Value.ref A70, Value.int 0, Value.int 0, Value.int 0, Value.ref A78, Value.ref A79, Value.int 0, Value.int 16, Value.int 4, u0, Value.ref A80, Value.ref A81, Value.ref A82, Value.int 0, Value.ref A83, Value.int 0, Value.int 0, Value.int 0])) : Nat × va_E)))) 0 0 (va_A ws sz) := by
  refine gx_ofW (cc := b_Mo_done) (maxL := 6) (ret := (some .int)) (by decide) rfl ?_
  intro p e s m args below meth c s₁ B hml hv
  obtain ⟨rfl, hsz, hz, hP, hK, hD0, hY⟩ := hv
  have hx := B.exec
  have hb := B.bytes
  have hr := B.returns
  have hts := hY.hts (#[Value.ref A46, Value.int 0, Value.int 3] : Array Value)
  have hown : s.vm.findClass "CommitLedgerModel" = some m.cls := findClass_of_methodNamed B.named
  have hlocks := B.notSynchronized
  have hne : c.exceptionTable.isEmpty = true := B.noHandlers (atoms_spec (ws := [Cond.code y_Mo_done b_Mo_done 6 (some .int)]) B.pre _ List.mem_cons_self)
  subst hsz
  have hAz := gx_az hD0 hz
  have hD := hD0.self (sz := s.heap.size)
  have hN := gx_ns hP
  have hA : ∀ q : Nat, s.heap.size ≤ q → va_A ws s.heap.size q := fun q h => Or.inr h
  generalize va_A ws s.heap.size = A at hD hN hA hAz ⊢
  generalize hPQ : (fun (r : Option Value ⊕ String) (ws' : va_W) => (r = Sum.inl (some (Value.int 0)) ∧ gx_g ws ws' 0 [46] ∧ ws'[46]? = some ((A46, Sum.inr (8, [Value.int 0, Value.int 1, Value.ref A47, Value.ref A48, Value.ref A49, Value.int 0, Value.ref A50, Value.ref A51, Value.ref A52, Value.ref A53, Value.int 0, Value.int 0, Value.int 0, Value.int (-1), Value.int 0, Value.ref A54, Value.ref A62, Value.ref A70, Value.int 0, Value.int 0, Value.int 0, Value.ref A78, Value.ref A79, Value.int 0, Value.int 16, Value.int 4, u0, Value.ref A80, Value.ref A81, Value.ref A82, Value.int 0, Value.ref A83, Value.int 0, Value.int 0, Value.int 0])) : Nat × va_E))) = PQ
  have hS : va_S A s.heap s.heap [] := va_S.rf
  have hU : gx_g ws ws 0 [46] := gx_g.rf
  have hl := lv_entry ([Value.ref A46, Value.int 0, Value.int 3]) (n := 6) (Nat.le_of_ble_eq_true rfl)
  rw [lg_entry_eq]
  generalize (lg_sl ([Value.ref A46, Value.int 0, Value.int 3]) ++ List.replicate (6 - (lg_sl ([Value.ref A46, Value.int 0, Value.int 3])).length) Slot.unset).toArray = ls at hl ⊢
  have hl : lv_has ls 6 [(0, Value.ref A46), (1, Value.int 0), (2, Value.int 3)] := hl
  refine lv_aload_n hx hb d_Mo_done_0 rfl (lv_at hl 0 rfl) ?_
  refine lv_iconst (v := 0) hx hb d_Mo_done_1 (by decide) ?_
  refine va_put (D := D) (ci := 8) (v := Value.int 0) (ty := .int) (C := "CommitLedgerModel") (T := F_Mo) (N := 35) hx hb hts i_Mo t_Mo t_Mo_ok n_Mo hown hK hP hD hS 46 f_46 rfl 1 (by decide) (hts _ kf_Mo_80) (fun _ h9 => h9) rfl (by decide +kernel) rfl rfl (Nat.le_of_ble_eq_true rfl) d_Mo_done_2 (fun H locs hP9 hD9 hS9 => ?_)
  obtain ⟨ws1, e_ws1⟩ : ∃ x : va_W, x = ws.set 46 ((A46, Sum.inr (8, [Value.int 3, Value.int 0, Value.ref A47, Value.ref A48, Value.ref A49, Value.int 0, Value.ref A50, Value.ref A51, Value.ref A52, Value.ref A53, Value.int 0, Value.int 0, Value.int 0, Value.int (-1), Value.int 0, Value.ref A54, Value.ref A62, Value.ref A70, Value.int 0, Value.int 0, Value.int 0, Value.ref A78, Value.ref A79, Value.int 0, Value.int 16, Value.int 4, u0, Value.ref A80, Value.ref A81, Value.ref A82, Value.int 0, Value.ref A83, Value.int 0, Value.int 0, Value.int 0])) : Nat × va_E) := ⟨_, rfl⟩
  replace hP : va_P D classes ws1 H := by rw [e_ws1]; exact hP9
  replace hD : va_D A ws1 := by rw [e_ws1]; exact hD9
  replace hS := hS9
  clear hP9 hD9 hS9
  have f_46_ws1 : ws1[46]? = some ((A46, Sum.inr (8, [Value.int 3, Value.int 0, Value.ref A47, Value.ref A48, Value.ref A49, Value.int 0, Value.ref A50, Value.ref A51, Value.ref A52, Value.ref A53, Value.int 0, Value.int 0, Value.int 0, Value.int (-1), Value.int 0, Value.ref A54, Value.ref A62, Value.ref A70, Value.int 0, Value.int 0, Value.int 0, Value.ref A78, Value.ref A79, Value.int 0, Value.int 16, Value.int 4, u0, Value.ref A80, Value.ref A81, Value.ref A82, Value.int 0, Value.ref A83, Value.int 0, Value.int 0, Value.int 0])) : Nat × va_E) := by rw [e_ws1]; exact gs_self f_46
  replace hU : gx_g ws ws1 0 [46] := by rw [e_ws1]; exact hU.put (Or.inl (by simp))
  refine lv_iconst (v := 0) hx hb d_Mo_done_5 (by decide) ?_
  refine lv_istore_n (lv' := [(3, Value.int 0), (0, Value.ref A46), (1, Value.int 0), (2, Value.int 3)]) hx hb d_Mo_done_6 rfl hl (by decide) rfl (fun ls hl => ?_)
  refine lv_ldc (v := 100000) hx hb hown (hts _ ki_Mo_83) d_Mo_done_7 ?_
  refine lv_istore (lv' := [(4, Value.int 100000), (3, Value.int 0), (0, Value.ref A46), (1, Value.int 0), (2, Value.int 3)]) hx hb d_Mo_done_9 hl (by decide) rfl (fun ls hl => ?_)
  refine lv_iload hx hb d_Mo_done_11 (lv_at hl 0 rfl) ?_
  refine lv_if_le (tgt := 60) hx hb d_Mo_done_13 (by decide) (fun c9 => absurd c9 (by decide)) (fun _ => ?_)
  refine lv_iload_n hx hb d_Mo_done_16 rfl (lv_at hl 4 rfl) ?_
  refine lv_iload hx hb d_Mo_done_17 (lv_at hl 0 rfl) ?_
  refine lv_idiv hx hb d_Mo_done_19 (by decide) ?_
  refine gx_topi (y := 0) (by decide) ?_
  refine lv_bipush (v := 10) hx hb d_Mo_done_20 (by decide) ?_
  refine lv_irem hx hb d_Mo_done_22 (by decide) ?_
  refine gx_topi (y := 0) (by decide) ?_
  refine lv_istore (lv' := [(5, Value.int 0), (4, Value.int 100000), (3, Value.int 0), (0, Value.ref A46), (1, Value.int 0), (2, Value.int 3)]) hx hb d_Mo_done_23 hl (by decide) rfl (fun ls hl => ?_)
  refine lv_iload hx hb d_Mo_done_25 (lv_at hl 0 rfl) ?_
  refine lv_if_ne (tgt := 33) hx hb d_Mo_done_27 (by decide) (fun c9 => absurd (by decide) c9) (fun _ => ?_)
  refine lv_goto (tgt := 50) hx hb d_Mo_done_30 (by decide) ?_
  refine lv_iload hx hb d_Mo_done_50 (lv_at hl 1 rfl) ?_
  refine lv_bipush (v := 10) hx hb d_Mo_done_52 (by decide) ?_
  refine lv_idiv hx hb d_Mo_done_54 (by decide) ?_
  refine gx_topi (y := 10000) (by decide) ?_
  refine lv_istore (lv' := [(4, Value.int 10000), (5, Value.int 0), (3, Value.int 0), (0, Value.ref A46), (1, Value.int 0), (2, Value.int 3)]) hx hb d_Mo_done_55 hl (by decide) rfl (fun ls hl => ?_)
  refine lv_goto (tgt := 11) hx hb d_Mo_done_57 (by decide) ?_
  refine lv_iload hx hb d_Mo_done_11 (lv_at hl 0 rfl) ?_
  refine lv_if_le (tgt := 60) hx hb d_Mo_done_13 (by decide) (fun c9 => absurd c9 (by decide)) (fun _ => ?_)
  refine lv_iload_n hx hb d_Mo_done_16 rfl (lv_at hl 5 rfl) ?_
  refine lv_iload hx hb d_Mo_done_17 (lv_at hl 0 rfl) ?_
  refine lv_idiv hx hb d_Mo_done_19 (by decide) ?_
  refine gx_topi (y := 0) (by decide) ?_
  refine lv_bipush (v := 10) hx hb d_Mo_done_20 (by decide) ?_
  refine lv_irem hx hb d_Mo_done_22 (by decide) ?_
  refine gx_topi (y := 0) (by decide) ?_
  refine lv_istore (lv' := [(5, Value.int 0), (4, Value.int 10000), (3, Value.int 0), (0, Value.ref A46), (1, Value.int 0), (2, Value.int 3)]) hx hb d_Mo_done_23 hl (by decide) rfl (fun ls hl => ?_)
  refine lv_iload hx hb d_Mo_done_25 (lv_at hl 0 rfl) ?_
  refine lv_if_ne (tgt := 33) hx hb d_Mo_done_27 (by decide) (fun c9 => absurd (by decide) c9) (fun _ => ?_)
  refine lv_goto (tgt := 50) hx hb d_Mo_done_30 (by decide) ?_
  refine lv_iload hx hb d_Mo_done_50 (lv_at hl 1 rfl) ?_
  refine lv_bipush (v := 10) hx hb d_Mo_done_52 (by decide) ?_
  refine lv_idiv hx hb d_Mo_done_54 (by decide) ?_
  refine gx_topi (y := 1000) (by decide) ?_
  refine lv_istore (lv' := [(4, Value.int 1000), (5, Value.int 0), (3, Value.int 0), (0, Value.ref A46), (1, Value.int 0), (2, Value.int 3)]) hx hb d_Mo_done_55 hl (by decide) rfl (fun ls hl => ?_)
  refine lv_goto (tgt := 11) hx hb d_Mo_done_57 (by decide) ?_
  refine lv_iload hx hb d_Mo_done_11 (lv_at hl 0 rfl) ?_
  refine lv_if_le (tgt := 60) hx hb d_Mo_done_13 (by decide) (fun c9 => absurd c9 (by decide)) (fun _ => ?_)
  refine lv_iload_n hx hb d_Mo_done_16 rfl (lv_at hl 5 rfl) ?_
  refine lv_iload hx hb d_Mo_done_17 (lv_at hl 0 rfl) ?_
  refine lv_idiv hx hb d_Mo_done_19 (by decide) ?_
  refine gx_topi (y := 0) (by decide) ?_
  refine lv_bipush (v := 10) hx hb d_Mo_done_20 (by decide) ?_
  refine lv_irem hx hb d_Mo_done_22 (by decide) ?_
  refine gx_topi (y := 0) (by decide) ?_
  refine lv_istore (lv' := [(5, Value.int 0), (4, Value.int 1000), (3, Value.int 0), (0, Value.ref A46), (1, Value.int 0), (2, Value.int 3)]) hx hb d_Mo_done_23 hl (by decide) rfl (fun ls hl => ?_)
  refine lv_iload hx hb d_Mo_done_25 (lv_at hl 0 rfl) ?_
  refine lv_if_ne (tgt := 33) hx hb d_Mo_done_27 (by decide) (fun c9 => absurd (by decide) c9) (fun _ => ?_)
  refine lv_goto (tgt := 50) hx hb d_Mo_done_30 (by decide) ?_
  refine lv_iload hx hb d_Mo_done_50 (lv_at hl 1 rfl) ?_
  refine lv_bipush (v := 10) hx hb d_Mo_done_52 (by decide) ?_
  refine lv_idiv hx hb d_Mo_done_54 (by decide) ?_
  refine gx_topi (y := 100) (by decide) ?_
  refine lv_istore (lv' := [(4, Value.int 100), (5, Value.int 0), (3, Value.int 0), (0, Value.ref A46), (1, Value.int 0), (2, Value.int 3)]) hx hb d_Mo_done_55 hl (by decide) rfl (fun ls hl => ?_)
  refine lv_goto (tgt := 11) hx hb d_Mo_done_57 (by decide) ?_
  refine lv_iload hx hb d_Mo_done_11 (lv_at hl 0 rfl) ?_
  refine lv_if_le (tgt := 60) hx hb d_Mo_done_13 (by decide) (fun c9 => absurd c9 (by decide)) (fun _ => ?_)
  refine lv_iload_n hx hb d_Mo_done_16 rfl (lv_at hl 5 rfl) ?_
  refine lv_iload hx hb d_Mo_done_17 (lv_at hl 0 rfl) ?_
  refine lv_idiv hx hb d_Mo_done_19 (by decide) ?_
  refine gx_topi (y := 0) (by decide) ?_
  refine lv_bipush (v := 10) hx hb d_Mo_done_20 (by decide) ?_
  refine lv_irem hx hb d_Mo_done_22 (by decide) ?_
  refine gx_topi (y := 0) (by decide) ?_
  refine lv_istore (lv' := [(5, Value.int 0), (4, Value.int 100), (3, Value.int 0), (0, Value.ref A46), (1, Value.int 0), (2, Value.int 3)]) hx hb d_Mo_done_23 hl (by decide) rfl (fun ls hl => ?_)
  refine lv_iload hx hb d_Mo_done_25 (lv_at hl 0 rfl) ?_
  refine lv_if_ne (tgt := 33) hx hb d_Mo_done_27 (by decide) (fun c9 => absurd (by decide) c9) (fun _ => ?_)
  refine lv_goto (tgt := 50) hx hb d_Mo_done_30 (by decide) ?_
  refine lv_iload hx hb d_Mo_done_50 (lv_at hl 1 rfl) ?_
  refine lv_bipush (v := 10) hx hb d_Mo_done_52 (by decide) ?_
  refine lv_idiv hx hb d_Mo_done_54 (by decide) ?_
  refine gx_topi (y := 10) (by decide) ?_
  refine lv_istore (lv' := [(4, Value.int 10), (5, Value.int 0), (3, Value.int 0), (0, Value.ref A46), (1, Value.int 0), (2, Value.int 3)]) hx hb d_Mo_done_55 hl (by decide) rfl (fun ls hl => ?_)
  refine lv_goto (tgt := 11) hx hb d_Mo_done_57 (by decide) ?_
  refine lv_iload hx hb d_Mo_done_11 (lv_at hl 0 rfl) ?_
  refine lv_if_le (tgt := 60) hx hb d_Mo_done_13 (by decide) (fun c9 => absurd c9 (by decide)) (fun _ => ?_)
  refine lv_iload_n hx hb d_Mo_done_16 rfl (lv_at hl 5 rfl) ?_
  refine lv_iload hx hb d_Mo_done_17 (lv_at hl 0 rfl) ?_
  refine lv_idiv hx hb d_Mo_done_19 (by decide) ?_
  refine gx_topi (y := 0) (by decide) ?_
  refine lv_bipush (v := 10) hx hb d_Mo_done_20 (by decide) ?_
  refine lv_irem hx hb d_Mo_done_22 (by decide) ?_
  refine gx_topi (y := 0) (by decide) ?_
  refine lv_istore (lv' := [(5, Value.int 0), (4, Value.int 10), (3, Value.int 0), (0, Value.ref A46), (1, Value.int 0), (2, Value.int 3)]) hx hb d_Mo_done_23 hl (by decide) rfl (fun ls hl => ?_)
  refine lv_iload hx hb d_Mo_done_25 (lv_at hl 0 rfl) ?_
  refine lv_if_ne (tgt := 33) hx hb d_Mo_done_27 (by decide) (fun c9 => absurd (by decide) c9) (fun _ => ?_)
  refine lv_goto (tgt := 50) hx hb d_Mo_done_30 (by decide) ?_
  refine lv_iload hx hb d_Mo_done_50 (lv_at hl 1 rfl) ?_
  refine lv_bipush (v := 10) hx hb d_Mo_done_52 (by decide) ?_
  refine lv_idiv hx hb d_Mo_done_54 (by decide) ?_
  refine gx_topi (y := 1) (by decide) ?_
  refine lv_istore (lv' := [(4, Value.int 1), (5, Value.int 0), (3, Value.int 0), (0, Value.ref A46), (1, Value.int 0), (2, Value.int 3)]) hx hb d_Mo_done_55 hl (by decide) rfl (fun ls hl => ?_)
  refine lv_goto (tgt := 11) hx hb d_Mo_done_57 (by decide) ?_
  refine lv_iload hx hb d_Mo_done_11 (lv_at hl 0 rfl) ?_
  refine lv_if_le (tgt := 60) hx hb d_Mo_done_13 (by decide) (fun c9 => absurd c9 (by decide)) (fun _ => ?_)
  refine lv_iload_n hx hb d_Mo_done_16 rfl (lv_at hl 5 rfl) ?_
  refine lv_iload hx hb d_Mo_done_17 (lv_at hl 0 rfl) ?_
  refine lv_idiv hx hb d_Mo_done_19 (by decide) ?_
  refine gx_topi (y := 3) (by decide) ?_
  refine lv_bipush (v := 10) hx hb d_Mo_done_20 (by decide) ?_
  refine lv_irem hx hb d_Mo_done_22 (by decide) ?_
  refine gx_topi (y := 3) (by decide) ?_
  refine lv_istore (lv' := [(5, Value.int 3), (4, Value.int 1), (3, Value.int 0), (0, Value.ref A46), (1, Value.int 0), (2, Value.int 3)]) hx hb d_Mo_done_23 hl (by decide) rfl (fun ls hl => ?_)
  refine lv_iload hx hb d_Mo_done_25 (lv_at hl 0 rfl) ?_
  refine lv_if_ne (tgt := 33) hx hb d_Mo_done_27 (by decide) (fun _ => ?_) (fun c9 => absurd c9 (by decide))
  refine lv_iinc (v := 1) (lv' := [(3, Value.int 1), (5, Value.int 3), (4, Value.int 1), (0, Value.ref A46), (1, Value.int 0), (2, Value.int 3)]) hx hb d_Mo_done_33 hl (k := 2) rfl (by decide) (by decide) rfl (fun ls hl => ?_)
  refine lv_iload hx hb d_Mo_done_36 (lv_at hl 1 rfl) ?_
  refine lv_aload_n hx hb d_Mo_done_38 rfl (lv_at hl 3 rfl) ?_
  refine va_get (D := D) (ci := 8) (v := Value.int 3) (C := "CommitLedgerModel") (T := F_Mo) (N := 35) hx hb hts i_Mo hown hK hP 46 f_46_ws1 rfl 0 (by decide) (hts _ kf_Mo_84) (fun _ h9 => h9) rfl d_Mo_done_39 ?_
  refine lv_icmp_ne (tgt := 50) hx hb d_Mo_done_42 (by decide) (fun c9 => absurd (by decide) c9) (fun _ => ?_)
  refine lv_aload_n hx hb d_Mo_done_45 rfl (lv_at hl 3 rfl) ?_
  refine lv_iload_n hx hb d_Mo_done_46 rfl (lv_at hl 0 rfl) ?_
  refine va_put (D := D) (ci := 8) (v := Value.int 1) (ty := .int) (C := "CommitLedgerModel") (T := F_Mo) (N := 35) hx hb hts i_Mo t_Mo t_Mo_ok n_Mo hown hK hP hD hS 46 f_46_ws1 rfl 1 (by decide) (hts _ kf_Mo_80) (fun _ h9 => h9) rfl (by decide +kernel) rfl rfl (Nat.le_of_ble_eq_true rfl) d_Mo_done_47 (fun H locs hP9 hD9 hS9 => ?_)
  obtain ⟨ws2, e_ws2⟩ : ∃ x : va_W, x = ws1.set 46 ((A46, Sum.inr (8, [Value.int 3, Value.int 1, Value.ref A47, Value.ref A48, Value.ref A49, Value.int 0, Value.ref A50, Value.ref A51, Value.ref A52, Value.ref A53, Value.int 0, Value.int 0, Value.int 0, Value.int (-1), Value.int 0, Value.ref A54, Value.ref A62, Value.ref A70, Value.int 0, Value.int 0, Value.int 0, Value.ref A78, Value.ref A79, Value.int 0, Value.int 16, Value.int 4, u0, Value.ref A80, Value.ref A81, Value.ref A82, Value.int 0, Value.ref A83, Value.int 0, Value.int 0, Value.int 0])) : Nat × va_E) := ⟨_, rfl⟩
  replace hP : va_P D classes ws2 H := by rw [e_ws2]; exact hP9
  replace hD : va_D A ws2 := by rw [e_ws2]; exact hD9
  replace hS := hS9
  clear hP9 hD9 hS9
  have f_46_ws2 : ws2[46]? = some ((A46, Sum.inr (8, [Value.int 3, Value.int 1, Value.ref A47, Value.ref A48, Value.ref A49, Value.int 0, Value.ref A50, Value.ref A51, Value.ref A52, Value.ref A53, Value.int 0, Value.int 0, Value.int 0, Value.int (-1), Value.int 0, Value.ref A54, Value.ref A62, Value.ref A70, Value.int 0, Value.int 0, Value.int 0, Value.ref A78, Value.ref A79, Value.int 0, Value.int 16, Value.int 4, u0, Value.ref A80, Value.ref A81, Value.ref A82, Value.int 0, Value.ref A83, Value.int 0, Value.int 0, Value.int 0])) : Nat × va_E) := by rw [e_ws2]; exact gs_self f_46_ws1
  replace hU : gx_g ws ws2 0 [46] := by rw [e_ws2]; exact hU.put (Or.inl (by simp))
  refine lv_iload hx hb d_Mo_done_50 (lv_at hl 2 rfl) ?_
  refine lv_bipush (v := 10) hx hb d_Mo_done_52 (by decide) ?_
  refine lv_idiv hx hb d_Mo_done_54 (by decide) ?_
  refine gx_topi (y := 0) (by decide) ?_
  refine lv_istore (lv' := [(4, Value.int 0), (3, Value.int 1), (5, Value.int 3), (0, Value.ref A46), (1, Value.int 0), (2, Value.int 3)]) hx hb d_Mo_done_55 hl (by decide) rfl (fun ls hl => ?_)
  refine lv_goto (tgt := 11) hx hb d_Mo_done_57 (by decide) ?_
  refine lv_iload hx hb d_Mo_done_11 (lv_at hl 0 rfl) ?_
  refine lv_if_le (tgt := 60) hx hb d_Mo_done_13 (by decide) (fun _ => ?_) (fun c9 => absurd (by decide) c9)
  refine lv_aload_n hx hb d_Mo_done_60 rfl (lv_at hl 3 rfl) ?_
  refine lv_iconst (v := 0) hx hb d_Mo_done_61 (by decide) ?_
  refine va_put (D := D) (ci := 8) (v := Value.int 0) (ty := .int) (C := "CommitLedgerModel") (T := F_Mo) (N := 35) hx hb hts i_Mo t_Mo t_Mo_ok n_Mo hown hK hP hD hS 46 f_46_ws2 rfl 0 (by decide) (hts _ kf_Mo_84) (fun _ h9 => h9) rfl (by decide +kernel) rfl rfl (Nat.le_of_ble_eq_true rfl) d_Mo_done_62 (fun H locs hP9 hD9 hS9 => ?_)
  obtain ⟨ws3, e_ws3⟩ : ∃ x : va_W, x = ws2.set 46 ((A46, Sum.inr (8, [Value.int 0, Value.int 1, Value.ref A47, Value.ref A48, Value.ref A49, Value.int 0, Value.ref A50, Value.ref A51, Value.ref A52, Value.ref A53, Value.int 0, Value.int 0, Value.int 0, Value.int (-1), Value.int 0, Value.ref A54, Value.ref A62, Value.ref A70, Value.int 0, Value.int 0, Value.int 0, Value.ref A78, Value.ref A79, Value.int 0, Value.int 16, Value.int 4, u0, Value.ref A80, Value.ref A81, Value.ref A82, Value.int 0, Value.ref A83, Value.int 0, Value.int 0, Value.int 0])) : Nat × va_E) := ⟨_, rfl⟩
  replace hP : va_P D classes ws3 H := by rw [e_ws3]; exact hP9
  replace hD : va_D A ws3 := by rw [e_ws3]; exact hD9
  replace hS := hS9
  clear hP9 hD9 hS9
  have f_46_ws3 : ws3[46]? = some ((A46, Sum.inr (8, [Value.int 0, Value.int 1, Value.ref A47, Value.ref A48, Value.ref A49, Value.int 0, Value.ref A50, Value.ref A51, Value.ref A52, Value.ref A53, Value.int 0, Value.int 0, Value.int 0, Value.int (-1), Value.int 0, Value.ref A54, Value.ref A62, Value.ref A70, Value.int 0, Value.int 0, Value.int 0, Value.ref A78, Value.ref A79, Value.int 0, Value.int 16, Value.int 4, u0, Value.ref A80, Value.ref A81, Value.ref A82, Value.int 0, Value.ref A83, Value.int 0, Value.int 0, Value.int 0])) : Nat × va_E) := by rw [e_ws3]; exact gs_self f_46_ws2
  replace hU : gx_g ws ws3 0 [46] := by rw [e_ws3]; exact hU.put (Or.inl (by simp))
  refine lv_aload_n hx hb d_Mo_done_65 rfl (lv_at hl 3 rfl) ?_
  refine va_get (D := D) (ci := 8) (v := Value.int 1) (C := "CommitLedgerModel") (T := F_Mo) (N := 35) hx hb hts i_Mo hown hK hP 46 f_46_ws3 rfl 1 (by decide) (hts _ kf_Mo_80) (fun _ h9 => h9) rfl d_Mo_done_66 ?_
  refine lv_if_le (tgt := 76) hx hb d_Mo_done_69 (by decide) (fun c9 => absurd c9 (by decide)) (fun _ => ?_)
  refine lv_iconst (v := 0) hx hb d_Mo_done_72 (by decide) ?_
  refine lv_goto (tgt := 77) hx hb d_Mo_done_73 (by decide) ?_
  exact gx_ret (W.iret (v := 0) hx hb hr (gx_post hP hK hD hS (by rw [← hPQ]; exact ⟨rfl, hU, f_46_ws3⟩)) hS.2.2 d_Mo_done_77)

set_option maxHeartbeats 4000000 in
set_option maxRecDepth 100000 in
theorem c_Mo_finished_v4 (l : Launch) (htr : l.stackTraces = false) (D : va_G) (tys : List (ClassId × FieldType)) (z sz : Nat) (ws : va_W) (cV : ClassId) (A46 : Nat) (A47 : Nat) (A48 : Nat) (A49 : Nat) (A50 : Nat) (A51 : Nat) (A52 : Nat) (A53 : Nat) (A54 : Nat) (A62 : Nat) (A70 : Nat) (A78 : Nat) (A79 : Nat) (u0 : Value) (A80 : Nat) (A81 : Nat) (A82 : Nat) (A83 : Nat) (A84 : Nat) (A85 : Nat) (A86 : Nat) (A87 : Nat) (A88 : Nat) (A89 : Nat) (A90 : Nat) (A91 : Nat) (A92 : Nat) (A93 : Nat) (A94 : Nat) (A95 : Nat) (A96 : Nat) (A97 : Nat) (A98 : Nat) (A99 : Nat) (A100 : Nat) (A101 : Nat) (A102 : Nat) (A103 : Nat) (A104 : Nat) (A105 : Nat) (A106 : Nat) (A107 : Nat) (A108 : Nat) (A109 : Nat) (A110 : Nat) (A111 : Nat) (A112 : Nat) (A113 : Nat) (A114 : Nat) (A115 : Nat) (f_46 : ws[46]? = some ((A46, Sum.inr (8, [Value.int 3, Value.int 0, Value.ref A47, Value.ref A48, Value.ref A49, Value.int 0, Value.ref A50, Value.ref A51, Value.ref A52, Value.ref A53, Value.int 0, Value.int 0, Value.int 0, Value.int (-1), Value.int 0, Value.ref A54, Value.ref A62, Value.ref A70, Value.int 0, Value.int 0, Value.int 0, Value.ref A78, Value.ref A79, Value.int 0, Value.int 16, Value.int 4, u0, Value.ref A80, Value.ref A81, Value.ref A82, Value.int 0, Value.ref A83, Value.int 0, Value.int 0, Value.int 0])) : Nat × va_E)) (f_84 : ws[84]? = some ((A84, Sum.inr (9, [Value.ref A85, Value.ref A86, Value.ref A87, Value.ref A88, Value.ref A89, Value.ref A90, Value.ref A91, Value.int 0, Value.int 0, Value.int 0, Value.int 0])) : Nat × va_E)) (f_92 : ws[92]? = some ((A92, Sum.inr (9, [Value.ref A93, Value.ref A94, Value.ref A95, Value.ref A96, Value.ref A97, Value.ref A98, Value.ref A99, Value.int 0, Value.int 0, Value.int 0, Value.int 0])) : Nat × va_E)) (f_100 : ws[100]? = some ((A100, Sum.inr (9, [Value.ref A101, Value.ref A102, Value.ref A103, Value.ref A104, Value.ref A105, Value.ref A106, Value.ref A107, Value.int 0, Value.int 0, Value.int 0, Value.int 0])) : Nat × va_E)) (f_108 : ws[108]? = some ((A108, Sum.inr (9, [Value.ref A109, Value.ref A110, Value.ref A111, Value.ref A112, Value.ref A113, Value.ref A114, Value.ref A115, Value.int 0, Value.int 0, Value.int 0, Value.int 0])) : Nat × va_E)) (f_83 : ws[83]? = some ((A83, Sum.inl (cV, 4, Sum.inr (Sum.inr (Sum.inr (Sum.inr (va_up (va_up (va_up (va_up (fun _ => none) 0 (some A84)) 1 (some A92)) 2 (some A100)) 3 (some A108))))))) : Nat × va_E)) (ht5 : tys[5]? = some ((cV, FieldType.object "CommitLedgerModel$Version") : ClassId × FieldType)) : gx_Met l y_Mo_finished [Cond.code y_Mo_finished b_Mo_finished 3 (some .int)] { frames := 3, cells := 0, slots := 0, locals := 58 } (gx_P z sz D classes tys ws [Value.ref A46, Value.int 0, Value.int 3]) (gx_Q D classes tys (va_A ws sz) (fun r ws' => (r = Sum.inl (some (Value.int 0)) ∧ gx_g ws ws' 0 [46] ∧ ws'[46]? = some ((A46, Sum.inr (8, [Value.int 0, Value.int 1, Value.ref A47, Value.ref A48, Value.ref A49, Value.int 0, Value.ref A50, Value.ref A51, Value.ref A52, Value.ref A53, Value.int 0, Value.int 0, Value.int 0, Value.int (-1), Value.int 0, Value.ref A54, Value.ref A62, Value.ref A70, Value.int 0, Value.int 0, Value.int 0, Value.ref A78, Value.ref A79, Value.int 0, Value.int 16, Value.int 4, u0, Value.ref A80, Value.ref A81, Value.ref A82, Value.int 0, Value.ref A83, Value.int 0, Value.int 0, Value.int 0])) : Nat × va_E)))) 0 0 (va_A ws sz) := by
  refine gx_ofW (cc := b_Mo_finished) (maxL := 3) (ret := (some .int)) (by decide) rfl ?_
  intro p e s m args below meth c s₁ B hml hv
  obtain ⟨rfl, hsz, hz, hP, hK, hD0, hY⟩ := hv
  have hx := B.exec
  have hb := B.bytes
  have hr := B.returns
  have hts := hY.hts (#[Value.ref A46, Value.int 0, Value.int 3] : Array Value)
  have hown : s.vm.findClass "CommitLedgerModel" = some m.cls := findClass_of_methodNamed B.named
  have hlocks := B.notSynchronized
  have hne : c.exceptionTable.isEmpty = true := B.noHandlers (atoms_spec (ws := [Cond.code y_Mo_finished b_Mo_finished 3 (some .int)]) B.pre _ List.mem_cons_self)
  subst hsz
  have hAz := gx_az hD0 hz
  have hD := hD0.self (sz := s.heap.size)
  have hN := gx_ns hP
  have hA : ∀ q : Nat, s.heap.size ≤ q → va_A ws s.heap.size q := fun q h => Or.inr h
  generalize va_A ws s.heap.size = A at hD hN hA hAz ⊢
  generalize hPQ : (fun (r : Option Value ⊕ String) (ws' : va_W) => (r = Sum.inl (some (Value.int 0)) ∧ gx_g ws ws' 0 [46] ∧ ws'[46]? = some ((A46, Sum.inr (8, [Value.int 0, Value.int 1, Value.ref A47, Value.ref A48, Value.ref A49, Value.int 0, Value.ref A50, Value.ref A51, Value.ref A52, Value.ref A53, Value.int 0, Value.int 0, Value.int 0, Value.int (-1), Value.int 0, Value.ref A54, Value.ref A62, Value.ref A70, Value.int 0, Value.int 0, Value.int 0, Value.ref A78, Value.ref A79, Value.int 0, Value.int 16, Value.int 4, u0, Value.ref A80, Value.ref A81, Value.ref A82, Value.int 0, Value.ref A83, Value.int 0, Value.int 0, Value.int 0])) : Nat × va_E))) = PQ
  have hS : va_S A s.heap s.heap [] := va_S.rf
  have hU : gx_g ws ws 0 [46] := gx_g.rf
  have hl := lv_entry ([Value.ref A46, Value.int 0, Value.int 3]) (n := 3) (Nat.le_of_ble_eq_true rfl)
  rw [lg_entry_eq]
  generalize (lg_sl ([Value.ref A46, Value.int 0, Value.int 3]) ++ List.replicate (3 - (lg_sl ([Value.ref A46, Value.int 0, Value.int 3])).length) Slot.unset).toArray = ls at hl ⊢
  have hl : lv_has ls 3 [(0, Value.ref A46), (1, Value.int 0), (2, Value.int 3)] := hl
  refine lv_aload_n hx hb d_Mo_finished_0 rfl (lv_at hl 0 rfl) ?_
  refine gx_call (ig := .invokevirtual 145) (c_Mo_tidyFiles_v3 l htr D tys z _ ws cV A46 A47 A48 A49 A50 A51 A52 A53 A54 A62 A70 A78 A79 (u0) A80 A81 A82 A83 A84 A85 A86 A87 A88 A89 A90 A91 A92 A93 A94 A95 A96 A97 A98 A99 A100 A101 A102 A103 A104 A105 A106 A107 A108 A109 A110 A111 A112 A113 A114 A115 f_46 f_84 f_92 f_100 f_108 f_83 ht5) (gx_invV (As := []) (rest := []) hx hb hown hts km_Mo_145 kI_Mo_tidyFiles kV_Mo_tidyFiles kc_Mo_tidyFiles (by decide) (show (parseMethodDescriptor y_Mo_tidyFiles.desc).map (fun d => d.parameters.length) = some 0 by decide +kernel) (gx_recv (ci := 8) hK hP rfl f_46) rfl rfl d_Mo_finished_1) (gx_cw (z := 0) hts kc_Mo_tidyFiles kN_Mo rfl rfl ⟨Nat.le_of_ble_eq_true rfl, Nat.le_of_ble_eq_true rfl⟩) hb hml gx_blind (gx_pre hz hP hK hD hY hS hAz [Value.ref A46]) rfl hl.1 (lv_room (Nat.le_of_ble_eq_true rfl)) d_Mo_finished_1 ⟨Nat.le_of_ble_eq_true rfl, Nat.le_of_ble_eq_true rfl⟩ (fun v1 st1 t1 L1 h0_1 hW_1 hQ_1 hL_1 => ?_) (fun v1 st1 t1 L1 h0_1 hW_1 hQ_1 hL_1 => ?_)
  · obtain ⟨ws2, hp, hP9, -, hD9, hS9⟩ := gx_back h0_1 hW_1 hQ_1 hL_1 hD hS hA
    clear hQ_1 h0_1 hL_1 hW_1 hP hD hS
    have hP := hP9
    have hD := hD9
    have hS := hS9
    clear hP9 hD9 hS9
    rcases hp with ⟨hv9, e_ws2, f_46_ws2⟩
    cases hv9
    have f_46_ws2 : ws2[46]? = some ((A46, Sum.inr (8, [Value.int 3, Value.int 0, Value.ref A47, Value.ref A48, Value.ref A49, Value.int 0, Value.ref A50, Value.ref A51, Value.ref A52, Value.ref A53, Value.int 0, Value.int 0, Value.int 0, Value.int (-1), Value.int 0, Value.ref A54, Value.ref A62, Value.ref A70, Value.int 0, Value.int 0, Value.int 0, Value.ref A78, Value.ref A79, Value.int 0, Value.int 16, Value.int 4, u0, Value.ref A80, Value.ref A81, Value.ref A82, Value.int 0, Value.ref A83, Value.int 0, Value.int 0, Value.int 0])) : Nat × va_E) := f_46_ws2
    replace hU : gx_g ws ws2 0 [46] := hU.call e_ws2 (by simp; first | done | omega)
    refine W.eq (g2 := F0 m 4 ls []) rfl ?_
    generalize t1.heap = H at hP hS ⊢
    generalize [] ++ L1 = locs at hS ⊢
    refine lv_aload_n hx hb d_Mo_finished_4 rfl (lv_at hl 0 rfl) ?_
    refine lv_iload_n hx hb d_Mo_finished_5 rfl (lv_at hl 1 rfl) ?_
    refine lv_iload_n hx hb d_Mo_finished_6 rfl (lv_at hl 2 rfl) ?_
    refine gx_call (ig := .invokevirtual 148) (c_Mo_done_v19 l htr D tys z _ ws2 A46 A47 A48 A49 A50 A51 A52 A53 A54 A62 A70 A78 A79 (u0) A80 A81 A82 A83 f_46_ws2) (gx_invV (As := [Value.int 0, Value.int 3]) (rest := []) hx hb hown hts km_Mo_148 kI_Mo_done kV_Mo_done kc_Mo_done (by decide) (show (parseMethodDescriptor y_Mo_done.desc).map (fun d => d.parameters.length) = some 2 by decide +kernel) (gx_recv (ci := 8) hK hP rfl f_46_ws2) rfl rfl d_Mo_finished_7) (gx_cw (z := 0) hts kc_Mo_done kN_Mo rfl rfl ⟨Nat.le_of_ble_eq_true rfl, Nat.le_of_ble_eq_true rfl⟩) hb hml gx_blind (gx_pre hz hP hK hD hY hS hAz [Value.ref A46, Value.int 0, Value.int 3]) rfl hl.1 (lv_room (Nat.le_of_ble_eq_true rfl)) d_Mo_finished_7 ⟨Nat.le_of_ble_eq_true rfl, Nat.le_of_ble_eq_true rfl⟩ (fun v3 st3 t3 L3 h0_3 hW_3 hQ_3 hL_3 => ?_) (fun v3 st3 t3 L3 h0_3 hW_3 hQ_3 hL_3 => ?_)
    · obtain ⟨ws4, hp, hP9, -, hD9, hS9⟩ := gx_back h0_3 hW_3 hQ_3 hL_3 hD hS hA
      clear hQ_3 h0_3 hL_3 hW_3 hP hD hS
      have hP := hP9
      have hD := hD9
      have hS := hS9
      clear hP9 hD9 hS9
      rcases hp with ⟨hv9, e_ws4, f_46_ws4⟩
      cases hv9
      have f_46_ws4 : ws4[46]? = some ((A46, Sum.inr (8, [Value.int 0, Value.int 1, Value.ref A47, Value.ref A48, Value.ref A49, Value.int 0, Value.ref A50, Value.ref A51, Value.ref A52, Value.ref A53, Value.int 0, Value.int 0, Value.int 0, Value.int (-1), Value.int 0, Value.ref A54, Value.ref A62, Value.ref A70, Value.int 0, Value.int 0, Value.int 0, Value.ref A78, Value.ref A79, Value.int 0, Value.int 16, Value.int 4, u0, Value.ref A80, Value.ref A81, Value.ref A82, Value.int 0, Value.ref A83, Value.int 0, Value.int 0, Value.int 0])) : Nat × va_E) := f_46_ws4
      replace hU : gx_g ws ws4 0 [46] := hU.call e_ws4 (by simp; first | done | omega)
      refine W.eq (g2 := F0 m 10 ls [Value.int 0]) rfl ?_
      generalize t3.heap = H at hP hS ⊢
      generalize locs ++ L3 = locs at hS ⊢
      exact gx_ret (W.iret (v := 0) hx hb hr (gx_post hP hK hD hS (by rw [← hPQ]; exact ⟨rfl, hU, f_46_ws4⟩)) hS.2.2 d_Mo_finished_10)
    · obtain ⟨E9, ws5, ce, hp, hce, hP9, -, hD9, hS9⟩ := gx_backT h0_3 hW_3 hQ_3 hL_3 hD hS hA
      clear hQ_3 h0_3 hL_3 hW_3 hP hD hS
      have hP := hP9
      have hD := hD9
      have hS := hS9
      clear hP9 hD9 hS9
      rcases hp with ⟨hv9, e_ws5, f_46_ws5⟩
      cases hv9
  · obtain ⟨E9, ws6, ce, hp, hce, hP9, -, hD9, hS9⟩ := gx_backT h0_1 hW_1 hQ_1 hL_1 hD hS hA
    clear hQ_1 h0_1 hL_1 hW_1 hP hD hS
    have hP := hP9
    have hD := hD9
    have hS := hS9
    clear hP9 hD9 hS9
    rcases hp with ⟨hv9, e_ws6, f_46_ws6⟩
    cases hv9
