/-! CONTRACTS of the public methods of CommitLedger on a new object, rows printed by an own text program -/
set_option maxHeartbeats 4000000 in
set_option maxRecDepth 100000 in
theorem c_Di_needSynced_v1 (l : Launch) (htr : l.stackTraces = false) (D : va_G) (tys : List (ClassId × FieldType)) (z sz : Nat) (ws : va_W) (A5 : Nat) (A6 : Nat) (A7 : Nat) (u0 : Value) (f_5 : ws[5]? = some ((A5, Sum.inr (2, [Value.ref A6, Value.ref A7, Value.int 0, Value.int 0])) : Nat × va_E)) (f_6 : ws[6]? = some ((A6, Sum.inr (3, [u0, Value.int 0, Value.int 0])) : Nat × va_E)) : gx_Met l y_Di_needSynced [Cond.code y_Di_needSynced b_Di_needSynced 2 none] { frames := 2, cells := 0, slots := 0, locals := 32 } (gx_P z sz D classes tys ws [Value.ref A5]) (gx_Q D classes tys (va_A ws sz) (fun r ws' => (r = Sum.inl none ∧ ws' = ws))) 0 0 (va_A ws sz) := by
  refine gx_ofW (cc := b_Di_needSynced) (maxL := 2) (ret := none) (by decide) rfl ?_
  intro p e s m args below meth c s₁ B hml hv
  obtain ⟨rfl, hsz, hz, hP, hK, hD0, hY⟩ := hv
  have hx := B.exec
  have hb := B.bytes
  have hr := B.returns
  have hts := hY.hts (#[Value.ref A5] : Array Value)
  have hown : s.vm.findClass "CommitLedger$Directory" = some m.cls := findClass_of_methodNamed B.named
  have hlocks := B.notSynchronized
  have hne : c.exceptionTable.isEmpty = true := B.noHandlers (atoms_spec (ws := [Cond.code y_Di_needSynced b_Di_needSynced 2 none]) B.pre _ List.mem_cons_self)
  subst hsz
  have hAz := gx_az hD0 hz
  have hD := hD0.self (sz := s.heap.size)
  have hN := gx_ns hP
  have hA : ∀ q : Nat, s.heap.size ≤ q → va_A ws s.heap.size q := fun q h => Or.inr h
  generalize va_A ws s.heap.size = A at hD hN hA hAz ⊢
  generalize hPQ : (fun (r : Option Value ⊕ String) (ws' : va_W) => (r = Sum.inl none ∧ ws' = ws)) = PQ
  have hS : va_S A s.heap s.heap [] := va_S.rf
  have hU : gx_g ws ws 0 [] := gx_g.rf
  have hl := lv_entry ([Value.ref A5]) (n := 2) (Nat.le_of_ble_eq_true rfl)
  rw [lg_entry_eq]
  generalize (lg_sl ([Value.ref A5]) ++ List.replicate (2 - (lg_sl ([Value.ref A5])).length) Slot.unset).toArray = ls at hl ⊢
  have hl : lv_has ls 2 [(0, Value.ref A5)] := hl
  refine lv_iconst (v := 0) hx hb d_Di_needSynced_0 (by decide) ?_
  refine lv_istore_n (lv' := [(1, Value.int 0), (0, Value.ref A5)]) hx hb d_Di_needSynced_1 rfl hl (by decide) rfl (fun ls hl => ?_)
  refine lv_iload_n hx hb d_Di_needSynced_2 rfl (lv_at hl 0 rfl) ?_
  refine lv_aload_n hx hb d_Di_needSynced_3 rfl (lv_at hl 1 rfl) ?_
  refine va_get (D := D) (ci := 2) (v := Value.ref A6) (C := "CommitLedger$Directory") (T := F_Di) (N := 4) hx hb hts i_Di hown hK hP 5 f_5 rfl 0 (by decide) (hts _ kf_Di_10) (fun _ h9 => h9) rfl d_Di_needSynced_4 ?_
  refine gx_call (ig := .invokevirtual 26) (c_Al_size l htr D tys z _ ws A6 6 (u0) 0 0 f_6) (gx_invV (As := []) (rest := [Value.int 0]) hx hb hown hts km_Di_26 kI_Al_size kV_Al_size kc_Al_size (by decide) (show (parseMethodDescriptor y_Al_size.desc).map (fun d => d.parameters.length) = some 0 by decide +kernel) (gx_recv (ci := 3) hK hP rfl f_6) rfl rfl d_Di_needSynced_7) (gx_cw (z := 0) hts kc_Al_size kN_Al rfl rfl ⟨Nat.le_of_ble_eq_true rfl, Nat.le_of_ble_eq_true rfl⟩) hb hml gx_blind (gx_pre hz hP hK hD hY hS hAz [Value.ref A6]) rfl hl.1 (lv_room (Nat.le_of_ble_eq_true rfl)) d_Di_needSynced_7 ⟨Nat.le_of_ble_eq_true rfl, Nat.le_of_ble_eq_true rfl⟩ (fun v1 st1 t1 L1 h0_1 hW_1 hQ_1 hL_1 => ?_) (fun v1 st1 t1 L1 h0_1 hW_1 hQ_1 hL_1 => ?_)
  · obtain ⟨ws2, hp, hP9, -, hD9, hS9⟩ := gx_back h0_1 hW_1 hQ_1 hL_1 hD hS hA
    clear hQ_1 h0_1 hL_1 hW_1 hP hD hS
    have hP := hP9
    have hD := hD9
    have hS := hS9
    clear hP9 hD9 hS9
    rcases hp with ⟨hv9, e_ws2⟩
    cases hv9
    rw [e_ws2] at hP hD
    refine W.eq (g2 := F0 m 10 ls [Value.int 0, Value.int 0]) rfl ?_
    generalize t1.heap = H at hP hS ⊢
    generalize [] ++ L1 = locs at hS ⊢
    refine lv_icmp_ge (tgt := 47) hx hb d_Di_needSynced_10 (by decide) (fun _ => ?_) (fun c9 => absurd (by decide) c9)
    exact gx_ret (W.vret hx hb hr (gx_post hP hK hD hS (by rw [← hPQ]; exact ⟨rfl, rfl⟩)) hS.2.2 d_Di_needSynced_47)
  · obtain ⟨E9, ws3, ce, hp, hce, hP9, -, hD9, hS9⟩ := gx_backT h0_1 hW_1 hQ_1 hL_1 hD hS hA
    clear hQ_1 h0_1 hL_1 hW_1 hP hD hS
    have hP := hP9
    have hD := hD9
    have hS := hS9
    clear hP9 hD9 hS9
    rcases hp with ⟨hv9, e_ws3⟩
    cases hv9

set_option maxHeartbeats 4000000 in
set_option maxRecDepth 100000 in
theorem c_Di_dropUnneeded_v1 (l : Launch) (htr : l.stackTraces = false) (D : va_G) (tys : List (ClassId × FieldType)) (z sz : Nat) (ws : va_W) (A5 : Nat) (A6 : Nat) (A7 : Nat) (u0 : Value) (f_5 : ws[5]? = some ((A5, Sum.inr (2, [Value.ref A6, Value.ref A7, Value.int 0, Value.int 0])) : Nat × va_E)) (f_6 : ws[6]? = some ((A6, Sum.inr (3, [u0, Value.int 0, Value.int 0])) : Nat × va_E)) : gx_Met l y_Di_dropUnneeded [Cond.code y_Di_dropUnneeded b_Di_dropUnneeded 4 none] { frames := 2, cells := 0, slots := 0, locals := 32 } (gx_P z sz D classes tys ws [Value.ref A5]) (gx_Q D classes tys (va_A ws sz) (fun r ws' => (r = Sum.inl none ∧ ws' = ws))) 0 0 (va_A ws sz) := by
  refine gx_ofW (cc := b_Di_dropUnneeded) (maxL := 4) (ret := none) (by decide) rfl ?_
  intro p e s m args below meth c s₁ B hml hv
  obtain ⟨rfl, hsz, hz, hP, hK, hD0, hY⟩ := hv
  have hx := B.exec
  have hb := B.bytes
  have hr := B.returns
  have hts := hY.hts (#[Value.ref A5] : Array Value)
  have hown : s.vm.findClass "CommitLedger$Directory" = some m.cls := findClass_of_methodNamed B.named
  have hlocks := B.notSynchronized
  have hne : c.exceptionTable.isEmpty = true := B.noHandlers (atoms_spec (ws := [Cond.code y_Di_dropUnneeded b_Di_dropUnneeded 4 none]) B.pre _ List.mem_cons_self)
  subst hsz
  have hAz := gx_az hD0 hz
  have hD := hD0.self (sz := s.heap.size)
  have hN := gx_ns hP
  have hA : ∀ q : Nat, s.heap.size ≤ q → va_A ws s.heap.size q := fun q h => Or.inr h
  generalize va_A ws s.heap.size = A at hD hN hA hAz ⊢
  generalize hPQ : (fun (r : Option Value ⊕ String) (ws' : va_W) => (r = Sum.inl none ∧ ws' = ws)) = PQ
  have hS : va_S A s.heap s.heap [] := va_S.rf
  have hU : gx_g ws ws 0 [] := gx_g.rf
  have hl := lv_entry ([Value.ref A5]) (n := 4) (Nat.le_of_ble_eq_true rfl)
  rw [lg_entry_eq]
  generalize (lg_sl ([Value.ref A5]) ++ List.replicate (4 - (lg_sl ([Value.ref A5])).length) Slot.unset).toArray = ls at hl ⊢
  have hl : lv_has ls 4 [(0, Value.ref A5)] := hl
  refine lv_iconst (v := 0) hx hb d_Di_dropUnneeded_0 (by decide) ?_
  refine lv_istore_n (lv' := [(1, Value.int 0), (0, Value.ref A5)]) hx hb d_Di_dropUnneeded_1 rfl hl (by decide) rfl (fun ls hl => ?_)
  refine lv_iconst (v := 0) hx hb d_Di_dropUnneeded_2 (by decide) ?_
  refine lv_istore_n (lv' := [(2, Value.int 0), (1, Value.int 0), (0, Value.ref A5)]) hx hb d_Di_dropUnneeded_3 rfl hl (by decide) rfl (fun ls hl => ?_)
  refine lv_iload_n hx hb d_Di_dropUnneeded_4 rfl (lv_at hl 0 rfl) ?_
  refine lv_aload_n hx hb d_Di_dropUnneeded_5 rfl (lv_at hl 2 rfl) ?_
  refine va_get (D := D) (ci := 2) (v := Value.ref A6) (C := "CommitLedger$Directory") (T := F_Di) (N := 4) hx hb hts i_Di hown hK hP 5 f_5 rfl 0 (by decide) (hts _ kf_Di_10) (fun _ h9 => h9) rfl d_Di_dropUnneeded_6 ?_
  refine gx_call (ig := .invokevirtual 26) (c_Al_size l htr D tys z _ ws A6 6 (u0) 0 0 f_6) (gx_invV (As := []) (rest := [Value.int 0]) hx hb hown hts km_Di_26 kI_Al_size kV_Al_size kc_Al_size (by decide) (show (parseMethodDescriptor y_Al_size.desc).map (fun d => d.parameters.length) = some 0 by decide +kernel) (gx_recv (ci := 3) hK hP rfl f_6) rfl rfl d_Di_dropUnneeded_9) (gx_cw (z := 0) hts kc_Al_size kN_Al rfl rfl ⟨Nat.le_of_ble_eq_true rfl, Nat.le_of_ble_eq_true rfl⟩) hb hml gx_blind (gx_pre hz hP hK hD hY hS hAz [Value.ref A6]) rfl hl.1 (lv_room (Nat.le_of_ble_eq_true rfl)) d_Di_dropUnneeded_9 ⟨Nat.le_of_ble_eq_true rfl, Nat.le_of_ble_eq_true rfl⟩ (fun v1 st1 t1 L1 h0_1 hW_1 hQ_1 hL_1 => ?_) (fun v1 st1 t1 L1 h0_1 hW_1 hQ_1 hL_1 => ?_)
  · obtain ⟨ws2, hp, hP9, -, hD9, hS9⟩ := gx_back h0_1 hW_1 hQ_1 hL_1 hD hS hA
    clear hQ_1 h0_1 hL_1 hW_1 hP hD hS
    have hP := hP9
    have hD := hD9
    have hS := hS9
    clear hP9 hD9 hS9
    rcases hp with ⟨hv9, e_ws2⟩
    cases hv9
    rw [e_ws2] at hP hD
    refine W.eq (g2 := F0 m 12 ls [Value.int 0, Value.int 0]) rfl ?_
    generalize t1.heap = H at hP hS ⊢
    generalize [] ++ L1 = locs at hS ⊢
    refine lv_icmp_ge (tgt := 65) hx hb d_Di_dropUnneeded_12 (by decide) (fun _ => ?_) (fun c9 => absurd (by decide) c9)
    refine lv_aload_n hx hb d_Di_dropUnneeded_65 rfl (lv_at hl 2 rfl) ?_
    refine va_get (D := D) (ci := 2) (v := Value.ref A6) (C := "CommitLedger$Directory") (T := F_Di) (N := 4) hx hb hts i_Di hown hK hP 5 f_5 rfl 0 (by decide) (hts _ kf_Di_10) (fun _ h9 => h9) rfl d_Di_dropUnneeded_66 ?_
    refine gx_call (ig := .invokevirtual 26) (c_Al_size l htr D tys z _ ws A6 6 (u0) 0 0 f_6) (gx_invV (As := []) (rest := []) hx hb hown hts km_Di_26 kI_Al_size kV_Al_size kc_Al_size (by decide) (show (parseMethodDescriptor y_Al_size.desc).map (fun d => d.parameters.length) = some 0 by decide +kernel) (gx_recv (ci := 3) hK hP rfl f_6) rfl rfl d_Di_dropUnneeded_69) (gx_cw (z := 0) hts kc_Al_size kN_Al rfl rfl ⟨Nat.le_of_ble_eq_true rfl, Nat.le_of_ble_eq_true rfl⟩) hb hml gx_blind (gx_pre hz hP hK hD hY hS hAz [Value.ref A6]) rfl hl.1 (lv_room (Nat.le_of_ble_eq_true rfl)) d_Di_dropUnneeded_69 ⟨Nat.le_of_ble_eq_true rfl, Nat.le_of_ble_eq_true rfl⟩ (fun v3 st3 t3 L3 h0_3 hW_3 hQ_3 hL_3 => ?_) (fun v3 st3 t3 L3 h0_3 hW_3 hQ_3 hL_3 => ?_)
    · obtain ⟨ws4, hp, hP9, -, hD9, hS9⟩ := gx_back h0_3 hW_3 hQ_3 hL_3 hD hS hA
      clear hQ_3 h0_3 hL_3 hW_3 hP hD hS
      have hP := hP9
      have hD := hD9
      have hS := hS9
      clear hP9 hD9 hS9
      rcases hp with ⟨hv9, e_ws4⟩
      cases hv9
      rw [e_ws4] at hP hD
      refine W.eq (g2 := F0 m 72 ls [Value.int 0]) rfl ?_
      generalize t3.heap = H at hP hS ⊢
      generalize locs ++ L3 = locs at hS ⊢
      refine lv_iconst (v := 1) hx hb d_Di_dropUnneeded_72 (by decide) ?_
      refine lv_isub hx hb d_Di_dropUnneeded_73 ?_
      refine gx_topi (y := (-1)) (by decide) ?_
      refine lv_istore_n (lv' := [(2, Value.int (-1)), (1, Value.int 0), (0, Value.ref A5)]) hx hb d_Di_dropUnneeded_74 rfl hl (by decide) rfl (fun ls hl => ?_)
      refine lv_iload_n hx hb d_Di_dropUnneeded_75 rfl (lv_at hl 0 rfl) ?_
      refine lv_iload_n hx hb d_Di_dropUnneeded_76 rfl (lv_at hl 1 rfl) ?_
      refine lv_icmp_lt (tgt := 95) hx hb d_Di_dropUnneeded_77 (by decide) (fun _ => ?_) (fun c9 => absurd (by decide) c9)
      exact gx_ret (W.vret hx hb hr (gx_post hP hK hD hS (by rw [← hPQ]; exact ⟨rfl, rfl⟩)) hS.2.2 d_Di_dropUnneeded_95)
    · obtain ⟨E9, ws5, ce, hp, hce, hP9, -, hD9, hS9⟩ := gx_backT h0_3 hW_3 hQ_3 hL_3 hD hS hA
      clear hQ_3 h0_3 hL_3 hW_3 hP hD hS
      have hP := hP9
      have hD := hD9
      have hS := hS9
      clear hP9 hD9 hS9
      rcases hp with ⟨hv9, e_ws5⟩
      cases hv9
  · obtain ⟨E9, ws6, ce, hp, hce, hP9, -, hD9, hS9⟩ := gx_backT h0_1 hW_1 hQ_1 hL_1 hD hS hA
    clear hQ_1 h0_1 hL_1 hW_1 hP hD hS
    have hP := hP9
    have hD := hD9
    have hS := hS9
    clear hP9 hD9 hS9
    rcases hp with ⟨hv9, e_ws6⟩
    cases hv9

set_option maxHeartbeats 4000000 in
set_option maxRecDepth 100000 in
theorem c_Le_losePower_v1 (l : Launch) (htr : l.stackTraces = false) (D : va_G) (tys : List (ClassId × FieldType)) (z sz : Nat) (ws : va_W) (cR : ClassId) (A0 : Nat) (A1 : Nat) (A5 : Nat) (A8 : Nat) (A20 : Nat) (A25 : Nat) (A12 : Nat) (A16 : Nat) (A6 : Nat) (A7 : Nat) (u0 : Value) (A26 : Nat) (A31 : Nat) (A36 : Nat) (A41 : Nat) (A27 : Nat) (A32 : Nat) (A37 : Nat) (A42 : Nat) (f_0 : ws[0]? = some ((A0, Sum.inr (0, [Value.ref A1, Value.ref A5, Value.ref A8, Value.ref A20, Value.ref A25, Value.ref A12, Value.ref A16, Value.int 0, Value.int 0, Value.int 0, Value.int 16, Value.int 4, Value.int 0, Value.int 0, Value.int 0, Value.int 0, Value.int 0, Value.int (-1)])) : Nat × va_E)) (f_5 : ws[5]? = some ((A5, Sum.inr (2, [Value.ref A6, Value.ref A7, Value.int 0, Value.int 0])) : Nat × va_E)) (f_6 : ws[6]? = some ((A6, Sum.inr (3, [u0, Value.int 0, Value.int 0])) : Nat × va_E)) (f_25 : ws[25]? = some ((A25, Sum.inl (cR, 4, Sum.inr (Sum.inr (Sum.inr (Sum.inr (va_up (va_up (va_up (va_up (fun _ => none) 0 (some A26)) 1 (some A31)) 2 (some A36)) 3 (some A41))))))) : Nat × va_E)) (f_26 : ws[26]? = some ((A26, Sum.inr (6, [Value.ref A27, Value.int 0, Value.int 0])) : Nat × va_E)) (f_31 : ws[31]? = some ((A31, Sum.inr (6, [Value.ref A32, Value.int 0, Value.int 0])) : Nat × va_E)) (f_36 : ws[36]? = some ((A36, Sum.inr (6, [Value.ref A37, Value.int 0, Value.int 0])) : Nat × va_E)) (f_41 : ws[41]? = some ((A41, Sum.inr (6, [Value.ref A42, Value.int 0, Value.int 0])) : Nat × va_E)) (ht4 : tys[4]? = some ((cR, FieldType.object "CommitLedger$Reader") : ClassId × FieldType)) : gx_Met l y_Le_losePower [Cond.code y_Le_losePower b_Le_losePower 2 none] { frames := 3, cells := 0, slots := 0, locals := 55 } (gx_P z sz D classes tys ws [Value.ref A0]) (gx_Q D classes tys (va_A ws sz) (fun r ws' => (r = Sum.inl none ∧ gx_g ws ws' 0 [0, 5, 26, 31, 36, 41] ∧ ws'[0]? = some ((A0, Sum.inr (0, [Value.ref A1, Value.ref A5, Value.ref A8, Value.ref A20, Value.ref A25, Value.ref A12, Value.ref A16, Value.int 0, Value.int 0, Value.int 0, Value.int 16, Value.int 4, Value.int 0, Value.int 0, Value.int 0, Value.int 0, Value.int 0, Value.int (-1)])) : Nat × va_E) ∧ ws'[5]? = some ((A5, Sum.inr (2, [Value.ref A6, Value.ref A7, Value.int 0, Value.int 1])) : Nat × va_E) ∧ ws'[26]? = some ((A26, Sum.inr (6, [Value.ref A27, Value.int 0, Value.int 0])) : Nat × va_E) ∧ ws'[31]? = some ((A31, Sum.inr (6, [Value.ref A32, Value.int 0, Value.int 0])) : Nat × va_E) ∧ ws'[36]? = some ((A36, Sum.inr (6, [Value.ref A37, Value.int 0, Value.int 0])) : Nat × va_E) ∧ ws'[41]? = some ((A41, Sum.inr (6, [Value.ref A42, Value.int 0, Value.int 0])) : Nat × va_E)))) 0 0 (va_A ws sz) := by
  refine gx_ofW (cc := b_Le_losePower) (maxL := 2) (ret := none) (by decide) rfl ?_
  intro p e s m args below meth c s₁ B hml hv
  obtain ⟨rfl, hsz, hz, hP, hK, hD0, hY⟩ := hv
  have hx := B.exec
  have hb := B.bytes
  have hr := B.returns
  have hts := hY.hts (#[Value.ref A0] : Array Value)
  have hown : s.vm.findClass "CommitLedger" = some m.cls := findClass_of_methodNamed B.named
  have hlocks := B.notSynchronized
  have hne : c.exceptionTable.isEmpty = true := B.noHandlers (atoms_spec (ws := [Cond.code y_Le_losePower b_Le_losePower 2 none]) B.pre _ List.mem_cons_self)
  subst hsz
  have hAz := gx_az hD0 hz
  have hD := hD0.self (sz := s.heap.size)
  have hN := gx_ns hP
  have hA : ∀ q : Nat, s.heap.size ≤ q → va_A ws s.heap.size q := fun q h => Or.inr h
  generalize va_A ws s.heap.size = A at hD hN hA hAz ⊢
  generalize hPQ : (fun (r : Option Value ⊕ String) (ws' : va_W) => (r = Sum.inl none ∧ gx_g ws ws' 0 [0, 5, 26, 31, 36, 41] ∧ ws'[0]? = some ((A0, Sum.inr (0, [Value.ref A1, Value.ref A5, Value.ref A8, Value.ref A20, Value.ref A25, Value.ref A12, Value.ref A16, Value.int 0, Value.int 0, Value.int 0, Value.int 16, Value.int 4, Value.int 0, Value.int 0, Value.int 0, Value.int 0, Value.int 0, Value.int (-1)])) : Nat × va_E) ∧ ws'[5]? = some ((A5, Sum.inr (2, [Value.ref A6, Value.ref A7, Value.int 0, Value.int 1])) : Nat × va_E) ∧ ws'[26]? = some ((A26, Sum.inr (6, [Value.ref A27, Value.int 0, Value.int 0])) : Nat × va_E) ∧ ws'[31]? = some ((A31, Sum.inr (6, [Value.ref A32, Value.int 0, Value.int 0])) : Nat × va_E) ∧ ws'[36]? = some ((A36, Sum.inr (6, [Value.ref A37, Value.int 0, Value.int 0])) : Nat × va_E) ∧ ws'[41]? = some ((A41, Sum.inr (6, [Value.ref A42, Value.int 0, Value.int 0])) : Nat × va_E))) = PQ
  have hS : va_S A s.heap s.heap [] := va_S.rf
  have hU : gx_g ws ws 0 [0, 5, 26, 31, 36, 41] := gx_g.rf
  have hl := lv_entry ([Value.ref A0]) (n := 2) (Nat.le_of_ble_eq_true rfl)
  rw [lg_entry_eq]
  generalize (lg_sl ([Value.ref A0]) ++ List.replicate (2 - (lg_sl ([Value.ref A0])).length) Slot.unset).toArray = ls at hl ⊢
  have hl : lv_has ls 2 [(0, Value.ref A0)] := hl
  refine lv_aload_n hx hb d_Le_losePower_0 rfl (lv_at hl 0 rfl) ?_
  refine lv_iconst (v := (-1)) hx hb d_Le_losePower_1 (by decide) ?_
  refine va_put (D := D) (ci := 0) (v := Value.int (-1)) (ty := .int) (C := "CommitLedger") (T := F_Le) (N := 18) hx hb hts i_Le t_Le t_Le_ok n_Le hown hK hP hD hS 0 f_0 rfl 17 (by decide) (hts _ kf_Le_57) (fun _ h9 => h9) rfl (by decide +kernel) rfl rfl (Nat.le_of_ble_eq_true rfl) d_Le_losePower_2 (fun H locs hP9 hD9 hS9 => ?_)
  obtain ⟨ws1, e_ws1⟩ : ∃ x : va_W, x = ws.set 0 ((A0, Sum.inr (0, [Value.ref A1, Value.ref A5, Value.ref A8, Value.ref A20, Value.ref A25, Value.ref A12, Value.ref A16, Value.int 0, Value.int 0, Value.int 0, Value.int 16, Value.int 4, Value.int 0, Value.int 0, Value.int 0, Value.int 0, Value.int 0, Value.int (-1)])) : Nat × va_E) := ⟨_, rfl⟩
  replace hP : va_P D classes ws1 H := by rw [e_ws1]; exact hP9
  replace hD : va_D A ws1 := by rw [e_ws1]; exact hD9
  replace hS := hS9
  clear hP9 hD9 hS9
  have f_0_ws1 : ws1[0]? = some ((A0, Sum.inr (0, [Value.ref A1, Value.ref A5, Value.ref A8, Value.ref A20, Value.ref A25, Value.ref A12, Value.ref A16, Value.int 0, Value.int 0, Value.int 0, Value.int 16, Value.int 4, Value.int 0, Value.int 0, Value.int 0, Value.int 0, Value.int 0, Value.int (-1)])) : Nat × va_E) := by rw [e_ws1]; exact gs_self f_0
  replace hU : gx_g ws ws1 0 [0, 5, 26, 31, 36, 41] := by rw [e_ws1]; exact hU.put (Or.inl (by simp))
  refine lv_aload_n hx hb d_Le_losePower_5 rfl (lv_at hl 0 rfl) ?_
  refine gx_call (ig := .invokevirtual 184) (c_Le_forgetWriter l htr D tys z _ ws1 A0 (Value.ref A1) (Value.ref A5) (Value.ref A8) (Value.ref A20) (Value.ref A25) (Value.ref A12) (Value.ref A16) 0 0 (Value.int 0) (Value.int 16) (Value.int 4) 0 (Value.int 0) (Value.int 0) (Value.int 0) (Value.int 0) (Value.int (-1)) f_0_ws1) (gx_invV (As := []) (rest := []) hx hb hown hts km_Le_184 kI_Le_forgetWriter kV_Le_forgetWriter kc_Le_forgetWriter (by decide) (show (parseMethodDescriptor y_Le_forgetWriter.desc).map (fun d => d.parameters.length) = some 0 by decide +kernel) (gx_recv (ci := 0) hK hP rfl f_0_ws1) rfl rfl d_Le_losePower_6) (gx_cw (z := 0) hts kc_Le_forgetWriter kN_Le rfl rfl ⟨Nat.le_of_ble_eq_true rfl, Nat.le_of_ble_eq_true rfl⟩) hb hml gx_blind (gx_pre hz hP hK hD hY hS hAz [Value.ref A0]) rfl hl.1 (lv_room (Nat.le_of_ble_eq_true rfl)) d_Le_losePower_6 ⟨Nat.le_of_ble_eq_true rfl, Nat.le_of_ble_eq_true rfl⟩ (fun v2 st2 t2 L2 h0_2 hW_2 hQ_2 hL_2 => ?_) (fun v2 st2 t2 L2 h0_2 hW_2 hQ_2 hL_2 => ?_)
  · obtain ⟨ws3, hp, hP9, -, hD9, hS9⟩ := gx_back h0_2 hW_2 hQ_2 hL_2 hD hS hA
    clear hQ_2 h0_2 hL_2 hW_2 hP hD hS
    have hP := hP9
    have hD := hD9
    have hS := hS9
    clear hP9 hD9 hS9
    rcases hp with ⟨hv9, e_ws3, f_0_ws3⟩
    cases hv9
    have f_0_ws3 : ws3[0]? = some ((A0, Sum.inr (0, [Value.ref A1, Value.ref A5, Value.ref A8, Value.ref A20, Value.ref A25, Value.ref A12, Value.ref A16, Value.int 0, Value.int 0, Value.int 0, Value.int 16, Value.int 4, Value.int 0, Value.int 0, Value.int 0, Value.int 0, Value.int 0, Value.int (-1)])) : Nat × va_E) := f_0_ws3
    replace hU : gx_g ws ws3 0 [0, 5, 26, 31, 36, 41] := hU.call e_ws3 (by simp; first | done | omega)
    refine W.eq (g2 := F0 m 9 ls []) rfl ?_
    generalize t2.heap = H at hP hS ⊢
    generalize locs ++ L2 = locs at hS ⊢
    refine lv_iconst (v := 0) hx hb d_Le_losePower_9 (by decide) ?_
    refine lv_istore_n (lv' := [(1, Value.int 0), (0, Value.ref A0)]) hx hb d_Le_losePower_10 rfl hl (by decide) rfl (fun ls hl => ?_)
    refine lv_iload_n hx hb d_Le_losePower_11 rfl (lv_at hl 0 rfl) ?_
    refine lv_iconst (v := 4) hx hb d_Le_losePower_12 (by decide) ?_
    refine lv_icmp_ge (tgt := 32) hx hb d_Le_losePower_13 (by decide) (fun c9 => absurd c9 (by decide)) (fun _ => ?_)
    refine lv_aload_n hx hb d_Le_losePower_16 rfl (lv_at hl 1 rfl) ?_
    refine va_get (D := D) (ci := 0) (v := Value.ref A25) (C := "CommitLedger") (T := F_Le) (N := 18) hx hb hts i_Le hown hK hP 0 f_0_ws3 rfl 4 (by decide) (hts _ kf_Le_45) (fun _ h9 => h9) rfl d_Le_losePower_17 ?_
    refine lv_iload_n hx hb d_Le_losePower_20 rfl (lv_at hl 0 rfl) ?_
    have f_25_ws1 : ws1[25]? = some ((A25, Sum.inl (cR, 4, Sum.inr (Sum.inr (Sum.inr (Sum.inr (va_up (va_up (va_up (va_up (fun _ => none) 0 (some A26)) 1 (some A31)) 2 (some A36)) 3 (some A41))))))) : Nat × va_E) := by rw [e_ws1]; exact gs_ne (by decide) f_25
    clear f_25
    have f_25_ws3 : ws3[25]? = some ((A25, Sum.inl (cR, 4, Sum.inr (Sum.inr (Sum.inr (Sum.inr (va_up (va_up (va_up (va_up (fun _ => none) 0 (some A26)) 1 (some A31)) 2 (some A36)) 3 (some A41))))))) : Nat × va_E) := e_ws3.at (by first | decide | (simp; done) | (simp; omega)) f_25_ws1
    clear f_25_ws1
    refine gx_aald (D := D) (b := A26) (j := 0) hx hb hK hP 25 4 f_25_ws3 ht4 (gx_inl (by decide)) (by decide) (rfl) d_Le_losePower_21 ?_
    refine lv_iconst (v := 0) hx hb d_Le_losePower_22 (by decide) ?_
    have f_26_ws1 : ws1[26]? = some ((A26, Sum.inr (6, [Value.ref A27, Value.int 0, Value.int 0])) : Nat × va_E) := by rw [e_ws1]; exact gs_ne (by decide) f_26
    clear f_26
    have f_26_ws3 : ws3[26]? = some ((A26, Sum.inr (6, [Value.ref A27, Value.int 0, Value.int 0])) : Nat × va_E) := e_ws3.at (by first | decide | (simp; done) | (simp; omega)) f_26_ws1
    clear f_26_ws1
    refine va_put (D := D) (ci := 6) (v := Value.int 0) (ty := .boolean) (C := "CommitLedger$Reader") (T := F_Re) (N := 3) hx hb hts i_Re t_Re t_Re_ok n_Re hown hK hP hD hS 26 f_26_ws3 rfl 2 (by decide) (hts _ kf_Le_230) (fun _ h9 => h9) rfl (by decide +kernel) rfl rfl (Nat.le_of_ble_eq_true rfl) d_Le_losePower_23 (fun H locs hP9 hD9 hS9 => ?_)
    obtain ⟨ws4, e_ws4⟩ : ∃ x : va_W, x = ws3.set 26 ((A26, Sum.inr (6, [Value.ref A27, Value.int 0, Value.int 0])) : Nat × va_E) := ⟨_, rfl⟩
    replace hP : va_P D classes ws4 H := by rw [e_ws4]; exact hP9
    replace hD : va_D A ws4 := by rw [e_ws4]; exact hD9
    replace hS := hS9
    clear hP9 hD9 hS9
    have f_26_ws4 : ws4[26]? = some ((A26, Sum.inr (6, [Value.ref A27, Value.int 0, Value.int 0])) : Nat × va_E) := by rw [e_ws4]; exact gs_self f_26_ws3
    replace hU : gx_g ws ws4 0 [0, 5, 26, 31, 36, 41] := by rw [e_ws4]; exact hU.put (Or.inl (by simp))
    refine lv_iinc (v := 1) (lv' := [(1, Value.int 1), (0, Value.ref A0)]) hx hb d_Le_losePower_26 hl (k := 0) rfl (by decide) (by decide) rfl (fun ls hl => ?_)
    refine lv_goto (tgt := 11) hx hb d_Le_losePower_29 (by decide) ?_
    refine lv_iload_n hx hb d_Le_losePower_11 rfl (lv_at hl 0 rfl) ?_
    refine lv_iconst (v := 4) hx hb d_Le_losePower_12 (by decide) ?_
    refine lv_icmp_ge (tgt := 32) hx hb d_Le_losePower_13 (by decide) (fun c9 => absurd c9 (by decide)) (fun _ => ?_)
    refine lv_aload_n hx hb d_Le_losePower_16 rfl (lv_at hl 1 rfl) ?_
    have f_0_ws4 : ws4[0]? = some ((A0, Sum.inr (0, [Value.ref A1, Value.ref A5, Value.ref A8, Value.ref A20, Value.ref A25, Value.ref A12, Value.ref A16, Value.int 0, Value.int 0, Value.int 0, Value.int 16, Value.int 4, Value.int 0, Value.int 0, Value.int 0, Value.int 0, Value.int 0, Value.int (-1)])) : Nat × va_E) := by rw [e_ws4]; exact gs_ne (by decide) f_0_ws3
    clear f_0_ws3
    refine va_get (D := D) (ci := 0) (v := Value.ref A25) (C := "CommitLedger") (T := F_Le) (N := 18) hx hb hts i_Le hown hK hP 0 f_0_ws4 rfl 4 (by decide) (hts _ kf_Le_45) (fun _ h9 => h9) rfl d_Le_losePower_17 ?_
    refine lv_iload_n hx hb d_Le_losePower_20 rfl (lv_at hl 0 rfl) ?_
    have f_25_ws4 : ws4[25]? = some ((A25, Sum.inl (cR, 4, Sum.inr (Sum.inr (Sum.inr (Sum.inr (va_up (va_up (va_up (va_up (fun _ => none) 0 (some A26)) 1 (some A31)) 2 (some A36)) 3 (some A41))))))) : Nat × va_E) := by rw [e_ws4]; exact gs_ne (by decide) f_25_ws3
    clear f_25_ws3
    refine gx_aald (D := D) (b := A31) (j := 1) hx hb hK hP 25 4 f_25_ws4 ht4 (gx_inl (by decide)) (by decide) (rfl) d_Le_losePower_21 ?_
    refine lv_iconst (v := 0) hx hb d_Le_losePower_22 (by decide) ?_
    have f_31_ws1 : ws1[31]? = some ((A31, Sum.inr (6, [Value.ref A32, Value.int 0, Value.int 0])) : Nat × va_E) := by rw [e_ws1]; exact gs_ne (by decide) f_31
    clear f_31
    have f_31_ws3 : ws3[31]? = some ((A31, Sum.inr (6, [Value.ref A32, Value.int 0, Value.int 0])) : Nat × va_E) := e_ws3.at (by first | decide | (simp; done) | (simp; omega)) f_31_ws1
    clear f_31_ws1
    have f_31_ws4 : ws4[31]? = some ((A31, Sum.inr (6, [Value.ref A32, Value.int 0, Value.int 0])) : Nat × va_E) := by rw [e_ws4]; exact gs_ne (by decide) f_31_ws3
    clear f_31_ws3
    refine va_put (D := D) (ci := 6) (v := Value.int 0) (ty := .boolean) (C := "CommitLedger$Reader") (T := F_Re) (N := 3) hx hb hts i_Re t_Re t_Re_ok n_Re hown hK hP hD hS 31 f_31_ws4 rfl 2 (by decide) (hts _ kf_Le_230) (fun _ h9 => h9) rfl (by decide +kernel) rfl rfl (Nat.le_of_ble_eq_true rfl) d_Le_losePower_23 (fun H locs hP9 hD9 hS9 => ?_)
    obtain ⟨ws5, e_ws5⟩ : ∃ x : va_W, x = ws4.set 31 ((A31, Sum.inr (6, [Value.ref A32, Value.int 0, Value.int 0])) : Nat × va_E) := ⟨_, rfl⟩
    replace hP : va_P D classes ws5 H := by rw [e_ws5]; exact hP9
    replace hD : va_D A ws5 := by rw [e_ws5]; exact hD9
    replace hS := hS9
    clear hP9 hD9 hS9
    have f_31_ws5 : ws5[31]? = some ((A31, Sum.inr (6, [Value.ref A32, Value.int 0, Value.int 0])) : Nat × va_E) := by rw [e_ws5]; exact gs_self f_31_ws4
    replace hU : gx_g ws ws5 0 [0, 5, 26, 31, 36, 41] := by rw [e_ws5]; exact hU.put (Or.inl (by simp))
    refine lv_iinc (v := 2) (lv' := [(1, Value.int 2), (0, Value.ref A0)]) hx hb d_Le_losePower_26 hl (k := 0) rfl (by decide) (by decide) rfl (fun ls hl => ?_)
    refine lv_goto (tgt := 11) hx hb d_Le_losePower_29 (by decide) ?_
    refine lv_iload_n hx hb d_Le_losePower_11 rfl (lv_at hl 0 rfl) ?_
    refine lv_iconst (v := 4) hx hb d_Le_losePower_12 (by decide) ?_
    refine lv_icmp_ge (tgt := 32) hx hb d_Le_losePower_13 (by decide) (fun c9 => absurd c9 (by decide)) (fun _ => ?_)
    refine lv_aload_n hx hb d_Le_losePower_16 rfl (lv_at hl 1 rfl) ?_
    have f_0_ws5 : ws5[0]? = some ((A0, Sum.inr (0, [Value.ref A1, Value.ref A5, Value.ref A8, Value.ref A20, Value.ref A25, Value.ref A12, Value.ref A16, Value.int 0, Value.int 0, Value.int 0, Value.int 16, Value.int 4, Value.int 0, Value.int 0, Value.int 0, Value.int 0, Value.int 0, Value.int (-1)])) : Nat × va_E) := by rw [e_ws5]; exact gs_ne (by decide) f_0_ws4
    clear f_0_ws4
    refine va_get (D := D) (ci := 0) (v := Value.ref A25) (C := "CommitLedger") (T := F_Le) (N := 18) hx hb hts i_Le hown hK hP 0 f_0_ws5 rfl 4 (by decide) (hts _ kf_Le_45) (fun _ h9 => h9) rfl d_Le_losePower_17 ?_
    refine lv_iload_n hx hb d_Le_losePower_20 rfl (lv_at hl 0 rfl) ?_
    have f_25_ws5 : ws5[25]? = some ((A25, Sum.inl (cR, 4, Sum.inr (Sum.inr (Sum.inr (Sum.inr (va_up (va_up (va_up (va_up (fun _ => none) 0 (some A26)) 1 (some A31)) 2 (some A36)) 3 (some A41))))))) : Nat × va_E) := by rw [e_ws5]; exact gs_ne (by decide) f_25_ws4
    clear f_25_ws4
    refine gx_aald (D := D) (b := A36) (j := 2) hx hb hK hP 25 4 f_25_ws5 ht4 (gx_inl (by decide)) (by decide) (rfl) d_Le_losePower_21 ?_
    refine lv_iconst (v := 0) hx hb d_Le_losePower_22 (by decide) ?_
    have f_36_ws1 : ws1[36]? = some ((A36, Sum.inr (6, [Value.ref A37, Value.int 0, Value.int 0])) : Nat × va_E) := by rw [e_ws1]; exact gs_ne (by decide) f_36
    clear f_36
    have f_36_ws3 : ws3[36]? = some ((A36, Sum.inr (6, [Value.ref A37, Value.int 0, Value.int 0])) : Nat × va_E) := e_ws3.at (by first | decide | (simp; done) | (simp; omega)) f_36_ws1
    clear f_36_ws1
    have f_36_ws4 : ws4[36]? = some ((A36, Sum.inr (6, [Value.ref A37, Value.int 0, Value.int 0])) : Nat × va_E) := by rw [e_ws4]; exact gs_ne (by decide) f_36_ws3
    clear f_36_ws3
    have f_36_ws5 : ws5[36]? = some ((A36, Sum.inr (6, [Value.ref A37, Value.int 0, Value.int 0])) : Nat × va_E) := by rw [e_ws5]; exact gs_ne (by decide) f_36_ws4
    clear f_36_ws4
    refine va_put (D := D) (ci := 6) (v := Value.int 0) (ty := .boolean) (C := "CommitLedger$Reader") (T := F_Re) (N := 3) hx hb hts i_Re t_Re t_Re_ok n_Re hown hK hP hD hS 36 f_36_ws5 rfl 2 (by decide) (hts _ kf_Le_230) (fun _ h9 => h9) rfl (by decide +kernel) rfl rfl (Nat.le_of_ble_eq_true rfl) d_Le_losePower_23 (fun H locs hP9 hD9 hS9 => ?_)
    obtain ⟨ws6, e_ws6⟩ : ∃ x : va_W, x = ws5.set 36 ((A36, Sum.inr (6, [Value.ref A37, Value.int 0, Value.int 0])) : Nat × va_E) := ⟨_, rfl⟩
    replace hP : va_P D classes ws6 H := by rw [e_ws6]; exact hP9
    replace hD : va_D A ws6 := by rw [e_ws6]; exact hD9
    replace hS := hS9
    clear hP9 hD9 hS9
    have f_36_ws6 : ws6[36]? = some ((A36, Sum.inr (6, [Value.ref A37, Value.int 0, Value.int 0])) : Nat × va_E) := by rw [e_ws6]; exact gs_self f_36_ws5
    replace hU : gx_g ws ws6 0 [0, 5, 26, 31, 36, 41] := by rw [e_ws6]; exact hU.put (Or.inl (by simp))
    refine lv_iinc (v := 3) (lv' := [(1, Value.int 3), (0, Value.ref A0)]) hx hb d_Le_losePower_26 hl (k := 0) rfl (by decide) (by decide) rfl (fun ls hl => ?_)
    refine lv_goto (tgt := 11) hx hb d_Le_losePower_29 (by decide) ?_
    refine lv_iload_n hx hb d_Le_losePower_11 rfl (lv_at hl 0 rfl) ?_
    refine lv_iconst (v := 4) hx hb d_Le_losePower_12 (by decide) ?_
    refine lv_icmp_ge (tgt := 32) hx hb d_Le_losePower_13 (by decide) (fun c9 => absurd c9 (by decide)) (fun _ => ?_)
    refine lv_aload_n hx hb d_Le_losePower_16 rfl (lv_at hl 1 rfl) ?_
    have f_0_ws6 : ws6[0]? = some ((A0, Sum.inr (0, [Value.ref A1, Value.ref A5, Value.ref A8, Value.ref A20, Value.ref A25, Value.ref A12, Value.ref A16, Value.int 0, Value.int 0, Value.int 0, Value.int 16, Value.int 4, Value.int 0, Value.int 0, Value.int 0, Value.int 0, Value.int 0, Value.int (-1)])) : Nat × va_E) := by rw [e_ws6]; exact gs_ne (by decide) f_0_ws5
    clear f_0_ws5
    refine va_get (D := D) (ci := 0) (v := Value.ref A25) (C := "CommitLedger") (T := F_Le) (N := 18) hx hb hts i_Le hown hK hP 0 f_0_ws6 rfl 4 (by decide) (hts _ kf_Le_45) (fun _ h9 => h9) rfl d_Le_losePower_17 ?_
    refine lv_iload_n hx hb d_Le_losePower_20 rfl (lv_at hl 0 rfl) ?_
    have f_25_ws6 : ws6[25]? = some ((A25, Sum.inl (cR, 4, Sum.inr (Sum.inr (Sum.inr (Sum.inr (va_up (va_up (va_up (va_up (fun _ => none) 0 (some A26)) 1 (some A31)) 2 (some A36)) 3 (some A41))))))) : Nat × va_E) := by rw [e_ws6]; exact gs_ne (by decide) f_25_ws5
    clear f_25_ws5
    refine gx_aald (D := D) (b := A41) (j := 3) hx hb hK hP 25 4 f_25_ws6 ht4 (gx_inl (by decide)) (by decide) (rfl) d_Le_losePower_21 ?_
    refine lv_iconst (v := 0) hx hb d_Le_losePower_22 (by decide) ?_
    have f_41_ws1 : ws1[41]? = some ((A41, Sum.inr (6, [Value.ref A42, Value.int 0, Value.int 0])) : Nat × va_E) := by rw [e_ws1]; exact gs_ne (by decide) f_41
    clear f_41
    have f_41_ws3 : ws3[41]? = some ((A41, Sum.inr (6, [Value.ref A42, Value.int 0, Value.int 0])) : Nat × va_E) := e_ws3.at (by first | decide | (simp; done) | (simp; omega)) f_41_ws1
    clear f_41_ws1
    have f_41_ws4 : ws4[41]? = some ((A41, Sum.inr (6, [Value.ref A42, Value.int 0, Value.int 0])) : Nat × va_E) := by rw [e_ws4]; exact gs_ne (by decide) f_41_ws3
    clear f_41_ws3
    have f_41_ws5 : ws5[41]? = some ((A41, Sum.inr (6, [Value.ref A42, Value.int 0, Value.int 0])) : Nat × va_E) := by rw [e_ws5]; exact gs_ne (by decide) f_41_ws4
    clear f_41_ws4
    have f_41_ws6 : ws6[41]? = some ((A41, Sum.inr (6, [Value.ref A42, Value.int 0, Value.int 0])) : Nat × va_E) := by rw [e_ws6]; exact gs_ne (by decide) f_41_ws5
    clear f_41_ws5
    refine va_put (D := D) (ci := 6) (v := Value.int 0) (ty := .boolean) (C := "CommitLedger$Reader") (T := F_Re) (N := 3) hx hb hts i_Re t_Re t_Re_ok n_Re hown hK hP hD hS 41 f_41_ws6 rfl 2 (by decide) (hts _ kf_Le_230) (fun _ h9 => h9) rfl (by decide +kernel) rfl rfl (Nat.le_of_ble_eq_true rfl) d_Le_losePower_23 (fun H locs hP9 hD9 hS9 => ?_)
    obtain ⟨ws7, e_ws7⟩ : ∃ x : va_W, x = ws6.set 41 ((A41, Sum.inr (6, [Value.ref A42, Value.int 0, Value.int 0])) : Nat × va_E) := ⟨_, rfl⟩
    replace hP : va_P D classes ws7 H := by rw [e_ws7]; exact hP9
    replace hD : va_D A ws7 := by rw [e_ws7]; exact hD9
    replace hS := hS9
    clear hP9 hD9 hS9
    have f_41_ws7 : ws7[41]? = some ((A41, Sum.inr (6, [Value.ref A42, Value.int 0, Value.int 0])) : Nat × va_E) := by rw [e_ws7]; exact gs_self f_41_ws6
    replace hU : gx_g ws ws7 0 [0, 5, 26, 31, 36, 41] := by rw [e_ws7]; exact hU.put (Or.inl (by simp))
    refine lv_iinc (v := 4) (lv' := [(1, Value.int 4), (0, Value.ref A0)]) hx hb d_Le_losePower_26 hl (k := 0) rfl (by decide) (by decide) rfl (fun ls hl => ?_)
    refine lv_goto (tgt := 11) hx hb d_Le_losePower_29 (by decide) ?_
    refine lv_iload_n hx hb d_Le_losePower_11 rfl (lv_at hl 0 rfl) ?_
    refine lv_iconst (v := 4) hx hb d_Le_losePower_12 (by decide) ?_
    refine lv_icmp_ge (tgt := 32) hx hb d_Le_losePower_13 (by decide) (fun _ => ?_) (fun c9 => absurd (by decide) c9)
    refine lv_aload_n hx hb d_Le_losePower_32 rfl (lv_at hl 1 rfl) ?_
    have f_0_ws7 : ws7[0]? = some ((A0, Sum.inr (0, [Value.ref A1, Value.ref A5, Value.ref A8, Value.ref A20, Value.ref A25, Value.ref A12, Value.ref A16, Value.int 0, Value.int 0, Value.int 0, Value.int 16, Value.int 4, Value.int 0, Value.int 0, Value.int 0, Value.int 0, Value.int 0, Value.int (-1)])) : Nat × va_E) := by rw [e_ws7]; exact gs_ne (by decide) f_0_ws6
    clear f_0_ws6
    refine va_get (D := D) (ci := 0) (v := Value.ref A5) (C := "CommitLedger") (T := F_Le) (N := 18) hx hb hts i_Le hown hK hP 0 f_0_ws7 rfl 1 (by decide) (hts _ kf_Le_19) (fun _ h9 => h9) rfl d_Le_losePower_33 ?_
    have f_5_ws1 : ws1[5]? = some ((A5, Sum.inr (2, [Value.ref A6, Value.ref A7, Value.int 0, Value.int 0])) : Nat × va_E) := by rw [e_ws1]; exact gs_ne (by decide) f_5
    clear f_5
    have f_5_ws3 : ws3[5]? = some ((A5, Sum.inr (2, [Value.ref A6, Value.ref A7, Value.int 0, Value.int 0])) : Nat × va_E) := e_ws3.at (by first | decide | (simp; done) | (simp; omega)) f_5_ws1
    clear f_5_ws1
    have f_5_ws4 : ws4[5]? = some ((A5, Sum.inr (2, [Value.ref A6, Value.ref A7, Value.int 0, Value.int 0])) : Nat × va_E) := by rw [e_ws4]; exact gs_ne (by decide) f_5_ws3
    clear f_5_ws3
    have f_5_ws5 : ws5[5]? = some ((A5, Sum.inr (2, [Value.ref A6, Value.ref A7, Value.int 0, Value.int 0])) : Nat × va_E) := by rw [e_ws5]; exact gs_ne (by decide) f_5_ws4
    clear f_5_ws4
    have f_5_ws6 : ws6[5]? = some ((A5, Sum.inr (2, [Value.ref A6, Value.ref A7, Value.int 0, Value.int 0])) : Nat × va_E) := by rw [e_ws6]; exact gs_ne (by decide) f_5_ws5
    clear f_5_ws5
    have f_5_ws7 : ws7[5]? = some ((A5, Sum.inr (2, [Value.ref A6, Value.ref A7, Value.int 0, Value.int 0])) : Nat × va_E) := by rw [e_ws7]; exact gs_ne (by decide) f_5_ws6
    clear f_5_ws6
    have f_6_ws1 : ws1[6]? = some ((A6, Sum.inr (3, [u0, Value.int 0, Value.int 0])) : Nat × va_E) := by rw [e_ws1]; exact gs_ne (by decide) f_6
    clear f_6
    have f_6_ws3 : ws3[6]? = some ((A6, Sum.inr (3, [u0, Value.int 0, Value.int 0])) : Nat × va_E) := e_ws3.at (by first | decide | (simp; done) | (simp; omega)) f_6_ws1
    clear f_6_ws1
    have f_6_ws4 : ws4[6]? = some ((A6, Sum.inr (3, [u0, Value.int 0, Value.int 0])) : Nat × va_E) := by rw [e_ws4]; exact gs_ne (by decide) f_6_ws3
    clear f_6_ws3
    have f_6_ws5 : ws5[6]? = some ((A6, Sum.inr (3, [u0, Value.int 0, Value.int 0])) : Nat × va_E) := by rw [e_ws5]; exact gs_ne (by decide) f_6_ws4
    clear f_6_ws4
    have f_6_ws6 : ws6[6]? = some ((A6, Sum.inr (3, [u0, Value.int 0, Value.int 0])) : Nat × va_E) := by rw [e_ws6]; exact gs_ne (by decide) f_6_ws5
    clear f_6_ws5
    have f_6_ws7 : ws7[6]? = some ((A6, Sum.inr (3, [u0, Value.int 0, Value.int 0])) : Nat × va_E) := by rw [e_ws7]; exact gs_ne (by decide) f_6_ws6
    clear f_6_ws6
    refine gx_call (ig := .invokevirtual 302) (c_Di_needSynced_v1 l htr D tys z _ ws7 A5 A6 A7 (u0) f_5_ws7 f_6_ws7) (gx_invV (As := []) (rest := []) hx hb hown hts km_Le_302 kI_Di_needSynced kV_Di_needSynced kc_Di_needSynced (by decide) (show (parseMethodDescriptor y_Di_needSynced.desc).map (fun d => d.parameters.length) = some 0 by decide +kernel) (gx_recv (ci := 2) hK hP rfl f_5_ws7) rfl rfl d_Le_losePower_36) (gx_cw (z := 0) hts kc_Di_needSynced kN_Di rfl rfl ⟨Nat.le_of_ble_eq_true rfl, Nat.le_of_ble_eq_true rfl⟩) hb hml gx_blind (gx_pre hz hP hK hD hY hS hAz [Value.ref A5]) rfl hl.1 (lv_room (Nat.le_of_ble_eq_true rfl)) d_Le_losePower_36 ⟨Nat.le_of_ble_eq_true rfl, Nat.le_of_ble_eq_true rfl⟩ (fun v8 st8 t8 L8 h0_8 hW_8 hQ_8 hL_8 => ?_) (fun v8 st8 t8 L8 h0_8 hW_8 hQ_8 hL_8 => ?_)
    · obtain ⟨ws9, hp, hP9, -, hD9, hS9⟩ := gx_back h0_8 hW_8 hQ_8 hL_8 hD hS hA
      clear hQ_8 h0_8 hL_8 hW_8 hP hD hS
      have hP := hP9
      have hD := hD9
      have hS := hS9
      clear hP9 hD9 hS9
      rcases hp with ⟨hv9, e_ws9⟩
      cases hv9
      rw [e_ws9] at hP hD
      refine W.eq (g2 := F0 m 39 ls []) rfl ?_
      generalize t8.heap = H at hP hS ⊢
      generalize locs ++ L8 = locs at hS ⊢
      refine lv_aload_n hx hb d_Le_losePower_39 rfl (lv_at hl 1 rfl) ?_
      refine va_get (D := D) (ci := 0) (v := Value.ref A5) (C := "CommitLedger") (T := F_Le) (N := 18) hx hb hts i_Le hown hK hP 0 f_0_ws7 rfl 1 (by decide) (hts _ kf_Le_19) (fun _ h9 => h9) rfl d_Le_losePower_40 ?_
      refine gx_call (ig := .invokevirtual 305) (c_Di_dropUnneeded_v1 l htr D tys z _ ws7 A5 A6 A7 (u0) f_5_ws7 f_6_ws7) (gx_invV (As := []) (rest := []) hx hb hown hts km_Le_305 kI_Di_dropUnneeded kV_Di_dropUnneeded kc_Di_dropUnneeded (by decide) (show (parseMethodDescriptor y_Di_dropUnneeded.desc).map (fun d => d.parameters.length) = some 0 by decide +kernel) (gx_recv (ci := 2) hK hP rfl f_5_ws7) rfl rfl d_Le_losePower_43) (gx_cw (z := 0) hts kc_Di_dropUnneeded kN_Di rfl rfl ⟨Nat.le_of_ble_eq_true rfl, Nat.le_of_ble_eq_true rfl⟩) hb hml gx_blind (gx_pre hz hP hK hD hY hS hAz [Value.ref A5]) rfl hl.1 (lv_room (Nat.le_of_ble_eq_true rfl)) d_Le_losePower_43 ⟨Nat.le_of_ble_eq_true rfl, Nat.le_of_ble_eq_true rfl⟩ (fun v10 st10 t10 L10 h0_10 hW_10 hQ_10 hL_10 => ?_) (fun v10 st10 t10 L10 h0_10 hW_10 hQ_10 hL_10 => ?_)
      · obtain ⟨ws11, hp, hP9, -, hD9, hS9⟩ := gx_back h0_10 hW_10 hQ_10 hL_10 hD hS hA
        clear hQ_10 h0_10 hL_10 hW_10 hP hD hS
        have hP := hP9
        have hD := hD9
        have hS := hS9
        clear hP9 hD9 hS9
        rcases hp with ⟨hv9, e_ws11⟩
        cases hv9
        rw [e_ws11] at hP hD
        refine W.eq (g2 := F0 m 46 ls []) rfl ?_
        generalize t10.heap = H at hP hS ⊢
        generalize locs ++ L10 = locs at hS ⊢
        refine lv_aload_n hx hb d_Le_losePower_46 rfl (lv_at hl 1 rfl) ?_
        refine va_get (D := D) (ci := 0) (v := Value.ref A5) (C := "CommitLedger") (T := F_Le) (N := 18) hx hb hts i_Le hown hK hP 0 f_0_ws7 rfl 1 (by decide) (hts _ kf_Le_19) (fun _ h9 => h9) rfl d_Le_losePower_47 ?_
        refine lv_iconst (v := 1) hx hb d_Le_losePower_50 (by decide) ?_
        refine va_put (D := D) (ci := 2) (v := Value.int 1) (ty := .boolean) (C := "CommitLedger$Directory") (T := F_Di) (N := 4) hx hb hts i_Di t_Di t_Di_ok n_Di hown hK hP hD hS 5 f_5_ws7 rfl 3 (by decide) (hts _ kf_Le_100) (fun _ h9 => h9) rfl (by decide +kernel) rfl rfl (Nat.le_of_ble_eq_true rfl) d_Le_losePower_51 (fun H locs hP9 hD9 hS9 => ?_)
        obtain ⟨ws12, e_ws12⟩ : ∃ x : va_W, x = ws7.set 5 ((A5, Sum.inr (2, [Value.ref A6, Value.ref A7, Value.int 0, Value.int 1])) : Nat × va_E) := ⟨_, rfl⟩
        replace hP : va_P D classes ws12 H := by rw [e_ws12]; exact hP9
        replace hD : va_D A ws12 := by rw [e_ws12]; exact hD9
        replace hS := hS9
        clear hP9 hD9 hS9
        have f_5_ws12 : ws12[5]? = some ((A5, Sum.inr (2, [Value.ref A6, Value.ref A7, Value.int 0, Value.int 1])) : Nat × va_E) := by rw [e_ws12]; exact gs_self f_5_ws7
        replace hU : gx_g ws ws12 0 [0, 5, 26, 31, 36, 41] := by rw [e_ws12]; exact hU.put (Or.inl (by simp))
        have f_0_ws12 : ws12[0]? = some ((A0, Sum.inr (0, [Value.ref A1, Value.ref A5, Value.ref A8, Value.ref A20, Value.ref A25, Value.ref A12, Value.ref A16, Value.int 0, Value.int 0, Value.int 0, Value.int 16, Value.int 4, Value.int 0, Value.int 0, Value.int 0, Value.int 0, Value.int 0, Value.int (-1)])) : Nat × va_E) := by rw [e_ws12]; exact gs_ne (by decide) f_0_ws7
        clear f_0_ws7
        have f_26_ws5 : ws5[26]? = some ((A26, Sum.inr (6, [Value.ref A27, Value.int 0, Value.int 0])) : Nat × va_E) := by rw [e_ws5]; exact gs_ne (by decide) f_26_ws4
        clear f_26_ws4
        have f_26_ws6 : ws6[26]? = some ((A26, Sum.inr (6, [Value.ref A27, Value.int 0, Value.int 0])) : Nat × va_E) := by rw [e_ws6]; exact gs_ne (by decide) f_26_ws5
        clear f_26_ws5
        have f_26_ws7 : ws7[26]? = some ((A26, Sum.inr (6, [Value.ref A27, Value.int 0, Value.int 0])) : Nat × va_E) := by rw [e_ws7]; exact gs_ne (by decide) f_26_ws6
        clear f_26_ws6
        have f_26_ws12 : ws12[26]? = some ((A26, Sum.inr (6, [Value.ref A27, Value.int 0, Value.int 0])) : Nat × va_E) := by rw [e_ws12]; exact gs_ne (by decide) f_26_ws7
        clear f_26_ws7
        have f_31_ws6 : ws6[31]? = some ((A31, Sum.inr (6, [Value.ref A32, Value.int 0, Value.int 0])) : Nat × va_E) := by rw [e_ws6]; exact gs_ne (by decide) f_31_ws5
        clear f_31_ws5
        have f_31_ws7 : ws7[31]? = some ((A31, Sum.inr (6, [Value.ref A32, Value.int 0, Value.int 0])) : Nat × va_E) := by rw [e_ws7]; exact gs_ne (by decide) f_31_ws6
        clear f_31_ws6
        have f_31_ws12 : ws12[31]? = some ((A31, Sum.inr (6, [Value.ref A32, Value.int 0, Value.int 0])) : Nat × va_E) := by rw [e_ws12]; exact gs_ne (by decide) f_31_ws7
        clear f_31_ws7
        have f_36_ws7 : ws7[36]? = some ((A36, Sum.inr (6, [Value.ref A37, Value.int 0, Value.int 0])) : Nat × va_E) := by rw [e_ws7]; exact gs_ne (by decide) f_36_ws6
        clear f_36_ws6
        have f_36_ws12 : ws12[36]? = some ((A36, Sum.inr (6, [Value.ref A37, Value.int 0, Value.int 0])) : Nat × va_E) := by rw [e_ws12]; exact gs_ne (by decide) f_36_ws7
        clear f_36_ws7
        have f_41_ws12 : ws12[41]? = some ((A41, Sum.inr (6, [Value.ref A42, Value.int 0, Value.int 0])) : Nat × va_E) := by rw [e_ws12]; exact gs_ne (by decide) f_41_ws7
        clear f_41_ws7
        exact gx_ret (W.vret hx hb hr (gx_post hP hK hD hS (by rw [← hPQ]; exact ⟨rfl, hU, f_0_ws12, f_5_ws12, f_26_ws12, f_31_ws12, f_36_ws12, f_41_ws12⟩)) hS.2.2 d_Le_losePower_54)
      · obtain ⟨E9, ws13, ce, hp, hce, hP9, -, hD9, hS9⟩ := gx_backT h0_10 hW_10 hQ_10 hL_10 hD hS hA
        clear hQ_10 h0_10 hL_10 hW_10 hP hD hS
        have hP := hP9
        have hD := hD9
        have hS := hS9
        clear hP9 hD9 hS9
        rcases hp with ⟨hv9, e_ws13⟩
        cases hv9
    · obtain ⟨E9, ws14, ce, hp, hce, hP9, -, hD9, hS9⟩ := gx_backT h0_8 hW_8 hQ_8 hL_8 hD hS hA
      clear hQ_8 h0_8 hL_8 hW_8 hP hD hS
      have hP := hP9
      have hD := hD9
      have hS := hS9
      clear hP9 hD9 hS9
      rcases hp with ⟨hv9, e_ws14⟩
      cases hv9
  · obtain ⟨E9, ws15, ce, hp, hce, hP9, -, hD9, hS9⟩ := gx_backT h0_2 hW_2 hQ_2 hL_2 hD hS hA
    clear hQ_2 h0_2 hL_2 hW_2 hP hD hS
    have hP := hP9
    have hD := hD9
    have hS := hS9
    clear hP9 hD9 hS9
    rcases hp with ⟨hv9, e_ws15, f_0_ws15⟩
    cases hv9

set_option maxHeartbeats 4000000 in
set_option maxRecDepth 100000 in
theorem c_Le_crash_v1 (l : Launch) (htr : l.stackTraces = false) (D : va_G) (tys : List (ClassId × FieldType)) (z sz : Nat) (ws : va_W) (cR : ClassId) (A0 : Nat) (A1 : Nat) (A5 : Nat) (A8 : Nat) (A20 : Nat) (A25 : Nat) (A12 : Nat) (A16 : Nat) (A6 : Nat) (A7 : Nat) (u0 : Value) (A26 : Nat) (A31 : Nat) (A36 : Nat) (A41 : Nat) (A27 : Nat) (A32 : Nat) (A37 : Nat) (A42 : Nat) (f_0 : ws[0]? = some ((A0, Sum.inr (0, [Value.ref A1, Value.ref A5, Value.ref A8, Value.ref A20, Value.ref A25, Value.ref A12, Value.ref A16, Value.int 0, Value.int 0, Value.int 0, Value.int 16, Value.int 4, Value.int 0, Value.int 0, Value.int 0, Value.int 0, Value.int 0, Value.int (-1)])) : Nat × va_E)) (f_5 : ws[5]? = some ((A5, Sum.inr (2, [Value.ref A6, Value.ref A7, Value.int 0, Value.int 0])) : Nat × va_E)) (f_6 : ws[6]? = some ((A6, Sum.inr (3, [u0, Value.int 0, Value.int 0])) : Nat × va_E)) (f_25 : ws[25]? = some ((A25, Sum.inl (cR, 4, Sum.inr (Sum.inr (Sum.inr (Sum.inr (va_up (va_up (va_up (va_up (fun _ => none) 0 (some A26)) 1 (some A31)) 2 (some A36)) 3 (some A41))))))) : Nat × va_E)) (f_26 : ws[26]? = some ((A26, Sum.inr (6, [Value.ref A27, Value.int 0, Value.int 0])) : Nat × va_E)) (f_31 : ws[31]? = some ((A31, Sum.inr (6, [Value.ref A32, Value.int 0, Value.int 0])) : Nat × va_E)) (f_36 : ws[36]? = some ((A36, Sum.inr (6, [Value.ref A37, Value.int 0, Value.int 0])) : Nat × va_E)) (f_41 : ws[41]? = some ((A41, Sum.inr (6, [Value.ref A42, Value.int 0, Value.int 0])) : Nat × va_E)) (ht4 : tys[4]? = some ((cR, FieldType.object "CommitLedger$Reader") : ClassId × FieldType)) : gx_Met l y_Le_crash [Cond.code y_Le_crash b_Le_crash 1 none] { frames := 4, cells := 0, slots := 0, locals := 76 } (gx_P z sz D classes tys ws [Value.ref A0]) (gx_Q D classes tys (va_A ws sz) (fun r ws' => (r = Sum.inl none ∧ gx_g ws ws' 0 [0, 5, 26, 31, 36, 41] ∧ ws'[0]? = some ((A0, Sum.inr (0, [Value.ref A1, Value.ref A5, Value.ref A8, Value.ref A20, Value.ref A25, Value.ref A12, Value.ref A16, Value.int 0, Value.int 0, Value.int 0, Value.int 16, Value.int 4, Value.int 0, Value.int 0, Value.int 0, Value.int 0, Value.int 0, Value.int (-1)])) : Nat × va_E) ∧ ws'[5]? = some ((A5, Sum.inr (2, [Value.ref A6, Value.ref A7, Value.int 0, Value.int 1])) : Nat × va_E) ∧ ws'[26]? = some ((A26, Sum.inr (6, [Value.ref A27, Value.int 0, Value.int 0])) : Nat × va_E) ∧ ws'[31]? = some ((A31, Sum.inr (6, [Value.ref A32, Value.int 0, Value.int 0])) : Nat × va_E) ∧ ws'[36]? = some ((A36, Sum.inr (6, [Value.ref A37, Value.int 0, Value.int 0])) : Nat × va_E) ∧ ws'[41]? = some ((A41, Sum.inr (6, [Value.ref A42, Value.int 0, Value.int 0])) : Nat × va_E)))) 0 0 (va_A ws sz) := by
  refine gx_ofW (cc := b_Le_crash) (maxL := 1) (ret := none) (by decide) rfl ?_
  intro p e s m args below meth c s₁ B hml hv
  obtain ⟨rfl, hsz, hz, hP, hK, hD0, hY⟩ := hv
  have hx := B.exec
  have hb := B.bytes
  have hr := B.returns
  have hts := hY.hts (#[Value.ref A0] : Array Value)
  have hown : s.vm.findClass "CommitLedger" = some m.cls := findClass_of_methodNamed B.named
  have hlocks := B.notSynchronized
  have hne : c.exceptionTable.isEmpty = true := B.noHandlers (atoms_spec (ws := [Cond.code y_Le_crash b_Le_crash 1 none]) B.pre _ List.mem_cons_self)
  subst hsz
  have hAz := gx_az hD0 hz
  have hD := hD0.self (sz := s.heap.size)
  have hN := gx_ns hP
  have hA : ∀ q : Nat, s.heap.size ≤ q → va_A ws s.heap.size q := fun q h => Or.inr h
  generalize va_A ws s.heap.size = A at hD hN hA hAz ⊢
  generalize hPQ : (fun (r : Option Value ⊕ String) (ws' : va_W) => (r = Sum.inl none ∧ gx_g ws ws' 0 [0, 5, 26, 31, 36, 41] ∧ ws'[0]? = some ((A0, Sum.inr (0, [Value.ref A1, Value.ref A5, Value.ref A8, Value.ref A20, Value.ref A25, Value.ref A12, Value.ref A16, Value.int 0, Value.int 0, Value.int 0, Value.int 16, Value.int 4, Value.int 0, Value.int 0, Value.int 0, Value.int 0, Value.int 0, Value.int (-1)])) : Nat × va_E) ∧ ws'[5]? = some ((A5, Sum.inr (2, [Value.ref A6, Value.ref A7, Value.int 0, Value.int 1])) : Nat × va_E) ∧ ws'[26]? = some ((A26, Sum.inr (6, [Value.ref A27, Value.int 0, Value.int 0])) : Nat × va_E) ∧ ws'[31]? = some ((A31, Sum.inr (6, [Value.ref A32, Value.int 0, Value.int 0])) : Nat × va_E) ∧ ws'[36]? = some ((A36, Sum.inr (6, [Value.ref A37, Value.int 0, Value.int 0])) : Nat × va_E) ∧ ws'[41]? = some ((A41, Sum.inr (6, [Value.ref A42, Value.int 0, Value.int 0])) : Nat × va_E))) = PQ
  have hS : va_S A s.heap s.heap [] := va_S.rf
  have hU : gx_g ws ws 0 [0, 5, 26, 31, 36, 41] := gx_g.rf
  have hl := lv_entry ([Value.ref A0]) (n := 1) (Nat.le_of_ble_eq_true rfl)
  rw [lg_entry_eq]
  generalize (lg_sl ([Value.ref A0]) ++ List.replicate (1 - (lg_sl ([Value.ref A0])).length) Slot.unset).toArray = ls at hl ⊢
  have hl : lv_has ls 1 [(0, Value.ref A0)] := hl
  refine lv_aload_n hx hb d_Le_crash_0 rfl (lv_at hl 0 rfl) ?_
  refine gx_call (ig := .invokevirtual 188) (c_Le_losePower_v1 l htr D tys z _ ws cR A0 A1 A5 A8 A20 A25 A12 A16 A6 A7 (u0) A26 A31 A36 A41 A27 A32 A37 A42 f_0 f_5 f_6 f_25 f_26 f_31 f_36 f_41 ht4) (gx_invV (As := []) (rest := []) hx hb hown hts km_Le_188 kI_Le_losePower kV_Le_losePower kc_Le_losePower (by decide) (show (parseMethodDescriptor y_Le_losePower.desc).map (fun d => d.parameters.length) = some 0 by decide +kernel) (gx_recv (ci := 0) hK hP rfl f_0) rfl rfl d_Le_crash_1) (gx_cw (z := 0) hts kc_Le_losePower kN_Le rfl rfl ⟨Nat.le_of_ble_eq_true rfl, Nat.le_of_ble_eq_true rfl⟩) hb hml gx_blind (gx_pre hz hP hK hD hY hS hAz [Value.ref A0]) rfl hl.1 (lv_room (Nat.le_of_ble_eq_true rfl)) d_Le_crash_1 ⟨Nat.le_of_ble_eq_true rfl, Nat.le_of_ble_eq_true rfl⟩ (fun v1 st1 t1 L1 h0_1 hW_1 hQ_1 hL_1 => ?_) (fun v1 st1 t1 L1 h0_1 hW_1 hQ_1 hL_1 => ?_)
  · obtain ⟨ws2, hp, hP9, -, hD9, hS9⟩ := gx_back h0_1 hW_1 hQ_1 hL_1 hD hS hA
    clear hQ_1 h0_1 hL_1 hW_1 hP hD hS
    have hP := hP9
    have hD := hD9
    have hS := hS9
    clear hP9 hD9 hS9
    rcases hp with ⟨hv9, e_ws2, f_0_ws2, f_5_ws2, f_26_ws2, f_31_ws2, f_36_ws2, f_41_ws2⟩
    cases hv9
    have f_0_ws2 : ws2[0]? = some ((A0, Sum.inr (0, [Value.ref A1, Value.ref A5, Value.ref A8, Value.ref A20, Value.ref A25, Value.ref A12, Value.ref A16, Value.int 0, Value.int 0, Value.int 0, Value.int 16, Value.int 4, Value.int 0, Value.int 0, Value.int 0, Value.int 0, Value.int 0, Value.int (-1)])) : Nat × va_E) := f_0_ws2
    have f_5_ws2 : ws2[5]? = some ((A5, Sum.inr (2, [Value.ref A6, Value.ref A7, Value.int 0, Value.int 1])) : Nat × va_E) := f_5_ws2
    have f_26_ws2 : ws2[26]? = some ((A26, Sum.inr (6, [Value.ref A27, Value.int 0, Value.int 0])) : Nat × va_E) := f_26_ws2
    have f_31_ws2 : ws2[31]? = some ((A31, Sum.inr (6, [Value.ref A32, Value.int 0, Value.int 0])) : Nat × va_E) := f_31_ws2
    have f_36_ws2 : ws2[36]? = some ((A36, Sum.inr (6, [Value.ref A37, Value.int 0, Value.int 0])) : Nat × va_E) := f_36_ws2
    have f_41_ws2 : ws2[41]? = some ((A41, Sum.inr (6, [Value.ref A42, Value.int 0, Value.int 0])) : Nat × va_E) := f_41_ws2
    replace hU : gx_g ws ws2 0 [0, 5, 26, 31, 36, 41] := hU.call e_ws2 (by simp; first | done | omega)
    refine W.eq (g2 := F0 m 4 ls []) rfl ?_
    generalize t1.heap = H at hP hS ⊢
    generalize [] ++ L1 = locs at hS ⊢
    exact gx_ret (W.vret hx hb hr (gx_post hP hK hD hS (by rw [← hPQ]; exact ⟨rfl, hU, f_0_ws2, f_5_ws2, f_26_ws2, f_31_ws2, f_36_ws2, f_41_ws2⟩)) hS.2.2 d_Le_crash_4)
  · obtain ⟨E9, ws3, ce, hp, hce, hP9, -, hD9, hS9⟩ := gx_backT h0_1 hW_1 hQ_1 hL_1 hD hS hA
    clear hQ_1 h0_1 hL_1 hW_1 hP hD hS
    have hP := hP9
    have hD := hD9
    have hS := hS9
    clear hP9 hD9 hS9
    rcases hp with ⟨hv9, e_ws3, f_0_ws3, f_5_ws3, f_26_ws3, f_31_ws3, f_36_ws3, f_41_ws3⟩
    cases hv9

set_option maxHeartbeats 4000000 in
set_option maxRecDepth 100000 in
theorem c_Le_dropDeadSegments_v1 (l : Launch) (htr : l.stackTraces = false) (D : va_G) (tys : List (ClassId × FieldType)) (z sz : Nat) (ws : va_W) (A0 : Nat) (A1 : Nat) (A5 : Nat) (A8 : Nat) (A20 : Nat) (A25 : Nat) (A12 : Nat) (A16 : Nat) (A9 : Nat) (A10 : Nat) (A11 : Nat) (f_0 : ws[0]? = some ((A0, Sum.inr (0, [Value.ref A1, Value.ref A5, Value.ref A8, Value.ref A20, Value.ref A25, Value.ref A12, Value.ref A16, Value.int 1, Value.int 0, Value.int 0, Value.int 16, Value.int 4, Value.int 0, Value.int 0, Value.int 0, Value.int 0, Value.int 0, Value.int (-1)])) : Nat × va_E)) (f_8 : ws[8]? = some ((A8, Sum.inr (4, [Value.ref A9, Value.ref A10, Value.ref A11, Value.null, Value.int 0, Value.int 0])) : Nat × va_E)) : gx_Met l y_Le_dropDeadSegments [Cond.code y_Le_dropDeadSegments b_Le_dropDeadSegments 4 none] { frames := 1, cells := 0, slots := 0, locals := 12 } (gx_P z sz D classes tys ws [Value.ref A0]) (gx_Q D classes tys (va_A ws sz) (fun r ws' => (r = Sum.inl none ∧ gx_g ws ws' 0 [8] ∧ ws'[8]? = some ((A8, Sum.inr (4, [Value.ref A9, Value.ref A10, Value.ref A11, Value.null, Value.int 0, Value.int 0])) : Nat × va_E)))) 0 0 (va_A ws sz) := by
  refine gx_ofW (cc := b_Le_dropDeadSegments) (maxL := 4) (ret := none) (by decide) rfl ?_
  intro p e s m args below meth c s₁ B hml hv
  obtain ⟨rfl, hsz, hz, hP, hK, hD0, hY⟩ := hv
  have hx := B.exec
  have hb := B.bytes
  have hr := B.returns
  have hts := hY.hts (#[Value.ref A0] : Array Value)
  have hown : s.vm.findClass "CommitLedger" = some m.cls := findClass_of_methodNamed B.named
  have hlocks := B.notSynchronized
  have hne : c.exceptionTable.isEmpty = true := B.noHandlers (atoms_spec (ws := [Cond.code y_Le_dropDeadSegments b_Le_dropDeadSegments 4 none]) B.pre _ List.mem_cons_self)
  subst hsz
  have hAz := gx_az hD0 hz
  have hD := hD0.self (sz := s.heap.size)
  have hN := gx_ns hP
  have hA : ∀ q : Nat, s.heap.size ≤ q → va_A ws s.heap.size q := fun q h => Or.inr h
  generalize va_A ws s.heap.size = A at hD hN hA hAz ⊢
  generalize hPQ : (fun (r : Option Value ⊕ String) (ws' : va_W) => (r = Sum.inl none ∧ gx_g ws ws' 0 [8] ∧ ws'[8]? = some ((A8, Sum.inr (4, [Value.ref A9, Value.ref A10, Value.ref A11, Value.null, Value.int 0, Value.int 0])) : Nat × va_E))) = PQ
  have hS : va_S A s.heap s.heap [] := va_S.rf
  have hU : gx_g ws ws 0 [8] := gx_g.rf
  have hl := lv_entry ([Value.ref A0]) (n := 4) (Nat.le_of_ble_eq_true rfl)
  rw [lg_entry_eq]
  generalize (lg_sl ([Value.ref A0]) ++ List.replicate (4 - (lg_sl ([Value.ref A0])).length) Slot.unset).toArray = ls at hl ⊢
  have hl : lv_has ls 4 [(0, Value.ref A0)] := hl
  refine lv_iconst (v := 0) hx hb d_Le_dropDeadSegments_0 (by decide) ?_
  refine lv_istore_n (lv' := [(1, Value.int 0), (0, Value.ref A0)]) hx hb d_Le_dropDeadSegments_1 rfl hl (by decide) rfl (fun ls hl => ?_)
  refine lv_iconst (v := 0) hx hb d_Le_dropDeadSegments_2 (by decide) ?_
  refine lv_istore_n (lv' := [(2, Value.int 0), (1, Value.int 0), (0, Value.ref A0)]) hx hb d_Le_dropDeadSegments_3 rfl hl (by decide) rfl (fun ls hl => ?_)
  refine lv_iload_n hx hb d_Le_dropDeadSegments_4 rfl (lv_at hl 0 rfl) ?_
  refine lv_aload_n hx hb d_Le_dropDeadSegments_5 rfl (lv_at hl 2 rfl) ?_
  refine va_get (D := D) (ci := 0) (v := Value.ref A8) (C := "CommitLedger") (T := F_Le) (N := 18) hx hb hts i_Le hown hK hP 0 f_0 rfl 2 (by decide) (hts _ kf_Le_26) (fun _ h9 => h9) rfl d_Le_dropDeadSegments_6 ?_
  refine va_get (D := D) (ci := 4) (v := Value.int 0) (C := "CommitLedger$View") (T := F_Vi) (N := 6) hx hb hts i_Vi hown hK hP 8 f_8 rfl 4 (by decide) (hts _ kf_Le_109) (fun _ h9 => h9) rfl d_Le_dropDeadSegments_9 ?_
  refine lv_icmp_ge (tgt := 71) hx hb d_Le_dropDeadSegments_12 (by decide) (fun _ => ?_) (fun c9 => absurd (by decide) c9)
  refine lv_aload_n hx hb d_Le_dropDeadSegments_71 rfl (lv_at hl 2 rfl) ?_
  refine va_get (D := D) (ci := 0) (v := Value.ref A8) (C := "CommitLedger") (T := F_Le) (N := 18) hx hb hts i_Le hown hK hP 0 f_0 rfl 2 (by decide) (hts _ kf_Le_26) (fun _ h9 => h9) rfl d_Le_dropDeadSegments_72 ?_
  refine lv_iload_n hx hb d_Le_dropDeadSegments_75 rfl (lv_at hl 1 rfl) ?_
  refine va_put (D := D) (ci := 4) (v := Value.int 0) (ty := .int) (C := "CommitLedger$View") (T := F_Vi) (N := 6) hx hb hts i_Vi t_Vi t_Vi_ok n_Vi hown hK hP hD hS 8 f_8 rfl 4 (by decide) (hts _ kf_Le_109) (fun _ h9 => h9) rfl (by decide +kernel) rfl rfl (Nat.le_of_ble_eq_true rfl) d_Le_dropDeadSegments_76 (fun H locs hP9 hD9 hS9 => ?_)
  obtain ⟨ws1, e_ws1⟩ : ∃ x : va_W, x = ws.set 8 ((A8, Sum.inr (4, [Value.ref A9, Value.ref A10, Value.ref A11, Value.null, Value.int 0, Value.int 0])) : Nat × va_E) := ⟨_, rfl⟩
  replace hP : va_P D classes ws1 H := by rw [e_ws1]; exact hP9
  replace hD : va_D A ws1 := by rw [e_ws1]; exact hD9
  replace hS := hS9
  clear hP9 hD9 hS9
  have f_8_ws1 : ws1[8]? = some ((A8, Sum.inr (4, [Value.ref A9, Value.ref A10, Value.ref A11, Value.null, Value.int 0, Value.int 0])) : Nat × va_E) := by rw [e_ws1]; exact gs_self f_8
  replace hU : gx_g ws ws1 0 [8] := by rw [e_ws1]; exact hU.put (Or.inl (by simp))
  exact gx_ret (W.vret hx hb hr (gx_post hP hK hD hS (by rw [← hPQ]; exact ⟨rfl, hU, f_8_ws1⟩)) hS.2.2 d_Le_dropDeadSegments_79)

set_option maxHeartbeats 4000000 in
set_option maxRecDepth 100000 in
theorem c_Di_needNone_v1 (l : Launch) (htr : l.stackTraces = false) (D : va_G) (tys : List (ClassId × FieldType)) (z sz : Nat) (ws : va_W) (A5 : Nat) (A6 : Nat) (A7 : Nat) (u0 : Value) (f_5 : ws[5]? = some ((A5, Sum.inr (2, [Value.ref A6, Value.ref A7, Value.int 0, Value.int 0])) : Nat × va_E)) (f_6 : ws[6]? = some ((A6, Sum.inr (3, [u0, Value.int 0, Value.int 0])) : Nat × va_E)) : gx_Met l y_Di_needNone [Cond.code y_Di_needNone b_Di_needNone 2 none] { frames := 2, cells := 0, slots := 0, locals := 32 } (gx_P z sz D classes tys ws [Value.ref A5]) (gx_Q D classes tys (va_A ws sz) (fun r ws' => (r = Sum.inl none ∧ ws' = ws))) 0 0 (va_A ws sz) := by
  refine gx_ofW (cc := b_Di_needNone) (maxL := 2) (ret := none) (by decide) rfl ?_
  intro p e s m args below meth c s₁ B hml hv
  obtain ⟨rfl, hsz, hz, hP, hK, hD0, hY⟩ := hv
  have hx := B.exec
  have hb := B.bytes
  have hr := B.returns
  have hts := hY.hts (#[Value.ref A5] : Array Value)
  have hown : s.vm.findClass "CommitLedger$Directory" = some m.cls := findClass_of_methodNamed B.named
  have hlocks := B.notSynchronized
  have hne : c.exceptionTable.isEmpty = true := B.noHandlers (atoms_spec (ws := [Cond.code y_Di_needNone b_Di_needNone 2 none]) B.pre _ List.mem_cons_self)
  subst hsz
  have hAz := gx_az hD0 hz
  have hD := hD0.self (sz := s.heap.size)
  have hN := gx_ns hP
  have hA : ∀ q : Nat, s.heap.size ≤ q → va_A ws s.heap.size q := fun q h => Or.inr h
  generalize va_A ws s.heap.size = A at hD hN hA hAz ⊢
  generalize hPQ : (fun (r : Option Value ⊕ String) (ws' : va_W) => (r = Sum.inl none ∧ ws' = ws)) = PQ
  have hS : va_S A s.heap s.heap [] := va_S.rf
  have hU : gx_g ws ws 0 [] := gx_g.rf
  have hl := lv_entry ([Value.ref A5]) (n := 2) (Nat.le_of_ble_eq_true rfl)
  rw [lg_entry_eq]
  generalize (lg_sl ([Value.ref A5]) ++ List.replicate (2 - (lg_sl ([Value.ref A5])).length) Slot.unset).toArray = ls at hl ⊢
  have hl : lv_has ls 2 [(0, Value.ref A5)] := hl
  refine lv_iconst (v := 0) hx hb d_Di_needNone_0 (by decide) ?_
  refine lv_istore_n (lv' := [(1, Value.int 0), (0, Value.ref A5)]) hx hb d_Di_needNone_1 rfl hl (by decide) rfl (fun ls hl => ?_)
  refine lv_iload_n hx hb d_Di_needNone_2 rfl (lv_at hl 0 rfl) ?_
  refine lv_aload_n hx hb d_Di_needNone_3 rfl (lv_at hl 1 rfl) ?_
  refine va_get (D := D) (ci := 2) (v := Value.ref A6) (C := "CommitLedger$Directory") (T := F_Di) (N := 4) hx hb hts i_Di hown hK hP 5 f_5 rfl 0 (by decide) (hts _ kf_Di_10) (fun _ h9 => h9) rfl d_Di_needNone_4 ?_
  refine gx_call (ig := .invokevirtual 26) (c_Al_size l htr D tys z _ ws A6 6 (u0) 0 0 f_6) (gx_invV (As := []) (rest := [Value.int 0]) hx hb hown hts km_Di_26 kI_Al_size kV_Al_size kc_Al_size (by decide) (show (parseMethodDescriptor y_Al_size.desc).map (fun d => d.parameters.length) = some 0 by decide +kernel) (gx_recv (ci := 3) hK hP rfl f_6) rfl rfl d_Di_needNone_7) (gx_cw (z := 0) hts kc_Al_size kN_Al rfl rfl ⟨Nat.le_of_ble_eq_true rfl, Nat.le_of_ble_eq_true rfl⟩) hb hml gx_blind (gx_pre hz hP hK hD hY hS hAz [Value.ref A6]) rfl hl.1 (lv_room (Nat.le_of_ble_eq_true rfl)) d_Di_needNone_7 ⟨Nat.le_of_ble_eq_true rfl, Nat.le_of_ble_eq_true rfl⟩ (fun v1 st1 t1 L1 h0_1 hW_1 hQ_1 hL_1 => ?_) (fun v1 st1 t1 L1 h0_1 hW_1 hQ_1 hL_1 => ?_)
  · obtain ⟨ws2, hp, hP9, -, hD9, hS9⟩ := gx_back h0_1 hW_1 hQ_1 hL_1 hD hS hA
    clear hQ_1 h0_1 hL_1 hW_1 hP hD hS
    have hP := hP9
    have hD := hD9
    have hS := hS9
    clear hP9 hD9 hS9
    rcases hp with ⟨hv9, e_ws2⟩
    cases hv9
    rw [e_ws2] at hP hD
    refine W.eq (g2 := F0 m 10 ls [Value.int 0, Value.int 0]) rfl ?_
    generalize t1.heap = H at hP hS ⊢
    generalize [] ++ L1 = locs at hS ⊢
    refine lv_icmp_ge (tgt := 34) hx hb d_Di_needNone_10 (by decide) (fun _ => ?_) (fun c9 => absurd (by decide) c9)
    exact gx_ret (W.vret hx hb hr (gx_post hP hK hD hS (by rw [← hPQ]; exact ⟨rfl, rfl⟩)) hS.2.2 d_Di_needNone_34)
  · obtain ⟨E9, ws3, ce, hp, hce, hP9, -, hD9, hS9⟩ := gx_backT h0_1 hW_1 hQ_1 hL_1 hD hS hA
    clear hQ_1 h0_1 hL_1 hW_1 hP hD hS
    have hP := hP9
    have hD := hD9
    have hS := hS9
    clear hP9 hD9 hS9
    rcases hp with ⟨hv9, e_ws3⟩
    cases hv9

set_option maxHeartbeats 4000000 in
set_option maxRecDepth 100000 in
theorem c_Vi_needSegments_v1 (l : Launch) (htr : l.stackTraces = false) (D : va_G) (tys : List (ClassId × FieldType)) (z sz : Nat) (ws : va_W) (A8 : Nat) (A9 : Nat) (A10 : Nat) (A11 : Nat) (f_8 : ws[8]? = some ((A8, Sum.inr (4, [Value.ref A9, Value.ref A10, Value.ref A11, Value.null, Value.int 0, Value.int 0])) : Nat × va_E)) : gx_Met l y_Vi_needSegments [Cond.code y_Vi_needSegments b_Vi_needSegments 2 none] { frames := 1, cells := 0, slots := 0, locals := 12 } (gx_P z sz D classes tys ws [Value.ref A8]) (gx_Q D classes tys (va_A ws sz) (fun r ws' => (r = Sum.inl none ∧ ws' = ws))) 0 0 (va_A ws sz) := by
  refine gx_ofW (cc := b_Vi_needSegments) (maxL := 2) (ret := none) (by decide) rfl ?_
  intro p e s m args below meth c s₁ B hml hv
  obtain ⟨rfl, hsz, hz, hP, hK, hD0, hY⟩ := hv
  have hx := B.exec
  have hb := B.bytes
  have hr := B.returns
  have hts := hY.hts (#[Value.ref A8] : Array Value)
  have hown : s.vm.findClass "CommitLedger$View" = some m.cls := findClass_of_methodNamed B.named
  have hlocks := B.notSynchronized
  have hne : c.exceptionTable.isEmpty = true := B.noHandlers (atoms_spec (ws := [Cond.code y_Vi_needSegments b_Vi_needSegments 2 none]) B.pre _ List.mem_cons_self)
  subst hsz
  have hAz := gx_az hD0 hz
  have hD := hD0.self (sz := s.heap.size)
  have hN := gx_ns hP
  have hA : ∀ q : Nat, s.heap.size ≤ q → va_A ws s.heap.size q := fun q h => Or.inr h
  generalize va_A ws s.heap.size = A at hD hN hA hAz ⊢
  generalize hPQ : (fun (r : Option Value ⊕ String) (ws' : va_W) => (r = Sum.inl none ∧ ws' = ws)) = PQ
  have hS : va_S A s.heap s.heap [] := va_S.rf
  have hU : gx_g ws ws 0 [] := gx_g.rf
  have hl := lv_entry ([Value.ref A8]) (n := 2) (Nat.le_of_ble_eq_true rfl)
  rw [lg_entry_eq]
  generalize (lg_sl ([Value.ref A8]) ++ List.replicate (2 - (lg_sl ([Value.ref A8])).length) Slot.unset).toArray = ls at hl ⊢
  have hl : lv_has ls 2 [(0, Value.ref A8)] := hl
  refine lv_iconst (v := 0) hx hb d_Vi_needSegments_0 (by decide) ?_
  refine lv_istore_n (lv' := [(1, Value.int 0), (0, Value.ref A8)]) hx hb d_Vi_needSegments_1 rfl hl (by decide) rfl (fun ls hl => ?_)
  refine lv_iload_n hx hb d_Vi_needSegments_2 rfl (lv_at hl 0 rfl) ?_
  refine lv_aload_n hx hb d_Vi_needSegments_3 rfl (lv_at hl 1 rfl) ?_
  refine va_get (D := D) (ci := 4) (v := Value.int 0) (C := "CommitLedger$View") (T := F_Vi) (N := 6) hx hb hts i_Vi hown hK hP 8 f_8 rfl 4 (by decide) (hts _ kf_Vi_24) (fun _ h9 => h9) rfl d_Vi_needSegments_4 ?_
  refine lv_icmp_ge (tgt := 25) hx hb d_Vi_needSegments_7 (by decide) (fun _ => ?_) (fun c9 => absurd (by decide) c9)
  exact gx_ret (W.vret hx hb hr (gx_post hP hK hD hS (by rw [← hPQ]; exact ⟨rfl, rfl⟩)) hS.2.2 d_Vi_needSegments_25)

set_option maxHeartbeats 4000000 in
set_option maxRecDepth 100000 in
theorem c_Le_need_v1 (l : Launch) (htr : l.stackTraces = false) (D : va_G) (tys : List (ClassId × FieldType)) (z sz : Nat) (ws : va_W) : gx_Met l y_Le_need [Cond.code y_Le_need b_Le_need 1 none] { frames := 1, cells := 0, slots := 0, locals := 12 } (gx_P z sz D classes tys ws [Value.null]) (gx_Q D classes tys (va_A ws sz) (fun r ws' => (r = Sum.inl none ∧ ws' = ws))) 0 0 (va_A ws sz) := by
  refine gx_ofW (cc := b_Le_need) (maxL := 1) (ret := none) (by decide) rfl ?_
  intro p e s m args below meth c s₁ B hml hv
  obtain ⟨rfl, hsz, hz, hP, hK, hD0, hY⟩ := hv
  have hx := B.exec
  have hb := B.bytes
  have hr := B.returns
  have hts := hY.hts (#[Value.null] : Array Value)
  have hown : s.vm.findClass "CommitLedger" = some m.cls := findClass_of_methodNamed B.named
  have hlocks := B.notSynchronized
  have hne : c.exceptionTable.isEmpty = true := B.noHandlers (atoms_spec (ws := [Cond.code y_Le_need b_Le_need 1 none]) B.pre _ List.mem_cons_self)
  subst hsz
  have hAz := gx_az hD0 hz
  have hD := hD0.self (sz := s.heap.size)
  have hN := gx_ns hP
  have hA : ∀ q : Nat, s.heap.size ≤ q → va_A ws s.heap.size q := fun q h => Or.inr h
  generalize va_A ws s.heap.size = A at hD hN hA hAz ⊢
  generalize hPQ : (fun (r : Option Value ⊕ String) (ws' : va_W) => (r = Sum.inl none ∧ ws' = ws)) = PQ
  have hS : va_S A s.heap s.heap [] := va_S.rf
  have hU : gx_g ws ws 0 [] := gx_g.rf
  have hl := lv_entry ([Value.null]) (n := 1) (Nat.le_of_ble_eq_true rfl)
  rw [lg_entry_eq]
  generalize (lg_sl ([Value.null]) ++ List.replicate (1 - (lg_sl ([Value.null])).length) Slot.unset).toArray = ls at hl ⊢
  have hl : lv_has ls 1 [(0, Value.null)] := hl
  refine lv_aload_nN hx hb d_Le_need_0 rfl (lv_at hl 0 rfl) ?_
  refine lv_ifnullN (tgt := 9) hx hb d_Le_need_1 (by decide) ?_
  exact gx_ret (W.vret hx hb hr (gx_post hP hK hD hS (by rw [← hPQ]; exact ⟨rfl, rfl⟩)) hS.2.2 d_Le_need_9)

set_option maxHeartbeats 4000000 in
set_option maxRecDepth 100000 in
theorem c_Vi_needListsAndOwn_v1 (l : Launch) (htr : l.stackTraces = false) (D : va_G) (tys : List (ClassId × FieldType)) (z sz : Nat) (ws : va_W) (A8 : Nat) (A9 : Nat) (A10 : Nat) (A11 : Nat) (f_8 : ws[8]? = some ((A8, Sum.inr (4, [Value.ref A9, Value.ref A10, Value.ref A11, Value.null, Value.int 0, Value.int 0])) : Nat × va_E)) : gx_Met l y_Vi_needListsAndOwn [Cond.code y_Vi_needListsAndOwn b_Vi_needListsAndOwn 2 none] { frames := 2, cells := 0, slots := 0, locals := 32 } (gx_P z sz D classes tys ws [Value.ref A8]) (gx_Q D classes tys (va_A ws sz) (fun r ws' => (r = Sum.inl none ∧ ws' = ws))) 0 0 (va_A ws sz) := by
  refine gx_ofW (cc := b_Vi_needListsAndOwn) (maxL := 2) (ret := none) (by decide) rfl ?_
  intro p e s m args below meth c s₁ B hml hv
  obtain ⟨rfl, hsz, hz, hP, hK, hD0, hY⟩ := hv
  have hx := B.exec
  have hb := B.bytes
  have hr := B.returns
  have hts := hY.hts (#[Value.ref A8] : Array Value)
  have hown : s.vm.findClass "CommitLedger$View" = some m.cls := findClass_of_methodNamed B.named
  have hlocks := B.notSynchronized
  have hne : c.exceptionTable.isEmpty = true := B.noHandlers (atoms_spec (ws := [Cond.code y_Vi_needListsAndOwn b_Vi_needListsAndOwn 2 none]) B.pre _ List.mem_cons_self)
  subst hsz
  have hAz := gx_az hD0 hz
  have hD := hD0.self (sz := s.heap.size)
  have hN := gx_ns hP
  have hA : ∀ q : Nat, s.heap.size ≤ q → va_A ws s.heap.size q := fun q h => Or.inr h
  generalize va_A ws s.heap.size = A at hD hN hA hAz ⊢
  generalize hPQ : (fun (r : Option Value ⊕ String) (ws' : va_W) => (r = Sum.inl none ∧ ws' = ws)) = PQ
  have hS : va_S A s.heap s.heap [] := va_S.rf
  have hU : gx_g ws ws 0 [] := gx_g.rf
  have hl := lv_entry ([Value.ref A8]) (n := 2) (Nat.le_of_ble_eq_true rfl)
  rw [lg_entry_eq]
  generalize (lg_sl ([Value.ref A8]) ++ List.replicate (2 - (lg_sl ([Value.ref A8])).length) Slot.unset).toArray = ls at hl ⊢
  have hl : lv_has ls 2 [(0, Value.ref A8)] := hl
  refine lv_iconst (v := 0) hx hb d_Vi_needListsAndOwn_0 (by decide) ?_
  refine lv_istore_n (lv' := [(1, Value.int 0), (0, Value.ref A8)]) hx hb d_Vi_needListsAndOwn_1 rfl hl (by decide) rfl (fun ls hl => ?_)
  refine lv_iload_n hx hb d_Vi_needListsAndOwn_2 rfl (lv_at hl 0 rfl) ?_
  refine lv_aload_n hx hb d_Vi_needListsAndOwn_3 rfl (lv_at hl 1 rfl) ?_
  refine va_get (D := D) (ci := 4) (v := Value.int 0) (C := "CommitLedger$View") (T := F_Vi) (N := 6) hx hb hts i_Vi hown hK hP 8 f_8 rfl 4 (by decide) (hts _ kf_Vi_24) (fun _ h9 => h9) rfl d_Vi_needListsAndOwn_4 ?_
  refine lv_icmp_ge (tgt := 25) hx hb d_Vi_needListsAndOwn_7 (by decide) (fun _ => ?_) (fun c9 => absurd (by decide) c9)
  refine lv_aload_n hx hb d_Vi_needListsAndOwn_25 rfl (lv_at hl 1 rfl) ?_
  refine va_get (D := D) (ci := 4) (v := Value.null) (C := "CommitLedger$View") (T := F_Vi) (N := 6) hx hb hts i_Vi hown hK hP 8 f_8 rfl 3 (by decide) (hts _ kf_Vi_66) (fun _ h9 => h9) rfl d_Vi_needListsAndOwn_26 ?_
  refine gx_call (ig := .invokestatic 69) (c_Le_need_v1 l htr D tys z _ ws) (gx_invSN (As := [Value.null]) (rest := []) hx hb hown hts km_Vi_69 kS_Le_need kN_Le kc_Le_need (by decide) (show (parseMethodDescriptor y_Le_need.desc).map (fun d => d.parameters.length) = some 1 by decide +kernel) rfl rfl d_Vi_needListsAndOwn_29) (gx_cw (z := 0) hts kc_Le_need kN_Le rfl rfl ⟨Nat.le_of_ble_eq_true rfl, Nat.le_of_ble_eq_true rfl⟩) hb hml gx_blind (gx_pre hz hP hK hD hY hS hAz [Value.null]) rfl hl.1 (lv_room (Nat.le_of_ble_eq_true rfl)) d_Vi_needListsAndOwn_29 ⟨Nat.le_of_ble_eq_true rfl, Nat.le_of_ble_eq_true rfl⟩ (fun v1 st1 t1 L1 h0_1 hW_1 hQ_1 hL_1 => ?_) (fun v1 st1 t1 L1 h0_1 hW_1 hQ_1 hL_1 => ?_)
  · obtain ⟨ws2, hp, hP9, -, hD9, hS9⟩ := gx_back h0_1 hW_1 hQ_1 hL_1 hD hS hA
    clear hQ_1 h0_1 hL_1 hW_1 hP hD hS
    have hP := hP9
    have hD := hD9
    have hS := hS9
    clear hP9 hD9 hS9
    rcases hp with ⟨hv9, e_ws2⟩
    cases hv9
    rw [e_ws2] at hP hD
    refine W.eq (g2 := F0 m 32 ls []) rfl ?_
    generalize t1.heap = H at hP hS ⊢
    generalize [] ++ L1 = locs at hS ⊢
    exact gx_ret (W.vret hx hb hr (gx_post hP hK hD hS (by rw [← hPQ]; exact ⟨rfl, rfl⟩)) hS.2.2 d_Vi_needListsAndOwn_32)
  · obtain ⟨E9, ws3, ce, hp, hce, hP9, -, hD9, hS9⟩ := gx_backT h0_1 hW_1 hQ_1 hL_1 hD hS hA
    clear hQ_1 h0_1 hL_1 hW_1 hP hD hS
    have hP := hP9
    have hD := hD9
    have hS := hS9
    clear hP9 hD9 hS9
    rcases hp with ⟨hv9, e_ws3⟩
    cases hv9

set_option maxHeartbeats 4000000 in
set_option maxRecDepth 100000 in
theorem c_Le_dropUnneededFiles_v1 (l : Launch) (htr : l.stackTraces = false) (D : va_G) (tys : List (ClassId × FieldType)) (z sz : Nat) (ws : va_W) (cR : ClassId) (A0 : Nat) (A1 : Nat) (A5 : Nat) (A8 : Nat) (A20 : Nat) (A25 : Nat) (A12 : Nat) (A16 : Nat) (A6 : Nat) (A7 : Nat) (u0 : Value) (A9 : Nat) (A10 : Nat) (A11 : Nat) (A26 : Nat) (A31 : Nat) (A36 : Nat) (A41 : Nat) (A27 : Nat) (A32 : Nat) (A37 : Nat) (A42 : Nat) (f_0 : ws[0]? = some ((A0, Sum.inr (0, [Value.ref A1, Value.ref A5, Value.ref A8, Value.ref A20, Value.ref A25, Value.ref A12, Value.ref A16, Value.int 1, Value.int 0, Value.int 0, Value.int 16, Value.int 4, Value.int 0, Value.int 0, Value.int 0, Value.int 0, Value.int 0, Value.int (-1)])) : Nat × va_E)) (f_5 : ws[5]? = some ((A5, Sum.inr (2, [Value.ref A6, Value.ref A7, Value.int 0, Value.int 0])) : Nat × va_E)) (f_6 : ws[6]? = some ((A6, Sum.inr (3, [u0, Value.int 0, Value.int 0])) : Nat × va_E)) (f_8 : ws[8]? = some ((A8, Sum.inr (4, [Value.ref A9, Value.ref A10, Value.ref A11, Value.null, Value.int 0, Value.int 0])) : Nat × va_E)) (f_25 : ws[25]? = some ((A25, Sum.inl (cR, 4, Sum.inr (Sum.inr (Sum.inr (Sum.inr (va_up (va_up (va_up (va_up (fun _ => none) 0 (some A26)) 1 (some A31)) 2 (some A36)) 3 (some A41))))))) : Nat × va_E)) (f_26 : ws[26]? = some ((A26, Sum.inr (6, [Value.ref A27, Value.int 0, Value.int 0])) : Nat × va_E)) (f_31 : ws[31]? = some ((A31, Sum.inr (6, [Value.ref A32, Value.int 0, Value.int 0])) : Nat × va_E)) (f_36 : ws[36]? = some ((A36, Sum.inr (6, [Value.ref A37, Value.int 0, Value.int 0])) : Nat × va_E)) (f_41 : ws[41]? = some ((A41, Sum.inr (6, [Value.ref A42, Value.int 0, Value.int 0])) : Nat × va_E)) (ht4 : tys[4]? = some ((cR, FieldType.object "CommitLedger$Reader") : ClassId × FieldType)) : gx_Met l y_Le_dropUnneededFiles [Cond.code y_Le_dropUnneededFiles b_Le_dropUnneededFiles 2 none] { frames := 3, cells := 0, slots := 0, locals := 55 } (gx_P z sz D classes tys ws [Value.ref A0]) (gx_Q D classes tys (va_A ws sz) (fun r ws' => (r = Sum.inl none ∧ ws' = ws))) 0 0 (va_A ws sz) := by
  refine gx_ofW (cc := b_Le_dropUnneededFiles) (maxL := 2) (ret := none) (by decide) rfl ?_
  intro p e s m args below meth c s₁ B hml hv
  obtain ⟨rfl, hsz, hz, hP, hK, hD0, hY⟩ := hv
  have hx := B.exec
  have hb := B.bytes
  have hr := B.returns
  have hts := hY.hts (#[Value.ref A0] : Array Value)
  have hown : s.vm.findClass "CommitLedger" = some m.cls := findClass_of_methodNamed B.named
  have hlocks := B.notSynchronized
  have hne : c.exceptionTable.isEmpty = true := B.noHandlers (atoms_spec (ws := [Cond.code y_Le_dropUnneededFiles b_Le_dropUnneededFiles 2 none]) B.pre _ List.mem_cons_self)
  subst hsz
  have hAz := gx_az hD0 hz
  have hD := hD0.self (sz := s.heap.size)
  have hN := gx_ns hP
  have hA : ∀ q : Nat, s.heap.size ≤ q → va_A ws s.heap.size q := fun q h => Or.inr h
  generalize va_A ws s.heap.size = A at hD hN hA hAz ⊢
  generalize hPQ : (fun (r : Option Value ⊕ String) (ws' : va_W) => (r = Sum.inl none ∧ ws' = ws)) = PQ
  have hS : va_S A s.heap s.heap [] := va_S.rf
  have hU : gx_g ws ws 0 [] := gx_g.rf
  have hl := lv_entry ([Value.ref A0]) (n := 2) (Nat.le_of_ble_eq_true rfl)
  rw [lg_entry_eq]
  generalize (lg_sl ([Value.ref A0]) ++ List.replicate (2 - (lg_sl ([Value.ref A0])).length) Slot.unset).toArray = ls at hl ⊢
  have hl : lv_has ls 2 [(0, Value.ref A0)] := hl
  refine lv_aload_n hx hb d_Le_dropUnneededFiles_0 rfl (lv_at hl 0 rfl) ?_
  refine va_get (D := D) (ci := 0) (v := Value.ref A5) (C := "CommitLedger") (T := F_Le) (N := 18) hx hb hts i_Le hown hK hP 0 f_0 rfl 1 (by decide) (hts _ kf_Le_19) (fun _ h9 => h9) rfl d_Le_dropUnneededFiles_1 ?_
  refine va_get (D := D) (ci := 2) (v := Value.int 0) (C := "CommitLedger$Directory") (T := F_Di) (N := 4) hx hb hts i_Di hown hK hP 5 f_5 rfl 3 (by decide) (hts _ kf_Le_100) (fun _ h9 => h9) rfl d_Le_dropUnneededFiles_4 ?_
  refine lv_if_eq (tgt := 11) hx hb d_Le_dropUnneededFiles_7 (by decide) (fun _ => ?_) (fun c9 => absurd (by decide) c9)
  refine lv_aload_n hx hb d_Le_dropUnneededFiles_11 rfl (lv_at hl 0 rfl) ?_
  refine va_get (D := D) (ci := 0) (v := Value.ref A5) (C := "CommitLedger") (T := F_Le) (N := 18) hx hb hts i_Le hown hK hP 0 f_0 rfl 1 (by decide) (hts _ kf_Le_19) (fun _ h9 => h9) rfl d_Le_dropUnneededFiles_12 ?_
  refine gx_call (ig := .invokevirtual 379) (c_Di_needNone_v1 l htr D tys z _ ws A5 A6 A7 (u0) f_5 f_6) (gx_invV (As := []) (rest := []) hx hb hown hts km_Le_379 kI_Di_needNone kV_Di_needNone kc_Di_needNone (by decide) (show (parseMethodDescriptor y_Di_needNone.desc).map (fun d => d.parameters.length) = some 0 by decide +kernel) (gx_recv (ci := 2) hK hP rfl f_5) rfl rfl d_Le_dropUnneededFiles_15) (gx_cw (z := 0) hts kc_Di_needNone kN_Di rfl rfl ⟨Nat.le_of_ble_eq_true rfl, Nat.le_of_ble_eq_true rfl⟩) hb hml gx_blind (gx_pre hz hP hK hD hY hS hAz [Value.ref A5]) rfl hl.1 (lv_room (Nat.le_of_ble_eq_true rfl)) d_Le_dropUnneededFiles_15 ⟨Nat.le_of_ble_eq_true rfl, Nat.le_of_ble_eq_true rfl⟩ (fun v1 st1 t1 L1 h0_1 hW_1 hQ_1 hL_1 => ?_) (fun v1 st1 t1 L1 h0_1 hW_1 hQ_1 hL_1 => ?_)
  · obtain ⟨ws2, hp, hP9, -, hD9, hS9⟩ := gx_back h0_1 hW_1 hQ_1 hL_1 hD hS hA
    clear hQ_1 h0_1 hL_1 hW_1 hP hD hS
    have hP := hP9
    have hD := hD9
    have hS := hS9
    clear hP9 hD9 hS9
    rcases hp with ⟨hv9, e_ws2⟩
    cases hv9
    rw [e_ws2] at hP hD
    refine W.eq (g2 := F0 m 18 ls []) rfl ?_
    generalize t1.heap = H at hP hS ⊢
    generalize [] ++ L1 = locs at hS ⊢
    refine lv_aload_n hx hb d_Le_dropUnneededFiles_18 rfl (lv_at hl 0 rfl) ?_
    refine va_get (D := D) (ci := 0) (v := Value.int 0) (C := "CommitLedger") (T := F_Le) (N := 18) hx hb hts i_Le hown hK hP 0 f_0 rfl 15 (by decide) (hts _ kf_Le_84) (fun _ h9 => h9) rfl d_Le_dropUnneededFiles_19 ?_
    refine lv_if_le (tgt := 39) hx hb d_Le_dropUnneededFiles_22 (by decide) (fun _ => ?_) (fun c9 => absurd (by decide) c9)
    refine lv_aload_n hx hb d_Le_dropUnneededFiles_39 rfl (lv_at hl 0 rfl) ?_
    refine va_get (D := D) (ci := 0) (v := Value.int 0) (C := "CommitLedger") (T := F_Le) (N := 18) hx hb hts i_Le hown hK hP 0 f_0 rfl 8 (by decide) (hts _ kf_Le_178) (fun _ h9 => h9) rfl d_Le_dropUnneededFiles_40 ?_
    refine lv_if_eq (tgt := 60) hx hb d_Le_dropUnneededFiles_43 (by decide) (fun _ => ?_) (fun c9 => absurd (by decide) c9)
    refine lv_aload_n hx hb d_Le_dropUnneededFiles_60 rfl (lv_at hl 0 rfl) ?_
    refine va_get (D := D) (ci := 0) (v := Value.int 1) (C := "CommitLedger") (T := F_Le) (N := 18) hx hb hts i_Le hown hK hP 0 f_0 rfl 7 (by decide) (hts _ kf_Le_64) (fun _ h9 => h9) rfl d_Le_dropUnneededFiles_61 ?_
    refine lv_if_eq (tgt := 81) hx hb d_Le_dropUnneededFiles_64 (by decide) (fun c9 => absurd c9 (by decide)) (fun _ => ?_)
    refine lv_aload_n hx hb d_Le_dropUnneededFiles_67 rfl (lv_at hl 0 rfl) ?_
    refine va_get (D := D) (ci := 0) (v := Value.ref A8) (C := "CommitLedger") (T := F_Le) (N := 18) hx hb hts i_Le hown hK hP 0 f_0 rfl 2 (by decide) (hts _ kf_Le_26) (fun _ h9 => h9) rfl d_Le_dropUnneededFiles_68 ?_
    refine gx_call (ig := .invokevirtual 382) (c_Vi_needSegments_v1 l htr D tys z _ ws A8 A9 A10 A11 f_8) (gx_invV (As := []) (rest := []) hx hb hown hts km_Le_382 kI_Vi_needSegments kV_Vi_needSegments kc_Vi_needSegments (by decide) (show (parseMethodDescriptor y_Vi_needSegments.desc).map (fun d => d.parameters.length) = some 0 by decide +kernel) (gx_recv (ci := 4) hK hP rfl f_8) rfl rfl d_Le_dropUnneededFiles_71) (gx_cw (z := 0) hts kc_Vi_needSegments kN_Vi rfl rfl ⟨Nat.le_of_ble_eq_true rfl, Nat.le_of_ble_eq_true rfl⟩) hb hml gx_blind (gx_pre hz hP hK hD hY hS hAz [Value.ref A8]) rfl hl.1 (lv_room (Nat.le_of_ble_eq_true rfl)) d_Le_dropUnneededFiles_71 ⟨Nat.le_of_ble_eq_true rfl, Nat.le_of_ble_eq_true rfl⟩ (fun v3 st3 t3 L3 h0_3 hW_3 hQ_3 hL_3 => ?_) (fun v3 st3 t3 L3 h0_3 hW_3 hQ_3 hL_3 => ?_)
    · obtain ⟨ws4, hp, hP9, -, hD9, hS9⟩ := gx_back h0_3 hW_3 hQ_3 hL_3 hD hS hA
      clear hQ_3 h0_3 hL_3 hW_3 hP hD hS
      have hP := hP9
      have hD := hD9
      have hS := hS9
      clear hP9 hD9 hS9
      rcases hp with ⟨hv9, e_ws4⟩
      cases hv9
      rw [e_ws4] at hP hD
      refine W.eq (g2 := F0 m 74 ls []) rfl ?_
      generalize t3.heap = H at hP hS ⊢
      generalize locs ++ L3 = locs at hS ⊢
      refine lv_aload_n hx hb d_Le_dropUnneededFiles_74 rfl (lv_at hl 0 rfl) ?_
      refine va_get (D := D) (ci := 0) (v := Value.ref A8) (C := "CommitLedger") (T := F_Le) (N := 18) hx hb hts i_Le hown hK hP 0 f_0 rfl 2 (by decide) (hts _ kf_Le_26) (fun _ h9 => h9) rfl d_Le_dropUnneededFiles_75 ?_
      refine gx_call (ig := .invokevirtual 385) (c_Vi_needListsAndOwn_v1 l htr D tys z _ ws A8 A9 A10 A11 f_8) (gx_invV (As := []) (rest := []) hx hb hown hts km_Le_385 kI_Vi_needListsAndOwn kV_Vi_needListsAndOwn kc_Vi_needListsAndOwn (by decide) (show (parseMethodDescriptor y_Vi_needListsAndOwn.desc).map (fun d => d.parameters.length) = some 0 by decide +kernel) (gx_recv (ci := 4) hK hP rfl f_8) rfl rfl d_Le_dropUnneededFiles_78) (gx_cw (z := 0) hts kc_Vi_needListsAndOwn kN_Vi rfl rfl ⟨Nat.le_of_ble_eq_true rfl, Nat.le_of_ble_eq_true rfl⟩) hb hml gx_blind (gx_pre hz hP hK hD hY hS hAz [Value.ref A8]) rfl hl.1 (lv_room (Nat.le_of_ble_eq_true rfl)) d_Le_dropUnneededFiles_78 ⟨Nat.le_of_ble_eq_true rfl, Nat.le_of_ble_eq_true rfl⟩ (fun v5 st5 t5 L5 h0_5 hW_5 hQ_5 hL_5 => ?_) (fun v5 st5 t5 L5 h0_5 hW_5 hQ_5 hL_5 => ?_)
      · obtain ⟨ws6, hp, hP9, -, hD9, hS9⟩ := gx_back h0_5 hW_5 hQ_5 hL_5 hD hS hA
        clear hQ_5 h0_5 hL_5 hW_5 hP hD hS
        have hP := hP9
        have hD := hD9
        have hS := hS9
        clear hP9 hD9 hS9
        rcases hp with ⟨hv9, e_ws6⟩
        cases hv9
        rw [e_ws6] at hP hD
        refine W.eq (g2 := F0 m 81 ls []) rfl ?_
        generalize t5.heap = H at hP hS ⊢
        generalize locs ++ L5 = locs at hS ⊢
        refine lv_iconst (v := 0) hx hb d_Le_dropUnneededFiles_81 (by decide) ?_
        refine lv_istore_n (lv' := [(1, Value.int 0), (0, Value.ref A0)]) hx hb d_Le_dropUnneededFiles_82 rfl hl (by decide) rfl (fun ls hl => ?_)
        refine lv_iload_n hx hb d_Le_dropUnneededFiles_83 rfl (lv_at hl 0 rfl) ?_
        refine lv_aload_n hx hb d_Le_dropUnneededFiles_84 rfl (lv_at hl 1 rfl) ?_
        refine va_get (D := D) (ci := 0) (v := Value.int 0) (C := "CommitLedger") (T := F_Le) (N := 18) hx hb hts i_Le hown hK hP 0 f_0 rfl 12 (by decide) (hts _ kf_Le_142) (fun _ h9 => h9) rfl d_Le_dropUnneededFiles_85 ?_
        refine lv_icmp_ge (tgt := 109) hx hb d_Le_dropUnneededFiles_88 (by decide) (fun _ => ?_) (fun c9 => absurd (by decide) c9)
        refine lv_iconst (v := 0) hx hb d_Le_dropUnneededFiles_109 (by decide) ?_
        refine lv_istore_n (lv' := [(1, Value.int 0), (0, Value.ref A0)]) hx hb d_Le_dropUnneededFiles_110 rfl hl (by decide) rfl (fun ls hl => ?_)
        refine lv_iload_n hx hb d_Le_dropUnneededFiles_111 rfl (lv_at hl 0 rfl) ?_
        refine lv_iconst (v := 4) hx hb d_Le_dropUnneededFiles_112 (by decide) ?_
        refine lv_icmp_ge (tgt := 146) hx hb d_Le_dropUnneededFiles_113 (by decide) (fun c9 => absurd c9 (by decide)) (fun _ => ?_)
        refine lv_aload_n hx hb d_Le_dropUnneededFiles_116 rfl (lv_at hl 1 rfl) ?_
        refine va_get (D := D) (ci := 0) (v := Value.ref A25) (C := "CommitLedger") (T := F_Le) (N := 18) hx hb hts i_Le hown hK hP 0 f_0 rfl 4 (by decide) (hts _ kf_Le_45) (fun _ h9 => h9) rfl d_Le_dropUnneededFiles_117 ?_
        refine lv_iload_n hx hb d_Le_dropUnneededFiles_120 rfl (lv_at hl 0 rfl) ?_
        refine gx_aald (D := D) (b := A26) (j := 0) hx hb hK hP 25 4 f_25 ht4 (gx_inl (by decide)) (by decide) (rfl) d_Le_dropUnneededFiles_121 ?_
        refine va_get (D := D) (ci := 6) (v := Value.int 0) (C := "CommitLedger$Reader") (T := F_Re) (N := 3) hx hb hts i_Re hown hK hP 26 f_26 rfl 2 (by decide) (hts _ kf_Le_230) (fun _ h9 => h9) rfl d_Le_dropUnneededFiles_122 ?_
        refine lv_if_eq (tgt := 140) hx hb d_Le_dropUnneededFiles_125 (by decide) (fun _ => ?_) (fun c9 => absurd (by decide) c9)
        refine lv_iinc (v := 1) (lv' := [(1, Value.int 1), (0, Value.ref A0)]) hx hb d_Le_dropUnneededFiles_140 hl (k := 0) rfl (by decide) (by decide) rfl (fun ls hl => ?_)
        refine lv_goto (tgt := 111) hx hb d_Le_dropUnneededFiles_143 (by decide) ?_
        refine lv_iload_n hx hb d_Le_dropUnneededFiles_111 rfl (lv_at hl 0 rfl) ?_
        refine lv_iconst (v := 4) hx hb d_Le_dropUnneededFiles_112 (by decide) ?_
        refine lv_icmp_ge (tgt := 146) hx hb d_Le_dropUnneededFiles_113 (by decide) (fun c9 => absurd c9 (by decide)) (fun _ => ?_)
        refine lv_aload_n hx hb d_Le_dropUnneededFiles_116 rfl (lv_at hl 1 rfl) ?_
        refine va_get (D := D) (ci := 0) (v := Value.ref A25) (C := "CommitLedger") (T := F_Le) (N := 18) hx hb hts i_Le hown hK hP 0 f_0 rfl 4 (by decide) (hts _ kf_Le_45) (fun _ h9 => h9) rfl d_Le_dropUnneededFiles_117 ?_
        refine lv_iload_n hx hb d_Le_dropUnneededFiles_120 rfl (lv_at hl 0 rfl) ?_
        refine gx_aald (D := D) (b := A31) (j := 1) hx hb hK hP 25 4 f_25 ht4 (gx_inl (by decide)) (by decide) (rfl) d_Le_dropUnneededFiles_121 ?_
        refine va_get (D := D) (ci := 6) (v := Value.int 0) (C := "CommitLedger$Reader") (T := F_Re) (N := 3) hx hb hts i_Re hown hK hP 31 f_31 rfl 2 (by decide) (hts _ kf_Le_230) (fun _ h9 => h9) rfl d_Le_dropUnneededFiles_122 ?_
        refine lv_if_eq (tgt := 140) hx hb d_Le_dropUnneededFiles_125 (by decide) (fun _ => ?_) (fun c9 => absurd (by decide) c9)
        refine lv_iinc (v := 2) (lv' := [(1, Value.int 2), (0, Value.ref A0)]) hx hb d_Le_dropUnneededFiles_140 hl (k := 0) rfl (by decide) (by decide) rfl (fun ls hl => ?_)
        refine lv_goto (tgt := 111) hx hb d_Le_dropUnneededFiles_143 (by decide) ?_
        refine lv_iload_n hx hb d_Le_dropUnneededFiles_111 rfl (lv_at hl 0 rfl) ?_
        refine lv_iconst (v := 4) hx hb d_Le_dropUnneededFiles_112 (by decide) ?_
        refine lv_icmp_ge (tgt := 146) hx hb d_Le_dropUnneededFiles_113 (by decide) (fun c9 => absurd c9 (by decide)) (fun _ => ?_)
        refine lv_aload_n hx hb d_Le_dropUnneededFiles_116 rfl (lv_at hl 1 rfl) ?_
        refine va_get (D := D) (ci := 0) (v := Value.ref A25) (C := "CommitLedger") (T := F_Le) (N := 18) hx hb hts i_Le hown hK hP 0 f_0 rfl 4 (by decide) (hts _ kf_Le_45) (fun _ h9 => h9) rfl d_Le_dropUnneededFiles_117 ?_
        refine lv_iload_n hx hb d_Le_dropUnneededFiles_120 rfl (lv_at hl 0 rfl) ?_
        refine gx_aald (D := D) (b := A36) (j := 2) hx hb hK hP 25 4 f_25 ht4 (gx_inl (by decide)) (by decide) (rfl) d_Le_dropUnneededFiles_121 ?_
        refine va_get (D := D) (ci := 6) (v := Value.int 0) (C := "CommitLedger$Reader") (T := F_Re) (N := 3) hx hb hts i_Re hown hK hP 36 f_36 rfl 2 (by decide) (hts _ kf_Le_230) (fun _ h9 => h9) rfl d_Le_dropUnneededFiles_122 ?_
        refine lv_if_eq (tgt := 140) hx hb d_Le_dropUnneededFiles_125 (by decide) (fun _ => ?_) (fun c9 => absurd (by decide) c9)
        refine lv_iinc (v := 3) (lv' := [(1, Value.int 3), (0, Value.ref A0)]) hx hb d_Le_dropUnneededFiles_140 hl (k := 0) rfl (by decide) (by decide) rfl (fun ls hl => ?_)
        refine lv_goto (tgt := 111) hx hb d_Le_dropUnneededFiles_143 (by decide) ?_
        refine lv_iload_n hx hb d_Le_dropUnneededFiles_111 rfl (lv_at hl 0 rfl) ?_
        refine lv_iconst (v := 4) hx hb d_Le_dropUnneededFiles_112 (by decide) ?_
        refine lv_icmp_ge (tgt := 146) hx hb d_Le_dropUnneededFiles_113 (by decide) (fun c9 => absurd c9 (by decide)) (fun _ => ?_)
        refine lv_aload_n hx hb d_Le_dropUnneededFiles_116 rfl (lv_at hl 1 rfl) ?_
        refine va_get (D := D) (ci := 0) (v := Value.ref A25) (C := "CommitLedger") (T := F_Le) (N := 18) hx hb hts i_Le hown hK hP 0 f_0 rfl 4 (by decide) (hts _ kf_Le_45) (fun _ h9 => h9) rfl d_Le_dropUnneededFiles_117 ?_
        refine lv_iload_n hx hb d_Le_dropUnneededFiles_120 rfl (lv_at hl 0 rfl) ?_
        refine gx_aald (D := D) (b := A41) (j := 3) hx hb hK hP 25 4 f_25 ht4 (gx_inl (by decide)) (by decide) (rfl) d_Le_dropUnneededFiles_121 ?_
        refine va_get (D := D) (ci := 6) (v := Value.int 0) (C := "CommitLedger$Reader") (T := F_Re) (N := 3) hx hb hts i_Re hown hK hP 41 f_41 rfl 2 (by decide) (hts _ kf_Le_230) (fun _ h9 => h9) rfl d_Le_dropUnneededFiles_122 ?_
        refine lv_if_eq (tgt := 140) hx hb d_Le_dropUnneededFiles_125 (by decide) (fun _ => ?_) (fun c9 => absurd (by decide) c9)
        refine lv_iinc (v := 4) (lv' := [(1, Value.int 4), (0, Value.ref A0)]) hx hb d_Le_dropUnneededFiles_140 hl (k := 0) rfl (by decide) (by decide) rfl (fun ls hl => ?_)
        refine lv_goto (tgt := 111) hx hb d_Le_dropUnneededFiles_143 (by decide) ?_
        refine lv_iload_n hx hb d_Le_dropUnneededFiles_111 rfl (lv_at hl 0 rfl) ?_
        refine lv_iconst (v := 4) hx hb d_Le_dropUnneededFiles_112 (by decide) ?_
        refine lv_icmp_ge (tgt := 146) hx hb d_Le_dropUnneededFiles_113 (by decide) (fun _ => ?_) (fun c9 => absurd (by decide) c9)
        refine lv_aload_n hx hb d_Le_dropUnneededFiles_146 rfl (lv_at hl 1 rfl) ?_
        refine va_get (D := D) (ci := 0) (v := Value.ref A5) (C := "CommitLedger") (T := F_Le) (N := 18) hx hb hts i_Le hown hK hP 0 f_0 rfl 1 (by decide) (hts _ kf_Le_19) (fun _ h9 => h9) rfl d_Le_dropUnneededFiles_147 ?_
        refine gx_call (ig := .invokevirtual 305) (c_Di_dropUnneeded_v1 l htr D tys z _ ws A5 A6 A7 (u0) f_5 f_6) (gx_invV (As := []) (rest := []) hx hb hown hts km_Le_305 kI_Di_dropUnneeded kV_Di_dropUnneeded kc_Di_dropUnneeded (by decide) (show (parseMethodDescriptor y_Di_dropUnneeded.desc).map (fun d => d.parameters.length) = some 0 by decide +kernel) (gx_recv (ci := 2) hK hP rfl f_5) rfl rfl d_Le_dropUnneededFiles_150) (gx_cw (z := 0) hts kc_Di_dropUnneeded kN_Di rfl rfl ⟨Nat.le_of_ble_eq_true rfl, Nat.le_of_ble_eq_true rfl⟩) hb hml gx_blind (gx_pre hz hP hK hD hY hS hAz [Value.ref A5]) rfl hl.1 (lv_room (Nat.le_of_ble_eq_true rfl)) d_Le_dropUnneededFiles_150 ⟨Nat.le_of_ble_eq_true rfl, Nat.le_of_ble_eq_true rfl⟩ (fun v7 st7 t7 L7 h0_7 hW_7 hQ_7 hL_7 => ?_) (fun v7 st7 t7 L7 h0_7 hW_7 hQ_7 hL_7 => ?_)
        · obtain ⟨ws8, hp, hP9, -, hD9, hS9⟩ := gx_back h0_7 hW_7 hQ_7 hL_7 hD hS hA
          clear hQ_7 h0_7 hL_7 hW_7 hP hD hS
          have hP := hP9
          have hD := hD9
          have hS := hS9
          clear hP9 hD9 hS9
          rcases hp with ⟨hv9, e_ws8⟩
          cases hv9
          rw [e_ws8] at hP hD
          refine W.eq (g2 := F0 m 153 ls []) rfl ?_
          generalize t7.heap = H at hP hS ⊢
          generalize locs ++ L7 = locs at hS ⊢
          exact gx_ret (W.vret hx hb hr (gx_post hP hK hD hS (by rw [← hPQ]; exact ⟨rfl, rfl⟩)) hS.2.2 d_Le_dropUnneededFiles_153)
        · obtain ⟨E9, ws9, ce, hp, hce, hP9, -, hD9, hS9⟩ := gx_backT h0_7 hW_7 hQ_7 hL_7 hD hS hA
          clear hQ_7 h0_7 hL_7 hW_7 hP hD hS
          have hP := hP9
          have hD := hD9
          have hS := hS9
          clear hP9 hD9 hS9
          rcases hp with ⟨hv9, e_ws9⟩
          cases hv9
      · obtain ⟨E9, ws10, ce, hp, hce, hP9, -, hD9, hS9⟩ := gx_backT h0_5 hW_5 hQ_5 hL_5 hD hS hA
        clear hQ_5 h0_5 hL_5 hW_5 hP hD hS
        have hP := hP9
        have hD := hD9
        have hS := hS9
        clear hP9 hD9 hS9
        rcases hp with ⟨hv9, e_ws10⟩
        cases hv9
    · obtain ⟨E9, ws11, ce, hp, hce, hP9, -, hD9, hS9⟩ := gx_backT h0_3 hW_3 hQ_3 hL_3 hD hS hA
      clear hQ_3 h0_3 hL_3 hW_3 hP hD hS
      have hP := hP9
      have hD := hD9
      have hS := hS9
      clear hP9 hD9 hS9
      rcases hp with ⟨hv9, e_ws11⟩
      cases hv9
  · obtain ⟨E9, ws12, ce, hp, hce, hP9, -, hD9, hS9⟩ := gx_backT h0_1 hW_1 hQ_1 hL_1 hD hS hA
    clear hQ_1 h0_1 hL_1 hW_1 hP hD hS
    have hP := hP9
    have hD := hD9
    have hS := hS9
    clear hP9 hD9 hS9
    rcases hp with ⟨hv9, e_ws12⟩
    cases hv9

set_option maxHeartbeats 4000000 in
set_option maxRecDepth 100000 in
theorem c_Le_commitIsCorrupt_v1 (l : Launch) (htr : l.stackTraces = false) (D : va_G) (tys : List (ClassId × FieldType)) (z sz : Nat) (ws : va_W) (A0 : Nat) (A1 : Nat) (A5 : Nat) (A8 : Nat) (A20 : Nat) (A25 : Nat) (A12 : Nat) (A16 : Nat) (f_0 : ws[0]? = some ((A0, Sum.inr (0, [Value.ref A1, Value.ref A5, Value.ref A8, Value.ref A20, Value.ref A25, Value.ref A12, Value.ref A16, Value.int 0, Value.int 0, Value.int 0, Value.int 16, Value.int 4, Value.int 0, Value.int 0, Value.int 0, Value.int 0, Value.int 0, Value.int (-1)])) : Nat × va_E)) : gx_Met l y_Le_commitIsCorrupt [Cond.code y_Le_commitIsCorrupt b_Le_commitIsCorrupt 1 (some .boolean)] { frames := 1, cells := 0, slots := 0, locals := 12 } (gx_P z sz D classes tys ws [Value.ref A0]) (gx_Q D classes tys (va_A ws sz) (fun r ws' => (r = Sum.inl (some (Value.int 0)) ∧ ws' = ws))) 0 0 (va_A ws sz) := by
  refine gx_ofW (cc := b_Le_commitIsCorrupt) (maxL := 1) (ret := (some .boolean)) (by decide) rfl ?_
  intro p e s m args below meth c s₁ B hml hv
  obtain ⟨rfl, hsz, hz, hP, hK, hD0, hY⟩ := hv
  have hx := B.exec
  have hb := B.bytes
  have hr := B.returns
  have hts := hY.hts (#[Value.ref A0] : Array Value)
  have hown : s.vm.findClass "CommitLedger" = some m.cls := findClass_of_methodNamed B.named
  have hlocks := B.notSynchronized
  have hne : c.exceptionTable.isEmpty = true := B.noHandlers (atoms_spec (ws := [Cond.code y_Le_commitIsCorrupt b_Le_commitIsCorrupt 1 (some .boolean)]) B.pre _ List.mem_cons_self)
  subst hsz
  have hAz := gx_az hD0 hz
  have hD := hD0.self (sz := s.heap.size)
  have hN := gx_ns hP
  have hA : ∀ q : Nat, s.heap.size ≤ q → va_A ws s.heap.size q := fun q h => Or.inr h
  generalize va_A ws s.heap.size = A at hD hN hA hAz ⊢
  generalize hPQ : (fun (r : Option Value ⊕ String) (ws' : va_W) => (r = Sum.inl (some (Value.int 0)) ∧ ws' = ws)) = PQ
  have hS : va_S A s.heap s.heap [] := va_S.rf
  have hU : gx_g ws ws 0 [] := gx_g.rf
  have hl := lv_entry ([Value.ref A0]) (n := 1) (Nat.le_of_ble_eq_true rfl)
  rw [lg_entry_eq]
  generalize (lg_sl ([Value.ref A0]) ++ List.replicate (1 - (lg_sl ([Value.ref A0])).length) Slot.unset).toArray = ls at hl ⊢
  have hl : lv_has ls 1 [(0, Value.ref A0)] := hl
  refine lv_aload_n hx hb d_Le_commitIsCorrupt_0 rfl (lv_at hl 0 rfl) ?_
  refine va_get (D := D) (ci := 0) (v := Value.int 0) (C := "CommitLedger") (T := F_Le) (N := 18) hx hb hts i_Le hown hK hP 0 f_0 rfl 15 (by decide) (hts _ kf_Le_84) (fun _ h9 => h9) rfl d_Le_commitIsCorrupt_1 ?_
  refine lv_if_le (tgt := 21) hx hb d_Le_commitIsCorrupt_4 (by decide) (fun _ => ?_) (fun c9 => absurd (by decide) c9)
  refine lv_iconst (v := 0) hx hb d_Le_commitIsCorrupt_21 (by decide) ?_
  exact gx_ret (W.zret (v := 0) (ty := .boolean) hx hb hr (rfl) (gx_post hP hK hD hS (by rw [← hPQ]; exact ⟨rfl, rfl⟩)) hS.2.2 d_Le_commitIsCorrupt_22)

set_option maxHeartbeats 4000000 in
set_option maxRecDepth 100000 in
theorem c_Le_open_v1 (l : Launch) (htr : l.stackTraces = false) (D : va_G) (tys : List (ClassId × FieldType)) (z sz : Nat) (ws : va_W) (cZ : ClassId) (cR : ClassId) (A0 : Nat) (p0 : Int32) (A1 : Nat) (A5 : Nat) (A8 : Nat) (A20 : Nat) (A25 : Nat) (A12 : Nat) (A16 : Nat) (A2 : Nat) (A3 : Nat) (A4 : Nat) (A6 : Nat) (A7 : Nat) (u0 : Value) (A9 : Nat) (A10 : Nat) (A11 : Nat) (A26 : Nat) (A31 : Nat) (A36 : Nat) (A41 : Nat) (A27 : Nat) (A32 : Nat) (A37 : Nat) (A42 : Nat) (f_0 : ws[0]? = some ((A0, Sum.inr (0, [Value.ref A1, Value.ref A5, Value.ref A8, Value.ref A20, Value.ref A25, Value.ref A12, Value.ref A16, Value.int 0, Value.int 0, Value.int 0, Value.int 16, Value.int 4, Value.int 0, Value.int 0, Value.int 0, Value.int 0, Value.int 0, Value.int (-1)])) : Nat × va_E)) (f_1 : ws[1]? = some ((A1, Sum.inr (1, [Value.ref A2, Value.ref A3, Value.ref A4, Value.int 0])) : Nat × va_E)) (f_5 : ws[5]? = some ((A5, Sum.inr (2, [Value.ref A6, Value.ref A7, Value.int 0, Value.int 0])) : Nat × va_E)) (f_6 : ws[6]? = some ((A6, Sum.inr (3, [u0, Value.int 0, Value.int 0])) : Nat × va_E)) (f_8 : ws[8]? = some ((A8, Sum.inr (4, [Value.ref A9, Value.ref A10, Value.ref A11, Value.null, Value.int 0, Value.int 0])) : Nat × va_E)) (f_11 : ws[11]? = some ((A11, Sum.inl (cZ, 4096, Sum.inl (fun _ => 0))) : Nat × va_E)) (f_25 : ws[25]? = some ((A25, Sum.inl (cR, 4, Sum.inr (Sum.inr (Sum.inr (Sum.inr (va_up (va_up (va_up (va_up (fun _ => none) 0 (some A26)) 1 (some A31)) 2 (some A36)) 3 (some A41))))))) : Nat × va_E)) (f_26 : ws[26]? = some ((A26, Sum.inr (6, [Value.ref A27, Value.int 0, Value.int 0])) : Nat × va_E)) (f_31 : ws[31]? = some ((A31, Sum.inr (6, [Value.ref A32, Value.int 0, Value.int 0])) : Nat × va_E)) (f_36 : ws[36]? = some ((A36, Sum.inr (6, [Value.ref A37, Value.int 0, Value.int 0])) : Nat × va_E)) (f_41 : ws[41]? = some ((A41, Sum.inr (6, [Value.ref A42, Value.int 0, Value.int 0])) : Nat × va_E)) (ht1 : tys[1]? = some ((cZ, FieldType.boolean) : ClassId × FieldType)) (ht4 : tys[4]? = some ((cR, FieldType.object "CommitLedger$Reader") : ClassId × FieldType)) : gx_Met l y_Le_open [Cond.code y_Le_open b_Le_open 2 (some .int)] { frames := 7, cells := 1, slots := 6, locals := 104 } (gx_P z sz D classes tys ws [Value.ref A0, Value.int p0]) (gx_Q D classes tys (va_A ws sz) (fun r ws' => (∃ F90 : Nat → Int32, r = Sum.inl (some (Value.int 0)) ∧ gx_g ws ws' 0 [0, 5, 8, 11] ∧ ws'[0]? = some ((A0, Sum.inr (0, [Value.ref A1, Value.ref A5, Value.ref A8, Value.ref A20, Value.ref A25, Value.ref A12, Value.ref A16, Value.int 1, Value.int 0, Value.int 0, Value.int 16, Value.int 4, Value.int 0, Value.int 0, Value.int 0, Value.int 0, Value.int 0, Value.int (-1)])) : Nat × va_E) ∧ ws'[5]? = some ((A5, Sum.inr (2, [Value.ref A6, Value.ref A7, Value.int 0, Value.int 0])) : Nat × va_E) ∧ ws'[8]? = some ((A8, Sum.inr (4, [Value.ref A9, Value.ref A10, Value.ref A11, Value.null, Value.int 0, Value.int 0])) : Nat × va_E) ∧ ws'[11]? = some ((A11, Sum.inl (cZ, 4096, Sum.inl F90)) : Nat × va_E) ∧ ¬ p0 < 0 ∧ p0 ≤ 1 ∧ ¬ p0 = 0 ∧ ∀ j : Nat, j < 4096 → F90 j = 0) ∨ (∃ F90 : Nat → Int32, r = Sum.inl (some (Value.int 0)) ∧ gx_g ws ws' 0 [0, 5, 8, 11] ∧ ws'[0]? = some ((A0, Sum.inr (0, [Value.ref A1, Value.ref A5, Value.ref A8, Value.ref A20, Value.ref A25, Value.ref A12, Value.ref A16, Value.int 1, Value.int 0, Value.int 0, Value.int 16, Value.int 4, Value.int 0, Value.int 0, Value.int 0, Value.int 0, Value.int 0, Value.int (-1)])) : Nat × va_E) ∧ ws'[5]? = some ((A5, Sum.inr (2, [Value.ref A6, Value.ref A7, Value.int 0, Value.int 0])) : Nat × va_E) ∧ ws'[8]? = some ((A8, Sum.inr (4, [Value.ref A9, Value.ref A10, Value.ref A11, Value.null, Value.int 0, Value.int 0])) : Nat × va_E) ∧ ws'[11]? = some ((A11, Sum.inl (cZ, 4096, Sum.inl F90)) : Nat × va_E) ∧ ¬ p0 < 0 ∧ p0 ≤ 1 ∧ p0 = 0 ∧ ∀ j : Nat, j < 4096 → F90 j = 0) ∨ (r = Sum.inr "java/lang/IllegalArgumentException" ∧ gx_g ws ws' 0 [0, 5, 8, 11] ∧ ws'[0]? = some ((A0, Sum.inr (0, [Value.ref A1, Value.ref A5, Value.ref A8, Value.ref A20, Value.ref A25, Value.ref A12, Value.ref A16, Value.int 0, Value.int 0, Value.int 0, Value.int 16, Value.int 4, Value.int 0, Value.int 0, Value.int 0, Value.int 0, Value.int 0, Value.int (-1)])) : Nat × va_E) ∧ ws'[5]? = some ((A5, Sum.inr (2, [Value.ref A6, Value.ref A7, Value.int 0, Value.int 0])) : Nat × va_E) ∧ ws'[8]? = some ((A8, Sum.inr (4, [Value.ref A9, Value.ref A10, Value.ref A11, Value.null, Value.int 0, Value.int 0])) : Nat × va_E) ∧ ws'[11]? = some ((A11, Sum.inl (cZ, 4096, Sum.inl (fun _ => 0))) : Nat × va_E) ∧ p0 < 0) ∨ (r = Sum.inr "java/lang/IllegalArgumentException" ∧ gx_g ws ws' 0 [0, 5, 8, 11] ∧ ws'[0]? = some ((A0, Sum.inr (0, [Value.ref A1, Value.ref A5, Value.ref A8, Value.ref A20, Value.ref A25, Value.ref A12, Value.ref A16, Value.int 0, Value.int 0, Value.int 0, Value.int 16, Value.int 4, Value.int 0, Value.int 0, Value.int 0, Value.int 0, Value.int 0, Value.int (-1)])) : Nat × va_E) ∧ ws'[5]? = some ((A5, Sum.inr (2, [Value.ref A6, Value.ref A7, Value.int 0, Value.int 0])) : Nat × va_E) ∧ ws'[8]? = some ((A8, Sum.inr (4, [Value.ref A9, Value.ref A10, Value.ref A11, Value.null, Value.int 0, Value.int 0])) : Nat × va_E) ∧ ws'[11]? = some ((A11, Sum.inl (cZ, 4096, Sum.inl (fun _ => 0))) : Nat × va_E) ∧ ¬ p0 < 0 ∧ ¬ p0 ≤ 1))) 1 6 (va_A ws sz) := by
  refine gx_ofW (cc := b_Le_open) (maxL := 2) (ret := (some .int)) (by decide) rfl ?_
  intro p e s m args below meth c s₁ B hml hv
  obtain ⟨rfl, hsz, hz, hP, hK, hD0, hY⟩ := hv
  have hx := B.exec
  have hb := B.bytes
  have hr := B.returns
  have hts := hY.hts (#[Value.ref A0, Value.int p0] : Array Value)
  have hown : s.vm.findClass "CommitLedger" = some m.cls := findClass_of_methodNamed B.named
  have hlocks := B.notSynchronized
  have hne : c.exceptionTable.isEmpty = true := B.noHandlers (atoms_spec (ws := [Cond.code y_Le_open b_Le_open 2 (some .int)]) B.pre _ List.mem_cons_self)
  subst hsz
  have hAz := gx_az hD0 hz
  have hD := hD0.self (sz := s.heap.size)
  have hN := gx_ns hP
  have hA : ∀ q : Nat, s.heap.size ≤ q → va_A ws s.heap.size q := fun q h => Or.inr h
  generalize va_A ws s.heap.size = A at hD hN hA hAz ⊢
  generalize hPQ : (fun (r : Option Value ⊕ String) (ws' : va_W) => (∃ F90 : Nat → Int32, r = Sum.inl (some (Value.int 0)) ∧ gx_g ws ws' 0 [0, 5, 8, 11] ∧ ws'[0]? = some ((A0, Sum.inr (0, [Value.ref A1, Value.ref A5, Value.ref A8, Value.ref A20, Value.ref A25, Value.ref A12, Value.ref A16, Value.int 1, Value.int 0, Value.int 0, Value.int 16, Value.int 4, Value.int 0, Value.int 0, Value.int 0, Value.int 0, Value.int 0, Value.int (-1)])) : Nat × va_E) ∧ ws'[5]? = some ((A5, Sum.inr (2, [Value.ref A6, Value.ref A7, Value.int 0, Value.int 0])) : Nat × va_E) ∧ ws'[8]? = some ((A8, Sum.inr (4, [Value.ref A9, Value.ref A10, Value.ref A11, Value.null, Value.int 0, Value.int 0])) : Nat × va_E) ∧ ws'[11]? = some ((A11, Sum.inl (cZ, 4096, Sum.inl F90)) : Nat × va_E) ∧ ¬ p0 < 0 ∧ p0 ≤ 1 ∧ ¬ p0 = 0 ∧ ∀ j : Nat, j < 4096 → F90 j = 0) ∨ (∃ F90 : Nat → Int32, r = Sum.inl (some (Value.int 0)) ∧ gx_g ws ws' 0 [0, 5, 8, 11] ∧ ws'[0]? = some ((A0, Sum.inr (0, [Value.ref A1, Value.ref A5, Value.ref A8, Value.ref A20, Value.ref A25, Value.ref A12, Value.ref A16, Value.int 1, Value.int 0, Value.int 0, Value.int 16, Value.int 4, Value.int 0, Value.int 0, Value.int 0, Value.int 0, Value.int 0, Value.int (-1)])) : Nat × va_E) ∧ ws'[5]? = some ((A5, Sum.inr (2, [Value.ref A6, Value.ref A7, Value.int 0, Value.int 0])) : Nat × va_E) ∧ ws'[8]? = some ((A8, Sum.inr (4, [Value.ref A9, Value.ref A10, Value.ref A11, Value.null, Value.int 0, Value.int 0])) : Nat × va_E) ∧ ws'[11]? = some ((A11, Sum.inl (cZ, 4096, Sum.inl F90)) : Nat × va_E) ∧ ¬ p0 < 0 ∧ p0 ≤ 1 ∧ p0 = 0 ∧ ∀ j : Nat, j < 4096 → F90 j = 0) ∨ (r = Sum.inr "java/lang/IllegalArgumentException" ∧ gx_g ws ws' 0 [0, 5, 8, 11] ∧ ws'[0]? = some ((A0, Sum.inr (0, [Value.ref A1, Value.ref A5, Value.ref A8, Value.ref A20, Value.ref A25, Value.ref A12, Value.ref A16, Value.int 0, Value.int 0, Value.int 0, Value.int 16, Value.int 4, Value.int 0, Value.int 0, Value.int 0, Value.int 0, Value.int 0, Value.int (-1)])) : Nat × va_E) ∧ ws'[5]? = some ((A5, Sum.inr (2, [Value.ref A6, Value.ref A7, Value.int 0, Value.int 0])) : Nat × va_E) ∧ ws'[8]? = some ((A8, Sum.inr (4, [Value.ref A9, Value.ref A10, Value.ref A11, Value.null, Value.int 0, Value.int 0])) : Nat × va_E) ∧ ws'[11]? = some ((A11, Sum.inl (cZ, 4096, Sum.inl (fun _ => 0))) : Nat × va_E) ∧ p0 < 0) ∨ (r = Sum.inr "java/lang/IllegalArgumentException" ∧ gx_g ws ws' 0 [0, 5, 8, 11] ∧ ws'[0]? = some ((A0, Sum.inr (0, [Value.ref A1, Value.ref A5, Value.ref A8, Value.ref A20, Value.ref A25, Value.ref A12, Value.ref A16, Value.int 0, Value.int 0, Value.int 0, Value.int 16, Value.int 4, Value.int 0, Value.int 0, Value.int 0, Value.int 0, Value.int 0, Value.int (-1)])) : Nat × va_E) ∧ ws'[5]? = some ((A5, Sum.inr (2, [Value.ref A6, Value.ref A7, Value.int 0, Value.int 0])) : Nat × va_E) ∧ ws'[8]? = some ((A8, Sum.inr (4, [Value.ref A9, Value.ref A10, Value.ref A11, Value.null, Value.int 0, Value.int 0])) : Nat × va_E) ∧ ws'[11]? = some ((A11, Sum.inl (cZ, 4096, Sum.inl (fun _ => 0))) : Nat × va_E) ∧ ¬ p0 < 0 ∧ ¬ p0 ≤ 1)) = PQ
  have hS : va_S A s.heap s.heap [] := va_S.rf
  have hU : gx_g ws ws 0 [0, 5, 8, 11] := gx_g.rf
  have hl := lv_entry ([Value.ref A0, Value.int p0]) (n := 2) (Nat.le_of_ble_eq_true rfl)
  rw [lg_entry_eq]
  generalize (lg_sl ([Value.ref A0, Value.int p0]) ++ List.replicate (2 - (lg_sl ([Value.ref A0, Value.int p0])).length) Slot.unset).toArray = ls at hl ⊢
  have hl : lv_has ls 2 [(0, Value.ref A0), (1, Value.int p0)] := hl
  refine lv_iload_n hx hb d_Le_open_0 rfl (lv_at hl 1 rfl) ?_
  refine lv_iconst (v := 0) hx hb d_Le_open_1 (by decide) ?_
  refine lv_iconst (v := 1) hx hb d_Le_open_2 (by decide) ?_
  refine gx_call (ig := .invokestatic 60) (c_Le_requireRange l htr D tys z _ ws p0 0 1) (gx_invS (As := [Value.int p0, Value.int 0, Value.int 1]) (rest := []) hx hb hown hts km_Le_60 kS_Le_requireRange kN_Le kc_Le_requireRange (by decide) (show (parseMethodDescriptor y_Le_requireRange.desc).map (fun d => d.parameters.length) = some 3 by decide +kernel) rfl rfl d_Le_open_3) (gx_cw (z := 0) hts kc_Le_requireRange kN_Le rfl rfl ⟨Nat.le_of_ble_eq_true rfl, Nat.le_of_ble_eq_true rfl⟩) hb hml gx_blind (gx_pre hz hP hK hD hY hS hAz [Value.int p0, Value.int 0, Value.int 1]) rfl hl.1 (lv_room (Nat.le_of_ble_eq_true rfl)) d_Le_open_3 ⟨Nat.le_of_ble_eq_true rfl, Nat.le_of_ble_eq_true rfl⟩ (fun v1 st1 t1 L1 h0_1 hW_1 hQ_1 hL_1 => ?_) (fun v1 st1 t1 L1 h0_1 hW_1 hQ_1 hL_1 => ?_)
  · obtain ⟨ws2, hp, hP9, -, hD9, hS9⟩ := gx_back h0_1 hW_1 hQ_1 hL_1 hD hS hA
    clear hQ_1 h0_1 hL_1 hW_1 hP hD hS
    have hP := hP9
    have hD := hD9
    have hS := hS9
    clear hP9 hD9 hS9
    rcases hp with ⟨hv9, e_ws2, g1_0, g1_1⟩ | ⟨hv9, e_ws2, g1_0⟩ | ⟨hv9, e_ws2, g1_0, g1_1⟩
    · cases hv9
      rw [e_ws2] at hP hD
      refine W.eq (g2 := F0 m 6 ls []) rfl ?_
      refine W.widen (k := 1) (n := 6) (by decide) (by decide) ?_
      generalize t1.heap = H at hP hS ⊢
      generalize [] ++ L1 = locs at hS ⊢
      refine lv_aload_n hx hb d_Le_open_6 rfl (lv_at hl 0 rfl) ?_
      refine va_get (D := D) (ci := 0) (v := Value.int 0) (C := "CommitLedger") (T := F_Le) (N := 18) hx hb hts i_Le hown hK hP 0 f_0 rfl 7 (by decide) (hts _ kf_Le_64) (fun _ h9 => h9) rfl d_Le_open_7 ?_
      refine lv_if_eq (tgt := 23) hx hb d_Le_open_10 (by decide) (fun _ => ?_) (fun c9 => absurd (by decide) c9)
      refine lv_iload_n hx hb d_Le_open_23 rfl (lv_at hl 1 rfl) ?_
      refine lv_if_ne (tgt := 44) hx hb d_Le_open_24 (by decide) (fun c24_3 => ?_) (fun c24_3 => ?_)
      · refine lv_iload_n hx hb d_Le_open_44 rfl (lv_at hl 1 rfl) ?_
        refine lv_if_ne (tgt := 69) hx hb d_Le_open_45 (by decide) (fun _ => ?_) (fun c9 => absurd c9 c24_3)
        refine lv_aload_n hx hb d_Le_open_69 rfl (lv_at hl 0 rfl) ?_
        refine va_get (D := D) (ci := 0) (v := Value.ref A8) (C := "CommitLedger") (T := F_Le) (N := 18) hx hb hts i_Le hown hK hP 0 f_0 rfl 2 (by decide) (hts _ kf_Le_26) (fun _ h9 => h9) rfl d_Le_open_70 ?_
        refine gx_call (ig := .invokevirtual 91) (c_Vi_becomeEmpty l htr D tys z _ ws cZ A8 A11 8 11 (Value.ref A9) (Value.ref A10) (Value.null) 0 0 (fun _ => 0) f_8 f_11 ht1 (by decide)) (gx_invV (As := []) (rest := []) hx hb hown hts km_Le_91 kI_Vi_becomeEmpty kV_Vi_becomeEmpty kc_Vi_becomeEmpty (by decide) (show (parseMethodDescriptor y_Vi_becomeEmpty.desc).map (fun d => d.parameters.length) = some 0 by decide +kernel) (gx_recv (ci := 4) hK hP rfl f_8) rfl rfl d_Le_open_73) (gx_cw (z := 0) hts kc_Vi_becomeEmpty kN_Vi rfl rfl ⟨Nat.le_of_ble_eq_true rfl, Nat.le_of_ble_eq_true rfl⟩) hb hml gx_blind (gx_pre hz hP hK hD hY hS hAz [Value.ref A8]) rfl hl.1 (lv_room (Nat.le_of_ble_eq_true rfl)) d_Le_open_73 ⟨Nat.le_of_ble_eq_true rfl, Nat.le_of_ble_eq_true rfl⟩ (fun v5 st5 t5 L5 h0_5 hW_5 hQ_5 hL_5 => ?_) (fun v5 st5 t5 L5 h0_5 hW_5 hQ_5 hL_5 => ?_)
        · obtain ⟨ws6, hp, hP9, -, hD9, hS9⟩ := gx_back h0_5 hW_5 hQ_5 hL_5 hD hS hA
          clear hQ_5 h0_5 hL_5 hW_5 hP hD hS
          have hP := hP9
          have hD := hD9
          have hS := hS9
          clear hP9 hD9 hS9
          rcases hp with ⟨F7, hv9, e_ws6, f_8_ws6, f_11_ws6, g5_0⟩
          cases hv9
          have f_8_ws6 : ws6[8]? = some ((A8, Sum.inr (4, [Value.ref A9, Value.ref A10, Value.ref A11, Value.null, Value.int 0, Value.int 0])) : Nat × va_E) := f_8_ws6
          have f_11_ws6 : ws6[11]? = some ((A11, Sum.inl (cZ, 4096, Sum.inl F7)) : Nat × va_E) := f_11_ws6
          replace hU : gx_g ws ws6 0 [0, 5, 8, 11] := hU.call e_ws6 (by simp; first | done | omega)
          refine W.eq (g2 := F0 m 76 ls []) rfl ?_
          generalize t5.heap = H at hP hS ⊢
          generalize locs ++ L5 = locs at hS ⊢
          refine lv_aload_n hx hb d_Le_open_76 rfl (lv_at hl 0 rfl) ?_
          refine lv_iconst (v := 1) hx hb d_Le_open_77 (by decide) ?_
          have f_0_ws6 : ws6[0]? = some ((A0, Sum.inr (0, [Value.ref A1, Value.ref A5, Value.ref A8, Value.ref A20, Value.ref A25, Value.ref A12, Value.ref A16, Value.int 0, Value.int 0, Value.int 0, Value.int 16, Value.int 4, Value.int 0, Value.int 0, Value.int 0, Value.int 0, Value.int 0, Value.int (-1)])) : Nat × va_E) := e_ws6.at (by first | decide | (simp; done) | (simp; omega)) f_0
          clear f_0
          refine va_put (D := D) (ci := 0) (v := Value.int 1) (ty := .boolean) (C := "CommitLedger") (T := F_Le) (N := 18) hx hb hts i_Le t_Le t_Le_ok n_Le hown hK hP hD hS 0 f_0_ws6 rfl 7 (by decide) (hts _ kf_Le_64) (fun _ h9 => h9) rfl (by decide +kernel) rfl rfl (Nat.le_of_ble_eq_true rfl) d_Le_open_78 (fun H locs hP9 hD9 hS9 => ?_)
          obtain ⟨ws8, e_ws8⟩ : ∃ x : va_W, x = ws6.set 0 ((A0, Sum.inr (0, [Value.ref A1, Value.ref A5, Value.ref A8, Value.ref A20, Value.ref A25, Value.ref A12, Value.ref A16, Value.int 1, Value.int 0, Value.int 0, Value.int 16, Value.int 4, Value.int 0, Value.int 0, Value.int 0, Value.int 0, Value.int 0, Value.int (-1)])) : Nat × va_E) := ⟨_, rfl⟩
          replace hP : va_P D classes ws8 H := by rw [e_ws8]; exact hP9
          replace hD : va_D A ws8 := by rw [e_ws8]; exact hD9
          replace hS := hS9
          clear hP9 hD9 hS9
          have f_0_ws8 : ws8[0]? = some ((A0, Sum.inr (0, [Value.ref A1, Value.ref A5, Value.ref A8, Value.ref A20, Value.ref A25, Value.ref A12, Value.ref A16, Value.int 1, Value.int 0, Value.int 0, Value.int 16, Value.int 4, Value.int 0, Value.int 0, Value.int 0, Value.int 0, Value.int 0, Value.int (-1)])) : Nat × va_E) := by rw [e_ws8]; exact gs_self f_0_ws6
          replace hU : gx_g ws ws8 0 [0, 5, 8, 11] := by rw [e_ws8]; exact hU.put (Or.inl (by simp))
          refine lv_aload_n hx hb d_Le_open_81 rfl (lv_at hl 0 rfl) ?_
          refine lv_aload_n hx hb d_Le_open_82 rfl (lv_at hl 0 rfl) ?_
          refine va_get (D := D) (ci := 0) (v := Value.ref A1) (C := "CommitLedger") (T := F_Le) (N := 18) hx hb hts i_Le hown hK hP 0 f_0_ws8 rfl 0 (by decide) (hts _ kf_Le_10) (fun _ h9 => h9) rfl d_Le_open_83 ?_
          have f_1_ws6 : ws6[1]? = some ((A1, Sum.inr (1, [Value.ref A2, Value.ref A3, Value.ref A4, Value.int 0])) : Nat × va_E) := e_ws6.at (by first | decide | (simp; done) | (simp; omega)) f_1
          clear f_1
          have f_1_ws8 : ws8[1]? = some ((A1, Sum.inr (1, [Value.ref A2, Value.ref A3, Value.ref A4, Value.int 0])) : Nat × va_E) := by rw [e_ws8]; exact gs_ne (by decide) f_1_ws6
          clear f_1_ws6
          refine va_get (D := D) (ci := 1) (v := Value.int 0) (C := "CommitLedger$Entries") (T := F_En) (N := 4) hx hb hts i_En hown hK hP 1 f_1_ws8 rfl 3 (by decide) (hts _ kf_Le_94) (fun _ h9 => h9) rfl d_Le_open_86 ?_
          refine va_put (D := D) (ci := 0) (v := Value.int 0) (ty := .int) (C := "CommitLedger") (T := F_Le) (N := 18) hx hb hts i_Le t_Le t_Le_ok n_Le hown hK hP hD hS 0 f_0_ws8 rfl 9 (by decide) (hts _ kf_Le_97) (fun _ h9 => h9) rfl (by decide +kernel) rfl rfl (Nat.le_of_ble_eq_true rfl) d_Le_open_89 (fun H locs hP9 hD9 hS9 => ?_)
          obtain ⟨ws9, e_ws9⟩ : ∃ x : va_W, x = ws8.set 0 ((A0, Sum.inr (0, [Value.ref A1, Value.ref A5, Value.ref A8, Value.ref A20, Value.ref A25, Value.ref A12, Value.ref A16, Value.int 1, Value.int 0, Value.int 0, Value.int 16, Value.int 4, Value.int 0, Value.int 0, Value.int 0, Value.int 0, Value.int 0, Value.int (-1)])) : Nat × va_E) := ⟨_, rfl⟩
          replace hP : va_P D classes ws9 H := by rw [e_ws9]; exact hP9
          replace hD : va_D A ws9 := by rw [e_ws9]; exact hD9
          replace hS := hS9
          clear hP9 hD9 hS9
          have f_0_ws9 : ws9[0]? = some ((A0, Sum.inr (0, [Value.ref A1, Value.ref A5, Value.ref A8, Value.ref A20, Value.ref A25, Value.ref A12, Value.ref A16, Value.int 1, Value.int 0, Value.int 0, Value.int 16, Value.int 4, Value.int 0, Value.int 0, Value.int 0, Value.int 0, Value.int 0, Value.int (-1)])) : Nat × va_E) := by rw [e_ws9]; exact gs_self f_0_ws8
          replace hU : gx_g ws ws9 0 [0, 5, 8, 11] := by rw [e_ws9]; exact hU.put (Or.inl (by simp))
          refine lv_aload_n hx hb d_Le_open_92 rfl (lv_at hl 0 rfl) ?_
          refine va_get (D := D) (ci := 0) (v := Value.ref A5) (C := "CommitLedger") (T := F_Le) (N := 18) hx hb hts i_Le hown hK hP 0 f_0_ws9 rfl 1 (by decide) (hts _ kf_Le_19) (fun _ h9 => h9) rfl d_Le_open_93 ?_
          refine lv_iconst (v := 0) hx hb d_Le_open_96 (by decide) ?_
          have f_5_ws6 : ws6[5]? = some ((A5, Sum.inr (2, [Value.ref A6, Value.ref A7, Value.int 0, Value.int 0])) : Nat × va_E) := e_ws6.at (by first | decide | (simp; done) | (simp; omega)) f_5
          clear f_5
          have f_5_ws8 : ws8[5]? = some ((A5, Sum.inr (2, [Value.ref A6, Value.ref A7, Value.int 0, Value.int 0])) : Nat × va_E) := by rw [e_ws8]; exact gs_ne (by decide) f_5_ws6
          clear f_5_ws6
          have f_5_ws9 : ws9[5]? = some ((A5, Sum.inr (2, [Value.ref A6, Value.ref A7, Value.int 0, Value.int 0])) : Nat × va_E) := by rw [e_ws9]; exact gs_ne (by decide) f_5_ws8
          clear f_5_ws8
          refine va_put (D := D) (ci := 2) (v := Value.int 0) (ty := .boolean) (C := "CommitLedger$Directory") (T := F_Di) (N := 4) hx hb hts i_Di t_Di t_Di_ok n_Di hown hK hP hD hS 5 f_5_ws9 rfl 3 (by decide) (hts _ kf_Le_100) (fun _ h9 => h9) rfl (by decide +kernel) rfl rfl (Nat.le_of_ble_eq_true rfl) d_Le_open_97 (fun H locs hP9 hD9 hS9 => ?_)
          obtain ⟨ws10, e_ws10⟩ : ∃ x : va_W, x = ws9.set 5 ((A5, Sum.inr (2, [Value.ref A6, Value.ref A7, Value.int 0, Value.int 0])) : Nat × va_E) := ⟨_, rfl⟩
          replace hP : va_P D classes ws10 H := by rw [e_ws10]; exact hP9
          replace hD : va_D A ws10 := by rw [e_ws10]; exact hD9
          replace hS := hS9
          clear hP9 hD9 hS9
          have f_5_ws10 : ws10[5]? = some ((A5, Sum.inr (2, [Value.ref A6, Value.ref A7, Value.int 0, Value.int 0])) : Nat × va_E) := by rw [e_ws10]; exact gs_self f_5_ws9
          replace hU : gx_g ws ws10 0 [0, 5, 8, 11] := by rw [e_ws10]; exact hU.put (Or.inl (by simp))
          refine lv_aload_n hx hb d_Le_open_100 rfl (lv_at hl 0 rfl) ?_
          have f_0_ws10 : ws10[0]? = some ((A0, Sum.inr (0, [Value.ref A1, Value.ref A5, Value.ref A8, Value.ref A20, Value.ref A25, Value.ref A12, Value.ref A16, Value.int 1, Value.int 0, Value.int 0, Value.int 16, Value.int 4, Value.int 0, Value.int 0, Value.int 0, Value.int 0, Value.int 0, Value.int (-1)])) : Nat × va_E) := by rw [e_ws10]; exact gs_ne (by decide) f_0_ws9
          clear f_0_ws9
          have f_8_ws8 : ws8[8]? = some ((A8, Sum.inr (4, [Value.ref A9, Value.ref A10, Value.ref A11, Value.null, Value.int 0, Value.int 0])) : Nat × va_E) := by rw [e_ws8]; exact gs_ne (by decide) f_8_ws6
          clear f_8_ws6
          have f_8_ws9 : ws9[8]? = some ((A8, Sum.inr (4, [Value.ref A9, Value.ref A10, Value.ref A11, Value.null, Value.int 0, Value.int 0])) : Nat × va_E) := by rw [e_ws9]; exact gs_ne (by decide) f_8_ws8
          clear f_8_ws8
          have f_8_ws10 : ws10[8]? = some ((A8, Sum.inr (4, [Value.ref A9, Value.ref A10, Value.ref A11, Value.null, Value.int 0, Value.int 0])) : Nat × va_E) := by rw [e_ws10]; exact gs_ne (by decide) f_8_ws9
          clear f_8_ws9
          refine gx_call (ig := .invokevirtual 103) (c_Le_dropDeadSegments_v1 l htr D tys z _ ws10 A0 A1 A5 A8 A20 A25 A12 A16 A9 A10 A11 f_0_ws10 f_8_ws10) (gx_invV (As := []) (rest := []) hx hb hown hts km_Le_103 kI_Le_dropDeadSegments kV_Le_dropDeadSegments kc_Le_dropDeadSegments (by decide) (show (parseMethodDescriptor y_Le_dropDeadSegments.desc).map (fun d => d.parameters.length) = some 0 by decide +kernel) (gx_recv (ci := 0) hK hP rfl f_0_ws10) rfl rfl d_Le_open_101) (gx_cw (z := 0) hts kc_Le_dropDeadSegments kN_Le rfl rfl ⟨Nat.le_of_ble_eq_true rfl, Nat.le_of_ble_eq_true rfl⟩) hb hml gx_blind (gx_pre hz hP hK hD hY hS hAz [Value.ref A0]) rfl hl.1 (lv_room (Nat.le_of_ble_eq_true rfl)) d_Le_open_101 ⟨Nat.le_of_ble_eq_true rfl, Nat.le_of_ble_eq_true rfl⟩ (fun v11 st11 t11 L11 h0_11 hW_11 hQ_11 hL_11 => ?_) (fun v11 st11 t11 L11 h0_11 hW_11 hQ_11 hL_11 => ?_)
          · obtain ⟨ws12, hp, hP9, -, hD9, hS9⟩ := gx_back h0_11 hW_11 hQ_11 hL_11 hD hS hA
            clear hQ_11 h0_11 hL_11 hW_11 hP hD hS
            have hP := hP9
            have hD := hD9
            have hS := hS9
            clear hP9 hD9 hS9
            rcases hp with ⟨hv9, e_ws12, f_8_ws12⟩
            cases hv9
            have f_8_ws12 : ws12[8]? = some ((A8, Sum.inr (4, [Value.ref A9, Value.ref A10, Value.ref A11, Value.null, Value.int 0, Value.int 0])) : Nat × va_E) := f_8_ws12
            replace hU : gx_g ws ws12 0 [0, 5, 8, 11] := hU.call e_ws12 (by simp; first | done | omega)
            refine W.eq (g2 := F0 m 104 ls []) rfl ?_
            generalize t11.heap = H at hP hS ⊢
            generalize locs ++ L11 = locs at hS ⊢
            refine lv_aload_n hx hb d_Le_open_104 rfl (lv_at hl 0 rfl) ?_
            have f_0_ws12 : ws12[0]? = some ((A0, Sum.inr (0, [Value.ref A1, Value.ref A5, Value.ref A8, Value.ref A20, Value.ref A25, Value.ref A12, Value.ref A16, Value.int 1, Value.int 0, Value.int 0, Value.int 16, Value.int 4, Value.int 0, Value.int 0, Value.int 0, Value.int 0, Value.int 0, Value.int (-1)])) : Nat × va_E) := e_ws12.at (by first | decide | (simp; done) | (simp; omega)) f_0_ws10
            clear f_0_ws10
            have f_5_ws12 : ws12[5]? = some ((A5, Sum.inr (2, [Value.ref A6, Value.ref A7, Value.int 0, Value.int 0])) : Nat × va_E) := e_ws12.at (by first | decide | (simp; done) | (simp; omega)) f_5_ws10
            clear f_5_ws10
            have f_6_ws6 : ws6[6]? = some ((A6, Sum.inr (3, [u0, Value.int 0, Value.int 0])) : Nat × va_E) := e_ws6.at (by first | decide | (simp; done) | (simp; omega)) f_6
            clear f_6
            have f_6_ws8 : ws8[6]? = some ((A6, Sum.inr (3, [u0, Value.int 0, Value.int 0])) : Nat × va_E) := by rw [e_ws8]; exact gs_ne (by decide) f_6_ws6
            clear f_6_ws6
            have f_6_ws9 : ws9[6]? = some ((A6, Sum.inr (3, [u0, Value.int 0, Value.int 0])) : Nat × va_E) := by rw [e_ws9]; exact gs_ne (by decide) f_6_ws8
            clear f_6_ws8
            have f_6_ws10 : ws10[6]? = some ((A6, Sum.inr (3, [u0, Value.int 0, Value.int 0])) : Nat × va_E) := by rw [e_ws10]; exact gs_ne (by decide) f_6_ws9
            clear f_6_ws9
            have f_6_ws12 : ws12[6]? = some ((A6, Sum.inr (3, [u0, Value.int 0, Value.int 0])) : Nat × va_E) := e_ws12.at (by first | decide | (simp; done) | (simp; omega)) f_6_ws10
            clear f_6_ws10
            have f_25_ws6 : ws6[25]? = some ((A25, Sum.inl (cR, 4, Sum.inr (Sum.inr (Sum.inr (Sum.inr (va_up (va_up (va_up (va_up (fun _ => none) 0 (some A26)) 1 (some A31)) 2 (some A36)) 3 (some A41))))))) : Nat × va_E) := e_ws6.at (by first | decide | (simp; done) | (simp; omega)) f_25
            clear f_25
            have f_25_ws8 : ws8[25]? = some ((A25, Sum.inl (cR, 4, Sum.inr (Sum.inr (Sum.inr (Sum.inr (va_up (va_up (va_up (va_up (fun _ => none) 0 (some A26)) 1 (some A31)) 2 (some A36)) 3 (some A41))))))) : Nat × va_E) := by rw [e_ws8]; exact gs_ne (by decide) f_25_ws6
            clear f_25_ws6
            have f_25_ws9 : ws9[25]? = some ((A25, Sum.inl (cR, 4, Sum.inr (Sum.inr (Sum.inr (Sum.inr (va_up (va_up (va_up (va_up (fun _ => none) 0 (some A26)) 1 (some A31)) 2 (some A36)) 3 (some A41))))))) : Nat × va_E) := by rw [e_ws9]; exact gs_ne (by decide) f_25_ws8
            clear f_25_ws8
            have f_25_ws10 : ws10[25]? = some ((A25, Sum.inl (cR, 4, Sum.inr (Sum.inr (Sum.inr (Sum.inr (va_up (va_up (va_up (va_up (fun _ => none) 0 (some A26)) 1 (some A31)) 2 (some A36)) 3 (some A41))))))) : Nat × va_E) := by rw [e_ws10]; exact gs_ne (by decide) f_25_ws9
            clear f_25_ws9
            have f_25_ws12 : ws12[25]? = some ((A25, Sum.inl (cR, 4, Sum.inr (Sum.inr (Sum.inr (Sum.inr (va_up (va_up (va_up (va_up (fun _ => none) 0 (some A26)) 1 (some A31)) 2 (some A36)) 3 (some A41))))))) : Nat × va_E) := e_ws12.at (by first | decide | (simp; done) | (simp; omega)) f_25_ws10
            clear f_25_ws10
            have f_26_ws6 : ws6[26]? = some ((A26, Sum.inr (6, [Value.ref A27, Value.int 0, Value.int 0])) : Nat × va_E) := e_ws6.at (by first | decide | (simp; done) | (simp; omega)) f_26
            clear f_26
            have f_26_ws8 : ws8[26]? = some ((A26, Sum.inr (6, [Value.ref A27, Value.int 0, Value.int 0])) : Nat × va_E) := by rw [e_ws8]; exact gs_ne (by decide) f_26_ws6
            clear f_26_ws6
            have f_26_ws9 : ws9[26]? = some ((A26, Sum.inr (6, [Value.ref A27, Value.int 0, Value.int 0])) : Nat × va_E) := by rw [e_ws9]; exact gs_ne (by decide) f_26_ws8
            clear f_26_ws8
            have f_26_ws10 : ws10[26]? = some ((A26, Sum.inr (6, [Value.ref A27, Value.int 0, Value.int 0])) : Nat × va_E) := by rw [e_ws10]; exact gs_ne (by decide) f_26_ws9
            clear f_26_ws9
            have f_26_ws12 : ws12[26]? = some ((A26, Sum.inr (6, [Value.ref A27, Value.int 0, Value.int 0])) : Nat × va_E) := e_ws12.at (by first | decide | (simp; done) | (simp; omega)) f_26_ws10
            clear f_26_ws10
            have f_31_ws6 : ws6[31]? = some ((A31, Sum.inr (6, [Value.ref A32, Value.int 0, Value.int 0])) : Nat × va_E) := e_ws6.at (by first | decide | (simp; done) | (simp; omega)) f_31
            clear f_31
            have f_31_ws8 : ws8[31]? = some ((A31, Sum.inr (6, [Value.ref A32, Value.int 0, Value.int 0])) : Nat × va_E) := by rw [e_ws8]; exact gs_ne (by decide) f_31_ws6
            clear f_31_ws6
            have f_31_ws9 : ws9[31]? = some ((A31, Sum.inr (6, [Value.ref A32, Value.int 0, Value.int 0])) : Nat × va_E) := by rw [e_ws9]; exact gs_ne (by decide) f_31_ws8
            clear f_31_ws8
            have f_31_ws10 : ws10[31]? = some ((A31, Sum.inr (6, [Value.ref A32, Value.int 0, Value.int 0])) : Nat × va_E) := by rw [e_ws10]; exact gs_ne (by decide) f_31_ws9
            clear f_31_ws9
            have f_31_ws12 : ws12[31]? = some ((A31, Sum.inr (6, [Value.ref A32, Value.int 0, Value.int 0])) : Nat × va_E) := e_ws12.at (by first | decide | (simp; done) | (simp; omega)) f_31_ws10
            clear f_31_ws10
            have f_36_ws6 : ws6[36]? = some ((A36, Sum.inr (6, [Value.ref A37, Value.int 0, Value.int 0])) : Nat × va_E) := e_ws6.at (by first | decide | (simp; done) | (simp; omega)) f_36
            clear f_36
            have f_36_ws8 : ws8[36]? = some ((A36, Sum.inr (6, [Value.ref A37, Value.int 0, Value.int 0])) : Nat × va_E) := by rw [e_ws8]; exact gs_ne (by decide) f_36_ws6
            clear f_36_ws6
            have f_36_ws9 : ws9[36]? = some ((A36, Sum.inr (6, [Value.ref A37, Value.int 0, Value.int 0])) : Nat × va_E) := by rw [e_ws9]; exact gs_ne (by decide) f_36_ws8
            clear f_36_ws8
            have f_36_ws10 : ws10[36]? = some ((A36, Sum.inr (6, [Value.ref A37, Value.int 0, Value.int 0])) : Nat × va_E) := by rw [e_ws10]; exact gs_ne (by decide) f_36_ws9
            clear f_36_ws9
            have f_36_ws12 : ws12[36]? = some ((A36, Sum.inr (6, [Value.ref A37, Value.int 0, Value.int 0])) : Nat × va_E) := e_ws12.at (by first | decide | (simp; done) | (simp; omega)) f_36_ws10
            clear f_36_ws10
            have f_41_ws6 : ws6[41]? = some ((A41, Sum.inr (6, [Value.ref A42, Value.int 0, Value.int 0])) : Nat × va_E) := e_ws6.at (by first | decide | (simp; done) | (simp; omega)) f_41
            clear f_41
            have f_41_ws8 : ws8[41]? = some ((A41, Sum.inr (6, [Value.ref A42, Value.int 0, Value.int 0])) : Nat × va_E) := by rw [e_ws8]; exact gs_ne (by decide) f_41_ws6
            clear f_41_ws6
            have f_41_ws9 : ws9[41]? = some ((A41, Sum.inr (6, [Value.ref A42, Value.int 0, Value.int 0])) : Nat × va_E) := by rw [e_ws9]; exact gs_ne (by decide) f_41_ws8
            clear f_41_ws8
            have f_41_ws10 : ws10[41]? = some ((A41, Sum.inr (6, [Value.ref A42, Value.int 0, Value.int 0])) : Nat × va_E) := by rw [e_ws10]; exact gs_ne (by decide) f_41_ws9
            clear f_41_ws9
            have f_41_ws12 : ws12[41]? = some ((A41, Sum.inr (6, [Value.ref A42, Value.int 0, Value.int 0])) : Nat × va_E) := e_ws12.at (by first | decide | (simp; done) | (simp; omega)) f_41_ws10
            clear f_41_ws10
            refine gx_call (ig := .invokevirtual 106) (c_Le_dropUnneededFiles_v1 l htr D tys z _ ws12 cR A0 A1 A5 A8 A20 A25 A12 A16 A6 A7 (u0) A9 A10 A11 A26 A31 A36 A41 A27 A32 A37 A42 f_0_ws12 f_5_ws12 f_6_ws12 f_8_ws12 f_25_ws12 f_26_ws12 f_31_ws12 f_36_ws12 f_41_ws12 ht4) (gx_invV (As := []) (rest := []) hx hb hown hts km_Le_106 kI_Le_dropUnneededFiles kV_Le_dropUnneededFiles kc_Le_dropUnneededFiles (by decide) (show (parseMethodDescriptor y_Le_dropUnneededFiles.desc).map (fun d => d.parameters.length) = some 0 by decide +kernel) (gx_recv (ci := 0) hK hP rfl f_0_ws12) rfl rfl d_Le_open_105) (gx_cw (z := 0) hts kc_Le_dropUnneededFiles kN_Le rfl rfl ⟨Nat.le_of_ble_eq_true rfl, Nat.le_of_ble_eq_true rfl⟩) hb hml gx_blind (gx_pre hz hP hK hD hY hS hAz [Value.ref A0]) rfl hl.1 (lv_room (Nat.le_of_ble_eq_true rfl)) d_Le_open_105 ⟨Nat.le_of_ble_eq_true rfl, Nat.le_of_ble_eq_true rfl⟩ (fun v13 st13 t13 L13 h0_13 hW_13 hQ_13 hL_13 => ?_) (fun v13 st13 t13 L13 h0_13 hW_13 hQ_13 hL_13 => ?_)
            · obtain ⟨ws14, hp, hP9, -, hD9, hS9⟩ := gx_back h0_13 hW_13 hQ_13 hL_13 hD hS hA
              clear hQ_13 h0_13 hL_13 hW_13 hP hD hS
              have hP := hP9
              have hD := hD9
              have hS := hS9
              clear hP9 hD9 hS9
              rcases hp with ⟨hv9, e_ws14⟩
              cases hv9
              rw [e_ws14] at hP hD
              refine W.eq (g2 := F0 m 108 ls []) rfl ?_
              generalize t13.heap = H at hP hS ⊢
              generalize locs ++ L13 = locs at hS ⊢
              refine lv_aload_n hx hb d_Le_open_108 rfl (lv_at hl 0 rfl) ?_
              refine va_get (D := D) (ci := 0) (v := Value.ref A8) (C := "CommitLedger") (T := F_Le) (N := 18) hx hb hts i_Le hown hK hP 0 f_0_ws12 rfl 2 (by decide) (hts _ kf_Le_26) (fun _ h9 => h9) rfl d_Le_open_109 ?_
              refine va_get (D := D) (ci := 4) (v := Value.int 0) (C := "CommitLedger$View") (T := F_Vi) (N := 6) hx hb hts i_Vi hown hK hP 8 f_8_ws12 rfl 4 (by decide) (hts _ kf_Le_109) (fun _ h9 => h9) rfl d_Le_open_112 ?_
              have f_11_ws8 : ws8[11]? = some ((A11, Sum.inl (cZ, 4096, Sum.inl F7)) : Nat × va_E) := by rw [e_ws8]; exact gs_ne (by decide) f_11_ws6
              clear f_11_ws6
              have f_11_ws9 : ws9[11]? = some ((A11, Sum.inl (cZ, 4096, Sum.inl F7)) : Nat × va_E) := by rw [e_ws9]; exact gs_ne (by decide) f_11_ws8
              clear f_11_ws8
              have f_11_ws10 : ws10[11]? = some ((A11, Sum.inl (cZ, 4096, Sum.inl F7)) : Nat × va_E) := by rw [e_ws10]; exact gs_ne (by decide) f_11_ws9
              clear f_11_ws9
              have f_11_ws12 : ws12[11]? = some ((A11, Sum.inl (cZ, 4096, Sum.inl F7)) : Nat × va_E) := e_ws12.at (by first | decide | (simp; done) | (simp; omega)) f_11_ws10
              clear f_11_ws10
              exact gx_ret (W.iret (v := 0) hx hb hr (gx_post hP hK hD hS (by rw [← hPQ]; exact Or.inl ⟨F7, rfl, hU, f_0_ws12, f_5_ws12, f_8_ws12, f_11_ws12, g1_0, g1_1, c24_3, g5_0⟩)) hS.2.2 d_Le_open_115)
            · obtain ⟨E9, ws15, ce, hp, hce, hP9, -, hD9, hS9⟩ := gx_backT h0_13 hW_13 hQ_13 hL_13 hD hS hA
              clear hQ_13 h0_13 hL_13 hW_13 hP hD hS
              have hP := hP9
              have hD := hD9
              have hS := hS9
              clear hP9 hD9 hS9
              rcases hp with ⟨hv9, e_ws15⟩
              cases hv9
          · obtain ⟨E9, ws16, ce, hp, hce, hP9, -, hD9, hS9⟩ := gx_backT h0_11 hW_11 hQ_11 hL_11 hD hS hA
            clear hQ_11 h0_11 hL_11 hW_11 hP hD hS
            have hP := hP9
            have hD := hD9
            have hS := hS9
            clear hP9 hD9 hS9
            rcases hp with ⟨hv9, e_ws16, f_8_ws16⟩
            cases hv9
        · obtain ⟨E9, ws17, ce, hp, hce, hP9, -, hD9, hS9⟩ := gx_backT h0_5 hW_5 hQ_5 hL_5 hD hS hA
          clear hQ_5 h0_5 hL_5 hW_5 hP hD hS
          have hP := hP9
          have hD := hD9
          have hS := hS9
          clear hP9 hD9 hS9
          rcases hp with ⟨F18, hv9, e_ws17, f_8_ws17, f_11_ws17, g5_0⟩
          cases hv9
      · refine lv_aload_n hx hb d_Le_open_27 rfl (lv_at hl 0 rfl) ?_
        refine gx_call (ig := .invokevirtual 75) (c_Le_commitIsCorrupt_v1 l htr D tys z _ ws A0 A1 A5 A8 A20 A25 A12 A16 f_0) (gx_invV (As := []) (rest := []) hx hb hown hts km_Le_75 kI_Le_commitIsCorrupt kV_Le_commitIsCorrupt kc_Le_commitIsCorrupt (by decide) (show (parseMethodDescriptor y_Le_commitIsCorrupt.desc).map (fun d => d.parameters.length) = some 0 by decide +kernel) (gx_recv (ci := 0) hK hP rfl f_0) rfl rfl d_Le_open_28) (gx_cw (z := 0) hts kc_Le_commitIsCorrupt kN_Le rfl rfl ⟨Nat.le_of_ble_eq_true rfl, Nat.le_of_ble_eq_true rfl⟩) hb hml gx_blind (gx_pre hz hP hK hD hY hS hAz [Value.ref A0]) rfl hl.1 (lv_room (Nat.le_of_ble_eq_true rfl)) d_Le_open_28 ⟨Nat.le_of_ble_eq_true rfl, Nat.le_of_ble_eq_true rfl⟩ (fun v19 st19 t19 L19 h0_19 hW_19 hQ_19 hL_19 => ?_) (fun v19 st19 t19 L19 h0_19 hW_19 hQ_19 hL_19 => ?_)
        · obtain ⟨ws20, hp, hP9, -, hD9, hS9⟩ := gx_back h0_19 hW_19 hQ_19 hL_19 hD hS hA
          clear hQ_19 h0_19 hL_19 hW_19 hP hD hS
          have hP := hP9
          have hD := hD9
          have hS := hS9
          clear hP9 hD9 hS9
          rcases hp with ⟨hv9, e_ws20⟩
          cases hv9
          rw [e_ws20] at hP hD
          refine W.eq (g2 := F0 m 31 ls [Value.int 0]) rfl ?_
          generalize t19.heap = H at hP hS ⊢
          generalize locs ++ L19 = locs at hS ⊢
          refine lv_if_eq (tgt := 44) hx hb d_Le_open_31 (by decide) (fun _ => ?_) (fun c9 => absurd (by decide) c9)
          refine lv_iload_n hx hb d_Le_open_44 rfl (lv_at hl 1 rfl) ?_
          refine lv_if_ne (tgt := 69) hx hb d_Le_open_45 (by decide) (fun c9 => absurd c24_3 c9) (fun _ => ?_)
          refine lv_aload_n hx hb d_Le_open_48 rfl (lv_at hl 0 rfl) ?_
          refine va_get (D := D) (ci := 0) (v := Value.int 0) (C := "CommitLedger") (T := F_Le) (N := 18) hx hb hts i_Le hown hK hP 0 f_0 rfl 15 (by decide) (hts _ kf_Le_84) (fun _ h9 => h9) rfl d_Le_open_49 ?_
          refine lv_if_le (tgt := 69) hx hb d_Le_open_52 (by decide) (fun _ => ?_) (fun c9 => absurd (by decide) c9)
          refine lv_aload_n hx hb d_Le_open_69 rfl (lv_at hl 0 rfl) ?_
          refine va_get (D := D) (ci := 0) (v := Value.ref A8) (C := "CommitLedger") (T := F_Le) (N := 18) hx hb hts i_Le hown hK hP 0 f_0 rfl 2 (by decide) (hts _ kf_Le_26) (fun _ h9 => h9) rfl d_Le_open_70 ?_
          refine gx_call (ig := .invokevirtual 91) (c_Vi_becomeEmpty l htr D tys z _ ws cZ A8 A11 8 11 (Value.ref A9) (Value.ref A10) (Value.null) 0 0 (fun _ => 0) f_8 f_11 ht1 (by decide)) (gx_invV (As := []) (rest := []) hx hb hown hts km_Le_91 kI_Vi_becomeEmpty kV_Vi_becomeEmpty kc_Vi_becomeEmpty (by decide) (show (parseMethodDescriptor y_Vi_becomeEmpty.desc).map (fun d => d.parameters.length) = some 0 by decide +kernel) (gx_recv (ci := 4) hK hP rfl f_8) rfl rfl d_Le_open_73) (gx_cw (z := 0) hts kc_Vi_becomeEmpty kN_Vi rfl rfl ⟨Nat.le_of_ble_eq_true rfl, Nat.le_of_ble_eq_true rfl⟩) hb hml gx_blind (gx_pre hz hP hK hD hY hS hAz [Value.ref A8]) rfl hl.1 (lv_room (Nat.le_of_ble_eq_true rfl)) d_Le_open_73 ⟨Nat.le_of_ble_eq_true rfl, Nat.le_of_ble_eq_true rfl⟩ (fun v22 st22 t22 L22 h0_22 hW_22 hQ_22 hL_22 => ?_) (fun v22 st22 t22 L22 h0_22 hW_22 hQ_22 hL_22 => ?_)
          · obtain ⟨ws23, hp, hP9, -, hD9, hS9⟩ := gx_back h0_22 hW_22 hQ_22 hL_22 hD hS hA
            clear hQ_22 h0_22 hL_22 hW_22 hP hD hS
            have hP := hP9
            have hD := hD9
            have hS := hS9
            clear hP9 hD9 hS9
            rcases hp with ⟨F24, hv9, e_ws23, f_8_ws23, f_11_ws23, g22_0⟩
            cases hv9
            have f_8_ws23 : ws23[8]? = some ((A8, Sum.inr (4, [Value.ref A9, Value.ref A10, Value.ref A11, Value.null, Value.int 0, Value.int 0])) : Nat × va_E) := f_8_ws23
            have f_11_ws23 : ws23[11]? = some ((A11, Sum.inl (cZ, 4096, Sum.inl F24)) : Nat × va_E) := f_11_ws23
            replace hU : gx_g ws ws23 0 [0, 5, 8, 11] := hU.call e_ws23 (by simp; first | done | omega)
            refine W.eq (g2 := F0 m 76 ls []) rfl ?_
            generalize t22.heap = H at hP hS ⊢
            generalize locs ++ L22 = locs at hS ⊢
            refine lv_aload_n hx hb d_Le_open_76 rfl (lv_at hl 0 rfl) ?_
            refine lv_iconst (v := 1) hx hb d_Le_open_77 (by decide) ?_
            have f_0_ws23 : ws23[0]? = some ((A0, Sum.inr (0, [Value.ref A1, Value.ref A5, Value.ref A8, Value.ref A20, Value.ref A25, Value.ref A12, Value.ref A16, Value.int 0, Value.int 0, Value.int 0, Value.int 16, Value.int 4, Value.int 0, Value.int 0, Value.int 0, Value.int 0, Value.int 0, Value.int (-1)])) : Nat × va_E) := e_ws23.at (by first | decide | (simp; done) | (simp; omega)) f_0
            clear f_0
            refine va_put (D := D) (ci := 0) (v := Value.int 1) (ty := .boolean) (C := "CommitLedger") (T := F_Le) (N := 18) hx hb hts i_Le t_Le t_Le_ok n_Le hown hK hP hD hS 0 f_0_ws23 rfl 7 (by decide) (hts _ kf_Le_64) (fun _ h9 => h9) rfl (by decide +kernel) rfl rfl (Nat.le_of_ble_eq_true rfl) d_Le_open_78 (fun H locs hP9 hD9 hS9 => ?_)
            obtain ⟨ws25, e_ws25⟩ : ∃ x : va_W, x = ws23.set 0 ((A0, Sum.inr (0, [Value.ref A1, Value.ref A5, Value.ref A8, Value.ref A20, Value.ref A25, Value.ref A12, Value.ref A16, Value.int 1, Value.int 0, Value.int 0, Value.int 16, Value.int 4, Value.int 0, Value.int 0, Value.int 0, Value.int 0, Value.int 0, Value.int (-1)])) : Nat × va_E) := ⟨_, rfl⟩
            replace hP : va_P D classes ws25 H := by rw [e_ws25]; exact hP9
            replace hD : va_D A ws25 := by rw [e_ws25]; exact hD9
            replace hS := hS9
            clear hP9 hD9 hS9
            have f_0_ws25 : ws25[0]? = some ((A0, Sum.inr (0, [Value.ref A1, Value.ref A5, Value.ref A8, Value.ref A20, Value.ref A25, Value.ref A12, Value.ref A16, Value.int 1, Value.int 0, Value.int 0, Value.int 16, Value.int 4, Value.int 0, Value.int 0, Value.int 0, Value.int 0, Value.int 0, Value.int (-1)])) : Nat × va_E) := by rw [e_ws25]; exact gs_self f_0_ws23
            replace hU : gx_g ws ws25 0 [0, 5, 8, 11] := by rw [e_ws25]; exact hU.put (Or.inl (by simp))
            refine lv_aload_n hx hb d_Le_open_81 rfl (lv_at hl 0 rfl) ?_
            refine lv_aload_n hx hb d_Le_open_82 rfl (lv_at hl 0 rfl) ?_
            refine va_get (D := D) (ci := 0) (v := Value.ref A1) (C := "CommitLedger") (T := F_Le) (N := 18) hx hb hts i_Le hown hK hP 0 f_0_ws25 rfl 0 (by decide) (hts _ kf_Le_10) (fun _ h9 => h9) rfl d_Le_open_83 ?_
            have f_1_ws23 : ws23[1]? = some ((A1, Sum.inr (1, [Value.ref A2, Value.ref A3, Value.ref A4, Value.int 0])) : Nat × va_E) := e_ws23.at (by first | decide | (simp; done) | (simp; omega)) f_1
            clear f_1
            have f_1_ws25 : ws25[1]? = some ((A1, Sum.inr (1, [Value.ref A2, Value.ref A3, Value.ref A4, Value.int 0])) : Nat × va_E) := by rw [e_ws25]; exact gs_ne (by decide) f_1_ws23
            clear f_1_ws23
            refine va_get (D := D) (ci := 1) (v := Value.int 0) (C := "CommitLedger$Entries") (T := F_En) (N := 4) hx hb hts i_En hown hK hP 1 f_1_ws25 rfl 3 (by decide) (hts _ kf_Le_94) (fun _ h9 => h9) rfl d_Le_open_86 ?_
            refine va_put (D := D) (ci := 0) (v := Value.int 0) (ty := .int) (C := "CommitLedger") (T := F_Le) (N := 18) hx hb hts i_Le t_Le t_Le_ok n_Le hown hK hP hD hS 0 f_0_ws25 rfl 9 (by decide) (hts _ kf_Le_97) (fun _ h9 => h9) rfl (by decide +kernel) rfl rfl (Nat.le_of_ble_eq_true rfl) d_Le_open_89 (fun H locs hP9 hD9 hS9 => ?_)
            obtain ⟨ws26, e_ws26⟩ : ∃ x : va_W, x = ws25.set 0 ((A0, Sum.inr (0, [Value.ref A1, Value.ref A5, Value.ref A8, Value.ref A20, Value.ref A25, Value.ref A12, Value.ref A16, Value.int 1, Value.int 0, Value.int 0, Value.int 16, Value.int 4, Value.int 0, Value.int 0, Value.int 0, Value.int 0, Value.int 0, Value.int (-1)])) : Nat × va_E) := ⟨_, rfl⟩
            replace hP : va_P D classes ws26 H := by rw [e_ws26]; exact hP9
            replace hD : va_D A ws26 := by rw [e_ws26]; exact hD9
            replace hS := hS9
            clear hP9 hD9 hS9
            have f_0_ws26 : ws26[0]? = some ((A0, Sum.inr (0, [Value.ref A1, Value.ref A5, Value.ref A8, Value.ref A20, Value.ref A25, Value.ref A12, Value.ref A16, Value.int 1, Value.int 0, Value.int 0, Value.int 16, Value.int 4, Value.int 0, Value.int 0, Value.int 0, Value.int 0, Value.int 0, Value.int (-1)])) : Nat × va_E) := by rw [e_ws26]; exact gs_self f_0_ws25
            replace hU : gx_g ws ws26 0 [0, 5, 8, 11] := by rw [e_ws26]; exact hU.put (Or.inl (by simp))
            refine lv_aload_n hx hb d_Le_open_92 rfl (lv_at hl 0 rfl) ?_
            refine va_get (D := D) (ci := 0) (v := Value.ref A5) (C := "CommitLedger") (T := F_Le) (N := 18) hx hb hts i_Le hown hK hP 0 f_0_ws26 rfl 1 (by decide) (hts _ kf_Le_19) (fun _ h9 => h9) rfl d_Le_open_93 ?_
            refine lv_iconst (v := 0) hx hb d_Le_open_96 (by decide) ?_
            have f_5_ws23 : ws23[5]? = some ((A5, Sum.inr (2, [Value.ref A6, Value.ref A7, Value.int 0, Value.int 0])) : Nat × va_E) := e_ws23.at (by first | decide | (simp; done) | (simp; omega)) f_5
            clear f_5
            have f_5_ws25 : ws25[5]? = some ((A5, Sum.inr (2, [Value.ref A6, Value.ref A7, Value.int 0, Value.int 0])) : Nat × va_E) := by rw [e_ws25]; exact gs_ne (by decide) f_5_ws23
            clear f_5_ws23
            have f_5_ws26 : ws26[5]? = some ((A5, Sum.inr (2, [Value.ref A6, Value.ref A7, Value.int 0, Value.int 0])) : Nat × va_E) := by rw [e_ws26]; exact gs_ne (by decide) f_5_ws25
            clear f_5_ws25
            refine va_put (D := D) (ci := 2) (v := Value.int 0) (ty := .boolean) (C := "CommitLedger$Directory") (T := F_Di) (N := 4) hx hb hts i_Di t_Di t_Di_ok n_Di hown hK hP hD hS 5 f_5_ws26 rfl 3 (by decide) (hts _ kf_Le_100) (fun _ h9 => h9) rfl (by decide +kernel) rfl rfl (Nat.le_of_ble_eq_true rfl) d_Le_open_97 (fun H locs hP9 hD9 hS9 => ?_)
            obtain ⟨ws27, e_ws27⟩ : ∃ x : va_W, x = ws26.set 5 ((A5, Sum.inr (2, [Value.ref A6, Value.ref A7, Value.int 0, Value.int 0])) : Nat × va_E) := ⟨_, rfl⟩
            replace hP : va_P D classes ws27 H := by rw [e_ws27]; exact hP9
            replace hD : va_D A ws27 := by rw [e_ws27]; exact hD9
            replace hS := hS9
            clear hP9 hD9 hS9
            have f_5_ws27 : ws27[5]? = some ((A5, Sum.inr (2, [Value.ref A6, Value.ref A7, Value.int 0, Value.int 0])) : Nat × va_E) := by rw [e_ws27]; exact gs_self f_5_ws26
            replace hU : gx_g ws ws27 0 [0, 5, 8, 11] := by rw [e_ws27]; exact hU.put (Or.inl (by simp))
            refine lv_aload_n hx hb d_Le_open_100 rfl (lv_at hl 0 rfl) ?_
            have f_0_ws27 : ws27[0]? = some ((A0, Sum.inr (0, [Value.ref A1, Value.ref A5, Value.ref A8, Value.ref A20, Value.ref A25, Value.ref A12, Value.ref A16, Value.int 1, Value.int 0, Value.int 0, Value.int 16, Value.int 4, Value.int 0, Value.int 0, Value.int 0, Value.int 0, Value.int 0, Value.int (-1)])) : Nat × va_E) := by rw [e_ws27]; exact gs_ne (by decide) f_0_ws26
            clear f_0_ws26
            have f_8_ws25 : ws25[8]? = some ((A8, Sum.inr (4, [Value.ref A9, Value.ref A10, Value.ref A11, Value.null, Value.int 0, Value.int 0])) : Nat × va_E) := by rw [e_ws25]; exact gs_ne (by decide) f_8_ws23
            clear f_8_ws23
            have f_8_ws26 : ws26[8]? = some ((A8, Sum.inr (4, [Value.ref A9, Value.ref A10, Value.ref A11, Value.null, Value.int 0, Value.int 0])) : Nat × va_E) := by rw [e_ws26]; exact gs_ne (by decide) f_8_ws25
            clear f_8_ws25
            have f_8_ws27 : ws27[8]? = some ((A8, Sum.inr (4, [Value.ref A9, Value.ref A10, Value.ref A11, Value.null, Value.int 0, Value.int 0])) : Nat × va_E) := by rw [e_ws27]; exact gs_ne (by decide) f_8_ws26
            clear f_8_ws26
            refine gx_call (ig := .invokevirtual 103) (c_Le_dropDeadSegments_v1 l htr D tys z _ ws27 A0 A1 A5 A8 A20 A25 A12 A16 A9 A10 A11 f_0_ws27 f_8_ws27) (gx_invV (As := []) (rest := []) hx hb hown hts km_Le_103 kI_Le_dropDeadSegments kV_Le_dropDeadSegments kc_Le_dropDeadSegments (by decide) (show (parseMethodDescriptor y_Le_dropDeadSegments.desc).map (fun d => d.parameters.length) = some 0 by decide +kernel) (gx_recv (ci := 0) hK hP rfl f_0_ws27) rfl rfl d_Le_open_101) (gx_cw (z := 0) hts kc_Le_dropDeadSegments kN_Le rfl rfl ⟨Nat.le_of_ble_eq_true rfl, Nat.le_of_ble_eq_true rfl⟩) hb hml gx_blind (gx_pre hz hP hK hD hY hS hAz [Value.ref A0]) rfl hl.1 (lv_room (Nat.le_of_ble_eq_true rfl)) d_Le_open_101 ⟨Nat.le_of_ble_eq_true rfl, Nat.le_of_ble_eq_true rfl⟩ (fun v28 st28 t28 L28 h0_28 hW_28 hQ_28 hL_28 => ?_) (fun v28 st28 t28 L28 h0_28 hW_28 hQ_28 hL_28 => ?_)
            · obtain ⟨ws29, hp, hP9, -, hD9, hS9⟩ := gx_back h0_28 hW_28 hQ_28 hL_28 hD hS hA
              clear hQ_28 h0_28 hL_28 hW_28 hP hD hS
              have hP := hP9
              have hD := hD9
              have hS := hS9
              clear hP9 hD9 hS9
              rcases hp with ⟨hv9, e_ws29, f_8_ws29⟩
              cases hv9
              have f_8_ws29 : ws29[8]? = some ((A8, Sum.inr (4, [Value.ref A9, Value.ref A10, Value.ref A11, Value.null, Value.int 0, Value.int 0])) : Nat × va_E) := f_8_ws29
              replace hU : gx_g ws ws29 0 [0, 5, 8, 11] := hU.call e_ws29 (by simp; first | done | omega)
              refine W.eq (g2 := F0 m 104 ls []) rfl ?_
              generalize t28.heap = H at hP hS ⊢
              generalize locs ++ L28 = locs at hS ⊢
              refine lv_aload_n hx hb d_Le_open_104 rfl (lv_at hl 0 rfl) ?_
              have f_0_ws29 : ws29[0]? = some ((A0, Sum.inr (0, [Value.ref A1, Value.ref A5, Value.ref A8, Value.ref A20, Value.ref A25, Value.ref A12, Value.ref A16, Value.int 1, Value.int 0, Value.int 0, Value.int 16, Value.int 4, Value.int 0, Value.int 0, Value.int 0, Value.int 0, Value.int 0, Value.int (-1)])) : Nat × va_E) := e_ws29.at (by first | decide | (simp; done) | (simp; omega)) f_0_ws27
              clear f_0_ws27
              have f_5_ws29 : ws29[5]? = some ((A5, Sum.inr (2, [Value.ref A6, Value.ref A7, Value.int 0, Value.int 0])) : Nat × va_E) := e_ws29.at (by first | decide | (simp; done) | (simp; omega)) f_5_ws27
              clear f_5_ws27
              have f_6_ws23 : ws23[6]? = some ((A6, Sum.inr (3, [u0, Value.int 0, Value.int 0])) : Nat × va_E) := e_ws23.at (by first | decide | (simp; done) | (simp; omega)) f_6
              clear f_6
              have f_6_ws25 : ws25[6]? = some ((A6, Sum.inr (3, [u0, Value.int 0, Value.int 0])) : Nat × va_E) := by rw [e_ws25]; exact gs_ne (by decide) f_6_ws23
              clear f_6_ws23
              have f_6_ws26 : ws26[6]? = some ((A6, Sum.inr (3, [u0, Value.int 0, Value.int 0])) : Nat × va_E) := by rw [e_ws26]; exact gs_ne (by decide) f_6_ws25
              clear f_6_ws25
              have f_6_ws27 : ws27[6]? = some ((A6, Sum.inr (3, [u0, Value.int 0, Value.int 0])) : Nat × va_E) := by rw [e_ws27]; exact gs_ne (by decide) f_6_ws26
              clear f_6_ws26
              have f_6_ws29 : ws29[6]? = some ((A6, Sum.inr (3, [u0, Value.int 0, Value.int 0])) : Nat × va_E) := e_ws29.at (by first | decide | (simp; done) | (simp; omega)) f_6_ws27
              clear f_6_ws27
              have f_25_ws23 : ws23[25]? = some ((A25, Sum.inl (cR, 4, Sum.inr (Sum.inr (Sum.inr (Sum.inr (va_up (va_up (va_up (va_up (fun _ => none) 0 (some A26)) 1 (some A31)) 2 (some A36)) 3 (some A41))))))) : Nat × va_E) := e_ws23.at (by first | decide | (simp; done) | (simp; omega)) f_25
              clear f_25
              have f_25_ws25 : ws25[25]? = some ((A25, Sum.inl (cR, 4, Sum.inr (Sum.inr (Sum.inr (Sum.inr (va_up (va_up (va_up (va_up (fun _ => none) 0 (some A26)) 1 (some A31)) 2 (some A36)) 3 (some A41))))))) : Nat × va_E) := by rw [e_ws25]; exact gs_ne (by decide) f_25_ws23
              clear f_25_ws23
              have f_25_ws26 : ws26[25]? = some ((A25, Sum.inl (cR, 4, Sum.inr (Sum.inr (Sum.inr (Sum.inr (va_up (va_up (va_up (va_up (fun _ => none) 0 (some A26)) 1 (some A31)) 2 (some A36)) 3 (some A41))))))) : Nat × va_E) := by rw [e_ws26]; exact gs_ne (by decide) f_25_ws25
              clear f_25_ws25
              have f_25_ws27 : ws27[25]? = some ((A25, Sum.inl (cR, 4, Sum.inr (Sum.inr (Sum.inr (Sum.inr (va_up (va_up (va_up (va_up (fun _ => none) 0 (some A26)) 1 (some A31)) 2 (some A36)) 3 (some A41))))))) : Nat × va_E) := by rw [e_ws27]; exact gs_ne (by decide) f_25_ws26
              clear f_25_ws26
              have f_25_ws29 : ws29[25]? = some ((A25, Sum.inl (cR, 4, Sum.inr (Sum.inr (Sum.inr (Sum.inr (va_up (va_up (va_up (va_up (fun _ => none) 0 (some A26)) 1 (some A31)) 2 (some A36)) 3 (some A41))))))) : Nat × va_E) := e_ws29.at (by first | decide | (simp; done) | (simp; omega)) f_25_ws27
              clear f_25_ws27
              have f_26_ws23 : ws23[26]? = some ((A26, Sum.inr (6, [Value.ref A27, Value.int 0, Value.int 0])) : Nat × va_E) := e_ws23.at (by first | decide | (simp; done) | (simp; omega)) f_26
              clear f_26
              have f_26_ws25 : ws25[26]? = some ((A26, Sum.inr (6, [Value.ref A27, Value.int 0, Value.int 0])) : Nat × va_E) := by rw [e_ws25]; exact gs_ne (by decide) f_26_ws23
              clear f_26_ws23
              have f_26_ws26 : ws26[26]? = some ((A26, Sum.inr (6, [Value.ref A27, Value.int 0, Value.int 0])) : Nat × va_E) := by rw [e_ws26]; exact gs_ne (by decide) f_26_ws25
              clear f_26_ws25
              have f_26_ws27 : ws27[26]? = some ((A26, Sum.inr (6, [Value.ref A27, Value.int 0, Value.int 0])) : Nat × va_E) := by rw [e_ws27]; exact gs_ne (by decide) f_26_ws26
              clear f_26_ws26
              have f_26_ws29 : ws29[26]? = some ((A26, Sum.inr (6, [Value.ref A27, Value.int 0, Value.int 0])) : Nat × va_E) := e_ws29.at (by first | decide | (simp; done) | (simp; omega)) f_26_ws27
              clear f_26_ws27
              have f_31_ws23 : ws23[31]? = some ((A31, Sum.inr (6, [Value.ref A32, Value.int 0, Value.int 0])) : Nat × va_E) := e_ws23.at (by first | decide | (simp; done) | (simp; omega)) f_31
              clear f_31
              have f_31_ws25 : ws25[31]? = some ((A31, Sum.inr (6, [Value.ref A32, Value.int 0, Value.int 0])) : Nat × va_E) := by rw [e_ws25]; exact gs_ne (by decide) f_31_ws23
              clear f_31_ws23
              have f_31_ws26 : ws26[31]? = some ((A31, Sum.inr (6, [Value.ref A32, Value.int 0, Value.int 0])) : Nat × va_E) := by rw [e_ws26]; exact gs_ne (by decide) f_31_ws25
              clear f_31_ws25
              have f_31_ws27 : ws27[31]? = some ((A31, Sum.inr (6, [Value.ref A32, Value.int 0, Value.int 0])) : Nat × va_E) := by rw [e_ws27]; exact gs_ne (by decide) f_31_ws26
              clear f_31_ws26
              have f_31_ws29 : ws29[31]? = some ((A31, Sum.inr (6, [Value.ref A32, Value.int 0, Value.int 0])) : Nat × va_E) := e_ws29.at (by first | decide | (simp; done) | (simp; omega)) f_31_ws27
              clear f_31_ws27
              have f_36_ws23 : ws23[36]? = some ((A36, Sum.inr (6, [Value.ref A37, Value.int 0, Value.int 0])) : Nat × va_E) := e_ws23.at (by first | decide | (simp; done) | (simp; omega)) f_36
              clear f_36
              have f_36_ws25 : ws25[36]? = some ((A36, Sum.inr (6, [Value.ref A37, Value.int 0, Value.int 0])) : Nat × va_E) := by rw [e_ws25]; exact gs_ne (by decide) f_36_ws23
              clear f_36_ws23
              have f_36_ws26 : ws26[36]? = some ((A36, Sum.inr (6, [Value.ref A37, Value.int 0, Value.int 0])) : Nat × va_E) := by rw [e_ws26]; exact gs_ne (by decide) f_36_ws25
              clear f_36_ws25
              have f_36_ws27 : ws27[36]? = some ((A36, Sum.inr (6, [Value.ref A37, Value.int 0, Value.int 0])) : Nat × va_E) := by rw [e_ws27]; exact gs_ne (by decide) f_36_ws26
              clear f_36_ws26
              have f_36_ws29 : ws29[36]? = some ((A36, Sum.inr (6, [Value.ref A37, Value.int 0, Value.int 0])) : Nat × va_E) := e_ws29.at (by first | decide | (simp; done) | (simp; omega)) f_36_ws27
              clear f_36_ws27
              have f_41_ws23 : ws23[41]? = some ((A41, Sum.inr (6, [Value.ref A42, Value.int 0, Value.int 0])) : Nat × va_E) := e_ws23.at (by first | decide | (simp; done) | (simp; omega)) f_41
              clear f_41
              have f_41_ws25 : ws25[41]? = some ((A41, Sum.inr (6, [Value.ref A42, Value.int 0, Value.int 0])) : Nat × va_E) := by rw [e_ws25]; exact gs_ne (by decide) f_41_ws23
              clear f_41_ws23
              have f_41_ws26 : ws26[41]? = some ((A41, Sum.inr (6, [Value.ref A42, Value.int 0, Value.int 0])) : Nat × va_E) := by rw [e_ws26]; exact gs_ne (by decide) f_41_ws25
              clear f_41_ws25
              have f_41_ws27 : ws27[41]? = some ((A41, Sum.inr (6, [Value.ref A42, Value.int 0, Value.int 0])) : Nat × va_E) := by rw [e_ws27]; exact gs_ne (by decide) f_41_ws26
              clear f_41_ws26
              have f_41_ws29 : ws29[41]? = some ((A41, Sum.inr (6, [Value.ref A42, Value.int 0, Value.int 0])) : Nat × va_E) := e_ws29.at (by first | decide | (simp; done) | (simp; omega)) f_41_ws27
              clear f_41_ws27
              refine gx_call (ig := .invokevirtual 106) (c_Le_dropUnneededFiles_v1 l htr D tys z _ ws29 cR A0 A1 A5 A8 A20 A25 A12 A16 A6 A7 (u0) A9 A10 A11 A26 A31 A36 A41 A27 A32 A37 A42 f_0_ws29 f_5_ws29 f_6_ws29 f_8_ws29 f_25_ws29 f_26_ws29 f_31_ws29 f_36_ws29 f_41_ws29 ht4) (gx_invV (As := []) (rest := []) hx hb hown hts km_Le_106 kI_Le_dropUnneededFiles kV_Le_dropUnneededFiles kc_Le_dropUnneededFiles (by decide) (show (parseMethodDescriptor y_Le_dropUnneededFiles.desc).map (fun d => d.parameters.length) = some 0 by decide +kernel) (gx_recv (ci := 0) hK hP rfl f_0_ws29) rfl rfl d_Le_open_105) (gx_cw (z := 0) hts kc_Le_dropUnneededFiles kN_Le rfl rfl ⟨Nat.le_of_ble_eq_true rfl, Nat.le_of_ble_eq_true rfl⟩) hb hml gx_blind (gx_pre hz hP hK hD hY hS hAz [Value.ref A0]) rfl hl.1 (lv_room (Nat.le_of_ble_eq_true rfl)) d_Le_open_105 ⟨Nat.le_of_ble_eq_true rfl, Nat.le_of_ble_eq_true rfl⟩ (fun v30 st30 t30 L30 h0_30 hW_30 hQ_30 hL_30 => ?_) (fun v30 st30 t30 L30 h0_30 hW_30 hQ_30 hL_30 => ?_)
              · obtain ⟨ws31, hp, hP9, -, hD9, hS9⟩ := gx_back h0_30 hW_30 hQ_30 hL_30 hD hS hA
                clear hQ_30 h0_30 hL_30 hW_30 hP hD hS
                have hP := hP9
                have hD := hD9
                have hS := hS9
                clear hP9 hD9 hS9
                rcases hp with ⟨hv9, e_ws31⟩
                cases hv9
                rw [e_ws31] at hP hD
                refine W.eq (g2 := F0 m 108 ls []) rfl ?_
                generalize t30.heap = H at hP hS ⊢
                generalize locs ++ L30 = locs at hS ⊢
                refine lv_aload_n hx hb d_Le_open_108 rfl (lv_at hl 0 rfl) ?_
                refine va_get (D := D) (ci := 0) (v := Value.ref A8) (C := "CommitLedger") (T := F_Le) (N := 18) hx hb hts i_Le hown hK hP 0 f_0_ws29 rfl 2 (by decide) (hts _ kf_Le_26) (fun _ h9 => h9) rfl d_Le_open_109 ?_
                refine va_get (D := D) (ci := 4) (v := Value.int 0) (C := "CommitLedger$View") (T := F_Vi) (N := 6) hx hb hts i_Vi hown hK hP 8 f_8_ws29 rfl 4 (by decide) (hts _ kf_Le_109) (fun _ h9 => h9) rfl d_Le_open_112 ?_
                have f_11_ws25 : ws25[11]? = some ((A11, Sum.inl (cZ, 4096, Sum.inl F24)) : Nat × va_E) := by rw [e_ws25]; exact gs_ne (by decide) f_11_ws23
                clear f_11_ws23
                have f_11_ws26 : ws26[11]? = some ((A11, Sum.inl (cZ, 4096, Sum.inl F24)) : Nat × va_E) := by rw [e_ws26]; exact gs_ne (by decide) f_11_ws25
                clear f_11_ws25
                have f_11_ws27 : ws27[11]? = some ((A11, Sum.inl (cZ, 4096, Sum.inl F24)) : Nat × va_E) := by rw [e_ws27]; exact gs_ne (by decide) f_11_ws26
                clear f_11_ws26
                have f_11_ws29 : ws29[11]? = some ((A11, Sum.inl (cZ, 4096, Sum.inl F24)) : Nat × va_E) := e_ws29.at (by first | decide | (simp; done) | (simp; omega)) f_11_ws27
                clear f_11_ws27
                exact gx_ret (W.iret (v := 0) hx hb hr (gx_post hP hK hD hS (by rw [← hPQ]; exact Or.inr (Or.inl ⟨F24, rfl, hU, f_0_ws29, f_5_ws29, f_8_ws29, f_11_ws29, g1_0, g1_1, c24_3, g22_0⟩))) hS.2.2 d_Le_open_115)
              · obtain ⟨E9, ws32, ce, hp, hce, hP9, -, hD9, hS9⟩ := gx_backT h0_30 hW_30 hQ_30 hL_30 hD hS hA
                clear hQ_30 h0_30 hL_30 hW_30 hP hD hS
                have hP := hP9
                have hD := hD9
                have hS := hS9
                clear hP9 hD9 hS9
                rcases hp with ⟨hv9, e_ws32⟩
                cases hv9
            · obtain ⟨E9, ws33, ce, hp, hce, hP9, -, hD9, hS9⟩ := gx_backT h0_28 hW_28 hQ_28 hL_28 hD hS hA
              clear hQ_28 h0_28 hL_28 hW_28 hP hD hS
              have hP := hP9
              have hD := hD9
              have hS := hS9
              clear hP9 hD9 hS9
              rcases hp with ⟨hv9, e_ws33, f_8_ws33⟩
              cases hv9
          · obtain ⟨E9, ws34, ce, hp, hce, hP9, -, hD9, hS9⟩ := gx_backT h0_22 hW_22 hQ_22 hL_22 hD hS hA
            clear hQ_22 h0_22 hL_22 hW_22 hP hD hS
            have hP := hP9
            have hD := hD9
            have hS := hS9
            clear hP9 hD9 hS9
            rcases hp with ⟨F35, hv9, e_ws34, f_8_ws34, f_11_ws34, g22_0⟩
            cases hv9
        · obtain ⟨E9, ws36, ce, hp, hce, hP9, -, hD9, hS9⟩ := gx_backT h0_19 hW_19 hQ_19 hL_19 hD hS hA
          clear hQ_19 h0_19 hL_19 hW_19 hP hD hS
          have hP := hP9
          have hD := hD9
          have hS := hS9
          clear hP9 hD9 hS9
          rcases hp with ⟨hv9, e_ws36⟩
          cases hv9
    · cases hv9
    · cases hv9
  · obtain ⟨E9, ws37, ce, hp, hce, hP9, -, hD9, hS9⟩ := gx_backT h0_1 hW_1 hQ_1 hL_1 hD hS hA
    clear hQ_1 h0_1 hL_1 hW_1 hP hD hS
    have hP := hP9
    have hD := hD9
    have hS := hS9
    clear hP9 hD9 hS9
    rcases hp with ⟨hv9, e_ws37, g1_0, g1_1⟩ | ⟨hv9, e_ws37, g1_0⟩ | ⟨hv9, e_ws37, g1_0, g1_1⟩
    · cases hv9
    · cases hv9
      rw [e_ws37] at hP hD
      exact gx_pass hne hlocks hce hP hK hD hS (by decide) (by decide) (by rw [← hPQ]; exact Or.inr (Or.inr (Or.inl ⟨rfl, hU, f_0, f_5, f_8, f_11, g1_0⟩)))
    · cases hv9
      rw [e_ws37] at hP hD
      exact gx_pass hne hlocks hce hP hK hD hS (by decide) (by decide) (by rw [← hPQ]; exact Or.inr (Or.inr (Or.inr (⟨rfl, hU, f_0, f_5, f_8, f_11, g1_0, g1_1⟩))))

set_option maxHeartbeats 4000000 in
set_option maxRecDepth 100000 in
theorem c_Le_add_v1 (l : Launch) (htr : l.stackTraces = false) (D : va_G) (tys : List (ClassId × FieldType)) (z sz : Nat) (ws : va_W) (A0 : Nat) (p0 : Int32) (p1 : Int32) (p2 : Int32) (A1 : Nat) (A5 : Nat) (A8 : Nat) (A20 : Nat) (A25 : Nat) (A12 : Nat) (A16 : Nat) (f_0 : ws[0]? = some ((A0, Sum.inr (0, [Value.ref A1, Value.ref A5, Value.ref A8, Value.ref A20, Value.ref A25, Value.ref A12, Value.ref A16, Value.int 0, Value.int 0, Value.int 0, Value.int 16, Value.int 4, Value.int 0, Value.int 0, Value.int 0, Value.int 0, Value.int 0, Value.int (-1)])) : Nat × va_E)) : gx_Met l y_Le_add [Cond.code y_Le_add b_Le_add 5 (some .int)] { frames := 7, cells := 2, slots := 12, locals := 104 } (gx_P z sz D classes tys ws [Value.ref A0, Value.int p0, Value.int p1, Value.int p2]) (gx_Q D classes tys (va_A ws sz) (fun r ws' => (r = Sum.inr "java/lang/IllegalStateException" ∧ ws' = ws ∧ ¬ p2 < 1 ∧ p2 ≤ 100) ∨ (r = Sum.inr "java/lang/IllegalArgumentException" ∧ ws' = ws ∧ p2 < 1) ∨ (r = Sum.inr "java/lang/IllegalArgumentException" ∧ ws' = ws ∧ ¬ p2 < 1 ∧ ¬ p2 ≤ 100))) 2 12 (va_A ws sz) := by
  refine gx_ofW (cc := b_Le_add) (maxL := 5) (ret := (some .int)) (by decide) rfl ?_
  intro p e s m args below meth c s₁ B hml hv
  obtain ⟨rfl, hsz, hz, hP, hK, hD0, hY⟩ := hv
  have hx := B.exec
  have hb := B.bytes
  have hr := B.returns
  have hts := hY.hts (#[Value.ref A0, Value.int p0, Value.int p1, Value.int p2] : Array Value)
  have hown : s.vm.findClass "CommitLedger" = some m.cls := findClass_of_methodNamed B.named
  have hlocks := B.notSynchronized
  have hne : c.exceptionTable.isEmpty = true := B.noHandlers (atoms_spec (ws := [Cond.code y_Le_add b_Le_add 5 (some .int)]) B.pre _ List.mem_cons_self)
  subst hsz
  have hAz := gx_az hD0 hz
  have hD := hD0.self (sz := s.heap.size)
  have hN := gx_ns hP
  have hA : ∀ q : Nat, s.heap.size ≤ q → va_A ws s.heap.size q := fun q h => Or.inr h
  generalize va_A ws s.heap.size = A at hD hN hA hAz ⊢
  generalize hPQ : (fun (r : Option Value ⊕ String) (ws' : va_W) => (r = Sum.inr "java/lang/IllegalStateException" ∧ ws' = ws ∧ ¬ p2 < 1 ∧ p2 ≤ 100) ∨ (r = Sum.inr "java/lang/IllegalArgumentException" ∧ ws' = ws ∧ p2 < 1) ∨ (r = Sum.inr "java/lang/IllegalArgumentException" ∧ ws' = ws ∧ ¬ p2 < 1 ∧ ¬ p2 ≤ 100)) = PQ
  have hS : va_S A s.heap s.heap [] := va_S.rf
  have hU : gx_g ws ws 0 [] := gx_g.rf
  have hl := lv_entry ([Value.ref A0, Value.int p0, Value.int p1, Value.int p2]) (n := 5) (Nat.le_of_ble_eq_true rfl)
  rw [lg_entry_eq]
  generalize (lg_sl ([Value.ref A0, Value.int p0, Value.int p1, Value.int p2]) ++ List.replicate (5 - (lg_sl ([Value.ref A0, Value.int p0, Value.int p1, Value.int p2])).length) Slot.unset).toArray = ls at hl ⊢
  have hl : lv_has ls 5 [(0, Value.ref A0), (1, Value.int p0), (2, Value.int p1), (3, Value.int p2)] := hl
  refine lv_iload_n hx hb d_Le_add_0 rfl (lv_at hl 3 rfl) ?_
  refine lv_iconst (v := 1) hx hb d_Le_add_1 (by decide) ?_
  refine lv_bipush (v := 100) hx hb d_Le_add_2 (by decide) ?_
  refine gx_call (ig := .invokestatic 60) (c_Le_requireRange l htr D tys z _ ws p2 1 100) (gx_invS (As := [Value.int p2, Value.int 1, Value.int 100]) (rest := []) hx hb hown hts km_Le_60 kS_Le_requireRange kN_Le kc_Le_requireRange (by decide) (show (parseMethodDescriptor y_Le_requireRange.desc).map (fun d => d.parameters.length) = some 3 by decide +kernel) rfl rfl d_Le_add_4) (gx_cw (z := 0) hts kc_Le_requireRange kN_Le rfl rfl ⟨Nat.le_of_ble_eq_true rfl, Nat.le_of_ble_eq_true rfl⟩) hb hml gx_blind (gx_pre hz hP hK hD hY hS hAz [Value.int p2, Value.int 1, Value.int 100]) rfl hl.1 (lv_room (Nat.le_of_ble_eq_true rfl)) d_Le_add_4 ⟨Nat.le_of_ble_eq_true rfl, Nat.le_of_ble_eq_true rfl⟩ (fun v1 st1 t1 L1 h0_1 hW_1 hQ_1 hL_1 => ?_) (fun v1 st1 t1 L1 h0_1 hW_1 hQ_1 hL_1 => ?_)
  · obtain ⟨ws2, hp, hP9, -, hD9, hS9⟩ := gx_back h0_1 hW_1 hQ_1 hL_1 hD hS hA
    clear hQ_1 h0_1 hL_1 hW_1 hP hD hS
    have hP := hP9
    have hD := hD9
    have hS := hS9
    clear hP9 hD9 hS9
    rcases hp with ⟨hv9, e_ws2, g1_0, g1_1⟩ | ⟨hv9, e_ws2, g1_0⟩ | ⟨hv9, e_ws2, g1_0, g1_1⟩
    · cases hv9
      rw [e_ws2] at hP hD
      refine W.eq (g2 := F0 m 7 ls []) rfl ?_
      refine W.widen (k := 1) (n := 6) (by decide) (by decide) ?_
      generalize t1.heap = H at hP hS ⊢
      generalize [] ++ L1 = locs at hS ⊢
      refine lv_aload_n hx hb d_Le_add_7 rfl (lv_at hl 0 rfl) ?_
      refine gx_call (ig := .invokevirtual 112) (c_Le_requireWriter l htr D tys z _ ws A0 (Value.ref A1) (Value.ref A5) (Value.ref A8) (Value.ref A20) (Value.ref A25) (Value.ref A12) (Value.ref A16) 0 (Value.int 0) (Value.int 0) (Value.int 16) (Value.int 4) (Value.int 0) (Value.int 0) (Value.int 0) (Value.int 0) (Value.int 0) (Value.int (-1)) f_0) (gx_invV (As := []) (rest := []) hx hb hown hts km_Le_112 kI_Le_requireWriter kV_Le_requireWriter kc_Le_requireWriter (by decide) (show (parseMethodDescriptor y_Le_requireWriter.desc).map (fun d => d.parameters.length) = some 0 by decide +kernel) (gx_recv (ci := 0) hK hP rfl f_0) rfl rfl d_Le_add_8) (gx_cw (z := 0) hts kc_Le_requireWriter kN_Le rfl rfl ⟨Nat.le_of_ble_eq_true rfl, Nat.le_of_ble_eq_true rfl⟩) hb hml gx_blind (gx_pre hz hP hK hD hY hS hAz [Value.ref A0]) rfl hl.1 (lv_room (Nat.le_of_ble_eq_true rfl)) d_Le_add_8 ⟨Nat.le_of_ble_eq_true rfl, Nat.le_of_ble_eq_true rfl⟩ (fun v3 st3 t3 L3 h0_3 hW_3 hQ_3 hL_3 => ?_) (fun v3 st3 t3 L3 h0_3 hW_3 hQ_3 hL_3 => ?_)
      · obtain ⟨ws4, hp, hP9, -, hD9, hS9⟩ := gx_back h0_3 hW_3 hQ_3 hL_3 hD hS hA
        clear hQ_3 h0_3 hL_3 hW_3 hP hD hS
        have hP := hP9
        have hD := hD9
        have hS := hS9
        clear hP9 hD9 hS9
        rcases hp with ⟨hv9, e_ws4, g3_0⟩ | ⟨hv9, e_ws4, g3_0⟩
        · cases hv9
          rw [e_ws4] at hP hD
          exact absurd g3_0 (by decide)
        · cases hv9
      · obtain ⟨E9, ws5, ce, hp, hce, hP9, -, hD9, hS9⟩ := gx_backT h0_3 hW_3 hQ_3 hL_3 hD hS hA
        clear hQ_3 h0_3 hL_3 hW_3 hP hD hS
        have hP := hP9
        have hD := hD9
        have hS := hS9
        clear hP9 hD9 hS9
        rcases hp with ⟨hv9, e_ws5, g3_0⟩ | ⟨hv9, e_ws5, g3_0⟩
        · cases hv9
        · cases hv9
          rw [e_ws5] at hP hD
          exact gx_pass hne hlocks hce hP hK hD hS (by decide) (by decide) (by rw [← hPQ]; exact Or.inl ⟨rfl, rfl, g1_0, g1_1⟩)
    · cases hv9
    · cases hv9
  · obtain ⟨E9, ws6, ce, hp, hce, hP9, -, hD9, hS9⟩ := gx_backT h0_1 hW_1 hQ_1 hL_1 hD hS hA
    clear hQ_1 h0_1 hL_1 hW_1 hP hD hS
    have hP := hP9
    have hD := hD9
    have hS := hS9
    clear hP9 hD9 hS9
    rcases hp with ⟨hv9, e_ws6, g1_0, g1_1⟩ | ⟨hv9, e_ws6, g1_0⟩ | ⟨hv9, e_ws6, g1_0, g1_1⟩
    · cases hv9
    · cases hv9
      rw [e_ws6] at hP hD
      exact gx_pass hne hlocks hce hP hK hD hS (by decide) (by decide) (by rw [← hPQ]; exact Or.inr (Or.inl ⟨rfl, rfl, g1_0⟩))
    · cases hv9
      rw [e_ws6] at hP hD
      exact gx_pass hne hlocks hce hP hK hD hS (by decide) (by decide) (by rw [← hPQ]; exact Or.inr (Or.inr (⟨rfl, rfl, g1_0, g1_1⟩)))

set_option maxHeartbeats 4000000 in
set_option maxRecDepth 100000 in
theorem c_Le_erase_v1 (l : Launch) (htr : l.stackTraces = false) (D : va_G) (tys : List (ClassId × FieldType)) (z sz : Nat) (ws : va_W) (A0 : Nat) (p0 : Int32) (A1 : Nat) (A5 : Nat) (A8 : Nat) (A20 : Nat) (A25 : Nat) (A12 : Nat) (A16 : Nat) (f_0 : ws[0]? = some ((A0, Sum.inr (0, [Value.ref A1, Value.ref A5, Value.ref A8, Value.ref A20, Value.ref A25, Value.ref A12, Value.ref A16, Value.int 0, Value.int 0, Value.int 0, Value.int 16, Value.int 4, Value.int 0, Value.int 0, Value.int 0, Value.int 0, Value.int 0, Value.int (-1)])) : Nat × va_E)) : gx_Met l y_Le_erase [Cond.code y_Le_erase b_Le_erase 4 (some .int)] { frames := 7, cells := 1, slots := 6, locals := 102 } (gx_P z sz D classes tys ws [Value.ref A0, Value.int p0]) (gx_Q D classes tys (va_A ws sz) (fun r ws' => (r = Sum.inr "java/lang/IllegalStateException" ∧ ws' = ws))) 1 6 (va_A ws sz) := by
  refine gx_ofW (cc := b_Le_erase) (maxL := 4) (ret := (some .int)) (by decide) rfl ?_
  intro p e s m args below meth c s₁ B hml hv
  obtain ⟨rfl, hsz, hz, hP, hK, hD0, hY⟩ := hv
  have hx := B.exec
  have hb := B.bytes
  have hr := B.returns
  have hts := hY.hts (#[Value.ref A0, Value.int p0] : Array Value)
  have hown : s.vm.findClass "CommitLedger" = some m.cls := findClass_of_methodNamed B.named
  have hlocks := B.notSynchronized
  have hne : c.exceptionTable.isEmpty = true := B.noHandlers (atoms_spec (ws := [Cond.code y_Le_erase b_Le_erase 4 (some .int)]) B.pre _ List.mem_cons_self)
  subst hsz
  have hAz := gx_az hD0 hz
  have hD := hD0.self (sz := s.heap.size)
  have hN := gx_ns hP
  have hA : ∀ q : Nat, s.heap.size ≤ q → va_A ws s.heap.size q := fun q h => Or.inr h
  generalize va_A ws s.heap.size = A at hD hN hA hAz ⊢
  generalize hPQ : (fun (r : Option Value ⊕ String) (ws' : va_W) => (r = Sum.inr "java/lang/IllegalStateException" ∧ ws' = ws)) = PQ
  have hS : va_S A s.heap s.heap [] := va_S.rf
  have hU : gx_g ws ws 0 [] := gx_g.rf
  have hl := lv_entry ([Value.ref A0, Value.int p0]) (n := 4) (Nat.le_of_ble_eq_true rfl)
  rw [lg_entry_eq]
  generalize (lg_sl ([Value.ref A0, Value.int p0]) ++ List.replicate (4 - (lg_sl ([Value.ref A0, Value.int p0])).length) Slot.unset).toArray = ls at hl ⊢
  have hl : lv_has ls 4 [(0, Value.ref A0), (1, Value.int p0)] := hl
  refine lv_aload_n hx hb d_Le_erase_0 rfl (lv_at hl 0 rfl) ?_
  refine gx_call (ig := .invokevirtual 112) (c_Le_requireWriter l htr D tys z _ ws A0 (Value.ref A1) (Value.ref A5) (Value.ref A8) (Value.ref A20) (Value.ref A25) (Value.ref A12) (Value.ref A16) 0 (Value.int 0) (Value.int 0) (Value.int 16) (Value.int 4) (Value.int 0) (Value.int 0) (Value.int 0) (Value.int 0) (Value.int 0) (Value.int (-1)) f_0) (gx_invV (As := []) (rest := []) hx hb hown hts km_Le_112 kI_Le_requireWriter kV_Le_requireWriter kc_Le_requireWriter (by decide) (show (parseMethodDescriptor y_Le_requireWriter.desc).map (fun d => d.parameters.length) = some 0 by decide +kernel) (gx_recv (ci := 0) hK hP rfl f_0) rfl rfl d_Le_erase_1) (gx_cw (z := 0) hts kc_Le_requireWriter kN_Le rfl rfl ⟨Nat.le_of_ble_eq_true rfl, Nat.le_of_ble_eq_true rfl⟩) hb hml gx_blind (gx_pre hz hP hK hD hY hS hAz [Value.ref A0]) rfl hl.1 (lv_room (Nat.le_of_ble_eq_true rfl)) d_Le_erase_1 ⟨Nat.le_of_ble_eq_true rfl, Nat.le_of_ble_eq_true rfl⟩ (fun v1 st1 t1 L1 h0_1 hW_1 hQ_1 hL_1 => ?_) (fun v1 st1 t1 L1 h0_1 hW_1 hQ_1 hL_1 => ?_)
  · obtain ⟨ws2, hp, hP9, -, hD9, hS9⟩ := gx_back h0_1 hW_1 hQ_1 hL_1 hD hS hA
    clear hQ_1 h0_1 hL_1 hW_1 hP hD hS
    have hP := hP9
    have hD := hD9
    have hS := hS9
    clear hP9 hD9 hS9
    rcases hp with ⟨hv9, e_ws2, g1_0⟩ | ⟨hv9, e_ws2, g1_0⟩
    · cases hv9
      rw [e_ws2] at hP hD
      exact absurd g1_0 (by decide)
    · cases hv9
  · obtain ⟨E9, ws3, ce, hp, hce, hP9, -, hD9, hS9⟩ := gx_backT h0_1 hW_1 hQ_1 hL_1 hD hS hA
    clear hQ_1 h0_1 hL_1 hW_1 hP hD hS
    have hP := hP9
    have hD := hD9
    have hS := hS9
    clear hP9 hD9 hS9
    rcases hp with ⟨hv9, e_ws3, g1_0⟩ | ⟨hv9, e_ws3, g1_0⟩
    · cases hv9
    · cases hv9
      rw [e_ws3] at hP hD
      exact gx_pass hne hlocks hce hP hK hD hS (by decide) (by decide) (by rw [← hPQ]; exact ⟨rfl, rfl⟩)

set_option maxHeartbeats 4000000 in
set_option maxRecDepth 100000 in
theorem c_Le_flush_v1 (l : Launch) (htr : l.stackTraces = false) (D : va_G) (tys : List (ClassId × FieldType)) (z sz : Nat) (ws : va_W) (A0 : Nat) (A1 : Nat) (A5 : Nat) (A8 : Nat) (A20 : Nat) (A25 : Nat) (A12 : Nat) (A16 : Nat) (f_0 : ws[0]? = some ((A0, Sum.inr (0, [Value.ref A1, Value.ref A5, Value.ref A8, Value.ref A20, Value.ref A25, Value.ref A12, Value.ref A16, Value.int 0, Value.int 0, Value.int 0, Value.int 16, Value.int 4, Value.int 0, Value.int 0, Value.int 0, Value.int 0, Value.int 0, Value.int (-1)])) : Nat × va_E)) : gx_Met l y_Le_flush [Cond.code y_Le_flush b_Le_flush 1 (some .int)] { frames := 7, cells := 1, slots := 6, locals := 102 } (gx_P z sz D classes tys ws [Value.ref A0]) (gx_Q D classes tys (va_A ws sz) (fun r ws' => (r = Sum.inr "java/lang/IllegalStateException" ∧ ws' = ws))) 1 6 (va_A ws sz) := by
  refine gx_ofW (cc := b_Le_flush) (maxL := 1) (ret := (some .int)) (by decide) rfl ?_
  intro p e s m args below meth c s₁ B hml hv
  obtain ⟨rfl, hsz, hz, hP, hK, hD0, hY⟩ := hv
  have hx := B.exec
  have hb := B.bytes
  have hr := B.returns
  have hts := hY.hts (#[Value.ref A0] : Array Value)
  have hown : s.vm.findClass "CommitLedger" = some m.cls := findClass_of_methodNamed B.named
  have hlocks := B.notSynchronized
  have hne : c.exceptionTable.isEmpty = true := B.noHandlers (atoms_spec (ws := [Cond.code y_Le_flush b_Le_flush 1 (some .int)]) B.pre _ List.mem_cons_self)
  subst hsz
  have hAz := gx_az hD0 hz
  have hD := hD0.self (sz := s.heap.size)
  have hN := gx_ns hP
  have hA : ∀ q : Nat, s.heap.size ≤ q → va_A ws s.heap.size q := fun q h => Or.inr h
  generalize va_A ws s.heap.size = A at hD hN hA hAz ⊢
  generalize hPQ : (fun (r : Option Value ⊕ String) (ws' : va_W) => (r = Sum.inr "java/lang/IllegalStateException" ∧ ws' = ws)) = PQ
  have hS : va_S A s.heap s.heap [] := va_S.rf
  have hU : gx_g ws ws 0 [] := gx_g.rf
  have hl := lv_entry ([Value.ref A0]) (n := 1) (Nat.le_of_ble_eq_true rfl)
  rw [lg_entry_eq]
  generalize (lg_sl ([Value.ref A0]) ++ List.replicate (1 - (lg_sl ([Value.ref A0])).length) Slot.unset).toArray = ls at hl ⊢
  have hl : lv_has ls 1 [(0, Value.ref A0)] := hl
  refine lv_aload_n hx hb d_Le_flush_0 rfl (lv_at hl 0 rfl) ?_
  refine gx_call (ig := .invokevirtual 112) (c_Le_requireWriter l htr D tys z _ ws A0 (Value.ref A1) (Value.ref A5) (Value.ref A8) (Value.ref A20) (Value.ref A25) (Value.ref A12) (Value.ref A16) 0 (Value.int 0) (Value.int 0) (Value.int 16) (Value.int 4) (Value.int 0) (Value.int 0) (Value.int 0) (Value.int 0) (Value.int 0) (Value.int (-1)) f_0) (gx_invV (As := []) (rest := []) hx hb hown hts km_Le_112 kI_Le_requireWriter kV_Le_requireWriter kc_Le_requireWriter (by decide) (show (parseMethodDescriptor y_Le_requireWriter.desc).map (fun d => d.parameters.length) = some 0 by decide +kernel) (gx_recv (ci := 0) hK hP rfl f_0) rfl rfl d_Le_flush_1) (gx_cw (z := 0) hts kc_Le_requireWriter kN_Le rfl rfl ⟨Nat.le_of_ble_eq_true rfl, Nat.le_of_ble_eq_true rfl⟩) hb hml gx_blind (gx_pre hz hP hK hD hY hS hAz [Value.ref A0]) rfl hl.1 (lv_room (Nat.le_of_ble_eq_true rfl)) d_Le_flush_1 ⟨Nat.le_of_ble_eq_true rfl, Nat.le_of_ble_eq_true rfl⟩ (fun v1 st1 t1 L1 h0_1 hW_1 hQ_1 hL_1 => ?_) (fun v1 st1 t1 L1 h0_1 hW_1 hQ_1 hL_1 => ?_)
  · obtain ⟨ws2, hp, hP9, -, hD9, hS9⟩ := gx_back h0_1 hW_1 hQ_1 hL_1 hD hS hA
    clear hQ_1 h0_1 hL_1 hW_1 hP hD hS
    have hP := hP9
    have hD := hD9
    have hS := hS9
    clear hP9 hD9 hS9
    rcases hp with ⟨hv9, e_ws2, g1_0⟩ | ⟨hv9, e_ws2, g1_0⟩
    · cases hv9
      rw [e_ws2] at hP hD
      exact absurd g1_0 (by decide)
    · cases hv9
  · obtain ⟨E9, ws3, ce, hp, hce, hP9, -, hD9, hS9⟩ := gx_backT h0_1 hW_1 hQ_1 hL_1 hD hS hA
    clear hQ_1 h0_1 hL_1 hW_1 hP hD hS
    have hP := hP9
    have hD := hD9
    have hS := hS9
    clear hP9 hD9 hS9
    rcases hp with ⟨hv9, e_ws3, g1_0⟩ | ⟨hv9, e_ws3, g1_0⟩
    · cases hv9
    · cases hv9
      rw [e_ws3] at hP hD
      exact gx_pass hne hlocks hce hP hK hD hS (by decide) (by decide) (by rw [← hPQ]; exact ⟨rfl, rfl⟩)

set_option maxHeartbeats 4000000 in
set_option maxRecDepth 100000 in
theorem c_Le_merge_v1 (l : Launch) (htr : l.stackTraces = false) (D : va_G) (tys : List (ClassId × FieldType)) (z sz : Nat) (ws : va_W) (A0 : Nat) (p0 : Int32) (A1 : Nat) (A5 : Nat) (A8 : Nat) (A20 : Nat) (A25 : Nat) (A12 : Nat) (A16 : Nat) (f_0 : ws[0]? = some ((A0, Sum.inr (0, [Value.ref A1, Value.ref A5, Value.ref A8, Value.ref A20, Value.ref A25, Value.ref A12, Value.ref A16, Value.int 0, Value.int 0, Value.int 0, Value.int 16, Value.int 4, Value.int 0, Value.int 0, Value.int 0, Value.int 0, Value.int 0, Value.int (-1)])) : Nat × va_E)) : gx_Met l y_Le_merge [Cond.code y_Le_merge b_Le_merge 3 (some .int)] { frames := 7, cells := 2, slots := 12, locals := 104 } (gx_P z sz D classes tys ws [Value.ref A0, Value.int p0]) (gx_Q D classes tys (va_A ws sz) (fun r ws' => (r = Sum.inr "java/lang/IllegalStateException" ∧ ws' = ws ∧ ¬ p0 < 0 ∧ p0 ≤ 1) ∨ (r = Sum.inr "java/lang/IllegalArgumentException" ∧ ws' = ws ∧ p0 < 0) ∨ (r = Sum.inr "java/lang/IllegalArgumentException" ∧ ws' = ws ∧ ¬ p0 < 0 ∧ ¬ p0 ≤ 1))) 2 12 (va_A ws sz) := by
  refine gx_ofW (cc := b_Le_merge) (maxL := 3) (ret := (some .int)) (by decide) rfl ?_
  intro p e s m args below meth c s₁ B hml hv
  obtain ⟨rfl, hsz, hz, hP, hK, hD0, hY⟩ := hv
  have hx := B.exec
  have hb := B.bytes
  have hr := B.returns
  have hts := hY.hts (#[Value.ref A0, Value.int p0] : Array Value)
  have hown : s.vm.findClass "CommitLedger" = some m.cls := findClass_of_methodNamed B.named
  have hlocks := B.notSynchronized
  have hne : c.exceptionTable.isEmpty = true := B.noHandlers (atoms_spec (ws := [Cond.code y_Le_merge b_Le_merge 3 (some .int)]) B.pre _ List.mem_cons_self)
  subst hsz
  have hAz := gx_az hD0 hz
  have hD := hD0.self (sz := s.heap.size)
  have hN := gx_ns hP
  have hA : ∀ q : Nat, s.heap.size ≤ q → va_A ws s.heap.size q := fun q h => Or.inr h
  generalize va_A ws s.heap.size = A at hD hN hA hAz ⊢
  generalize hPQ : (fun (r : Option Value ⊕ String) (ws' : va_W) => (r = Sum.inr "java/lang/IllegalStateException" ∧ ws' = ws ∧ ¬ p0 < 0 ∧ p0 ≤ 1) ∨ (r = Sum.inr "java/lang/IllegalArgumentException" ∧ ws' = ws ∧ p0 < 0) ∨ (r = Sum.inr "java/lang/IllegalArgumentException" ∧ ws' = ws ∧ ¬ p0 < 0 ∧ ¬ p0 ≤ 1)) = PQ
  have hS : va_S A s.heap s.heap [] := va_S.rf
  have hU : gx_g ws ws 0 [] := gx_g.rf
  have hl := lv_entry ([Value.ref A0, Value.int p0]) (n := 3) (Nat.le_of_ble_eq_true rfl)
  rw [lg_entry_eq]
  generalize (lg_sl ([Value.ref A0, Value.int p0]) ++ List.replicate (3 - (lg_sl ([Value.ref A0, Value.int p0])).length) Slot.unset).toArray = ls at hl ⊢
  have hl : lv_has ls 3 [(0, Value.ref A0), (1, Value.int p0)] := hl
  refine lv_iload_n hx hb d_Le_merge_0 rfl (lv_at hl 1 rfl) ?_
  refine lv_iconst (v := 0) hx hb d_Le_merge_1 (by decide) ?_
  refine lv_iconst (v := 1) hx hb d_Le_merge_2 (by decide) ?_
  refine gx_call (ig := .invokestatic 60) (c_Le_requireRange l htr D tys z _ ws p0 0 1) (gx_invS (As := [Value.int p0, Value.int 0, Value.int 1]) (rest := []) hx hb hown hts km_Le_60 kS_Le_requireRange kN_Le kc_Le_requireRange (by decide) (show (parseMethodDescriptor y_Le_requireRange.desc).map (fun d => d.parameters.length) = some 3 by decide +kernel) rfl rfl d_Le_merge_3) (gx_cw (z := 0) hts kc_Le_requireRange kN_Le rfl rfl ⟨Nat.le_of_ble_eq_true rfl, Nat.le_of_ble_eq_true rfl⟩) hb hml gx_blind (gx_pre hz hP hK hD hY hS hAz [Value.int p0, Value.int 0, Value.int 1]) rfl hl.1 (lv_room (Nat.le_of_ble_eq_true rfl)) d_Le_merge_3 ⟨Nat.le_of_ble_eq_true rfl, Nat.le_of_ble_eq_true rfl⟩ (fun v1 st1 t1 L1 h0_1 hW_1 hQ_1 hL_1 => ?_) (fun v1 st1 t1 L1 h0_1 hW_1 hQ_1 hL_1 => ?_)
  · obtain ⟨ws2, hp, hP9, -, hD9, hS9⟩ := gx_back h0_1 hW_1 hQ_1 hL_1 hD hS hA
    clear hQ_1 h0_1 hL_1 hW_1 hP hD hS
    have hP := hP9
    have hD := hD9
    have hS := hS9
    clear hP9 hD9 hS9
    rcases hp with ⟨hv9, e_ws2, g1_0, g1_1⟩ | ⟨hv9, e_ws2, g1_0⟩ | ⟨hv9, e_ws2, g1_0, g1_1⟩
    · cases hv9
      rw [e_ws2] at hP hD
      refine W.eq (g2 := F0 m 6 ls []) rfl ?_
      refine W.widen (k := 1) (n := 6) (by decide) (by decide) ?_
      generalize t1.heap = H at hP hS ⊢
      generalize [] ++ L1 = locs at hS ⊢
      refine lv_aload_n hx hb d_Le_merge_6 rfl (lv_at hl 0 rfl) ?_
      refine gx_call (ig := .invokevirtual 112) (c_Le_requireWriter l htr D tys z _ ws A0 (Value.ref A1) (Value.ref A5) (Value.ref A8) (Value.ref A20) (Value.ref A25) (Value.ref A12) (Value.ref A16) 0 (Value.int 0) (Value.int 0) (Value.int 16) (Value.int 4) (Value.int 0) (Value.int 0) (Value.int 0) (Value.int 0) (Value.int 0) (Value.int (-1)) f_0) (gx_invV (As := []) (rest := []) hx hb hown hts km_Le_112 kI_Le_requireWriter kV_Le_requireWriter kc_Le_requireWriter (by decide) (show (parseMethodDescriptor y_Le_requireWriter.desc).map (fun d => d.parameters.length) = some 0 by decide +kernel) (gx_recv (ci := 0) hK hP rfl f_0) rfl rfl d_Le_merge_7) (gx_cw (z := 0) hts kc_Le_requireWriter kN_Le rfl rfl ⟨Nat.le_of_ble_eq_true rfl, Nat.le_of_ble_eq_true rfl⟩) hb hml gx_blind (gx_pre hz hP hK hD hY hS hAz [Value.ref A0]) rfl hl.1 (lv_room (Nat.le_of_ble_eq_true rfl)) d_Le_merge_7 ⟨Nat.le_of_ble_eq_true rfl, Nat.le_of_ble_eq_true rfl⟩ (fun v3 st3 t3 L3 h0_3 hW_3 hQ_3 hL_3 => ?_) (fun v3 st3 t3 L3 h0_3 hW_3 hQ_3 hL_3 => ?_)
      · obtain ⟨ws4, hp, hP9, -, hD9, hS9⟩ := gx_back h0_3 hW_3 hQ_3 hL_3 hD hS hA
        clear hQ_3 h0_3 hL_3 hW_3 hP hD hS
        have hP := hP9
        have hD := hD9
        have hS := hS9
        clear hP9 hD9 hS9
        rcases hp with ⟨hv9, e_ws4, g3_0⟩ | ⟨hv9, e_ws4, g3_0⟩
        · cases hv9
          rw [e_ws4] at hP hD
          exact absurd g3_0 (by decide)
        · cases hv9
      · obtain ⟨E9, ws5, ce, hp, hce, hP9, -, hD9, hS9⟩ := gx_backT h0_3 hW_3 hQ_3 hL_3 hD hS hA
        clear hQ_3 h0_3 hL_3 hW_3 hP hD hS
        have hP := hP9
        have hD := hD9
        have hS := hS9
        clear hP9 hD9 hS9
        rcases hp with ⟨hv9, e_ws5, g3_0⟩ | ⟨hv9, e_ws5, g3_0⟩
        · cases hv9
        · cases hv9
          rw [e_ws5] at hP hD
          exact gx_pass hne hlocks hce hP hK hD hS (by decide) (by decide) (by rw [← hPQ]; exact Or.inl ⟨rfl, rfl, g1_0, g1_1⟩)
    · cases hv9
    · cases hv9
  · obtain ⟨E9, ws6, ce, hp, hce, hP9, -, hD9, hS9⟩ := gx_backT h0_1 hW_1 hQ_1 hL_1 hD hS hA
    clear hQ_1 h0_1 hL_1 hW_1 hP hD hS
    have hP := hP9
    have hD := hD9
    have hS := hS9
    clear hP9 hD9 hS9
    rcases hp with ⟨hv9, e_ws6, g1_0, g1_1⟩ | ⟨hv9, e_ws6, g1_0⟩ | ⟨hv9, e_ws6, g1_0, g1_1⟩
    · cases hv9
    · cases hv9
      rw [e_ws6] at hP hD
      exact gx_pass hne hlocks hce hP hK hD hS (by decide) (by decide) (by rw [← hPQ]; exact Or.inr (Or.inl ⟨rfl, rfl, g1_0⟩))
    · cases hv9
      rw [e_ws6] at hP hD
      exact gx_pass hne hlocks hce hP hK hD hS (by decide) (by decide) (by rw [← hPQ]; exact Or.inr (Or.inr (⟨rfl, rfl, g1_0, g1_1⟩)))

set_option maxHeartbeats 4000000 in
set_option maxRecDepth 100000 in
theorem c_Le_finish_v1 (l : Launch) (htr : l.stackTraces = false) (D : va_G) (tys : List (ClassId × FieldType)) (z sz : Nat) (ws : va_W) (A0 : Nat) (p0 : Int32) (p1 : Int32) (A1 : Nat) (A5 : Nat) (A8 : Nat) (A20 : Nat) (A25 : Nat) (A12 : Nat) (A16 : Nat) (f_0 : ws[0]? = some ((A0, Sum.inr (0, [Value.ref A1, Value.ref A5, Value.ref A8, Value.ref A20, Value.ref A25, Value.ref A12, Value.ref A16, Value.int 0, Value.int 0, Value.int 0, Value.int 16, Value.int 4, Value.int 0, Value.int 0, Value.int 0, Value.int 0, Value.int 0, Value.int (-1)])) : Nat × va_E)) : gx_Met l y_Le_finish [Cond.code y_Le_finish b_Le_finish 4 (some .int)] { frames := 7, cells := 1, slots := 6, locals := 102 } (gx_P z sz D classes tys ws [Value.ref A0, Value.int p0, Value.int p1]) (gx_Q D classes tys (va_A ws sz) (fun r ws' => (r = Sum.inr "java/lang/IllegalStateException" ∧ ws' = ws))) 1 6 (va_A ws sz) := by
  refine gx_ofW (cc := b_Le_finish) (maxL := 4) (ret := (some .int)) (by decide) rfl ?_
  intro p e s m args below meth c s₁ B hml hv
  obtain ⟨rfl, hsz, hz, hP, hK, hD0, hY⟩ := hv
  have hx := B.exec
  have hb := B.bytes
  have hr := B.returns
  have hts := hY.hts (#[Value.ref A0, Value.int p0, Value.int p1] : Array Value)
  have hown : s.vm.findClass "CommitLedger" = some m.cls := findClass_of_methodNamed B.named
  have hlocks := B.notSynchronized
  have hne : c.exceptionTable.isEmpty = true := B.noHandlers (atoms_spec (ws := [Cond.code y_Le_finish b_Le_finish 4 (some .int)]) B.pre _ List.mem_cons_self)
  subst hsz
  have hAz := gx_az hD0 hz
  have hD := hD0.self (sz := s.heap.size)
  have hN := gx_ns hP
  have hA : ∀ q : Nat, s.heap.size ≤ q → va_A ws s.heap.size q := fun q h => Or.inr h
  generalize va_A ws s.heap.size = A at hD hN hA hAz ⊢
  generalize hPQ : (fun (r : Option Value ⊕ String) (ws' : va_W) => (r = Sum.inr "java/lang/IllegalStateException" ∧ ws' = ws)) = PQ
  have hS : va_S A s.heap s.heap [] := va_S.rf
  have hU : gx_g ws ws 0 [] := gx_g.rf
  have hl := lv_entry ([Value.ref A0, Value.int p0, Value.int p1]) (n := 4) (Nat.le_of_ble_eq_true rfl)
  rw [lg_entry_eq]
  generalize (lg_sl ([Value.ref A0, Value.int p0, Value.int p1]) ++ List.replicate (4 - (lg_sl ([Value.ref A0, Value.int p0, Value.int p1])).length) Slot.unset).toArray = ls at hl ⊢
  have hl : lv_has ls 4 [(0, Value.ref A0), (1, Value.int p0), (2, Value.int p1)] := hl
  refine lv_aload_n hx hb d_Le_finish_0 rfl (lv_at hl 0 rfl) ?_
  refine gx_call (ig := .invokevirtual 112) (c_Le_requireWriter l htr D tys z _ ws A0 (Value.ref A1) (Value.ref A5) (Value.ref A8) (Value.ref A20) (Value.ref A25) (Value.ref A12) (Value.ref A16) 0 (Value.int 0) (Value.int 0) (Value.int 16) (Value.int 4) (Value.int 0) (Value.int 0) (Value.int 0) (Value.int 0) (Value.int 0) (Value.int (-1)) f_0) (gx_invV (As := []) (rest := []) hx hb hown hts km_Le_112 kI_Le_requireWriter kV_Le_requireWriter kc_Le_requireWriter (by decide) (show (parseMethodDescriptor y_Le_requireWriter.desc).map (fun d => d.parameters.length) = some 0 by decide +kernel) (gx_recv (ci := 0) hK hP rfl f_0) rfl rfl d_Le_finish_1) (gx_cw (z := 0) hts kc_Le_requireWriter kN_Le rfl rfl ⟨Nat.le_of_ble_eq_true rfl, Nat.le_of_ble_eq_true rfl⟩) hb hml gx_blind (gx_pre hz hP hK hD hY hS hAz [Value.ref A0]) rfl hl.1 (lv_room (Nat.le_of_ble_eq_true rfl)) d_Le_finish_1 ⟨Nat.le_of_ble_eq_true rfl, Nat.le_of_ble_eq_true rfl⟩ (fun v1 st1 t1 L1 h0_1 hW_1 hQ_1 hL_1 => ?_) (fun v1 st1 t1 L1 h0_1 hW_1 hQ_1 hL_1 => ?_)
  · obtain ⟨ws2, hp, hP9, -, hD9, hS9⟩ := gx_back h0_1 hW_1 hQ_1 hL_1 hD hS hA
    clear hQ_1 h0_1 hL_1 hW_1 hP hD hS
    have hP := hP9
    have hD := hD9
    have hS := hS9
    clear hP9 hD9 hS9
    rcases hp with ⟨hv9, e_ws2, g1_0⟩ | ⟨hv9, e_ws2, g1_0⟩
    · cases hv9
      rw [e_ws2] at hP hD
      exact absurd g1_0 (by decide)
    · cases hv9
  · obtain ⟨E9, ws3, ce, hp, hce, hP9, -, hD9, hS9⟩ := gx_backT h0_1 hW_1 hQ_1 hL_1 hD hS hA
    clear hQ_1 h0_1 hL_1 hW_1 hP hD hS
    have hP := hP9
    have hD := hD9
    have hS := hS9
    clear hP9 hD9 hS9
    rcases hp with ⟨hv9, e_ws3, g1_0⟩ | ⟨hv9, e_ws3, g1_0⟩
    · cases hv9
    · cases hv9
      rw [e_ws3] at hP hD
      exact gx_pass hne hlocks hce hP hK hD hS (by decide) (by decide) (by rw [← hPQ]; exact ⟨rfl, rfl⟩)

set_option maxHeartbeats 4000000 in
set_option maxRecDepth 100000 in
theorem c_Le_prepare_v1 (l : Launch) (htr : l.stackTraces = false) (D : va_G) (tys : List (ClassId × FieldType)) (z sz : Nat) (ws : va_W) (A0 : Nat) (A1 : Nat) (A5 : Nat) (A8 : Nat) (A20 : Nat) (A25 : Nat) (A12 : Nat) (A16 : Nat) (f_0 : ws[0]? = some ((A0, Sum.inr (0, [Value.ref A1, Value.ref A5, Value.ref A8, Value.ref A20, Value.ref A25, Value.ref A12, Value.ref A16, Value.int 0, Value.int 0, Value.int 0, Value.int 16, Value.int 4, Value.int 0, Value.int 0, Value.int 0, Value.int 0, Value.int 0, Value.int (-1)])) : Nat × va_E)) : gx_Met l y_Le_prepare [Cond.code y_Le_prepare b_Le_prepare 1 (some .int)] { frames := 7, cells := 1, slots := 6, locals := 102 } (gx_P z sz D classes tys ws [Value.ref A0]) (gx_Q D classes tys (va_A ws sz) (fun r ws' => (r = Sum.inr "java/lang/IllegalStateException" ∧ ws' = ws))) 1 6 (va_A ws sz) := by
  refine gx_ofW (cc := b_Le_prepare) (maxL := 1) (ret := (some .int)) (by decide) rfl ?_
  intro p e s m args below meth c s₁ B hml hv
  obtain ⟨rfl, hsz, hz, hP, hK, hD0, hY⟩ := hv
  have hx := B.exec
  have hb := B.bytes
  have hr := B.returns
  have hts := hY.hts (#[Value.ref A0] : Array Value)
  have hown : s.vm.findClass "CommitLedger" = some m.cls := findClass_of_methodNamed B.named
  have hlocks := B.notSynchronized
  have hne : c.exceptionTable.isEmpty = true := B.noHandlers (atoms_spec (ws := [Cond.code y_Le_prepare b_Le_prepare 1 (some .int)]) B.pre _ List.mem_cons_self)
  subst hsz
  have hAz := gx_az hD0 hz
  have hD := hD0.self (sz := s.heap.size)
  have hN := gx_ns hP
  have hA : ∀ q : Nat, s.heap.size ≤ q → va_A ws s.heap.size q := fun q h => Or.inr h
  generalize va_A ws s.heap.size = A at hD hN hA hAz ⊢
  generalize hPQ : (fun (r : Option Value ⊕ String) (ws' : va_W) => (r = Sum.inr "java/lang/IllegalStateException" ∧ ws' = ws)) = PQ
  have hS : va_S A s.heap s.heap [] := va_S.rf
  have hU : gx_g ws ws 0 [] := gx_g.rf
  have hl := lv_entry ([Value.ref A0]) (n := 1) (Nat.le_of_ble_eq_true rfl)
  rw [lg_entry_eq]
  generalize (lg_sl ([Value.ref A0]) ++ List.replicate (1 - (lg_sl ([Value.ref A0])).length) Slot.unset).toArray = ls at hl ⊢
  have hl : lv_has ls 1 [(0, Value.ref A0)] := hl
  refine lv_aload_n hx hb d_Le_prepare_0 rfl (lv_at hl 0 rfl) ?_
  refine gx_call (ig := .invokevirtual 112) (c_Le_requireWriter l htr D tys z _ ws A0 (Value.ref A1) (Value.ref A5) (Value.ref A8) (Value.ref A20) (Value.ref A25) (Value.ref A12) (Value.ref A16) 0 (Value.int 0) (Value.int 0) (Value.int 16) (Value.int 4) (Value.int 0) (Value.int 0) (Value.int 0) (Value.int 0) (Value.int 0) (Value.int (-1)) f_0) (gx_invV (As := []) (rest := []) hx hb hown hts km_Le_112 kI_Le_requireWriter kV_Le_requireWriter kc_Le_requireWriter (by decide) (show (parseMethodDescriptor y_Le_requireWriter.desc).map (fun d => d.parameters.length) = some 0 by decide +kernel) (gx_recv (ci := 0) hK hP rfl f_0) rfl rfl d_Le_prepare_1) (gx_cw (z := 0) hts kc_Le_requireWriter kN_Le rfl rfl ⟨Nat.le_of_ble_eq_true rfl, Nat.le_of_ble_eq_true rfl⟩) hb hml gx_blind (gx_pre hz hP hK hD hY hS hAz [Value.ref A0]) rfl hl.1 (lv_room (Nat.le_of_ble_eq_true rfl)) d_Le_prepare_1 ⟨Nat.le_of_ble_eq_true rfl, Nat.le_of_ble_eq_true rfl⟩ (fun v1 st1 t1 L1 h0_1 hW_1 hQ_1 hL_1 => ?_) (fun v1 st1 t1 L1 h0_1 hW_1 hQ_1 hL_1 => ?_)
  · obtain ⟨ws2, hp, hP9, -, hD9, hS9⟩ := gx_back h0_1 hW_1 hQ_1 hL_1 hD hS hA
    clear hQ_1 h0_1 hL_1 hW_1 hP hD hS
    have hP := hP9
    have hD := hD9
    have hS := hS9
    clear hP9 hD9 hS9
    rcases hp with ⟨hv9, e_ws2, g1_0⟩ | ⟨hv9, e_ws2, g1_0⟩
    · cases hv9
      rw [e_ws2] at hP hD
      exact absurd g1_0 (by decide)
    · cases hv9
  · obtain ⟨E9, ws3, ce, hp, hce, hP9, -, hD9, hS9⟩ := gx_backT h0_1 hW_1 hQ_1 hL_1 hD hS hA
    clear hQ_1 h0_1 hL_1 hW_1 hP hD hS
    have hP := hP9
    have hD := hD9
    have hS := hS9
    clear hP9 hD9 hS9
    rcases hp with ⟨hv9, e_ws3, g1_0⟩ | ⟨hv9, e_ws3, g1_0⟩
    · cases hv9
    · cases hv9
      rw [e_ws3] at hP hD
      exact gx_pass hne hlocks hce hP hK hD hS (by decide) (by decide) (by rw [← hPQ]; exact ⟨rfl, rfl⟩)

set_option maxHeartbeats 4000000 in
set_option maxRecDepth 100000 in
theorem c_Le_commit_v1 (l : Launch) (htr : l.stackTraces = false) (D : va_G) (tys : List (ClassId × FieldType)) (z sz : Nat) (ws : va_W) (A0 : Nat) (A1 : Nat) (A5 : Nat) (A8 : Nat) (A20 : Nat) (A25 : Nat) (A12 : Nat) (A16 : Nat) (f_0 : ws[0]? = some ((A0, Sum.inr (0, [Value.ref A1, Value.ref A5, Value.ref A8, Value.ref A20, Value.ref A25, Value.ref A12, Value.ref A16, Value.int 0, Value.int 0, Value.int 0, Value.int 16, Value.int 4, Value.int 0, Value.int 0, Value.int 0, Value.int 0, Value.int 0, Value.int (-1)])) : Nat × va_E)) : gx_Met l y_Le_commit [Cond.code y_Le_commit b_Le_commit 1 (some .int)] { frames := 7, cells := 1, slots := 6, locals := 102 } (gx_P z sz D classes tys ws [Value.ref A0]) (gx_Q D classes tys (va_A ws sz) (fun r ws' => (r = Sum.inr "java/lang/IllegalStateException" ∧ ws' = ws))) 1 6 (va_A ws sz) := by
  refine gx_ofW (cc := b_Le_commit) (maxL := 1) (ret := (some .int)) (by decide) rfl ?_
  intro p e s m args below meth c s₁ B hml hv
  obtain ⟨rfl, hsz, hz, hP, hK, hD0, hY⟩ := hv
  have hx := B.exec
  have hb := B.bytes
  have hr := B.returns
  have hts := hY.hts (#[Value.ref A0] : Array Value)
  have hown : s.vm.findClass "CommitLedger" = some m.cls := findClass_of_methodNamed B.named
  have hlocks := B.notSynchronized
  have hne : c.exceptionTable.isEmpty = true := B.noHandlers (atoms_spec (ws := [Cond.code y_Le_commit b_Le_commit 1 (some .int)]) B.pre _ List.mem_cons_self)
  subst hsz
  have hAz := gx_az hD0 hz
  have hD := hD0.self (sz := s.heap.size)
  have hN := gx_ns hP
  have hA : ∀ q : Nat, s.heap.size ≤ q → va_A ws s.heap.size q := fun q h => Or.inr h
  generalize va_A ws s.heap.size = A at hD hN hA hAz ⊢
  generalize hPQ : (fun (r : Option Value ⊕ String) (ws' : va_W) => (r = Sum.inr "java/lang/IllegalStateException" ∧ ws' = ws)) = PQ
  have hS : va_S A s.heap s.heap [] := va_S.rf
  have hU : gx_g ws ws 0 [] := gx_g.rf
  have hl := lv_entry ([Value.ref A0]) (n := 1) (Nat.le_of_ble_eq_true rfl)
  rw [lg_entry_eq]
  generalize (lg_sl ([Value.ref A0]) ++ List.replicate (1 - (lg_sl ([Value.ref A0])).length) Slot.unset).toArray = ls at hl ⊢
  have hl : lv_has ls 1 [(0, Value.ref A0)] := hl
  refine lv_aload_n hx hb d_Le_commit_0 rfl (lv_at hl 0 rfl) ?_
  refine gx_call (ig := .invokevirtual 112) (c_Le_requireWriter l htr D tys z _ ws A0 (Value.ref A1) (Value.ref A5) (Value.ref A8) (Value.ref A20) (Value.ref A25) (Value.ref A12) (Value.ref A16) 0 (Value.int 0) (Value.int 0) (Value.int 16) (Value.int 4) (Value.int 0) (Value.int 0) (Value.int 0) (Value.int 0) (Value.int 0) (Value.int (-1)) f_0) (gx_invV (As := []) (rest := []) hx hb hown hts km_Le_112 kI_Le_requireWriter kV_Le_requireWriter kc_Le_requireWriter (by decide) (show (parseMethodDescriptor y_Le_requireWriter.desc).map (fun d => d.parameters.length) = some 0 by decide +kernel) (gx_recv (ci := 0) hK hP rfl f_0) rfl rfl d_Le_commit_1) (gx_cw (z := 0) hts kc_Le_requireWriter kN_Le rfl rfl ⟨Nat.le_of_ble_eq_true rfl, Nat.le_of_ble_eq_true rfl⟩) hb hml gx_blind (gx_pre hz hP hK hD hY hS hAz [Value.ref A0]) rfl hl.1 (lv_room (Nat.le_of_ble_eq_true rfl)) d_Le_commit_1 ⟨Nat.le_of_ble_eq_true rfl, Nat.le_of_ble_eq_true rfl⟩ (fun v1 st1 t1 L1 h0_1 hW_1 hQ_1 hL_1 => ?_) (fun v1 st1 t1 L1 h0_1 hW_1 hQ_1 hL_1 => ?_)
  · obtain ⟨ws2, hp, hP9, -, hD9, hS9⟩ := gx_back h0_1 hW_1 hQ_1 hL_1 hD hS hA
    clear hQ_1 h0_1 hL_1 hW_1 hP hD hS
    have hP := hP9
    have hD := hD9
    have hS := hS9
    clear hP9 hD9 hS9
    rcases hp with ⟨hv9, e_ws2, g1_0⟩ | ⟨hv9, e_ws2, g1_0⟩
    · cases hv9
      rw [e_ws2] at hP hD
      exact absurd g1_0 (by decide)
    · cases hv9
  · obtain ⟨E9, ws3, ce, hp, hce, hP9, -, hD9, hS9⟩ := gx_backT h0_1 hW_1 hQ_1 hL_1 hD hS hA
    clear hQ_1 h0_1 hL_1 hW_1 hP hD hS
    have hP := hP9
    have hD := hD9
    have hS := hS9
    clear hP9 hD9 hS9
    rcases hp with ⟨hv9, e_ws3, g1_0⟩ | ⟨hv9, e_ws3, g1_0⟩
    · cases hv9
    · cases hv9
      rw [e_ws3] at hP hD
      exact gx_pass hne hlocks hce hP hK hD hS (by decide) (by decide) (by rw [← hPQ]; exact ⟨rfl, rfl⟩)

set_option maxHeartbeats 4000000 in
set_option maxRecDepth 100000 in
theorem c_Le_rollback_v1 (l : Launch) (htr : l.stackTraces = false) (D : va_G) (tys : List (ClassId × FieldType)) (z sz : Nat) (ws : va_W) (A0 : Nat) (A1 : Nat) (A5 : Nat) (A8 : Nat) (A20 : Nat) (A25 : Nat) (A12 : Nat) (A16 : Nat) (f_0 : ws[0]? = some ((A0, Sum.inr (0, [Value.ref A1, Value.ref A5, Value.ref A8, Value.ref A20, Value.ref A25, Value.ref A12, Value.ref A16, Value.int 0, Value.int 0, Value.int 0, Value.int 16, Value.int 4, Value.int 0, Value.int 0, Value.int 0, Value.int 0, Value.int 0, Value.int (-1)])) : Nat × va_E)) : gx_Met l y_Le_rollback [Cond.code y_Le_rollback b_Le_rollback 1 none] { frames := 7, cells := 1, slots := 6, locals := 102 } (gx_P z sz D classes tys ws [Value.ref A0]) (gx_Q D classes tys (va_A ws sz) (fun r ws' => (r = Sum.inr "java/lang/IllegalStateException" ∧ ws' = ws))) 1 6 (va_A ws sz) := by
  refine gx_ofW (cc := b_Le_rollback) (maxL := 1) (ret := none) (by decide) rfl ?_
  intro p e s m args below meth c s₁ B hml hv
  obtain ⟨rfl, hsz, hz, hP, hK, hD0, hY⟩ := hv
  have hx := B.exec
  have hb := B.bytes
  have hr := B.returns
  have hts := hY.hts (#[Value.ref A0] : Array Value)
  have hown : s.vm.findClass "CommitLedger" = some m.cls := findClass_of_methodNamed B.named
  have hlocks := B.notSynchronized
  have hne : c.exceptionTable.isEmpty = true := B.noHandlers (atoms_spec (ws := [Cond.code y_Le_rollback b_Le_rollback 1 none]) B.pre _ List.mem_cons_self)
  subst hsz
  have hAz := gx_az hD0 hz
  have hD := hD0.self (sz := s.heap.size)
  have hN := gx_ns hP
  have hA : ∀ q : Nat, s.heap.size ≤ q → va_A ws s.heap.size q := fun q h => Or.inr h
  generalize va_A ws s.heap.size = A at hD hN hA hAz ⊢
  generalize hPQ : (fun (r : Option Value ⊕ String) (ws' : va_W) => (r = Sum.inr "java/lang/IllegalStateException" ∧ ws' = ws)) = PQ
  have hS : va_S A s.heap s.heap [] := va_S.rf
  have hU : gx_g ws ws 0 [] := gx_g.rf
  have hl := lv_entry ([Value.ref A0]) (n := 1) (Nat.le_of_ble_eq_true rfl)
  rw [lg_entry_eq]
  generalize (lg_sl ([Value.ref A0]) ++ List.replicate (1 - (lg_sl ([Value.ref A0])).length) Slot.unset).toArray = ls at hl ⊢
  have hl : lv_has ls 1 [(0, Value.ref A0)] := hl
  refine lv_aload_n hx hb d_Le_rollback_0 rfl (lv_at hl 0 rfl) ?_
  refine gx_call (ig := .invokevirtual 112) (c_Le_requireWriter l htr D tys z _ ws A0 (Value.ref A1) (Value.ref A5) (Value.ref A8) (Value.ref A20) (Value.ref A25) (Value.ref A12) (Value.ref A16) 0 (Value.int 0) (Value.int 0) (Value.int 16) (Value.int 4) (Value.int 0) (Value.int 0) (Value.int 0) (Value.int 0) (Value.int 0) (Value.int (-1)) f_0) (gx_invV (As := []) (rest := []) hx hb hown hts km_Le_112 kI_Le_requireWriter kV_Le_requireWriter kc_Le_requireWriter (by decide) (show (parseMethodDescriptor y_Le_requireWriter.desc).map (fun d => d.parameters.length) = some 0 by decide +kernel) (gx_recv (ci := 0) hK hP rfl f_0) rfl rfl d_Le_rollback_1) (gx_cw (z := 0) hts kc_Le_requireWriter kN_Le rfl rfl ⟨Nat.le_of_ble_eq_true rfl, Nat.le_of_ble_eq_true rfl⟩) hb hml gx_blind (gx_pre hz hP hK hD hY hS hAz [Value.ref A0]) rfl hl.1 (lv_room (Nat.le_of_ble_eq_true rfl)) d_Le_rollback_1 ⟨Nat.le_of_ble_eq_true rfl, Nat.le_of_ble_eq_true rfl⟩ (fun v1 st1 t1 L1 h0_1 hW_1 hQ_1 hL_1 => ?_) (fun v1 st1 t1 L1 h0_1 hW_1 hQ_1 hL_1 => ?_)
  · obtain ⟨ws2, hp, hP9, -, hD9, hS9⟩ := gx_back h0_1 hW_1 hQ_1 hL_1 hD hS hA
    clear hQ_1 h0_1 hL_1 hW_1 hP hD hS
    have hP := hP9
    have hD := hD9
    have hS := hS9
    clear hP9 hD9 hS9
    rcases hp with ⟨hv9, e_ws2, g1_0⟩ | ⟨hv9, e_ws2, g1_0⟩
    · cases hv9
      rw [e_ws2] at hP hD
      exact absurd g1_0 (by decide)
    · cases hv9
  · obtain ⟨E9, ws3, ce, hp, hce, hP9, -, hD9, hS9⟩ := gx_backT h0_1 hW_1 hQ_1 hL_1 hD hS hA
    clear hQ_1 h0_1 hL_1 hW_1 hP hD hS
    have hP := hP9
    have hD := hD9
    have hS := hS9
    clear hP9 hD9 hS9
    rcases hp with ⟨hv9, e_ws3, g1_0⟩ | ⟨hv9, e_ws3, g1_0⟩
    · cases hv9
    · cases hv9
      rw [e_ws3] at hP hD
      exact gx_pass hne hlocks hce hP hK hD hS (by decide) (by decide) (by rw [← hPQ]; exact ⟨rfl, rfl⟩)

set_option maxHeartbeats 4000000 in
set_option maxRecDepth 100000 in
theorem c_Le_close_v1 (l : Launch) (htr : l.stackTraces = false) (D : va_G) (tys : List (ClassId × FieldType)) (z sz : Nat) (ws : va_W) (A0 : Nat) (A1 : Nat) (A5 : Nat) (A8 : Nat) (A20 : Nat) (A25 : Nat) (A12 : Nat) (A16 : Nat) (f_0 : ws[0]? = some ((A0, Sum.inr (0, [Value.ref A1, Value.ref A5, Value.ref A8, Value.ref A20, Value.ref A25, Value.ref A12, Value.ref A16, Value.int 0, Value.int 0, Value.int 0, Value.int 16, Value.int 4, Value.int 0, Value.int 0, Value.int 0, Value.int 0, Value.int 0, Value.int (-1)])) : Nat × va_E)) : gx_Met l y_Le_close [Cond.code y_Le_close b_Le_close 2 (some .int)] { frames := 7, cells := 1, slots := 6, locals := 102 } (gx_P z sz D classes tys ws [Value.ref A0]) (gx_Q D classes tys (va_A ws sz) (fun r ws' => (r = Sum.inr "java/lang/IllegalStateException" ∧ ws' = ws))) 1 6 (va_A ws sz) := by
  refine gx_ofW (cc := b_Le_close) (maxL := 2) (ret := (some .int)) (by decide) rfl ?_
  intro p e s m args below meth c s₁ B hml hv
  obtain ⟨rfl, hsz, hz, hP, hK, hD0, hY⟩ := hv
  have hx := B.exec
  have hb := B.bytes
  have hr := B.returns
  have hts := hY.hts (#[Value.ref A0] : Array Value)
  have hown : s.vm.findClass "CommitLedger" = some m.cls := findClass_of_methodNamed B.named
  have hlocks := B.notSynchronized
  have hne : c.exceptionTable.isEmpty = true := B.noHandlers (atoms_spec (ws := [Cond.code y_Le_close b_Le_close 2 (some .int)]) B.pre _ List.mem_cons_self)
  subst hsz
  have hAz := gx_az hD0 hz
  have hD := hD0.self (sz := s.heap.size)
  have hN := gx_ns hP
  have hA : ∀ q : Nat, s.heap.size ≤ q → va_A ws s.heap.size q := fun q h => Or.inr h
  generalize va_A ws s.heap.size = A at hD hN hA hAz ⊢
  generalize hPQ : (fun (r : Option Value ⊕ String) (ws' : va_W) => (r = Sum.inr "java/lang/IllegalStateException" ∧ ws' = ws)) = PQ
  have hS : va_S A s.heap s.heap [] := va_S.rf
  have hU : gx_g ws ws 0 [] := gx_g.rf
  have hl := lv_entry ([Value.ref A0]) (n := 2) (Nat.le_of_ble_eq_true rfl)
  rw [lg_entry_eq]
  generalize (lg_sl ([Value.ref A0]) ++ List.replicate (2 - (lg_sl ([Value.ref A0])).length) Slot.unset).toArray = ls at hl ⊢
  have hl : lv_has ls 2 [(0, Value.ref A0)] := hl
  refine lv_aload_n hx hb d_Le_close_0 rfl (lv_at hl 0 rfl) ?_
  refine gx_call (ig := .invokevirtual 112) (c_Le_requireWriter l htr D tys z _ ws A0 (Value.ref A1) (Value.ref A5) (Value.ref A8) (Value.ref A20) (Value.ref A25) (Value.ref A12) (Value.ref A16) 0 (Value.int 0) (Value.int 0) (Value.int 16) (Value.int 4) (Value.int 0) (Value.int 0) (Value.int 0) (Value.int 0) (Value.int 0) (Value.int (-1)) f_0) (gx_invV (As := []) (rest := []) hx hb hown hts km_Le_112 kI_Le_requireWriter kV_Le_requireWriter kc_Le_requireWriter (by decide) (show (parseMethodDescriptor y_Le_requireWriter.desc).map (fun d => d.parameters.length) = some 0 by decide +kernel) (gx_recv (ci := 0) hK hP rfl f_0) rfl rfl d_Le_close_1) (gx_cw (z := 0) hts kc_Le_requireWriter kN_Le rfl rfl ⟨Nat.le_of_ble_eq_true rfl, Nat.le_of_ble_eq_true rfl⟩) hb hml gx_blind (gx_pre hz hP hK hD hY hS hAz [Value.ref A0]) rfl hl.1 (lv_room (Nat.le_of_ble_eq_true rfl)) d_Le_close_1 ⟨Nat.le_of_ble_eq_true rfl, Nat.le_of_ble_eq_true rfl⟩ (fun v1 st1 t1 L1 h0_1 hW_1 hQ_1 hL_1 => ?_) (fun v1 st1 t1 L1 h0_1 hW_1 hQ_1 hL_1 => ?_)
  · obtain ⟨ws2, hp, hP9, -, hD9, hS9⟩ := gx_back h0_1 hW_1 hQ_1 hL_1 hD hS hA
    clear hQ_1 h0_1 hL_1 hW_1 hP hD hS
    have hP := hP9
    have hD := hD9
    have hS := hS9
    clear hP9 hD9 hS9
    rcases hp with ⟨hv9, e_ws2, g1_0⟩ | ⟨hv9, e_ws2, g1_0⟩
    · cases hv9
      rw [e_ws2] at hP hD
      exact absurd g1_0 (by decide)
    · cases hv9
  · obtain ⟨E9, ws3, ce, hp, hce, hP9, -, hD9, hS9⟩ := gx_backT h0_1 hW_1 hQ_1 hL_1 hD hS hA
    clear hQ_1 h0_1 hL_1 hW_1 hP hD hS
    have hP := hP9
    have hD := hD9
    have hS := hS9
    clear hP9 hD9 hS9
    rcases hp with ⟨hv9, e_ws3, g1_0⟩ | ⟨hv9, e_ws3, g1_0⟩
    · cases hv9
    · cases hv9
      rw [e_ws3] at hP hD
      exact gx_pass hne hlocks hce hP hK hD hS (by decide) (by decide) (by rw [← hPQ]; exact ⟨rfl, rfl⟩)

set_option maxHeartbeats 4000000 in
set_option maxRecDepth 100000 in
theorem c_Le_openReaders_v1 (l : Launch) (htr : l.stackTraces = false) (D : va_G) (tys : List (ClassId × FieldType)) (z sz : Nat) (ws : va_W) (cR : ClassId) (A0 : Nat) (A1 : Nat) (A5 : Nat) (A8 : Nat) (A20 : Nat) (A25 : Nat) (A12 : Nat) (A16 : Nat) (A26 : Nat) (A31 : Nat) (A36 : Nat) (A41 : Nat) (A27 : Nat) (A32 : Nat) (A37 : Nat) (A42 : Nat) (f_0 : ws[0]? = some ((A0, Sum.inr (0, [Value.ref A1, Value.ref A5, Value.ref A8, Value.ref A20, Value.ref A25, Value.ref A12, Value.ref A16, Value.int 0, Value.int 0, Value.int 0, Value.int 16, Value.int 4, Value.int 0, Value.int 0, Value.int 0, Value.int 0, Value.int 0, Value.int (-1)])) : Nat × va_E)) (f_25 : ws[25]? = some ((A25, Sum.inl (cR, 4, Sum.inr (Sum.inr (Sum.inr (Sum.inr (va_up (va_up (va_up (va_up (fun _ => none) 0 (some A26)) 1 (some A31)) 2 (some A36)) 3 (some A41))))))) : Nat × va_E)) (f_26 : ws[26]? = some ((A26, Sum.inr (6, [Value.ref A27, Value.int 0, Value.int 0])) : Nat × va_E)) (f_31 : ws[31]? = some ((A31, Sum.inr (6, [Value.ref A32, Value.int 0, Value.int 0])) : Nat × va_E)) (f_36 : ws[36]? = some ((A36, Sum.inr (6, [Value.ref A37, Value.int 0, Value.int 0])) : Nat × va_E)) (f_41 : ws[41]? = some ((A41, Sum.inr (6, [Value.ref A42, Value.int 0, Value.int 0])) : Nat × va_E)) (ht4 : tys[4]? = some ((cR, FieldType.object "CommitLedger$Reader") : ClassId × FieldType)) : gx_Met l y_Le_openReaders [Cond.code y_Le_openReaders b_Le_openReaders 3 (some .int)] { frames := 1, cells := 0, slots := 0, locals := 12 } (gx_P z sz D classes tys ws [Value.ref A0]) (gx_Q D classes tys (va_A ws sz) (fun r ws' => (r = Sum.inl (some (Value.int 0)) ∧ ws' = ws))) 0 0 (va_A ws sz) := by
  refine gx_ofW (cc := b_Le_openReaders) (maxL := 3) (ret := (some .int)) (by decide) rfl ?_
  intro p e s m args below meth c s₁ B hml hv
  obtain ⟨rfl, hsz, hz, hP, hK, hD0, hY⟩ := hv
  have hx := B.exec
  have hb := B.bytes
  have hr := B.returns
  have hts := hY.hts (#[Value.ref A0] : Array Value)
  have hown : s.vm.findClass "CommitLedger" = some m.cls := findClass_of_methodNamed B.named
  have hlocks := B.notSynchronized
  have hne : c.exceptionTable.isEmpty = true := B.noHandlers (atoms_spec (ws := [Cond.code y_Le_openReaders b_Le_openReaders 3 (some .int)]) B.pre _ List.mem_cons_self)
  subst hsz
  have hAz := gx_az hD0 hz
  have hD := hD0.self (sz := s.heap.size)
  have hN := gx_ns hP
  have hA : ∀ q : Nat, s.heap.size ≤ q → va_A ws s.heap.size q := fun q h => Or.inr h
  generalize va_A ws s.heap.size = A at hD hN hA hAz ⊢
  generalize hPQ : (fun (r : Option Value ⊕ String) (ws' : va_W) => (r = Sum.inl (some (Value.int 0)) ∧ ws' = ws)) = PQ
  have hS : va_S A s.heap s.heap [] := va_S.rf
  have hU : gx_g ws ws 0 [] := gx_g.rf
  have hl := lv_entry ([Value.ref A0]) (n := 3) (Nat.le_of_ble_eq_true rfl)
  rw [lg_entry_eq]
  generalize (lg_sl ([Value.ref A0]) ++ List.replicate (3 - (lg_sl ([Value.ref A0])).length) Slot.unset).toArray = ls at hl ⊢
  have hl : lv_has ls 3 [(0, Value.ref A0)] := hl
  refine lv_iconst (v := 0) hx hb d_Le_openReaders_0 (by decide) ?_
  refine lv_istore_n (lv' := [(1, Value.int 0), (0, Value.ref A0)]) hx hb d_Le_openReaders_1 rfl hl (by decide) rfl (fun ls hl => ?_)
  refine lv_iconst (v := 0) hx hb d_Le_openReaders_2 (by decide) ?_
  refine lv_istore_n (lv' := [(2, Value.int 0), (1, Value.int 0), (0, Value.ref A0)]) hx hb d_Le_openReaders_3 rfl hl (by decide) rfl (fun ls hl => ?_)
  refine lv_iload_n hx hb d_Le_openReaders_4 rfl (lv_at hl 0 rfl) ?_
  refine lv_iconst (v := 4) hx hb d_Le_openReaders_5 (by decide) ?_
  refine lv_icmp_ge (tgt := 30) hx hb d_Le_openReaders_6 (by decide) (fun c9 => absurd c9 (by decide)) (fun _ => ?_)
  refine lv_aload_n hx hb d_Le_openReaders_9 rfl (lv_at hl 2 rfl) ?_
  refine va_get (D := D) (ci := 0) (v := Value.ref A25) (C := "CommitLedger") (T := F_Le) (N := 18) hx hb hts i_Le hown hK hP 0 f_0 rfl 4 (by decide) (hts _ kf_Le_45) (fun _ h9 => h9) rfl d_Le_openReaders_10 ?_
  refine lv_iload_n hx hb d_Le_openReaders_13 rfl (lv_at hl 0 rfl) ?_
  refine gx_aald (D := D) (b := A26) (j := 0) hx hb hK hP 25 4 f_25 ht4 (gx_inl (by decide)) (by decide) (rfl) d_Le_openReaders_14 ?_
  refine va_get (D := D) (ci := 6) (v := Value.int 0) (C := "CommitLedger$Reader") (T := F_Re) (N := 3) hx hb hts i_Re hown hK hP 26 f_26 rfl 2 (by decide) (hts _ kf_Le_230) (fun _ h9 => h9) rfl d_Le_openReaders_15 ?_
  refine lv_if_eq (tgt := 24) hx hb d_Le_openReaders_18 (by decide) (fun _ => ?_) (fun c9 => absurd (by decide) c9)
  refine lv_iinc (v := 1) (lv' := [(2, Value.int 1), (1, Value.int 0), (0, Value.ref A0)]) hx hb d_Le_openReaders_24 hl (k := 0) rfl (by decide) (by decide) rfl (fun ls hl => ?_)
  refine lv_goto (tgt := 4) hx hb d_Le_openReaders_27 (by decide) ?_
  refine lv_iload_n hx hb d_Le_openReaders_4 rfl (lv_at hl 0 rfl) ?_
  refine lv_iconst (v := 4) hx hb d_Le_openReaders_5 (by decide) ?_
  refine lv_icmp_ge (tgt := 30) hx hb d_Le_openReaders_6 (by decide) (fun c9 => absurd c9 (by decide)) (fun _ => ?_)
  refine lv_aload_n hx hb d_Le_openReaders_9 rfl (lv_at hl 2 rfl) ?_
  refine va_get (D := D) (ci := 0) (v := Value.ref A25) (C := "CommitLedger") (T := F_Le) (N := 18) hx hb hts i_Le hown hK hP 0 f_0 rfl 4 (by decide) (hts _ kf_Le_45) (fun _ h9 => h9) rfl d_Le_openReaders_10 ?_
  refine lv_iload_n hx hb d_Le_openReaders_13 rfl (lv_at hl 0 rfl) ?_
  refine gx_aald (D := D) (b := A31) (j := 1) hx hb hK hP 25 4 f_25 ht4 (gx_inl (by decide)) (by decide) (rfl) d_Le_openReaders_14 ?_
  refine va_get (D := D) (ci := 6) (v := Value.int 0) (C := "CommitLedger$Reader") (T := F_Re) (N := 3) hx hb hts i_Re hown hK hP 31 f_31 rfl 2 (by decide) (hts _ kf_Le_230) (fun _ h9 => h9) rfl d_Le_openReaders_15 ?_
  refine lv_if_eq (tgt := 24) hx hb d_Le_openReaders_18 (by decide) (fun _ => ?_) (fun c9 => absurd (by decide) c9)
  refine lv_iinc (v := 2) (lv' := [(2, Value.int 2), (1, Value.int 0), (0, Value.ref A0)]) hx hb d_Le_openReaders_24 hl (k := 0) rfl (by decide) (by decide) rfl (fun ls hl => ?_)
  refine lv_goto (tgt := 4) hx hb d_Le_openReaders_27 (by decide) ?_
  refine lv_iload_n hx hb d_Le_openReaders_4 rfl (lv_at hl 0 rfl) ?_
  refine lv_iconst (v := 4) hx hb d_Le_openReaders_5 (by decide) ?_
  refine lv_icmp_ge (tgt := 30) hx hb d_Le_openReaders_6 (by decide) (fun c9 => absurd c9 (by decide)) (fun _ => ?_)
  refine lv_aload_n hx hb d_Le_openReaders_9 rfl (lv_at hl 2 rfl) ?_
  refine va_get (D := D) (ci := 0) (v := Value.ref A25) (C := "CommitLedger") (T := F_Le) (N := 18) hx hb hts i_Le hown hK hP 0 f_0 rfl 4 (by decide) (hts _ kf_Le_45) (fun _ h9 => h9) rfl d_Le_openReaders_10 ?_
  refine lv_iload_n hx hb d_Le_openReaders_13 rfl (lv_at hl 0 rfl) ?_
  refine gx_aald (D := D) (b := A36) (j := 2) hx hb hK hP 25 4 f_25 ht4 (gx_inl (by decide)) (by decide) (rfl) d_Le_openReaders_14 ?_
  refine va_get (D := D) (ci := 6) (v := Value.int 0) (C := "CommitLedger$Reader") (T := F_Re) (N := 3) hx hb hts i_Re hown hK hP 36 f_36 rfl 2 (by decide) (hts _ kf_Le_230) (fun _ h9 => h9) rfl d_Le_openReaders_15 ?_
  refine lv_if_eq (tgt := 24) hx hb d_Le_openReaders_18 (by decide) (fun _ => ?_) (fun c9 => absurd (by decide) c9)
  refine lv_iinc (v := 3) (lv' := [(2, Value.int 3), (1, Value.int 0), (0, Value.ref A0)]) hx hb d_Le_openReaders_24 hl (k := 0) rfl (by decide) (by decide) rfl (fun ls hl => ?_)
  refine lv_goto (tgt := 4) hx hb d_Le_openReaders_27 (by decide) ?_
  refine lv_iload_n hx hb d_Le_openReaders_4 rfl (lv_at hl 0 rfl) ?_
  refine lv_iconst (v := 4) hx hb d_Le_openReaders_5 (by decide) ?_
  refine lv_icmp_ge (tgt := 30) hx hb d_Le_openReaders_6 (by decide) (fun c9 => absurd c9 (by decide)) (fun _ => ?_)
  refine lv_aload_n hx hb d_Le_openReaders_9 rfl (lv_at hl 2 rfl) ?_
  refine va_get (D := D) (ci := 0) (v := Value.ref A25) (C := "CommitLedger") (T := F_Le) (N := 18) hx hb hts i_Le hown hK hP 0 f_0 rfl 4 (by decide) (hts _ kf_Le_45) (fun _ h9 => h9) rfl d_Le_openReaders_10 ?_
  refine lv_iload_n hx hb d_Le_openReaders_13 rfl (lv_at hl 0 rfl) ?_
  refine gx_aald (D := D) (b := A41) (j := 3) hx hb hK hP 25 4 f_25 ht4 (gx_inl (by decide)) (by decide) (rfl) d_Le_openReaders_14 ?_
  refine va_get (D := D) (ci := 6) (v := Value.int 0) (C := "CommitLedger$Reader") (T := F_Re) (N := 3) hx hb hts i_Re hown hK hP 41 f_41 rfl 2 (by decide) (hts _ kf_Le_230) (fun _ h9 => h9) rfl d_Le_openReaders_15 ?_
  refine lv_if_eq (tgt := 24) hx hb d_Le_openReaders_18 (by decide) (fun _ => ?_) (fun c9 => absurd (by decide) c9)
  refine lv_iinc (v := 4) (lv' := [(2, Value.int 4), (1, Value.int 0), (0, Value.ref A0)]) hx hb d_Le_openReaders_24 hl (k := 0) rfl (by decide) (by decide) rfl (fun ls hl => ?_)
  refine lv_goto (tgt := 4) hx hb d_Le_openReaders_27 (by decide) ?_
  refine lv_iload_n hx hb d_Le_openReaders_4 rfl (lv_at hl 0 rfl) ?_
  refine lv_iconst (v := 4) hx hb d_Le_openReaders_5 (by decide) ?_
  refine lv_icmp_ge (tgt := 30) hx hb d_Le_openReaders_6 (by decide) (fun _ => ?_) (fun c9 => absurd (by decide) c9)
  refine lv_iload_n hx hb d_Le_openReaders_30 rfl (lv_at hl 1 rfl) ?_
  exact gx_ret (W.iret (v := 0) hx hb hr (gx_post hP hK hD hS (by rw [← hPQ]; exact ⟨rfl, rfl⟩)) hS.2.2 d_Le_openReaders_31)

set_option maxHeartbeats 4000000 in
set_option maxRecDepth 100000 in
theorem c_Di_find_v1 (l : Launch) (htr : l.stackTraces = false) (D : va_G) (tys : List (ClassId × FieldType)) (z sz : Nat) (ws : va_W) (A5 : Nat) (p0 : Int32) (A6 : Nat) (A7 : Nat) (u0 : Value) (f_5 : ws[5]? = some ((A5, Sum.inr (2, [Value.ref A6, Value.ref A7, Value.int 0, Value.int 0])) : Nat × va_E)) (f_6 : ws[6]? = some ((A6, Sum.inr (3, [u0, Value.int 0, Value.int 0])) : Nat × va_E)) : gx_Met l y_Di_find [Cond.code y_Di_find b_Di_find 3 (some (.object "CommitLedger$LedgerFile"))] { frames := 2, cells := 0, slots := 0, locals := 32 } (gx_P z sz D classes tys ws [Value.ref A5, Value.int p0]) (gx_Q D classes tys (va_A ws sz) (fun r ws' => (r = Sum.inl (some (Value.null)) ∧ ws' = ws))) 0 0 (va_A ws sz) := by
  refine gx_ofW (cc := b_Di_find) (maxL := 3) (ret := (some (.object "CommitLedger$LedgerFile"))) (by decide) rfl ?_
  intro p e s m args below meth c s₁ B hml hv
  obtain ⟨rfl, hsz, hz, hP, hK, hD0, hY⟩ := hv
  have hx := B.exec
  have hb := B.bytes
  have hr := B.returns
  have hts := hY.hts (#[Value.ref A5, Value.int p0] : Array Value)
  have hown : s.vm.findClass "CommitLedger$Directory" = some m.cls := findClass_of_methodNamed B.named
  have hlocks := B.notSynchronized
  have hne : c.exceptionTable.isEmpty = true := B.noHandlers (atoms_spec (ws := [Cond.code y_Di_find b_Di_find 3 (some (.object "CommitLedger$LedgerFile"))]) B.pre _ List.mem_cons_self)
  subst hsz
  have hAz := gx_az hD0 hz
  have hD := hD0.self (sz := s.heap.size)
  have hN := gx_ns hP
  have hA : ∀ q : Nat, s.heap.size ≤ q → va_A ws s.heap.size q := fun q h => Or.inr h
  generalize va_A ws s.heap.size = A at hD hN hA hAz ⊢
  generalize hPQ : (fun (r : Option Value ⊕ String) (ws' : va_W) => (r = Sum.inl (some (Value.null)) ∧ ws' = ws)) = PQ
  have hS : va_S A s.heap s.heap [] := va_S.rf
  have hU : gx_g ws ws 0 [] := gx_g.rf
  have hl := lv_entry ([Value.ref A5, Value.int p0]) (n := 3) (Nat.le_of_ble_eq_true rfl)
  rw [lg_entry_eq]
  generalize (lg_sl ([Value.ref A5, Value.int p0]) ++ List.replicate (3 - (lg_sl ([Value.ref A5, Value.int p0])).length) Slot.unset).toArray = ls at hl ⊢
  have hl : lv_has ls 3 [(0, Value.ref A5), (1, Value.int p0)] := hl
  refine lv_iconst (v := 0) hx hb d_Di_find_0 (by decide) ?_
  refine lv_istore_n (lv' := [(2, Value.int 0), (0, Value.ref A5), (1, Value.int p0)]) hx hb d_Di_find_1 rfl hl (by decide) rfl (fun ls hl => ?_)
  refine lv_iload_n hx hb d_Di_find_2 rfl (lv_at hl 0 rfl) ?_
  refine lv_aload_n hx hb d_Di_find_3 rfl (lv_at hl 1 rfl) ?_
  refine va_get (D := D) (ci := 2) (v := Value.ref A6) (C := "CommitLedger$Directory") (T := F_Di) (N := 4) hx hb hts i_Di hown hK hP 5 f_5 rfl 0 (by decide) (hts _ kf_Di_10) (fun _ h9 => h9) rfl d_Di_find_4 ?_
  refine gx_call (ig := .invokevirtual 26) (c_Al_size l htr D tys z _ ws A6 6 (u0) 0 0 f_6) (gx_invV (As := []) (rest := [Value.int 0]) hx hb hown hts km_Di_26 kI_Al_size kV_Al_size kc_Al_size (by decide) (show (parseMethodDescriptor y_Al_size.desc).map (fun d => d.parameters.length) = some 0 by decide +kernel) (gx_recv (ci := 3) hK hP rfl f_6) rfl rfl d_Di_find_7) (gx_cw (z := 0) hts kc_Al_size kN_Al rfl rfl ⟨Nat.le_of_ble_eq_true rfl, Nat.le_of_ble_eq_true rfl⟩) hb hml gx_blind (gx_pre hz hP hK hD hY hS hAz [Value.ref A6]) rfl hl.1 (lv_room (Nat.le_of_ble_eq_true rfl)) d_Di_find_7 ⟨Nat.le_of_ble_eq_true rfl, Nat.le_of_ble_eq_true rfl⟩ (fun v1 st1 t1 L1 h0_1 hW_1 hQ_1 hL_1 => ?_) (fun v1 st1 t1 L1 h0_1 hW_1 hQ_1 hL_1 => ?_)
  · obtain ⟨ws2, hp, hP9, -, hD9, hS9⟩ := gx_back h0_1 hW_1 hQ_1 hL_1 hD hS hA
    clear hQ_1 h0_1 hL_1 hW_1 hP hD hS
    have hP := hP9
    have hD := hD9
    have hS := hS9
    clear hP9 hD9 hS9
    rcases hp with ⟨hv9, e_ws2⟩
    cases hv9
    rw [e_ws2] at hP hD
    refine W.eq (g2 := F0 m 10 ls [Value.int 0, Value.int 0]) rfl ?_
    generalize t1.heap = H at hP hS ⊢
    generalize [] ++ L1 = locs at hS ⊢
    refine lv_icmp_ge (tgt := 49) hx hb d_Di_find_10 (by decide) (fun _ => ?_) (fun c9 => absurd (by decide) c9)
    refine lv_null hx hb d_Di_find_49 ?_
    exact gx_ret (W.aret (v := Value.null) hx hb hr (Or.inl ⟨_, rfl⟩) (Or.inl rfl) (gx_post hP hK hD hS (by rw [← hPQ]; exact ⟨rfl, rfl⟩)) hS.2.2 d_Di_find_50)
  · obtain ⟨E9, ws3, ce, hp, hce, hP9, -, hD9, hS9⟩ := gx_backT h0_1 hW_1 hQ_1 hL_1 hD hS hA
    clear hQ_1 h0_1 hL_1 hW_1 hP hD hS
    have hP := hP9
    have hD := hD9
    have hS := hS9
    clear hP9 hD9 hS9
    rcases hp with ⟨hv9, e_ws3⟩
    cases hv9

set_option maxHeartbeats 4000000 in
set_option maxRecDepth 100000 in
theorem c_Le_harm_v1 (l : Launch) (htr : l.stackTraces = false) (D : va_G) (tys : List (ClassId × FieldType)) (z sz : Nat) (ws : va_W) (cR : ClassId) (A0 : Nat) (p0 : Int32) (p1 : Int32) (A1 : Nat) (A5 : Nat) (A8 : Nat) (A20 : Nat) (A25 : Nat) (A12 : Nat) (A16 : Nat) (A6 : Nat) (A7 : Nat) (u0 : Value) (A26 : Nat) (A31 : Nat) (A36 : Nat) (A41 : Nat) (A27 : Nat) (A32 : Nat) (A37 : Nat) (A42 : Nat) (f_0 : ws[0]? = some ((A0, Sum.inr (0, [Value.ref A1, Value.ref A5, Value.ref A8, Value.ref A20, Value.ref A25, Value.ref A12, Value.ref A16, Value.int 0, Value.int 0, Value.int 0, Value.int 16, Value.int 4, Value.int 0, Value.int 0, Value.int 0, Value.int 0, Value.int 0, Value.int (-1)])) : Nat × va_E)) (f_5 : ws[5]? = some ((A5, Sum.inr (2, [Value.ref A6, Value.ref A7, Value.int 0, Value.int 0])) : Nat × va_E)) (f_6 : ws[6]? = some ((A6, Sum.inr (3, [u0, Value.int 0, Value.int 0])) : Nat × va_E)) (f_25 : ws[25]? = some ((A25, Sum.inl (cR, 4, Sum.inr (Sum.inr (Sum.inr (Sum.inr (va_up (va_up (va_up (va_up (fun _ => none) 0 (some A26)) 1 (some A31)) 2 (some A36)) 3 (some A41))))))) : Nat × va_E)) (f_26 : ws[26]? = some ((A26, Sum.inr (6, [Value.ref A27, Value.int 0, Value.int 0])) : Nat × va_E)) (f_31 : ws[31]? = some ((A31, Sum.inr (6, [Value.ref A32, Value.int 0, Value.int 0])) : Nat × va_E)) (f_36 : ws[36]? = some ((A36, Sum.inr (6, [Value.ref A37, Value.int 0, Value.int 0])) : Nat × va_E)) (f_41 : ws[41]? = some ((A41, Sum.inr (6, [Value.ref A42, Value.int 0, Value.int 0])) : Nat × va_E)) (ht4 : tys[4]? = some ((cR, FieldType.object "CommitLedger$Reader") : ClassId × FieldType)) : gx_Met l y_Le_harm [Cond.code y_Le_harm b_Le_harm 4 none] { frames := 6, cells := 1, slots := 6, locals := 82 } (gx_P z sz D classes tys ws [Value.ref A0, Value.int p0, Value.int p1]) (gx_Q D classes tys (va_A ws sz) (fun r ws' => (r = Sum.inr "java/lang/IllegalArgumentException" ∧ ws' = ws ∧ p0 < 0) ∨ (r = Sum.inr "java/util/NoSuchElementException" ∧ ws' = ws ∧ ¬ p0 < 0 ∧ 0 ≤ p1) ∨ (r = Sum.inr "java/lang/IllegalArgumentException" ∧ ws' = ws ∧ ¬ p0 < 0 ∧ ¬ 0 ≤ p1))) 1 6 (va_A ws sz) := by
  refine gx_ofW (cc := b_Le_harm) (maxL := 4) (ret := none) (by decide) rfl ?_
  intro p e s m args below meth c s₁ B hml hv
  obtain ⟨rfl, hsz, hz, hP, hK, hD0, hY⟩ := hv
  have hx := B.exec
  have hb := B.bytes
  have hr := B.returns
  have hts := hY.hts (#[Value.ref A0, Value.int p0, Value.int p1] : Array Value)
  have hown : s.vm.findClass "CommitLedger" = some m.cls := findClass_of_methodNamed B.named
  have hlocks := B.notSynchronized
  have hne : c.exceptionTable.isEmpty = true := B.noHandlers (atoms_spec (ws := [Cond.code y_Le_harm b_Le_harm 4 none]) B.pre _ List.mem_cons_self)
  subst hsz
  have hAz := gx_az hD0 hz
  have hD := hD0.self (sz := s.heap.size)
  have hN := gx_ns hP
  have hA : ∀ q : Nat, s.heap.size ≤ q → va_A ws s.heap.size q := fun q h => Or.inr h
  generalize va_A ws s.heap.size = A at hD hN hA hAz ⊢
  generalize hPQ : (fun (r : Option Value ⊕ String) (ws' : va_W) => (r = Sum.inr "java/lang/IllegalArgumentException" ∧ ws' = ws ∧ p0 < 0) ∨ (r = Sum.inr "java/util/NoSuchElementException" ∧ ws' = ws ∧ ¬ p0 < 0 ∧ 0 ≤ p1) ∨ (r = Sum.inr "java/lang/IllegalArgumentException" ∧ ws' = ws ∧ ¬ p0 < 0 ∧ ¬ 0 ≤ p1)) = PQ
  have hS : va_S A s.heap s.heap [] := va_S.rf
  have hU : gx_g ws ws 0 [] := gx_g.rf
  have hl := lv_entry ([Value.ref A0, Value.int p0, Value.int p1]) (n := 4) (Nat.le_of_ble_eq_true rfl)
  rw [lg_entry_eq]
  generalize (lg_sl ([Value.ref A0, Value.int p0, Value.int p1]) ++ List.replicate (4 - (lg_sl ([Value.ref A0, Value.int p0, Value.int p1])).length) Slot.unset).toArray = ls at hl ⊢
  have hl : lv_has ls 4 [(0, Value.ref A0), (1, Value.int p0), (2, Value.int p1)] := hl
  refine lv_iload_n hx hb d_Le_harm_0 rfl (lv_at hl 1 rfl) ?_
  refine lv_if_lt (tgt := 8) hx hb d_Le_harm_1 (by decide) (fun c1_1 => ?_) (fun c1_1 => ?_)
  · exact gx_thr (D := D) (cl := classes) (tys := tys) (ws := ws) (i1 := 7) (b1 := prog_15_method_2_code) hx hb htr (hml.trans hl.1.symm) hown hts hne hlocks hP hK hD hS hA hN kk_Le_191 kX_IllegalArgumentException kN_IllegalArgumentException ks_Le_193 kT_Le_195 (by decide) (by decide +kernel) (by decide +kernel) (by decide +kernel) (by decide +kernel) d_Le_harm_8 d_Le_harm_11 d_Le_harm_12 d_Le_harm_14 d_Le_harm_17 (Nat.le_of_ble_eq_true rfl) (Nat.le_of_ble_eq_true rfl) (Nat.le_of_ble_eq_true rfl) (Nat.le_of_ble_eq_true rfl) (by decide) (by decide) (by rw [← hPQ]; exact Or.inl ⟨rfl, rfl, c1_1⟩)
  · refine lv_iload_n hx hb d_Le_harm_4 rfl (lv_at hl 2 rfl) ?_
    refine lv_if_ge (tgt := 18) hx hb d_Le_harm_5 (by decide) (fun c5_2 => ?_) (fun c5_2 => ?_)
    · refine lv_aload_n hx hb d_Le_harm_18 rfl (lv_at hl 0 rfl) ?_
      refine va_get (D := D) (ci := 0) (v := Value.int 0) (C := "CommitLedger") (T := F_Le) (N := 18) hx hb hts i_Le hown hK hP 0 f_0 rfl 7 (by decide) (hts _ kf_Le_64) (fun _ h9 => h9) rfl d_Le_harm_19 ?_
      refine lv_if_ne (tgt := 32) hx hb d_Le_harm_22 (by decide) (fun c9 => absurd (by decide) c9) (fun _ => ?_)
      refine lv_aload_n hx hb d_Le_harm_25 rfl (lv_at hl 0 rfl) ?_
      refine gx_call (ig := .invokevirtual 196) (c_Le_openReaders_v1 l htr D tys z _ ws cR A0 A1 A5 A8 A20 A25 A12 A16 A26 A31 A36 A41 A27 A32 A37 A42 f_0 f_25 f_26 f_31 f_36 f_41 ht4) (gx_invV (As := []) (rest := []) hx hb hown hts km_Le_196 kI_Le_openReaders kV_Le_openReaders kc_Le_openReaders (by decide) (show (parseMethodDescriptor y_Le_openReaders.desc).map (fun d => d.parameters.length) = some 0 by decide +kernel) (gx_recv (ci := 0) hK hP rfl f_0) rfl rfl d_Le_harm_26) (gx_cw (z := 0) hts kc_Le_openReaders kN_Le rfl rfl ⟨Nat.le_of_ble_eq_true rfl, Nat.le_of_ble_eq_true rfl⟩) hb hml gx_blind (gx_pre hz hP hK hD hY hS hAz [Value.ref A0]) rfl hl.1 (lv_room (Nat.le_of_ble_eq_true rfl)) d_Le_harm_26 ⟨Nat.le_of_ble_eq_true rfl, Nat.le_of_ble_eq_true rfl⟩ (fun v3 st3 t3 L3 h0_3 hW_3 hQ_3 hL_3 => ?_) (fun v3 st3 t3 L3 h0_3 hW_3 hQ_3 hL_3 => ?_)
      · obtain ⟨ws4, hp, hP9, -, hD9, hS9⟩ := gx_back h0_3 hW_3 hQ_3 hL_3 hD hS hA
        clear hQ_3 h0_3 hL_3 hW_3 hP hD hS
        have hP := hP9
        have hD := hD9
        have hS := hS9
        clear hP9 hD9 hS9
        rcases hp with ⟨hv9, e_ws4⟩
        cases hv9
        rw [e_ws4] at hP hD
        refine W.eq (g2 := F0 m 29 ls [Value.int 0]) rfl ?_
        generalize t3.heap = H at hP hS ⊢
        generalize [] ++ L3 = locs at hS ⊢
        refine lv_if_le (tgt := 42) hx hb d_Le_harm_29 (by decide) (fun _ => ?_) (fun c9 => absurd (by decide) c9)
        refine lv_aload_n hx hb d_Le_harm_42 rfl (lv_at hl 0 rfl) ?_
        refine va_get (D := D) (ci := 0) (v := Value.ref A5) (C := "CommitLedger") (T := F_Le) (N := 18) hx hb hts i_Le hown hK hP 0 f_0 rfl 1 (by decide) (hts _ kf_Le_19) (fun _ h9 => h9) rfl d_Le_harm_43 ?_
        refine lv_iload_n hx hb d_Le_harm_46 rfl (lv_at hl 1 rfl) ?_
        refine gx_call (ig := .invokevirtual 201) (c_Di_find_v1 l htr D tys z _ ws A5 p0 A6 A7 (u0) f_5 f_6) (gx_invV (As := [Value.int p0]) (rest := []) hx hb hown hts km_Le_201 kI_Di_find kV_Di_find kc_Di_find (by decide) (show (parseMethodDescriptor y_Di_find.desc).map (fun d => d.parameters.length) = some 1 by decide +kernel) (gx_recv (ci := 2) hK hP rfl f_5) rfl rfl d_Le_harm_47) (gx_cw (z := 0) hts kc_Di_find kN_Di rfl rfl ⟨Nat.le_of_ble_eq_true rfl, Nat.le_of_ble_eq_true rfl⟩) hb hml gx_blind (gx_pre hz hP hK hD hY hS hAz [Value.ref A5, Value.int p0]) rfl hl.1 (lv_room (Nat.le_of_ble_eq_true rfl)) d_Le_harm_47 ⟨Nat.le_of_ble_eq_true rfl, Nat.le_of_ble_eq_true rfl⟩ (fun v5 st5 t5 L5 h0_5 hW_5 hQ_5 hL_5 => ?_) (fun v5 st5 t5 L5 h0_5 hW_5 hQ_5 hL_5 => ?_)
        · obtain ⟨ws6, hp, hP9, -, hD9, hS9⟩ := gx_back h0_5 hW_5 hQ_5 hL_5 hD hS hA
          clear hQ_5 h0_5 hL_5 hW_5 hP hD hS
          have hP := hP9
          have hD := hD9
          have hS := hS9
          clear hP9 hD9 hS9
          rcases hp with ⟨hv9, e_ws6⟩
          cases hv9
          rw [e_ws6] at hP hD
          refine W.eq (g2 := F0 m 50 ls [Value.null]) rfl ?_
          generalize t5.heap = H at hP hS ⊢
          generalize locs ++ L5 = locs at hS ⊢
          refine lv_astore_nN (lv' := [(3, Value.null), (0, Value.ref A0), (1, Value.int p0), (2, Value.int p1)]) hx hb d_Le_harm_50 rfl hl (by decide) rfl (fun ls hl => ?_)
          refine lv_aload_nN hx hb d_Le_harm_51 rfl (lv_at hl 0 rfl) ?_
          refine lv_ifnonnullN hx hb d_Le_harm_52 ?_
          exact gx_thr (D := D) (cl := classes) (tys := tys) (ws := ws) (i1 := 13) (b1 := prog_31_method_4_code) hx hb htr (hml.trans hl.1.symm) hown hts hne hlocks hP hK hD hS hA hN kk_Le_150 kX_NoSuchElementException kN_NoSuchElementException ks_Le_205 kT_Le_154 (by decide) (by decide +kernel) (by decide +kernel) (by decide +kernel) (by decide +kernel) d_Le_harm_55 d_Le_harm_58 d_Le_harm_59 d_Le_harm_61 d_Le_harm_64 (Nat.le_of_ble_eq_true rfl) (Nat.le_of_ble_eq_true rfl) (Nat.le_of_ble_eq_true rfl) (Nat.le_of_ble_eq_true rfl) (by decide) (by decide) (by rw [← hPQ]; exact Or.inr (Or.inl ⟨rfl, rfl, c1_1, c5_2⟩))
        · obtain ⟨E9, ws7, ce, hp, hce, hP9, -, hD9, hS9⟩ := gx_backT h0_5 hW_5 hQ_5 hL_5 hD hS hA
          clear hQ_5 h0_5 hL_5 hW_5 hP hD hS
          have hP := hP9
          have hD := hD9
          have hS := hS9
          clear hP9 hD9 hS9
          rcases hp with ⟨hv9, e_ws7⟩
          cases hv9
      · obtain ⟨E9, ws8, ce, hp, hce, hP9, -, hD9, hS9⟩ := gx_backT h0_3 hW_3 hQ_3 hL_3 hD hS hA
        clear hQ_3 h0_3 hL_3 hW_3 hP hD hS
        have hP := hP9
        have hD := hD9
        have hS := hS9
        clear hP9 hD9 hS9
        rcases hp with ⟨hv9, e_ws8⟩
        cases hv9
    · exact gx_thr (D := D) (cl := classes) (tys := tys) (ws := ws) (i1 := 7) (b1 := prog_15_method_2_code) hx hb htr (hml.trans hl.1.symm) hown hts hne hlocks hP hK hD hS hA hN kk_Le_191 kX_IllegalArgumentException kN_IllegalArgumentException ks_Le_193 kT_Le_195 (by decide) (by decide +kernel) (by decide +kernel) (by decide +kernel) (by decide +kernel) d_Le_harm_8 d_Le_harm_11 d_Le_harm_12 d_Le_harm_14 d_Le_harm_17 (Nat.le_of_ble_eq_true rfl) (Nat.le_of_ble_eq_true rfl) (Nat.le_of_ble_eq_true rfl) (Nat.le_of_ble_eq_true rfl) (by decide) (by decide) (by rw [← hPQ]; exact Or.inr (Or.inr (⟨rfl, rfl, c1_1, c5_2⟩)))

set_option maxHeartbeats 4000000 in
set_option maxRecDepth 100000 in
theorem c_Le_closedReader_v1 (l : Launch) (htr : l.stackTraces = false) (D : va_G) (tys : List (ClassId × FieldType)) (z sz : Nat) (ws : va_W) (cR : ClassId) (A0 : Nat) (A1 : Nat) (A5 : Nat) (A8 : Nat) (A20 : Nat) (A25 : Nat) (A12 : Nat) (A16 : Nat) (A26 : Nat) (A31 : Nat) (A36 : Nat) (A41 : Nat) (A27 : Nat) (f_0 : ws[0]? = some ((A0, Sum.inr (0, [Value.ref A1, Value.ref A5, Value.ref A8, Value.ref A20, Value.ref A25, Value.ref A12, Value.ref A16, Value.int 0, Value.int 0, Value.int 0, Value.int 16, Value.int 4, Value.int 0, Value.int 0, Value.int 0, Value.int 0, Value.int 0, Value.int (-1)])) : Nat × va_E)) (f_25 : ws[25]? = some ((A25, Sum.inl (cR, 4, Sum.inr (Sum.inr (Sum.inr (Sum.inr (va_up (va_up (va_up (va_up (fun _ => none) 0 (some A26)) 1 (some A31)) 2 (some A36)) 3 (some A41))))))) : Nat × va_E)) (f_26 : ws[26]? = some ((A26, Sum.inr (6, [Value.ref A27, Value.int 0, Value.int 0])) : Nat × va_E)) (ht4 : tys[4]? = some ((cR, FieldType.object "CommitLedger$Reader") : ClassId × FieldType)) : gx_Met l y_Le_closedReader [Cond.code y_Le_closedReader b_Le_closedReader 2 (some (.object "CommitLedger$Reader"))] { frames := 1, cells := 0, slots := 0, locals := 12 } (gx_P z sz D classes tys ws [Value.ref A0]) (gx_Q D classes tys (va_A ws sz) (fun r ws' => (r = Sum.inl (some (Value.ref A26)) ∧ ws' = ws))) 0 0 (va_A ws sz) := by
  refine gx_ofW (cc := b_Le_closedReader) (maxL := 2) (ret := (some (.object "CommitLedger$Reader"))) (by decide) rfl ?_
  intro p e s m args below meth c s₁ B hml hv
  obtain ⟨rfl, hsz, hz, hP, hK, hD0, hY⟩ := hv
  have hx := B.exec
  have hb := B.bytes
  have hr := B.returns
  have hts := hY.hts (#[Value.ref A0] : Array Value)
  have hown : s.vm.findClass "CommitLedger" = some m.cls := findClass_of_methodNamed B.named
  have hlocks := B.notSynchronized
  have hne : c.exceptionTable.isEmpty = true := B.noHandlers (atoms_spec (ws := [Cond.code y_Le_closedReader b_Le_closedReader 2 (some (.object "CommitLedger$Reader"))]) B.pre _ List.mem_cons_self)
  subst hsz
  have hAz := gx_az hD0 hz
  have hD := hD0.self (sz := s.heap.size)
  have hN := gx_ns hP
  have hA : ∀ q : Nat, s.heap.size ≤ q → va_A ws s.heap.size q := fun q h => Or.inr h
  generalize va_A ws s.heap.size = A at hD hN hA hAz ⊢
  generalize hPQ : (fun (r : Option Value ⊕ String) (ws' : va_W) => (r = Sum.inl (some (Value.ref A26)) ∧ ws' = ws)) = PQ
  have hS : va_S A s.heap s.heap [] := va_S.rf
  have hU : gx_g ws ws 0 [] := gx_g.rf
  have hl := lv_entry ([Value.ref A0]) (n := 2) (Nat.le_of_ble_eq_true rfl)
  rw [lg_entry_eq]
  generalize (lg_sl ([Value.ref A0]) ++ List.replicate (2 - (lg_sl ([Value.ref A0])).length) Slot.unset).toArray = ls at hl ⊢
  have hl : lv_has ls 2 [(0, Value.ref A0)] := hl
  refine lv_iconst (v := 0) hx hb d_Le_closedReader_0 (by decide) ?_
  refine lv_istore_n (lv' := [(1, Value.int 0), (0, Value.ref A0)]) hx hb d_Le_closedReader_1 rfl hl (by decide) rfl (fun ls hl => ?_)
  refine lv_iload_n hx hb d_Le_closedReader_2 rfl (lv_at hl 0 rfl) ?_
  refine lv_iconst (v := 4) hx hb d_Le_closedReader_3 (by decide) ?_
  refine lv_icmp_ge (tgt := 32) hx hb d_Le_closedReader_4 (by decide) (fun c9 => absurd c9 (by decide)) (fun _ => ?_)
  refine lv_aload_n hx hb d_Le_closedReader_7 rfl (lv_at hl 1 rfl) ?_
  refine va_get (D := D) (ci := 0) (v := Value.ref A25) (C := "CommitLedger") (T := F_Le) (N := 18) hx hb hts i_Le hown hK hP 0 f_0 rfl 4 (by decide) (hts _ kf_Le_45) (fun _ h9 => h9) rfl d_Le_closedReader_8 ?_
  refine lv_iload_n hx hb d_Le_closedReader_11 rfl (lv_at hl 0 rfl) ?_
  refine gx_aald (D := D) (b := A26) (j := 0) hx hb hK hP 25 4 f_25 ht4 (gx_inl (by decide)) (by decide) (rfl) d_Le_closedReader_12 ?_
  refine va_get (D := D) (ci := 6) (v := Value.int 0) (C := "CommitLedger$Reader") (T := F_Re) (N := 3) hx hb hts i_Re hown hK hP 26 f_26 rfl 2 (by decide) (hts _ kf_Le_230) (fun _ h9 => h9) rfl d_Le_closedReader_13 ?_
  refine lv_if_ne (tgt := 26) hx hb d_Le_closedReader_16 (by decide) (fun c9 => absurd (by decide) c9) (fun _ => ?_)
  refine lv_aload_n hx hb d_Le_closedReader_19 rfl (lv_at hl 1 rfl) ?_
  refine va_get (D := D) (ci := 0) (v := Value.ref A25) (C := "CommitLedger") (T := F_Le) (N := 18) hx hb hts i_Le hown hK hP 0 f_0 rfl 4 (by decide) (hts _ kf_Le_45) (fun _ h9 => h9) rfl d_Le_closedReader_20 ?_
  refine lv_iload_n hx hb d_Le_closedReader_23 rfl (lv_at hl 0 rfl) ?_
  refine gx_aald (D := D) (b := A26) (j := 0) hx hb hK hP 25 4 f_25 ht4 (gx_inl (by decide)) (by decide) (rfl) d_Le_closedReader_24 ?_
  exact gx_ret (W.aret (v := Value.ref A26) hx hb hr (Or.inl ⟨_, rfl⟩) (Or.inr ⟨_, rfl⟩) (gx_post hP hK hD hS (by rw [← hPQ]; exact ⟨rfl, rfl⟩)) hS.2.2 d_Le_closedReader_25)

set_option maxHeartbeats 4000000 in
set_option maxRecDepth 100000 in
theorem c_Le_reader_v1 (l : Launch) (htr : l.stackTraces = false) (D : va_G) (tys : List (ClassId × FieldType)) (z sz : Nat) (ws : va_W) (cR : ClassId) (A0 : Nat) (p0 : Int32) (A1 : Nat) (A5 : Nat) (A8 : Nat) (A20 : Nat) (A25 : Nat) (A12 : Nat) (A16 : Nat) (A26 : Nat) (A31 : Nat) (A36 : Nat) (A41 : Nat) (A27 : Nat) (f_0 : ws[0]? = some ((A0, Sum.inr (0, [Value.ref A1, Value.ref A5, Value.ref A8, Value.ref A20, Value.ref A25, Value.ref A12, Value.ref A16, Value.int 0, Value.int 0, Value.int 0, Value.int 16, Value.int 4, Value.int 0, Value.int 0, Value.int 0, Value.int 0, Value.int 0, Value.int (-1)])) : Nat × va_E)) (f_25 : ws[25]? = some ((A25, Sum.inl (cR, 4, Sum.inr (Sum.inr (Sum.inr (Sum.inr (va_up (va_up (va_up (va_up (fun _ => none) 0 (some A26)) 1 (some A31)) 2 (some A36)) 3 (some A41))))))) : Nat × va_E)) (f_26 : ws[26]? = some ((A26, Sum.inr (6, [Value.ref A27, Value.int 0, Value.int 0])) : Nat × va_E)) (ht4 : tys[4]? = some ((cR, FieldType.object "CommitLedger$Reader") : ClassId × FieldType)) : gx_Met l y_Le_reader [Cond.code y_Le_reader b_Le_reader 3 (some .int)] { frames := 7, cells := 2, slots := 12, locals := 104 } (gx_P z sz D classes tys ws [Value.ref A0, Value.int p0]) (gx_Q D classes tys (va_A ws sz) (fun r ws' => (r = Sum.inr "java/util/NoSuchElementException" ∧ ws' = ws ∧ ¬ p0 < 0 ∧ p0 ≤ 1 ∧ ¬ p0 = 1) ∨ (r = Sum.inr "java/lang/IllegalStateException" ∧ ws' = ws ∧ ¬ p0 < 0 ∧ p0 ≤ 1 ∧ p0 = 1) ∨ (r = Sum.inr "java/lang/IllegalArgumentException" ∧ ws' = ws ∧ p0 < 0) ∨ (r = Sum.inr "java/lang/IllegalArgumentException" ∧ ws' = ws ∧ ¬ p0 < 0 ∧ ¬ p0 ≤ 1))) 2 12 (va_A ws sz) := by
  refine gx_ofW (cc := b_Le_reader) (maxL := 3) (ret := (some .int)) (by decide) rfl ?_
  intro p e s m args below meth c s₁ B hml hv
  obtain ⟨rfl, hsz, hz, hP, hK, hD0, hY⟩ := hv
  have hx := B.exec
  have hb := B.bytes
  have hr := B.returns
  have hts := hY.hts (#[Value.ref A0, Value.int p0] : Array Value)
  have hown : s.vm.findClass "CommitLedger" = some m.cls := findClass_of_methodNamed B.named
  have hlocks := B.notSynchronized
  have hne : c.exceptionTable.isEmpty = true := B.noHandlers (atoms_spec (ws := [Cond.code y_Le_reader b_Le_reader 3 (some .int)]) B.pre _ List.mem_cons_self)
  subst hsz
  have hAz := gx_az hD0 hz
  have hD := hD0.self (sz := s.heap.size)
  have hN := gx_ns hP
  have hA : ∀ q : Nat, s.heap.size ≤ q → va_A ws s.heap.size q := fun q h => Or.inr h
  generalize va_A ws s.heap.size = A at hD hN hA hAz ⊢
  generalize hPQ : (fun (r : Option Value ⊕ String) (ws' : va_W) => (r = Sum.inr "java/util/NoSuchElementException" ∧ ws' = ws ∧ ¬ p0 < 0 ∧ p0 ≤ 1 ∧ ¬ p0 = 1) ∨ (r = Sum.inr "java/lang/IllegalStateException" ∧ ws' = ws ∧ ¬ p0 < 0 ∧ p0 ≤ 1 ∧ p0 = 1) ∨ (r = Sum.inr "java/lang/IllegalArgumentException" ∧ ws' = ws ∧ p0 < 0) ∨ (r = Sum.inr "java/lang/IllegalArgumentException" ∧ ws' = ws ∧ ¬ p0 < 0 ∧ ¬ p0 ≤ 1)) = PQ
  have hS : va_S A s.heap s.heap [] := va_S.rf
  have hU : gx_g ws ws 0 [] := gx_g.rf
  have hl := lv_entry ([Value.ref A0, Value.int p0]) (n := 3) (Nat.le_of_ble_eq_true rfl)
  rw [lg_entry_eq]
  generalize (lg_sl ([Value.ref A0, Value.int p0]) ++ List.replicate (3 - (lg_sl ([Value.ref A0, Value.int p0])).length) Slot.unset).toArray = ls at hl ⊢
  have hl : lv_has ls 3 [(0, Value.ref A0), (1, Value.int p0)] := hl
  refine lv_iload_n hx hb d_Le_reader_0 rfl (lv_at hl 1 rfl) ?_
  refine lv_iconst (v := 0) hx hb d_Le_reader_1 (by decide) ?_
  refine lv_iconst (v := 1) hx hb d_Le_reader_2 (by decide) ?_
  refine gx_call (ig := .invokestatic 60) (c_Le_requireRange l htr D tys z _ ws p0 0 1) (gx_invS (As := [Value.int p0, Value.int 0, Value.int 1]) (rest := []) hx hb hown hts km_Le_60 kS_Le_requireRange kN_Le kc_Le_requireRange (by decide) (show (parseMethodDescriptor y_Le_requireRange.desc).map (fun d => d.parameters.length) = some 3 by decide +kernel) rfl rfl d_Le_reader_3) (gx_cw (z := 0) hts kc_Le_requireRange kN_Le rfl rfl ⟨Nat.le_of_ble_eq_true rfl, Nat.le_of_ble_eq_true rfl⟩) hb hml gx_blind (gx_pre hz hP hK hD hY hS hAz [Value.int p0, Value.int 0, Value.int 1]) rfl hl.1 (lv_room (Nat.le_of_ble_eq_true rfl)) d_Le_reader_3 ⟨Nat.le_of_ble_eq_true rfl, Nat.le_of_ble_eq_true rfl⟩ (fun v1 st1 t1 L1 h0_1 hW_1 hQ_1 hL_1 => ?_) (fun v1 st1 t1 L1 h0_1 hW_1 hQ_1 hL_1 => ?_)
  · obtain ⟨ws2, hp, hP9, -, hD9, hS9⟩ := gx_back h0_1 hW_1 hQ_1 hL_1 hD hS hA
    clear hQ_1 h0_1 hL_1 hW_1 hP hD hS
    have hP := hP9
    have hD := hD9
    have hS := hS9
    clear hP9 hD9 hS9
    rcases hp with ⟨hv9, e_ws2, g1_0, g1_1⟩ | ⟨hv9, e_ws2, g1_0⟩ | ⟨hv9, e_ws2, g1_0, g1_1⟩
    · cases hv9
      rw [e_ws2] at hP hD
      refine W.eq (g2 := F0 m 6 ls []) rfl ?_
      refine W.widen (k := 1) (n := 6) (by decide) (by decide) ?_
      generalize t1.heap = H at hP hS ⊢
      generalize [] ++ L1 = locs at hS ⊢
      refine lv_iload_n hx hb d_Le_reader_6 rfl (lv_at hl 1 rfl) ?_
      refine lv_iconst (v := 1) hx hb d_Le_reader_7 (by decide) ?_
      refine lv_icmp_ne (tgt := 15) hx hb d_Le_reader_8 (by decide) (fun c8_3 => ?_) (fun c8_3 => ?_)
      · refine lv_aload_n hx hb d_Le_reader_15 rfl (lv_at hl 0 rfl) ?_
        refine gx_call (ig := .invokevirtual 214) (c_Le_closedReader_v1 l htr D tys z _ ws cR A0 A1 A5 A8 A20 A25 A12 A16 A26 A31 A36 A41 A27 f_0 f_25 f_26 ht4) (gx_invV (As := []) (rest := []) hx hb hown hts km_Le_214 kI_Le_closedReader kV_Le_closedReader kc_Le_closedReader (by decide) (show (parseMethodDescriptor y_Le_closedReader.desc).map (fun d => d.parameters.length) = some 0 by decide +kernel) (gx_recv (ci := 0) hK hP rfl f_0) rfl rfl d_Le_reader_16) (gx_cw (z := 0) hts kc_Le_closedReader kN_Le rfl rfl ⟨Nat.le_of_ble_eq_true rfl, Nat.le_of_ble_eq_true rfl⟩) hb hml gx_blind (gx_pre hz hP hK hD hY hS hAz [Value.ref A0]) rfl hl.1 (lv_room (Nat.le_of_ble_eq_true rfl)) d_Le_reader_16 ⟨Nat.le_of_ble_eq_true rfl, Nat.le_of_ble_eq_true rfl⟩ (fun v4 st4 t4 L4 h0_4 hW_4 hQ_4 hL_4 => ?_) (fun v4 st4 t4 L4 h0_4 hW_4 hQ_4 hL_4 => ?_)
        · obtain ⟨ws5, hp, hP9, -, hD9, hS9⟩ := gx_back h0_4 hW_4 hQ_4 hL_4 hD hS hA
          clear hQ_4 h0_4 hL_4 hW_4 hP hD hS
          have hP := hP9
          have hD := hD9
          have hS := hS9
          clear hP9 hD9 hS9
          rcases hp with ⟨hv9, e_ws5⟩
          cases hv9
          rw [e_ws5] at hP hD
          refine W.eq (g2 := F0 m 19 ls [Value.ref A26]) rfl ?_
          generalize t4.heap = H at hP hS ⊢
          generalize locs ++ L4 = locs at hS ⊢
          refine lv_astore_n (lv' := [(2, Value.ref A26), (0, Value.ref A0), (1, Value.int p0)]) hx hb d_Le_reader_19 rfl hl (by decide) rfl (fun ls hl => ?_)
          refine lv_aload_n hx hb d_Le_reader_20 rfl (lv_at hl 0 rfl) ?_
          refine lv_ifnonnull (tgt := 34) hx hb d_Le_reader_21 (by decide) ?_
          refine lv_iload_n hx hb d_Le_reader_34 rfl (lv_at hl 2 rfl) ?_
          refine lv_iconst (v := 1) hx hb d_Le_reader_35 (by decide) ?_
          refine lv_icmp_ne (tgt := 53) hx hb d_Le_reader_36 (by decide) (fun _ => ?_) (fun c9 => absurd c9 c8_3)
          refine lv_aload_n hx hb d_Le_reader_53 rfl (lv_at hl 1 rfl) ?_
          refine va_get (D := D) (ci := 0) (v := Value.int 0) (C := "CommitLedger") (T := F_Le) (N := 18) hx hb hts i_Le hown hK hP 0 f_0 rfl 15 (by decide) (hts _ kf_Le_84) (fun _ h9 => h9) rfl d_Le_reader_54 ?_
          refine lv_if_ne (tgt := 70) hx hb d_Le_reader_57 (by decide) (fun c9 => absurd (by decide) c9) (fun _ => ?_)
          exact gx_thr (D := D) (cl := classes) (tys := tys) (ws := ws) (i1 := 13) (b1 := prog_31_method_4_code) hx hb htr (hml.trans hl.1.symm) hown hts hne hlocks hP hK hD hS hA hN kk_Le_150 kX_NoSuchElementException kN_NoSuchElementException ks_Le_224 kT_Le_154 (by decide) (by decide +kernel) (by decide +kernel) (by decide +kernel) (by decide +kernel) d_Le_reader_60 d_Le_reader_63 d_Le_reader_64 d_Le_reader_66 d_Le_reader_69 (Nat.le_of_ble_eq_true rfl) (Nat.le_of_ble_eq_true rfl) (Nat.le_of_ble_eq_true rfl) (Nat.le_of_ble_eq_true rfl) (by decide) (by decide) (by rw [← hPQ]; exact Or.inl ⟨rfl, rfl, g1_0, g1_1, c8_3⟩)
        · obtain ⟨E9, ws7, ce, hp, hce, hP9, -, hD9, hS9⟩ := gx_backT h0_4 hW_4 hQ_4 hL_4 hD hS hA
          clear hQ_4 h0_4 hL_4 hW_4 hP hD hS
          have hP := hP9
          have hD := hD9
          have hS := hS9
          clear hP9 hD9 hS9
          rcases hp with ⟨hv9, e_ws7⟩
          cases hv9
      · refine lv_aload_n hx hb d_Le_reader_11 rfl (lv_at hl 0 rfl) ?_
        refine gx_call (ig := .invokevirtual 112) (c_Le_requireWriter l htr D tys z _ ws A0 (Value.ref A1) (Value.ref A5) (Value.ref A8) (Value.ref A20) (Value.ref A25) (Value.ref A12) (Value.ref A16) 0 (Value.int 0) (Value.int 0) (Value.int 16) (Value.int 4) (Value.int 0) (Value.int 0) (Value.int 0) (Value.int 0) (Value.int 0) (Value.int (-1)) f_0) (gx_invV (As := []) (rest := []) hx hb hown hts km_Le_112 kI_Le_requireWriter kV_Le_requireWriter kc_Le_requireWriter (by decide) (show (parseMethodDescriptor y_Le_requireWriter.desc).map (fun d => d.parameters.length) = some 0 by decide +kernel) (gx_recv (ci := 0) hK hP rfl f_0) rfl rfl d_Le_reader_12) (gx_cw (z := 0) hts kc_Le_requireWriter kN_Le rfl rfl ⟨Nat.le_of_ble_eq_true rfl, Nat.le_of_ble_eq_true rfl⟩) hb hml gx_blind (gx_pre hz hP hK hD hY hS hAz [Value.ref A0]) rfl hl.1 (lv_room (Nat.le_of_ble_eq_true rfl)) d_Le_reader_12 ⟨Nat.le_of_ble_eq_true rfl, Nat.le_of_ble_eq_true rfl⟩ (fun v8 st8 t8 L8 h0_8 hW_8 hQ_8 hL_8 => ?_) (fun v8 st8 t8 L8 h0_8 hW_8 hQ_8 hL_8 => ?_)
        · obtain ⟨ws9, hp, hP9, -, hD9, hS9⟩ := gx_back h0_8 hW_8 hQ_8 hL_8 hD hS hA
          clear hQ_8 h0_8 hL_8 hW_8 hP hD hS
          have hP := hP9
          have hD := hD9
          have hS := hS9
          clear hP9 hD9 hS9
          rcases hp with ⟨hv9, e_ws9, g8_0⟩ | ⟨hv9, e_ws9, g8_0⟩
          · cases hv9
            rw [e_ws9] at hP hD
            exact absurd g8_0 (by decide)
          · cases hv9
        · obtain ⟨E9, ws10, ce, hp, hce, hP9, -, hD9, hS9⟩ := gx_backT h0_8 hW_8 hQ_8 hL_8 hD hS hA
          clear hQ_8 h0_8 hL_8 hW_8 hP hD hS
          have hP := hP9
          have hD := hD9
          have hS := hS9
          clear hP9 hD9 hS9
          rcases hp with ⟨hv9, e_ws10, g8_0⟩ | ⟨hv9, e_ws10, g8_0⟩
          · cases hv9
          · cases hv9
            rw [e_ws10] at hP hD
            exact gx_pass hne hlocks hce hP hK hD hS (by decide) (by decide) (by rw [← hPQ]; exact Or.inr (Or.inl ⟨rfl, rfl, g1_0, g1_1, c8_3⟩))
    · cases hv9
    · cases hv9
  · obtain ⟨E9, ws11, ce, hp, hce, hP9, -, hD9, hS9⟩ := gx_backT h0_1 hW_1 hQ_1 hL_1 hD hS hA
    clear hQ_1 h0_1 hL_1 hW_1 hP hD hS
    have hP := hP9
    have hD := hD9
    have hS := hS9
    clear hP9 hD9 hS9
    rcases hp with ⟨hv9, e_ws11, g1_0, g1_1⟩ | ⟨hv9, e_ws11, g1_0⟩ | ⟨hv9, e_ws11, g1_0, g1_1⟩
    · cases hv9
    · cases hv9
      rw [e_ws11] at hP hD
      exact gx_pass hne hlocks hce hP hK hD hS (by decide) (by decide) (by rw [← hPQ]; exact Or.inr (Or.inr (Or.inl ⟨rfl, rfl, g1_0⟩)))
    · cases hv9
      rw [e_ws11] at hP hD
      exact gx_pass hne hlocks hce hP hK hD hS (by decide) (by decide) (by rw [← hPQ]; exact Or.inr (Or.inr (Or.inr (⟨rfl, rfl, g1_0, g1_1⟩))))

set_option maxHeartbeats 4000000 in
set_option maxRecDepth 100000 in
theorem c_Le_requireReader_v1 (l : Launch) (htr : l.stackTraces = false) (D : va_G) (tys : List (ClassId × FieldType)) (z sz : Nat) (ws : va_W) (cR : ClassId) (A0 : Nat) (p0 : Int32) (A1 : Nat) (A5 : Nat) (A8 : Nat) (A20 : Nat) (A25 : Nat) (A12 : Nat) (A16 : Nat) (A26 : Nat) (A31 : Nat) (A36 : Nat) (A41 : Nat) (A27 : Nat) (A32 : Nat) (A37 : Nat) (A42 : Nat) (f_0 : ws[0]? = some ((A0, Sum.inr (0, [Value.ref A1, Value.ref A5, Value.ref A8, Value.ref A20, Value.ref A25, Value.ref A12, Value.ref A16, Value.int 0, Value.int 0, Value.int 0, Value.int 16, Value.int 4, Value.int 0, Value.int 0, Value.int 0, Value.int 0, Value.int 0, Value.int (-1)])) : Nat × va_E)) (f_25 : ws[25]? = some ((A25, Sum.inl (cR, 4, Sum.inr (Sum.inr (Sum.inr (Sum.inr (va_up (va_up (va_up (va_up (fun _ => none) 0 (some A26)) 1 (some A31)) 2 (some A36)) 3 (some A41))))))) : Nat × va_E)) (f_26 : ws[26]? = some ((A26, Sum.inr (6, [Value.ref A27, Value.int 0, Value.int 0])) : Nat × va_E)) (f_31 : ws[31]? = some ((A31, Sum.inr (6, [Value.ref A32, Value.int 0, Value.int 0])) : Nat × va_E)) (f_36 : ws[36]? = some ((A36, Sum.inr (6, [Value.ref A37, Value.int 0, Value.int 0])) : Nat × va_E)) (f_41 : ws[41]? = some ((A41, Sum.inr (6, [Value.ref A42, Value.int 0, Value.int 0])) : Nat × va_E)) (ht4 : tys[4]? = some ((cR, FieldType.object "CommitLedger$Reader") : ClassId × FieldType)) : gx_Met l y_Le_requireReader [Cond.code y_Le_requireReader b_Le_requireReader 3 (some (.object "CommitLedger$Reader"))] { frames := 6, cells := 1, slots := 6, locals := 82 } (gx_P z sz D classes tys ws [Value.ref A0, Value.int p0]) (gx_Q D classes tys (va_A ws sz) (fun r ws' => (r = Sum.inr "java/util/NoSuchElementException" ∧ ws' = ws))) 1 6 (va_A ws sz) := by
  refine gx_ofW (cc := b_Le_requireReader) (maxL := 3) (ret := (some (.object "CommitLedger$Reader"))) (by decide) rfl ?_
  intro p e s m args below meth c s₁ B hml hv
  obtain ⟨rfl, hsz, hz, hP, hK, hD0, hY⟩ := hv
  have hx := B.exec
  have hb := B.bytes
  have hr := B.returns
  have hts := hY.hts (#[Value.ref A0, Value.int p0] : Array Value)
  have hown : s.vm.findClass "CommitLedger" = some m.cls := findClass_of_methodNamed B.named
  have hlocks := B.notSynchronized
  have hne : c.exceptionTable.isEmpty = true := B.noHandlers (atoms_spec (ws := [Cond.code y_Le_requireReader b_Le_requireReader 3 (some (.object "CommitLedger$Reader"))]) B.pre _ List.mem_cons_self)
  subst hsz
  have hAz := gx_az hD0 hz
  have hD := hD0.self (sz := s.heap.size)
  have hN := gx_ns hP
  have hA : ∀ q : Nat, s.heap.size ≤ q → va_A ws s.heap.size q := fun q h => Or.inr h
  generalize va_A ws s.heap.size = A at hD hN hA hAz ⊢
  generalize hPQ : (fun (r : Option Value ⊕ String) (ws' : va_W) => (r = Sum.inr "java/util/NoSuchElementException" ∧ ws' = ws)) = PQ
  have hS : va_S A s.heap s.heap [] := va_S.rf
  have hU : gx_g ws ws 0 [] := gx_g.rf
  have hl := lv_entry ([Value.ref A0, Value.int p0]) (n := 3) (Nat.le_of_ble_eq_true rfl)
  rw [lg_entry_eq]
  generalize (lg_sl ([Value.ref A0, Value.int p0]) ++ List.replicate (3 - (lg_sl ([Value.ref A0, Value.int p0])).length) Slot.unset).toArray = ls at hl ⊢
  have hl : lv_has ls 3 [(0, Value.ref A0), (1, Value.int p0)] := hl
  refine lv_iconst (v := 0) hx hb d_Le_requireReader_0 (by decide) ?_
  refine lv_istore_n (lv' := [(2, Value.int 0), (0, Value.ref A0), (1, Value.int p0)]) hx hb d_Le_requireReader_1 rfl hl (by decide) rfl (fun ls hl => ?_)
  refine lv_iload_n hx hb d_Le_requireReader_2 rfl (lv_at hl 0 rfl) ?_
  refine lv_iconst (v := 4) hx hb d_Le_requireReader_3 (by decide) ?_
  refine lv_icmp_ge (tgt := 45) hx hb d_Le_requireReader_4 (by decide) (fun c9 => absurd c9 (by decide)) (fun _ => ?_)
  refine lv_aload_n hx hb d_Le_requireReader_7 rfl (lv_at hl 1 rfl) ?_
  refine va_get (D := D) (ci := 0) (v := Value.ref A25) (C := "CommitLedger") (T := F_Le) (N := 18) hx hb hts i_Le hown hK hP 0 f_0 rfl 4 (by decide) (hts _ kf_Le_45) (fun _ h9 => h9) rfl d_Le_requireReader_8 ?_
  refine lv_iload_n hx hb d_Le_requireReader_11 rfl (lv_at hl 0 rfl) ?_
  refine gx_aald (D := D) (b := A26) (j := 0) hx hb hK hP 25 4 f_25 ht4 (gx_inl (by decide)) (by decide) (rfl) d_Le_requireReader_12 ?_
  refine va_get (D := D) (ci := 6) (v := Value.int 0) (C := "CommitLedger$Reader") (T := F_Re) (N := 3) hx hb hts i_Re hown hK hP 26 f_26 rfl 2 (by decide) (hts _ kf_Le_230) (fun _ h9 => h9) rfl d_Le_requireReader_13 ?_
  refine lv_if_eq (tgt := 39) hx hb d_Le_requireReader_16 (by decide) (fun _ => ?_) (fun c9 => absurd (by decide) c9)
  refine lv_iinc (v := 1) (lv' := [(2, Value.int 1), (0, Value.ref A0), (1, Value.int p0)]) hx hb d_Le_requireReader_39 hl (k := 0) rfl (by decide) (by decide) rfl (fun ls hl => ?_)
  refine lv_goto (tgt := 2) hx hb d_Le_requireReader_42 (by decide) ?_
  refine lv_iload_n hx hb d_Le_requireReader_2 rfl (lv_at hl 0 rfl) ?_
  refine lv_iconst (v := 4) hx hb d_Le_requireReader_3 (by decide) ?_
  refine lv_icmp_ge (tgt := 45) hx hb d_Le_requireReader_4 (by decide) (fun c9 => absurd c9 (by decide)) (fun _ => ?_)
  refine lv_aload_n hx hb d_Le_requireReader_7 rfl (lv_at hl 1 rfl) ?_
  refine va_get (D := D) (ci := 0) (v := Value.ref A25) (C := "CommitLedger") (T := F_Le) (N := 18) hx hb hts i_Le hown hK hP 0 f_0 rfl 4 (by decide) (hts _ kf_Le_45) (fun _ h9 => h9) rfl d_Le_requireReader_8 ?_
  refine lv_iload_n hx hb d_Le_requireReader_11 rfl (lv_at hl 0 rfl) ?_
  refine gx_aald (D := D) (b := A31) (j := 1) hx hb hK hP 25 4 f_25 ht4 (gx_inl (by decide)) (by decide) (rfl) d_Le_requireReader_12 ?_
  refine va_get (D := D) (ci := 6) (v := Value.int 0) (C := "CommitLedger$Reader") (T := F_Re) (N := 3) hx hb hts i_Re hown hK hP 31 f_31 rfl 2 (by decide) (hts _ kf_Le_230) (fun _ h9 => h9) rfl d_Le_requireReader_13 ?_
  refine lv_if_eq (tgt := 39) hx hb d_Le_requireReader_16 (by decide) (fun _ => ?_) (fun c9 => absurd (by decide) c9)
  refine lv_iinc (v := 2) (lv' := [(2, Value.int 2), (0, Value.ref A0), (1, Value.int p0)]) hx hb d_Le_requireReader_39 hl (k := 0) rfl (by decide) (by decide) rfl (fun ls hl => ?_)
  refine lv_goto (tgt := 2) hx hb d_Le_requireReader_42 (by decide) ?_
  refine lv_iload_n hx hb d_Le_requireReader_2 rfl (lv_at hl 0 rfl) ?_
  refine lv_iconst (v := 4) hx hb d_Le_requireReader_3 (by decide) ?_
  refine lv_icmp_ge (tgt := 45) hx hb d_Le_requireReader_4 (by decide) (fun c9 => absurd c9 (by decide)) (fun _ => ?_)
  refine lv_aload_n hx hb d_Le_requireReader_7 rfl (lv_at hl 1 rfl) ?_
  refine va_get (D := D) (ci := 0) (v := Value.ref A25) (C := "CommitLedger") (T := F_Le) (N := 18) hx hb hts i_Le hown hK hP 0 f_0 rfl 4 (by decide) (hts _ kf_Le_45) (fun _ h9 => h9) rfl d_Le_requireReader_8 ?_
  refine lv_iload_n hx hb d_Le_requireReader_11 rfl (lv_at hl 0 rfl) ?_
  refine gx_aald (D := D) (b := A36) (j := 2) hx hb hK hP 25 4 f_25 ht4 (gx_inl (by decide)) (by decide) (rfl) d_Le_requireReader_12 ?_
  refine va_get (D := D) (ci := 6) (v := Value.int 0) (C := "CommitLedger$Reader") (T := F_Re) (N := 3) hx hb hts i_Re hown hK hP 36 f_36 rfl 2 (by decide) (hts _ kf_Le_230) (fun _ h9 => h9) rfl d_Le_requireReader_13 ?_
  refine lv_if_eq (tgt := 39) hx hb d_Le_requireReader_16 (by decide) (fun _ => ?_) (fun c9 => absurd (by decide) c9)
  refine lv_iinc (v := 3) (lv' := [(2, Value.int 3), (0, Value.ref A0), (1, Value.int p0)]) hx hb d_Le_requireReader_39 hl (k := 0) rfl (by decide) (by decide) rfl (fun ls hl => ?_)
  refine lv_goto (tgt := 2) hx hb d_Le_requireReader_42 (by decide) ?_
  refine lv_iload_n hx hb d_Le_requireReader_2 rfl (lv_at hl 0 rfl) ?_
  refine lv_iconst (v := 4) hx hb d_Le_requireReader_3 (by decide) ?_
  refine lv_icmp_ge (tgt := 45) hx hb d_Le_requireReader_4 (by decide) (fun c9 => absurd c9 (by decide)) (fun _ => ?_)
  refine lv_aload_n hx hb d_Le_requireReader_7 rfl (lv_at hl 1 rfl) ?_
  refine va_get (D := D) (ci := 0) (v := Value.ref A25) (C := "CommitLedger") (T := F_Le) (N := 18) hx hb hts i_Le hown hK hP 0 f_0 rfl 4 (by decide) (hts _ kf_Le_45) (fun _ h9 => h9) rfl d_Le_requireReader_8 ?_
  refine lv_iload_n hx hb d_Le_requireReader_11 rfl (lv_at hl 0 rfl) ?_
  refine gx_aald (D := D) (b := A41) (j := 3) hx hb hK hP 25 4 f_25 ht4 (gx_inl (by decide)) (by decide) (rfl) d_Le_requireReader_12 ?_
  refine va_get (D := D) (ci := 6) (v := Value.int 0) (C := "CommitLedger$Reader") (T := F_Re) (N := 3) hx hb hts i_Re hown hK hP 41 f_41 rfl 2 (by decide) (hts _ kf_Le_230) (fun _ h9 => h9) rfl d_Le_requireReader_13 ?_
  refine lv_if_eq (tgt := 39) hx hb d_Le_requireReader_16 (by decide) (fun _ => ?_) (fun c9 => absurd (by decide) c9)
  refine lv_iinc (v := 4) (lv' := [(2, Value.int 4), (0, Value.ref A0), (1, Value.int p0)]) hx hb d_Le_requireReader_39 hl (k := 0) rfl (by decide) (by decide) rfl (fun ls hl => ?_)
  refine lv_goto (tgt := 2) hx hb d_Le_requireReader_42 (by decide) ?_
  refine lv_iload_n hx hb d_Le_requireReader_2 rfl (lv_at hl 0 rfl) ?_
  refine lv_iconst (v := 4) hx hb d_Le_requireReader_3 (by decide) ?_
  refine lv_icmp_ge (tgt := 45) hx hb d_Le_requireReader_4 (by decide) (fun _ => ?_) (fun c9 => absurd (by decide) c9)
  exact gx_thrw (D := D) (cl := classes) (tys := tys) (ws := ws) (i1 := 13) (b1 := prog_31_method_4_code) hx hb htr (hml.trans hl.1.symm) hown hts hne hlocks hP hK hD hS hA hN kk_Le_150 kX_NoSuchElementException kN_NoSuchElementException ks_Le_295 kT_Le_154 (by decide) (by decide +kernel) (by decide +kernel) (by decide +kernel) (by decide +kernel) d_Le_requireReader_45 d_Le_requireReader_48 d_Le_requireReader_49 d_Le_requireReader_52 d_Le_requireReader_55 (Nat.le_of_ble_eq_true rfl) (Nat.le_of_ble_eq_true rfl) (Nat.le_of_ble_eq_true rfl) (Nat.le_of_ble_eq_true rfl) (by decide) (by decide) (by rw [← hPQ]; exact ⟨rfl, rfl⟩)

set_option maxHeartbeats 4000000 in
set_option maxRecDepth 100000 in
theorem c_Le_release_v1 (l : Launch) (htr : l.stackTraces = false) (D : va_G) (tys : List (ClassId × FieldType)) (z sz : Nat) (ws : va_W) (cR : ClassId) (A0 : Nat) (p0 : Int32) (A1 : Nat) (A5 : Nat) (A8 : Nat) (A20 : Nat) (A25 : Nat) (A12 : Nat) (A16 : Nat) (A26 : Nat) (A31 : Nat) (A36 : Nat) (A41 : Nat) (A27 : Nat) (A32 : Nat) (A37 : Nat) (A42 : Nat) (f_0 : ws[0]? = some ((A0, Sum.inr (0, [Value.ref A1, Value.ref A5, Value.ref A8, Value.ref A20, Value.ref A25, Value.ref A12, Value.ref A16, Value.int 0, Value.int 0, Value.int 0, Value.int 16, Value.int 4, Value.int 0, Value.int 0, Value.int 0, Value.int 0, Value.int 0, Value.int (-1)])) : Nat × va_E)) (f_25 : ws[25]? = some ((A25, Sum.inl (cR, 4, Sum.inr (Sum.inr (Sum.inr (Sum.inr (va_up (va_up (va_up (va_up (fun _ => none) 0 (some A26)) 1 (some A31)) 2 (some A36)) 3 (some A41))))))) : Nat × va_E)) (f_26 : ws[26]? = some ((A26, Sum.inr (6, [Value.ref A27, Value.int 0, Value.int 0])) : Nat × va_E)) (f_31 : ws[31]? = some ((A31, Sum.inr (6, [Value.ref A32, Value.int 0, Value.int 0])) : Nat × va_E)) (f_36 : ws[36]? = some ((A36, Sum.inr (6, [Value.ref A37, Value.int 0, Value.int 0])) : Nat × va_E)) (f_41 : ws[41]? = some ((A41, Sum.inr (6, [Value.ref A42, Value.int 0, Value.int 0])) : Nat × va_E)) (ht4 : tys[4]? = some ((cR, FieldType.object "CommitLedger$Reader") : ClassId × FieldType)) : gx_Met l y_Le_release [Cond.code y_Le_release b_Le_release 2 none] { frames := 7, cells := 1, slots := 6, locals := 104 } (gx_P z sz D classes tys ws [Value.ref A0, Value.int p0]) (gx_Q D classes tys (va_A ws sz) (fun r ws' => (r = Sum.inr "java/util/NoSuchElementException" ∧ ws' = ws))) 1 6 (va_A ws sz) := by
  refine gx_ofW (cc := b_Le_release) (maxL := 2) (ret := none) (by decide) rfl ?_
  intro p e s m args below meth c s₁ B hml hv
  obtain ⟨rfl, hsz, hz, hP, hK, hD0, hY⟩ := hv
  have hx := B.exec
  have hb := B.bytes
  have hr := B.returns
  have hts := hY.hts (#[Value.ref A0, Value.int p0] : Array Value)
  have hown : s.vm.findClass "CommitLedger" = some m.cls := findClass_of_methodNamed B.named
  have hlocks := B.notSynchronized
  have hne : c.exceptionTable.isEmpty = true := B.noHandlers (atoms_spec (ws := [Cond.code y_Le_release b_Le_release 2 none]) B.pre _ List.mem_cons_self)
  subst hsz
  have hAz := gx_az hD0 hz
  have hD := hD0.self (sz := s.heap.size)
  have hN := gx_ns hP
  have hA : ∀ q : Nat, s.heap.size ≤ q → va_A ws s.heap.size q := fun q h => Or.inr h
  generalize va_A ws s.heap.size = A at hD hN hA hAz ⊢
  generalize hPQ : (fun (r : Option Value ⊕ String) (ws' : va_W) => (r = Sum.inr "java/util/NoSuchElementException" ∧ ws' = ws)) = PQ
  have hS : va_S A s.heap s.heap [] := va_S.rf
  have hU : gx_g ws ws 0 [] := gx_g.rf
  have hl := lv_entry ([Value.ref A0, Value.int p0]) (n := 2) (Nat.le_of_ble_eq_true rfl)
  rw [lg_entry_eq]
  generalize (lg_sl ([Value.ref A0, Value.int p0]) ++ List.replicate (2 - (lg_sl ([Value.ref A0, Value.int p0])).length) Slot.unset).toArray = ls at hl ⊢
  have hl : lv_has ls 2 [(0, Value.ref A0), (1, Value.int p0)] := hl
  refine lv_aload_n hx hb d_Le_release_0 rfl (lv_at hl 0 rfl) ?_
  refine lv_iload_n hx hb d_Le_release_1 rfl (lv_at hl 1 rfl) ?_
  refine gx_call (ig := .invokevirtual 226) (c_Le_requireReader_v1 l htr D tys z _ ws cR A0 p0 A1 A5 A8 A20 A25 A12 A16 A26 A31 A36 A41 A27 A32 A37 A42 f_0 f_25 f_26 f_31 f_36 f_41 ht4) (gx_invV (As := [Value.int p0]) (rest := []) hx hb hown hts km_Le_226 kI_Le_requireReader kV_Le_requireReader kc_Le_requireReader (by decide) (show (parseMethodDescriptor y_Le_requireReader.desc).map (fun d => d.parameters.length) = some 1 by decide +kernel) (gx_recv (ci := 0) hK hP rfl f_0) rfl rfl d_Le_release_2) (gx_cw (z := 0) hts kc_Le_requireReader kN_Le rfl rfl ⟨Nat.le_of_ble_eq_true rfl, Nat.le_of_ble_eq_true rfl⟩) hb hml gx_blind (gx_pre hz hP hK hD hY hS hAz [Value.ref A0, Value.int p0]) rfl hl.1 (lv_room (Nat.le_of_ble_eq_true rfl)) d_Le_release_2 ⟨Nat.le_of_ble_eq_true rfl, Nat.le_of_ble_eq_true rfl⟩ (fun v1 st1 t1 L1 h0_1 hW_1 hQ_1 hL_1 => ?_) (fun v1 st1 t1 L1 h0_1 hW_1 hQ_1 hL_1 => ?_)
  · obtain ⟨ws2, hp, hP9, -, hD9, hS9⟩ := gx_back h0_1 hW_1 hQ_1 hL_1 hD hS hA
    clear hQ_1 h0_1 hL_1 hW_1 hP hD hS
    have hP := hP9
    have hD := hD9
    have hS := hS9
    clear hP9 hD9 hS9
    rcases hp with ⟨hv9, e_ws2⟩
    cases hv9
  · obtain ⟨E9, ws3, ce, hp, hce, hP9, -, hD9, hS9⟩ := gx_backT h0_1 hW_1 hQ_1 hL_1 hD hS hA
    clear hQ_1 h0_1 hL_1 hW_1 hP hD hS
    have hP := hP9
    have hD := hD9
    have hS := hS9
    clear hP9 hD9 hS9
    rcases hp with ⟨hv9, e_ws3⟩
    cases hv9
    rw [e_ws3] at hP hD
    exact gx_pass hne hlocks hce hP hK hD hS (by decide) (by decide) (by rw [← hPQ]; exact ⟨rfl, rfl⟩)

set_option maxHeartbeats 4000000 in
set_option maxRecDepth 100000 in
theorem c_Le_value_v1 (l : Launch) (htr : l.stackTraces = false) (D : va_G) (tys : List (ClassId × FieldType)) (z sz : Nat) (ws : va_W) (cR : ClassId) (A0 : Nat) (p0 : Int32) (p1 : Int32) (A1 : Nat) (A5 : Nat) (A8 : Nat) (A20 : Nat) (A25 : Nat) (A12 : Nat) (A16 : Nat) (A26 : Nat) (A31 : Nat) (A36 : Nat) (A41 : Nat) (A27 : Nat) (A32 : Nat) (A37 : Nat) (A42 : Nat) (f_0 : ws[0]? = some ((A0, Sum.inr (0, [Value.ref A1, Value.ref A5, Value.ref A8, Value.ref A20, Value.ref A25, Value.ref A12, Value.ref A16, Value.int 0, Value.int 0, Value.int 0, Value.int 16, Value.int 4, Value.int 0, Value.int 0, Value.int 0, Value.int 0, Value.int 0, Value.int (-1)])) : Nat × va_E)) (f_25 : ws[25]? = some ((A25, Sum.inl (cR, 4, Sum.inr (Sum.inr (Sum.inr (Sum.inr (va_up (va_up (va_up (va_up (fun _ => none) 0 (some A26)) 1 (some A31)) 2 (some A36)) 3 (some A41))))))) : Nat × va_E)) (f_26 : ws[26]? = some ((A26, Sum.inr (6, [Value.ref A27, Value.int 0, Value.int 0])) : Nat × va_E)) (f_31 : ws[31]? = some ((A31, Sum.inr (6, [Value.ref A32, Value.int 0, Value.int 0])) : Nat × va_E)) (f_36 : ws[36]? = some ((A36, Sum.inr (6, [Value.ref A37, Value.int 0, Value.int 0])) : Nat × va_E)) (f_41 : ws[41]? = some ((A41, Sum.inr (6, [Value.ref A42, Value.int 0, Value.int 0])) : Nat × va_E)) (ht4 : tys[4]? = some ((cR, FieldType.object "CommitLedger$Reader") : ClassId × FieldType)) : gx_Met l y_Le_value [Cond.code y_Le_value b_Le_value 5 (some .int)] { frames := 7, cells := 1, slots := 6, locals := 104 } (gx_P z sz D classes tys ws [Value.ref A0, Value.int p0, Value.int p1]) (gx_Q D classes tys (va_A ws sz) (fun r ws' => (r = Sum.inr "java/util/NoSuchElementException" ∧ ws' = ws))) 1 6 (va_A ws sz) := by
  refine gx_ofW (cc := b_Le_value) (maxL := 5) (ret := (some .int)) (by decide) rfl ?_
  intro p e s m args below meth c s₁ B hml hv
  obtain ⟨rfl, hsz, hz, hP, hK, hD0, hY⟩ := hv
  have hx := B.exec
  have hb := B.bytes
  have hr := B.returns
  have hts := hY.hts (#[Value.ref A0, Value.int p0, Value.int p1] : Array Value)
  have hown : s.vm.findClass "CommitLedger" = some m.cls := findClass_of_methodNamed B.named
  have hlocks := B.notSynchronized
  have hne : c.exceptionTable.isEmpty = true := B.noHandlers (atoms_spec (ws := [Cond.code y_Le_value b_Le_value 5 (some .int)]) B.pre _ List.mem_cons_self)
  subst hsz
  have hAz := gx_az hD0 hz
  have hD := hD0.self (sz := s.heap.size)
  have hN := gx_ns hP
  have hA : ∀ q : Nat, s.heap.size ≤ q → va_A ws s.heap.size q := fun q h => Or.inr h
  generalize va_A ws s.heap.size = A at hD hN hA hAz ⊢
  generalize hPQ : (fun (r : Option Value ⊕ String) (ws' : va_W) => (r = Sum.inr "java/util/NoSuchElementException" ∧ ws' = ws)) = PQ
  have hS : va_S A s.heap s.heap [] := va_S.rf
  have hU : gx_g ws ws 0 [] := gx_g.rf
  have hl := lv_entry ([Value.ref A0, Value.int p0, Value.int p1]) (n := 5) (Nat.le_of_ble_eq_true rfl)
  rw [lg_entry_eq]
  generalize (lg_sl ([Value.ref A0, Value.int p0, Value.int p1]) ++ List.replicate (5 - (lg_sl ([Value.ref A0, Value.int p0, Value.int p1])).length) Slot.unset).toArray = ls at hl ⊢
  have hl : lv_has ls 5 [(0, Value.ref A0), (1, Value.int p0), (2, Value.int p1)] := hl
  refine lv_aload_n hx hb d_Le_value_0 rfl (lv_at hl 0 rfl) ?_
  refine lv_iload_n hx hb d_Le_value_1 rfl (lv_at hl 1 rfl) ?_
  refine gx_call (ig := .invokevirtual 226) (c_Le_requireReader_v1 l htr D tys z _ ws cR A0 p0 A1 A5 A8 A20 A25 A12 A16 A26 A31 A36 A41 A27 A32 A37 A42 f_0 f_25 f_26 f_31 f_36 f_41 ht4) (gx_invV (As := [Value.int p0]) (rest := []) hx hb hown hts km_Le_226 kI_Le_requireReader kV_Le_requireReader kc_Le_requireReader (by decide) (show (parseMethodDescriptor y_Le_requireReader.desc).map (fun d => d.parameters.length) = some 1 by decide +kernel) (gx_recv (ci := 0) hK hP rfl f_0) rfl rfl d_Le_value_2) (gx_cw (z := 0) hts kc_Le_requireReader kN_Le rfl rfl ⟨Nat.le_of_ble_eq_true rfl, Nat.le_of_ble_eq_true rfl⟩) hb hml gx_blind (gx_pre hz hP hK hD hY hS hAz [Value.ref A0, Value.int p0]) rfl hl.1 (lv_room (Nat.le_of_ble_eq_true rfl)) d_Le_value_2 ⟨Nat.le_of_ble_eq_true rfl, Nat.le_of_ble_eq_true rfl⟩ (fun v1 st1 t1 L1 h0_1 hW_1 hQ_1 hL_1 => ?_) (fun v1 st1 t1 L1 h0_1 hW_1 hQ_1 hL_1 => ?_)
  · obtain ⟨ws2, hp, hP9, -, hD9, hS9⟩ := gx_back h0_1 hW_1 hQ_1 hL_1 hD hS hA
    clear hQ_1 h0_1 hL_1 hW_1 hP hD hS
    have hP := hP9
    have hD := hD9
    have hS := hS9
    clear hP9 hD9 hS9
    rcases hp with ⟨hv9, e_ws2⟩
    cases hv9
  · obtain ⟨E9, ws3, ce, hp, hce, hP9, -, hD9, hS9⟩ := gx_backT h0_1 hW_1 hQ_1 hL_1 hD hS hA
    clear hQ_1 h0_1 hL_1 hW_1 hP hD hS
    have hP := hP9
    have hD := hD9
    have hS := hS9
    clear hP9 hD9 hS9
    rcases hp with ⟨hv9, e_ws3⟩
    cases hv9
    rw [e_ws3] at hP hD
    exact gx_pass hne hlocks hce hP hK hD hS (by decide) (by decide) (by rw [← hPQ]; exact ⟨rfl, rfl⟩)

set_option maxHeartbeats 4000000 in
set_option maxRecDepth 100000 in
theorem c_Le_many_v1 (l : Launch) (htr : l.stackTraces = false) (D : va_G) (tys : List (ClassId × FieldType)) (z sz : Nat) (ws : va_W) (cR : ClassId) (A0 : Nat) (p0 : Int32) (p1 : Int32) (A1 : Nat) (A5 : Nat) (A8 : Nat) (A20 : Nat) (A25 : Nat) (A12 : Nat) (A16 : Nat) (A26 : Nat) (A31 : Nat) (A36 : Nat) (A41 : Nat) (A27 : Nat) (A32 : Nat) (A37 : Nat) (A42 : Nat) (f_0 : ws[0]? = some ((A0, Sum.inr (0, [Value.ref A1, Value.ref A5, Value.ref A8, Value.ref A20, Value.ref A25, Value.ref A12, Value.ref A16, Value.int 0, Value.int 0, Value.int 0, Value.int 16, Value.int 4, Value.int 0, Value.int 0, Value.int 0, Value.int 0, Value.int 0, Value.int (-1)])) : Nat × va_E)) (f_25 : ws[25]? = some ((A25, Sum.inl (cR, 4, Sum.inr (Sum.inr (Sum.inr (Sum.inr (va_up (va_up (va_up (va_up (fun _ => none) 0 (some A26)) 1 (some A31)) 2 (some A36)) 3 (some A41))))))) : Nat × va_E)) (f_26 : ws[26]? = some ((A26, Sum.inr (6, [Value.ref A27, Value.int 0, Value.int 0])) : Nat × va_E)) (f_31 : ws[31]? = some ((A31, Sum.inr (6, [Value.ref A32, Value.int 0, Value.int 0])) : Nat × va_E)) (f_36 : ws[36]? = some ((A36, Sum.inr (6, [Value.ref A37, Value.int 0, Value.int 0])) : Nat × va_E)) (f_41 : ws[41]? = some ((A41, Sum.inr (6, [Value.ref A42, Value.int 0, Value.int 0])) : Nat × va_E)) (ht4 : tys[4]? = some ((cR, FieldType.object "CommitLedger$Reader") : ClassId × FieldType)) : gx_Met l y_Le_many [Cond.code y_Le_many b_Le_many 6 (some .int)] { frames := 7, cells := 1, slots := 6, locals := 104 } (gx_P z sz D classes tys ws [Value.ref A0, Value.int p0, Value.int p1]) (gx_Q D classes tys (va_A ws sz) (fun r ws' => (r = Sum.inr "java/util/NoSuchElementException" ∧ ws' = ws))) 1 6 (va_A ws sz) := by
  refine gx_ofW (cc := b_Le_many) (maxL := 6) (ret := (some .int)) (by decide) rfl ?_
  intro p e s m args below meth c s₁ B hml hv
  obtain ⟨rfl, hsz, hz, hP, hK, hD0, hY⟩ := hv
  have hx := B.exec
  have hb := B.bytes
  have hr := B.returns
  have hts := hY.hts (#[Value.ref A0, Value.int p0, Value.int p1] : Array Value)
  have hown : s.vm.findClass "CommitLedger" = some m.cls := findClass_of_methodNamed B.named
  have hlocks := B.notSynchronized
  have hne : c.exceptionTable.isEmpty = true := B.noHandlers (atoms_spec (ws := [Cond.code y_Le_many b_Le_many 6 (some .int)]) B.pre _ List.mem_cons_self)
  subst hsz
  have hAz := gx_az hD0 hz
  have hD := hD0.self (sz := s.heap.size)
  have hN := gx_ns hP
  have hA : ∀ q : Nat, s.heap.size ≤ q → va_A ws s.heap.size q := fun q h => Or.inr h
  generalize va_A ws s.heap.size = A at hD hN hA hAz ⊢
  generalize hPQ : (fun (r : Option Value ⊕ String) (ws' : va_W) => (r = Sum.inr "java/util/NoSuchElementException" ∧ ws' = ws)) = PQ
  have hS : va_S A s.heap s.heap [] := va_S.rf
  have hU : gx_g ws ws 0 [] := gx_g.rf
  have hl := lv_entry ([Value.ref A0, Value.int p0, Value.int p1]) (n := 6) (Nat.le_of_ble_eq_true rfl)
  rw [lg_entry_eq]
  generalize (lg_sl ([Value.ref A0, Value.int p0, Value.int p1]) ++ List.replicate (6 - (lg_sl ([Value.ref A0, Value.int p0, Value.int p1])).length) Slot.unset).toArray = ls at hl ⊢
  have hl : lv_has ls 6 [(0, Value.ref A0), (1, Value.int p0), (2, Value.int p1)] := hl
  refine lv_aload_n hx hb d_Le_many_0 rfl (lv_at hl 0 rfl) ?_
  refine lv_iload_n hx hb d_Le_many_1 rfl (lv_at hl 1 rfl) ?_
  refine gx_call (ig := .invokevirtual 226) (c_Le_requireReader_v1 l htr D tys z _ ws cR A0 p0 A1 A5 A8 A20 A25 A12 A16 A26 A31 A36 A41 A27 A32 A37 A42 f_0 f_25 f_26 f_31 f_36 f_41 ht4) (gx_invV (As := [Value.int p0]) (rest := []) hx hb hown hts km_Le_226 kI_Le_requireReader kV_Le_requireReader kc_Le_requireReader (by decide) (show (parseMethodDescriptor y_Le_requireReader.desc).map (fun d => d.parameters.length) = some 1 by decide +kernel) (gx_recv (ci := 0) hK hP rfl f_0) rfl rfl d_Le_many_2) (gx_cw (z := 0) hts kc_Le_requireReader kN_Le rfl rfl ⟨Nat.le_of_ble_eq_true rfl, Nat.le_of_ble_eq_true rfl⟩) hb hml gx_blind (gx_pre hz hP hK hD hY hS hAz [Value.ref A0, Value.int p0]) rfl hl.1 (lv_room (Nat.le_of_ble_eq_true rfl)) d_Le_many_2 ⟨Nat.le_of_ble_eq_true rfl, Nat.le_of_ble_eq_true rfl⟩ (fun v1 st1 t1 L1 h0_1 hW_1 hQ_1 hL_1 => ?_) (fun v1 st1 t1 L1 h0_1 hW_1 hQ_1 hL_1 => ?_)
  · obtain ⟨ws2, hp, hP9, -, hD9, hS9⟩ := gx_back h0_1 hW_1 hQ_1 hL_1 hD hS hA
    clear hQ_1 h0_1 hL_1 hW_1 hP hD hS
    have hP := hP9
    have hD := hD9
    have hS := hS9
    clear hP9 hD9 hS9
    rcases hp with ⟨hv9, e_ws2⟩
    cases hv9
  · obtain ⟨E9, ws3, ce, hp, hce, hP9, -, hD9, hS9⟩ := gx_backT h0_1 hW_1 hQ_1 hL_1 hD hS hA
    clear hQ_1 h0_1 hL_1 hW_1 hP hD hS
    have hP := hP9
    have hD := hD9
    have hS := hS9
    clear hP9 hD9 hS9
    rcases hp with ⟨hv9, e_ws3⟩
    cases hv9
    rw [e_ws3] at hP hD
    exact gx_pass hne hlocks hce hP hK hD hS (by decide) (by decide) (by rw [← hPQ]; exact ⟨rfl, rfl⟩)

set_option maxHeartbeats 4000000 in
set_option maxRecDepth 100000 in
theorem c_Le_serial_v1 (l : Launch) (htr : l.stackTraces = false) (D : va_G) (tys : List (ClassId × FieldType)) (z sz : Nat) (ws : va_W) (cR : ClassId) (A0 : Nat) (p0 : Int32) (p1 : Int32) (A1 : Nat) (A5 : Nat) (A8 : Nat) (A20 : Nat) (A25 : Nat) (A12 : Nat) (A16 : Nat) (A26 : Nat) (A31 : Nat) (A36 : Nat) (A41 : Nat) (A27 : Nat) (A32 : Nat) (A37 : Nat) (A42 : Nat) (f_0 : ws[0]? = some ((A0, Sum.inr (0, [Value.ref A1, Value.ref A5, Value.ref A8, Value.ref A20, Value.ref A25, Value.ref A12, Value.ref A16, Value.int 0, Value.int 0, Value.int 0, Value.int 16, Value.int 4, Value.int 0, Value.int 0, Value.int 0, Value.int 0, Value.int 0, Value.int (-1)])) : Nat × va_E)) (f_25 : ws[25]? = some ((A25, Sum.inl (cR, 4, Sum.inr (Sum.inr (Sum.inr (Sum.inr (va_up (va_up (va_up (va_up (fun _ => none) 0 (some A26)) 1 (some A31)) 2 (some A36)) 3 (some A41))))))) : Nat × va_E)) (f_26 : ws[26]? = some ((A26, Sum.inr (6, [Value.ref A27, Value.int 0, Value.int 0])) : Nat × va_E)) (f_31 : ws[31]? = some ((A31, Sum.inr (6, [Value.ref A32, Value.int 0, Value.int 0])) : Nat × va_E)) (f_36 : ws[36]? = some ((A36, Sum.inr (6, [Value.ref A37, Value.int 0, Value.int 0])) : Nat × va_E)) (f_41 : ws[41]? = some ((A41, Sum.inr (6, [Value.ref A42, Value.int 0, Value.int 0])) : Nat × va_E)) (ht4 : tys[4]? = some ((cR, FieldType.object "CommitLedger$Reader") : ClassId × FieldType)) : gx_Met l y_Le_serial [Cond.code y_Le_serial b_Le_serial 6 (some .int)] { frames := 7, cells := 1, slots := 6, locals := 104 } (gx_P z sz D classes tys ws [Value.ref A0, Value.int p0, Value.int p1]) (gx_Q D classes tys (va_A ws sz) (fun r ws' => (r = Sum.inr "java/util/NoSuchElementException" ∧ ws' = ws))) 1 6 (va_A ws sz) := by
  refine gx_ofW (cc := b_Le_serial) (maxL := 6) (ret := (some .int)) (by decide) rfl ?_
  intro p e s m args below meth c s₁ B hml hv
  obtain ⟨rfl, hsz, hz, hP, hK, hD0, hY⟩ := hv
  have hx := B.exec
  have hb := B.bytes
  have hr := B.returns
  have hts := hY.hts (#[Value.ref A0, Value.int p0, Value.int p1] : Array Value)
  have hown : s.vm.findClass "CommitLedger" = some m.cls := findClass_of_methodNamed B.named
  have hlocks := B.notSynchronized
  have hne : c.exceptionTable.isEmpty = true := B.noHandlers (atoms_spec (ws := [Cond.code y_Le_serial b_Le_serial 6 (some .int)]) B.pre _ List.mem_cons_self)
  subst hsz
  have hAz := gx_az hD0 hz
  have hD := hD0.self (sz := s.heap.size)
  have hN := gx_ns hP
  have hA : ∀ q : Nat, s.heap.size ≤ q → va_A ws s.heap.size q := fun q h => Or.inr h
  generalize va_A ws s.heap.size = A at hD hN hA hAz ⊢
  generalize hPQ : (fun (r : Option Value ⊕ String) (ws' : va_W) => (r = Sum.inr "java/util/NoSuchElementException" ∧ ws' = ws)) = PQ
  have hS : va_S A s.heap s.heap [] := va_S.rf
  have hU : gx_g ws ws 0 [] := gx_g.rf
  have hl := lv_entry ([Value.ref A0, Value.int p0, Value.int p1]) (n := 6) (Nat.le_of_ble_eq_true rfl)
  rw [lg_entry_eq]
  generalize (lg_sl ([Value.ref A0, Value.int p0, Value.int p1]) ++ List.replicate (6 - (lg_sl ([Value.ref A0, Value.int p0, Value.int p1])).length) Slot.unset).toArray = ls at hl ⊢
  have hl : lv_has ls 6 [(0, Value.ref A0), (1, Value.int p0), (2, Value.int p1)] := hl
  refine lv_aload_n hx hb d_Le_serial_0 rfl (lv_at hl 0 rfl) ?_
  refine lv_iload_n hx hb d_Le_serial_1 rfl (lv_at hl 1 rfl) ?_
  refine gx_call (ig := .invokevirtual 226) (c_Le_requireReader_v1 l htr D tys z _ ws cR A0 p0 A1 A5 A8 A20 A25 A12 A16 A26 A31 A36 A41 A27 A32 A37 A42 f_0 f_25 f_26 f_31 f_36 f_41 ht4) (gx_invV (As := [Value.int p0]) (rest := []) hx hb hown hts km_Le_226 kI_Le_requireReader kV_Le_requireReader kc_Le_requireReader (by decide) (show (parseMethodDescriptor y_Le_requireReader.desc).map (fun d => d.parameters.length) = some 1 by decide +kernel) (gx_recv (ci := 0) hK hP rfl f_0) rfl rfl d_Le_serial_2) (gx_cw (z := 0) hts kc_Le_requireReader kN_Le rfl rfl ⟨Nat.le_of_ble_eq_true rfl, Nat.le_of_ble_eq_true rfl⟩) hb hml gx_blind (gx_pre hz hP hK hD hY hS hAz [Value.ref A0, Value.int p0]) rfl hl.1 (lv_room (Nat.le_of_ble_eq_true rfl)) d_Le_serial_2 ⟨Nat.le_of_ble_eq_true rfl, Nat.le_of_ble_eq_true rfl⟩ (fun v1 st1 t1 L1 h0_1 hW_1 hQ_1 hL_1 => ?_) (fun v1 st1 t1 L1 h0_1 hW_1 hQ_1 hL_1 => ?_)
  · obtain ⟨ws2, hp, hP9, -, hD9, hS9⟩ := gx_back h0_1 hW_1 hQ_1 hL_1 hD hS hA
    clear hQ_1 h0_1 hL_1 hW_1 hP hD hS
    have hP := hP9
    have hD := hD9
    have hS := hS9
    clear hP9 hD9 hS9
    rcases hp with ⟨hv9, e_ws2⟩
    cases hv9
  · obtain ⟨E9, ws3, ce, hp, hce, hP9, -, hD9, hS9⟩ := gx_backT h0_1 hW_1 hQ_1 hL_1 hD hS hA
    clear hQ_1 h0_1 hL_1 hW_1 hP hD hS
    have hP := hP9
    have hD := hD9
    have hS := hS9
    clear hP9 hD9 hS9
    rcases hp with ⟨hv9, e_ws3⟩
    cases hv9
    rw [e_ws3] at hP hD
    exact gx_pass hne hlocks hce hP hK hD hS (by decide) (by decide) (by rw [← hPQ]; exact ⟨rfl, rfl⟩)

set_option maxHeartbeats 4000000 in
set_option maxRecDepth 100000 in
theorem c_Le_seen_v1 (l : Launch) (htr : l.stackTraces = false) (D : va_G) (tys : List (ClassId × FieldType)) (z sz : Nat) (ws : va_W) (cR : ClassId) (A0 : Nat) (p0 : Int32) (p1 : Int32) (A1 : Nat) (A5 : Nat) (A8 : Nat) (A20 : Nat) (A25 : Nat) (A12 : Nat) (A16 : Nat) (A26 : Nat) (A31 : Nat) (A36 : Nat) (A41 : Nat) (A27 : Nat) (A32 : Nat) (A37 : Nat) (A42 : Nat) (f_0 : ws[0]? = some ((A0, Sum.inr (0, [Value.ref A1, Value.ref A5, Value.ref A8, Value.ref A20, Value.ref A25, Value.ref A12, Value.ref A16, Value.int 0, Value.int 0, Value.int 0, Value.int 16, Value.int 4, Value.int 0, Value.int 0, Value.int 0, Value.int 0, Value.int 0, Value.int (-1)])) : Nat × va_E)) (f_25 : ws[25]? = some ((A25, Sum.inl (cR, 4, Sum.inr (Sum.inr (Sum.inr (Sum.inr (va_up (va_up (va_up (va_up (fun _ => none) 0 (some A26)) 1 (some A31)) 2 (some A36)) 3 (some A41))))))) : Nat × va_E)) (f_26 : ws[26]? = some ((A26, Sum.inr (6, [Value.ref A27, Value.int 0, Value.int 0])) : Nat × va_E)) (f_31 : ws[31]? = some ((A31, Sum.inr (6, [Value.ref A32, Value.int 0, Value.int 0])) : Nat × va_E)) (f_36 : ws[36]? = some ((A36, Sum.inr (6, [Value.ref A37, Value.int 0, Value.int 0])) : Nat × va_E)) (f_41 : ws[41]? = some ((A41, Sum.inr (6, [Value.ref A42, Value.int 0, Value.int 0])) : Nat × va_E)) (ht4 : tys[4]? = some ((cR, FieldType.object "CommitLedger$Reader") : ClassId × FieldType)) : gx_Met l y_Le_seen [Cond.code y_Le_seen b_Le_seen 4 (some .int)] { frames := 7, cells := 2, slots := 12, locals := 104 } (gx_P z sz D classes tys ws [Value.ref A0, Value.int p0, Value.int p1]) (gx_Q D classes tys (va_A ws sz) (fun r ws' => (r = Sum.inr "java/util/NoSuchElementException" ∧ ws' = ws ∧ ¬ p1 < 0 ∧ p1 ≤ 2) ∨ (r = Sum.inr "java/lang/IllegalArgumentException" ∧ ws' = ws ∧ p1 < 0) ∨ (r = Sum.inr "java/lang/IllegalArgumentException" ∧ ws' = ws ∧ ¬ p1 < 0 ∧ ¬ p1 ≤ 2))) 2 12 (va_A ws sz) := by
  refine gx_ofW (cc := b_Le_seen) (maxL := 4) (ret := (some .int)) (by decide) rfl ?_
  intro p e s m args below meth c s₁ B hml hv
  obtain ⟨rfl, hsz, hz, hP, hK, hD0, hY⟩ := hv
  have hx := B.exec
  have hb := B.bytes
  have hr := B.returns
  have hts := hY.hts (#[Value.ref A0, Value.int p0, Value.int p1] : Array Value)
  have hown : s.vm.findClass "CommitLedger" = some m.cls := findClass_of_methodNamed B.named
  have hlocks := B.notSynchronized
  have hne : c.exceptionTable.isEmpty = true := B.noHandlers (atoms_spec (ws := [Cond.code y_Le_seen b_Le_seen 4 (some .int)]) B.pre _ List.mem_cons_self)
  subst hsz
  have hAz := gx_az hD0 hz
  have hD := hD0.self (sz := s.heap.size)
  have hN := gx_ns hP
  have hA : ∀ q : Nat, s.heap.size ≤ q → va_A ws s.heap.size q := fun q h => Or.inr h
  generalize va_A ws s.heap.size = A at hD hN hA hAz ⊢
  generalize hPQ : (fun (r : Option Value ⊕ String) (ws' : va_W) => (r = Sum.inr "java/util/NoSuchElementException" ∧ ws' = ws ∧ ¬ p1 < 0 ∧ p1 ≤ 2) ∨ (r = Sum.inr "java/lang/IllegalArgumentException" ∧ ws' = ws ∧ p1 < 0) ∨ (r = Sum.inr "java/lang/IllegalArgumentException" ∧ ws' = ws ∧ ¬ p1 < 0 ∧ ¬ p1 ≤ 2)) = PQ
  have hS : va_S A s.heap s.heap [] := va_S.rf
  have hU : gx_g ws ws 0 [] := gx_g.rf
  have hl := lv_entry ([Value.ref A0, Value.int p0, Value.int p1]) (n := 4) (Nat.le_of_ble_eq_true rfl)
  rw [lg_entry_eq]
  generalize (lg_sl ([Value.ref A0, Value.int p0, Value.int p1]) ++ List.replicate (4 - (lg_sl ([Value.ref A0, Value.int p0, Value.int p1])).length) Slot.unset).toArray = ls at hl ⊢
  have hl : lv_has ls 4 [(0, Value.ref A0), (1, Value.int p0), (2, Value.int p1)] := hl
  refine lv_iload_n hx hb d_Le_seen_0 rfl (lv_at hl 2 rfl) ?_
  refine lv_iconst (v := 0) hx hb d_Le_seen_1 (by decide) ?_
  refine lv_iconst (v := 2) hx hb d_Le_seen_2 (by decide) ?_
  refine gx_call (ig := .invokestatic 60) (c_Le_requireRange l htr D tys z _ ws p1 0 2) (gx_invS (As := [Value.int p1, Value.int 0, Value.int 2]) (rest := []) hx hb hown hts km_Le_60 kS_Le_requireRange kN_Le kc_Le_requireRange (by decide) (show (parseMethodDescriptor y_Le_requireRange.desc).map (fun d => d.parameters.length) = some 3 by decide +kernel) rfl rfl d_Le_seen_3) (gx_cw (z := 0) hts kc_Le_requireRange kN_Le rfl rfl ⟨Nat.le_of_ble_eq_true rfl, Nat.le_of_ble_eq_true rfl⟩) hb hml gx_blind (gx_pre hz hP hK hD hY hS hAz [Value.int p1, Value.int 0, Value.int 2]) rfl hl.1 (lv_room (Nat.le_of_ble_eq_true rfl)) d_Le_seen_3 ⟨Nat.le_of_ble_eq_true rfl, Nat.le_of_ble_eq_true rfl⟩ (fun v1 st1 t1 L1 h0_1 hW_1 hQ_1 hL_1 => ?_) (fun v1 st1 t1 L1 h0_1 hW_1 hQ_1 hL_1 => ?_)
  · obtain ⟨ws2, hp, hP9, -, hD9, hS9⟩ := gx_back h0_1 hW_1 hQ_1 hL_1 hD hS hA
    clear hQ_1 h0_1 hL_1 hW_1 hP hD hS
    have hP := hP9
    have hD := hD9
    have hS := hS9
    clear hP9 hD9 hS9
    rcases hp with ⟨hv9, e_ws2, g1_0, g1_1⟩ | ⟨hv9, e_ws2, g1_0⟩ | ⟨hv9, e_ws2, g1_0, g1_1⟩
    · cases hv9
      rw [e_ws2] at hP hD
      refine W.eq (g2 := F0 m 6 ls []) rfl ?_
      refine W.widen (k := 1) (n := 6) (by decide) (by decide) ?_
      generalize t1.heap = H at hP hS ⊢
      generalize [] ++ L1 = locs at hS ⊢
      refine lv_aload_n hx hb d_Le_seen_6 rfl (lv_at hl 0 rfl) ?_
      refine lv_iload_n hx hb d_Le_seen_7 rfl (lv_at hl 1 rfl) ?_
      refine gx_call (ig := .invokevirtual 226) (c_Le_requireReader_v1 l htr D tys z _ ws cR A0 p0 A1 A5 A8 A20 A25 A12 A16 A26 A31 A36 A41 A27 A32 A37 A42 f_0 f_25 f_26 f_31 f_36 f_41 ht4) (gx_invV (As := [Value.int p0]) (rest := []) hx hb hown hts km_Le_226 kI_Le_requireReader kV_Le_requireReader kc_Le_requireReader (by decide) (show (parseMethodDescriptor y_Le_requireReader.desc).map (fun d => d.parameters.length) = some 1 by decide +kernel) (gx_recv (ci := 0) hK hP rfl f_0) rfl rfl d_Le_seen_8) (gx_cw (z := 0) hts kc_Le_requireReader kN_Le rfl rfl ⟨Nat.le_of_ble_eq_true rfl, Nat.le_of_ble_eq_true rfl⟩) hb hml gx_blind (gx_pre hz hP hK hD hY hS hAz [Value.ref A0, Value.int p0]) rfl hl.1 (lv_room (Nat.le_of_ble_eq_true rfl)) d_Le_seen_8 ⟨Nat.le_of_ble_eq_true rfl, Nat.le_of_ble_eq_true rfl⟩ (fun v3 st3 t3 L3 h0_3 hW_3 hQ_3 hL_3 => ?_) (fun v3 st3 t3 L3 h0_3 hW_3 hQ_3 hL_3 => ?_)
      · obtain ⟨ws4, hp, hP9, -, hD9, hS9⟩ := gx_back h0_3 hW_3 hQ_3 hL_3 hD hS hA
        clear hQ_3 h0_3 hL_3 hW_3 hP hD hS
        have hP := hP9
        have hD := hD9
        have hS := hS9
        clear hP9 hD9 hS9
        rcases hp with ⟨hv9, e_ws4⟩
        cases hv9
      · obtain ⟨E9, ws5, ce, hp, hce, hP9, -, hD9, hS9⟩ := gx_backT h0_3 hW_3 hQ_3 hL_3 hD hS hA
        clear hQ_3 h0_3 hL_3 hW_3 hP hD hS
        have hP := hP9
        have hD := hD9
        have hS := hS9
        clear hP9 hD9 hS9
        rcases hp with ⟨hv9, e_ws5⟩
        cases hv9
        rw [e_ws5] at hP hD
        exact gx_pass hne hlocks hce hP hK hD hS (by decide) (by decide) (by rw [← hPQ]; exact Or.inl ⟨rfl, rfl, g1_0, g1_1⟩)
    · cases hv9
    · cases hv9
  · obtain ⟨E9, ws6, ce, hp, hce, hP9, -, hD9, hS9⟩ := gx_backT h0_1 hW_1 hQ_1 hL_1 hD hS hA
    clear hQ_1 h0_1 hL_1 hW_1 hP hD hS
    have hP := hP9
    have hD := hD9
    have hS := hS9
    clear hP9 hD9 hS9
    rcases hp with ⟨hv9, e_ws6, g1_0, g1_1⟩ | ⟨hv9, e_ws6, g1_0⟩ | ⟨hv9, e_ws6, g1_0, g1_1⟩
    · cases hv9
    · cases hv9
      rw [e_ws6] at hP hD
      exact gx_pass hne hlocks hce hP hK hD hS (by decide) (by decide) (by rw [← hPQ]; exact Or.inr (Or.inl ⟨rfl, rfl, g1_0⟩))
    · cases hv9
      rw [e_ws6] at hP hD
      exact gx_pass hne hlocks hce hP hK hD hS (by decide) (by decide) (by rw [← hPQ]; exact Or.inr (Or.inr (⟨rfl, rfl, g1_0, g1_1⟩)))

set_option maxHeartbeats 4000000 in
set_option maxRecDepth 100000 in
theorem c_Le_segment_v1 (l : Launch) (htr : l.stackTraces = false) (D : va_G) (tys : List (ClassId × FieldType)) (z sz : Nat) (ws : va_W) (A0 : Nat) (p0 : Int32) (p1 : Int32) (A1 : Nat) (A5 : Nat) (A8 : Nat) (A20 : Nat) (A25 : Nat) (A12 : Nat) (A16 : Nat) (f_0 : ws[0]? = some ((A0, Sum.inr (0, [Value.ref A1, Value.ref A5, Value.ref A8, Value.ref A20, Value.ref A25, Value.ref A12, Value.ref A16, Value.int 0, Value.int 0, Value.int 0, Value.int 16, Value.int 4, Value.int 0, Value.int 0, Value.int 0, Value.int 0, Value.int 0, Value.int (-1)])) : Nat × va_E)) : gx_Met l y_Le_segment [Cond.code y_Le_segment b_Le_segment 4 (some .int)] { frames := 7, cells := 2, slots := 12, locals := 104 } (gx_P z sz D classes tys ws [Value.ref A0, Value.int p0, Value.int p1]) (gx_Q D classes tys (va_A ws sz) (fun r ws' => (r = Sum.inr "java/lang/IllegalStateException" ∧ ws' = ws ∧ ¬ p1 < 0 ∧ p1 ≤ 4) ∨ (r = Sum.inr "java/lang/IllegalArgumentException" ∧ ws' = ws ∧ p1 < 0) ∨ (r = Sum.inr "java/lang/IllegalArgumentException" ∧ ws' = ws ∧ ¬ p1 < 0 ∧ ¬ p1 ≤ 4))) 2 12 (va_A ws sz) := by
  refine gx_ofW (cc := b_Le_segment) (maxL := 4) (ret := (some .int)) (by decide) rfl ?_
  intro p e s m args below meth c s₁ B hml hv
  obtain ⟨rfl, hsz, hz, hP, hK, hD0, hY⟩ := hv
  have hx := B.exec
  have hb := B.bytes
  have hr := B.returns
  have hts := hY.hts (#[Value.ref A0, Value.int p0, Value.int p1] : Array Value)
  have hown : s.vm.findClass "CommitLedger" = some m.cls := findClass_of_methodNamed B.named
  have hlocks := B.notSynchronized
  have hne : c.exceptionTable.isEmpty = true := B.noHandlers (atoms_spec (ws := [Cond.code y_Le_segment b_Le_segment 4 (some .int)]) B.pre _ List.mem_cons_self)
  subst hsz
  have hAz := gx_az hD0 hz
  have hD := hD0.self (sz := s.heap.size)
  have hN := gx_ns hP
  have hA : ∀ q : Nat, s.heap.size ≤ q → va_A ws s.heap.size q := fun q h => Or.inr h
  generalize va_A ws s.heap.size = A at hD hN hA hAz ⊢
  generalize hPQ : (fun (r : Option Value ⊕ String) (ws' : va_W) => (r = Sum.inr "java/lang/IllegalStateException" ∧ ws' = ws ∧ ¬ p1 < 0 ∧ p1 ≤ 4) ∨ (r = Sum.inr "java/lang/IllegalArgumentException" ∧ ws' = ws ∧ p1 < 0) ∨ (r = Sum.inr "java/lang/IllegalArgumentException" ∧ ws' = ws ∧ ¬ p1 < 0 ∧ ¬ p1 ≤ 4)) = PQ
  have hS : va_S A s.heap s.heap [] := va_S.rf
  have hU : gx_g ws ws 0 [] := gx_g.rf
  have hl := lv_entry ([Value.ref A0, Value.int p0, Value.int p1]) (n := 4) (Nat.le_of_ble_eq_true rfl)
  rw [lg_entry_eq]
  generalize (lg_sl ([Value.ref A0, Value.int p0, Value.int p1]) ++ List.replicate (4 - (lg_sl ([Value.ref A0, Value.int p0, Value.int p1])).length) Slot.unset).toArray = ls at hl ⊢
  have hl : lv_has ls 4 [(0, Value.ref A0), (1, Value.int p0), (2, Value.int p1)] := hl
  refine lv_iload_n hx hb d_Le_segment_0 rfl (lv_at hl 2 rfl) ?_
  refine lv_iconst (v := 0) hx hb d_Le_segment_1 (by decide) ?_
  refine lv_iconst (v := 4) hx hb d_Le_segment_2 (by decide) ?_
  refine gx_call (ig := .invokestatic 60) (c_Le_requireRange l htr D tys z _ ws p1 0 4) (gx_invS (As := [Value.int p1, Value.int 0, Value.int 4]) (rest := []) hx hb hown hts km_Le_60 kS_Le_requireRange kN_Le kc_Le_requireRange (by decide) (show (parseMethodDescriptor y_Le_requireRange.desc).map (fun d => d.parameters.length) = some 3 by decide +kernel) rfl rfl d_Le_segment_3) (gx_cw (z := 0) hts kc_Le_requireRange kN_Le rfl rfl ⟨Nat.le_of_ble_eq_true rfl, Nat.le_of_ble_eq_true rfl⟩) hb hml gx_blind (gx_pre hz hP hK hD hY hS hAz [Value.int p1, Value.int 0, Value.int 4]) rfl hl.1 (lv_room (Nat.le_of_ble_eq_true rfl)) d_Le_segment_3 ⟨Nat.le_of_ble_eq_true rfl, Nat.le_of_ble_eq_true rfl⟩ (fun v1 st1 t1 L1 h0_1 hW_1 hQ_1 hL_1 => ?_) (fun v1 st1 t1 L1 h0_1 hW_1 hQ_1 hL_1 => ?_)
  · obtain ⟨ws2, hp, hP9, -, hD9, hS9⟩ := gx_back h0_1 hW_1 hQ_1 hL_1 hD hS hA
    clear hQ_1 h0_1 hL_1 hW_1 hP hD hS
    have hP := hP9
    have hD := hD9
    have hS := hS9
    clear hP9 hD9 hS9
    rcases hp with ⟨hv9, e_ws2, g1_0, g1_1⟩ | ⟨hv9, e_ws2, g1_0⟩ | ⟨hv9, e_ws2, g1_0, g1_1⟩
    · cases hv9
      rw [e_ws2] at hP hD
      refine W.eq (g2 := F0 m 6 ls []) rfl ?_
      refine W.widen (k := 1) (n := 6) (by decide) (by decide) ?_
      generalize t1.heap = H at hP hS ⊢
      generalize [] ++ L1 = locs at hS ⊢
      refine lv_aload_n hx hb d_Le_segment_6 rfl (lv_at hl 0 rfl) ?_
      refine gx_call (ig := .invokevirtual 112) (c_Le_requireWriter l htr D tys z _ ws A0 (Value.ref A1) (Value.ref A5) (Value.ref A8) (Value.ref A20) (Value.ref A25) (Value.ref A12) (Value.ref A16) 0 (Value.int 0) (Value.int 0) (Value.int 16) (Value.int 4) (Value.int 0) (Value.int 0) (Value.int 0) (Value.int 0) (Value.int 0) (Value.int (-1)) f_0) (gx_invV (As := []) (rest := []) hx hb hown hts km_Le_112 kI_Le_requireWriter kV_Le_requireWriter kc_Le_requireWriter (by decide) (show (parseMethodDescriptor y_Le_requireWriter.desc).map (fun d => d.parameters.length) = some 0 by decide +kernel) (gx_recv (ci := 0) hK hP rfl f_0) rfl rfl d_Le_segment_7) (gx_cw (z := 0) hts kc_Le_requireWriter kN_Le rfl rfl ⟨Nat.le_of_ble_eq_true rfl, Nat.le_of_ble_eq_true rfl⟩) hb hml gx_blind (gx_pre hz hP hK hD hY hS hAz [Value.ref A0]) rfl hl.1 (lv_room (Nat.le_of_ble_eq_true rfl)) d_Le_segment_7 ⟨Nat.le_of_ble_eq_true rfl, Nat.le_of_ble_eq_true rfl⟩ (fun v3 st3 t3 L3 h0_3 hW_3 hQ_3 hL_3 => ?_) (fun v3 st3 t3 L3 h0_3 hW_3 hQ_3 hL_3 => ?_)
      · obtain ⟨ws4, hp, hP9, -, hD9, hS9⟩ := gx_back h0_3 hW_3 hQ_3 hL_3 hD hS hA
        clear hQ_3 h0_3 hL_3 hW_3 hP hD hS
        have hP := hP9
        have hD := hD9
        have hS := hS9
        clear hP9 hD9 hS9
        rcases hp with ⟨hv9, e_ws4, g3_0⟩ | ⟨hv9, e_ws4, g3_0⟩
        · cases hv9
          rw [e_ws4] at hP hD
          exact absurd g3_0 (by decide)
        · cases hv9
      · obtain ⟨E9, ws5, ce, hp, hce, hP9, -, hD9, hS9⟩ := gx_backT h0_3 hW_3 hQ_3 hL_3 hD hS hA
        clear hQ_3 h0_3 hL_3 hW_3 hP hD hS
        have hP := hP9
        have hD := hD9
        have hS := hS9
        clear hP9 hD9 hS9
        rcases hp with ⟨hv9, e_ws5, g3_0⟩ | ⟨hv9, e_ws5, g3_0⟩
        · cases hv9
        · cases hv9
          rw [e_ws5] at hP hD
          exact gx_pass hne hlocks hce hP hK hD hS (by decide) (by decide) (by rw [← hPQ]; exact Or.inl ⟨rfl, rfl, g1_0, g1_1⟩)
    · cases hv9
    · cases hv9
  · obtain ⟨E9, ws6, ce, hp, hce, hP9, -, hD9, hS9⟩ := gx_backT h0_1 hW_1 hQ_1 hL_1 hD hS hA
    clear hQ_1 h0_1 hL_1 hW_1 hP hD hS
    have hP := hP9
    have hD := hD9
    have hS := hS9
    clear hP9 hD9 hS9
    rcases hp with ⟨hv9, e_ws6, g1_0, g1_1⟩ | ⟨hv9, e_ws6, g1_0⟩ | ⟨hv9, e_ws6, g1_0, g1_1⟩
    · cases hv9
    · cases hv9
      rw [e_ws6] at hP hD
      exact gx_pass hne hlocks hce hP hK hD hS (by decide) (by decide) (by rw [← hPQ]; exact Or.inr (Or.inl ⟨rfl, rfl, g1_0⟩))
    · cases hv9
      rw [e_ws6] at hP hD
      exact gx_pass hne hlocks hce hP hK hD hS (by decide) (by decide) (by rw [← hPQ]; exact Or.inr (Or.inr (⟨rfl, rfl, g1_0, g1_1⟩)))

set_option maxHeartbeats 4000000 in
set_option maxRecDepth 100000 in
theorem c_Le_countOfWriter_v1 (l : Launch) (htr : l.stackTraces = false) (D : va_G) (tys : List (ClassId × FieldType)) (z sz : Nat) (ws : va_W) (A0 : Nat) (p0 : Int32) (A1 : Nat) (A5 : Nat) (A8 : Nat) (A20 : Nat) (A25 : Nat) (A12 : Nat) (A16 : Nat) (f_0 : ws[0]? = some ((A0, Sum.inr (0, [Value.ref A1, Value.ref A5, Value.ref A8, Value.ref A20, Value.ref A25, Value.ref A12, Value.ref A16, Value.int 0, Value.int 0, Value.int 0, Value.int 16, Value.int 4, Value.int 0, Value.int 0, Value.int 0, Value.int 0, Value.int 0, Value.int (-1)])) : Nat × va_E)) : gx_Met l y_Le_countOfWriter [Cond.code y_Le_countOfWriter b_Le_countOfWriter 3 (some .int)] { frames := 1, cells := 0, slots := 0, locals := 12 } (gx_P z sz D classes tys ws [Value.ref A0, Value.int p0]) (gx_Q D classes tys (va_A ws sz) (fun r ws' => (r = Sum.inl (some (Value.int (-1))) ∧ ws' = ws ∧ p0 < 5) ∨ (r = Sum.inl (some (Value.int 0)) ∧ ws' = ws ∧ ¬ p0 < 5 ∧ p0 ≤ 11) ∨ (r = Sum.inl (some (Value.int (-1))) ∧ ws' = ws ∧ ¬ p0 < 5 ∧ ¬ p0 ≤ 11))) 0 0 (va_A ws sz) := by
  refine gx_ofW (cc := b_Le_countOfWriter) (maxL := 3) (ret := (some .int)) (by decide) rfl ?_
  intro p e s m args below meth c s₁ B hml hv
  obtain ⟨rfl, hsz, hz, hP, hK, hD0, hY⟩ := hv
  have hx := B.exec
  have hb := B.bytes
  have hr := B.returns
  have hts := hY.hts (#[Value.ref A0, Value.int p0] : Array Value)
  have hown : s.vm.findClass "CommitLedger" = some m.cls := findClass_of_methodNamed B.named
  have hlocks := B.notSynchronized
  have hne : c.exceptionTable.isEmpty = true := B.noHandlers (atoms_spec (ws := [Cond.code y_Le_countOfWriter b_Le_countOfWriter 3 (some .int)]) B.pre _ List.mem_cons_self)
  subst hsz
  have hAz := gx_az hD0 hz
  have hD := hD0.self (sz := s.heap.size)
  have hN := gx_ns hP
  have hA : ∀ q : Nat, s.heap.size ≤ q → va_A ws s.heap.size q := fun q h => Or.inr h
  generalize va_A ws s.heap.size = A at hD hN hA hAz ⊢
  generalize hPQ : (fun (r : Option Value ⊕ String) (ws' : va_W) => (r = Sum.inl (some (Value.int (-1))) ∧ ws' = ws ∧ p0 < 5) ∨ (r = Sum.inl (some (Value.int 0)) ∧ ws' = ws ∧ ¬ p0 < 5 ∧ p0 ≤ 11) ∨ (r = Sum.inl (some (Value.int (-1))) ∧ ws' = ws ∧ ¬ p0 < 5 ∧ ¬ p0 ≤ 11)) = PQ
  have hS : va_S A s.heap s.heap [] := va_S.rf
  have hU : gx_g ws ws 0 [] := gx_g.rf
  have hl := lv_entry ([Value.ref A0, Value.int p0]) (n := 3) (Nat.le_of_ble_eq_true rfl)
  rw [lg_entry_eq]
  generalize (lg_sl ([Value.ref A0, Value.int p0]) ++ List.replicate (3 - (lg_sl ([Value.ref A0, Value.int p0])).length) Slot.unset).toArray = ls at hl ⊢
  have hl : lv_has ls 3 [(0, Value.ref A0), (1, Value.int p0)] := hl
  refine lv_iload_n hx hb d_Le_countOfWriter_0 rfl (lv_at hl 1 rfl) ?_
  refine lv_iconst (v := 5) hx hb d_Le_countOfWriter_1 (by decide) ?_
  refine lv_icmp_lt (tgt := 11) hx hb d_Le_countOfWriter_2 (by decide) (fun c2_1 => ?_) (fun c2_1 => ?_)
  · refine lv_iconst (v := (-1)) hx hb d_Le_countOfWriter_11 (by decide) ?_
    exact gx_ret (W.iret (v := (-1)) hx hb hr (gx_post hP hK hD hS (by rw [← hPQ]; exact Or.inl ⟨rfl, rfl, c2_1⟩)) hS.2.2 d_Le_countOfWriter_12)
  · refine lv_iload_n hx hb d_Le_countOfWriter_5 rfl (lv_at hl 1 rfl) ?_
    refine lv_bipush (v := 11) hx hb d_Le_countOfWriter_6 (by decide) ?_
    refine lv_icmp_le (tgt := 13) hx hb d_Le_countOfWriter_8 (by decide) (fun c8_2 => ?_) (fun c8_2 => ?_)
    · refine lv_aload_n hx hb d_Le_countOfWriter_13 rfl (lv_at hl 0 rfl) ?_
      refine va_get (D := D) (ci := 0) (v := Value.int 0) (C := "CommitLedger") (T := F_Le) (N := 18) hx hb hts i_Le hown hK hP 0 f_0 rfl 7 (by decide) (hts _ kf_Le_64) (fun _ h9 => h9) rfl d_Le_countOfWriter_14 ?_
      refine lv_if_ne (tgt := 22) hx hb d_Le_countOfWriter_17 (by decide) (fun c9 => absurd (by decide) c9) (fun _ => ?_)
      refine lv_iconst (v := 0) hx hb d_Le_countOfWriter_20 (by decide) ?_
      exact gx_ret (W.iret (v := 0) hx hb hr (gx_post hP hK hD hS (by rw [← hPQ]; exact Or.inr (Or.inl ⟨rfl, rfl, c2_1, c8_2⟩))) hS.2.2 d_Le_countOfWriter_21)
    · refine lv_iconst (v := (-1)) hx hb d_Le_countOfWriter_11 (by decide) ?_
      exact gx_ret (W.iret (v := (-1)) hx hb hr (gx_post hP hK hD hS (by rw [← hPQ]; exact Or.inr (Or.inr (⟨rfl, rfl, c2_1, c8_2⟩)))) hS.2.2 d_Le_countOfWriter_12)

set_option maxHeartbeats 4000000 in
set_option maxRecDepth 100000 in
theorem c_Le_count_v1 (l : Launch) (htr : l.stackTraces = false) (D : va_G) (tys : List (ClassId × FieldType)) (z sz : Nat) (ws : va_W) (cR : ClassId) (A0 : Nat) (p0 : Int32) (A1 : Nat) (A5 : Nat) (A8 : Nat) (A20 : Nat) (A25 : Nat) (A12 : Nat) (A16 : Nat) (A6 : Nat) (A7 : Nat) (u0 : Value) (A26 : Nat) (A31 : Nat) (A36 : Nat) (A41 : Nat) (A27 : Nat) (A32 : Nat) (A37 : Nat) (A42 : Nat) (f_0 : ws[0]? = some ((A0, Sum.inr (0, [Value.ref A1, Value.ref A5, Value.ref A8, Value.ref A20, Value.ref A25, Value.ref A12, Value.ref A16, Value.int 0, Value.int 0, Value.int 0, Value.int 16, Value.int 4, Value.int 0, Value.int 0, Value.int 0, Value.int 0, Value.int 0, Value.int (-1)])) : Nat × va_E)) (f_5 : ws[5]? = some ((A5, Sum.inr (2, [Value.ref A6, Value.ref A7, Value.int 0, Value.int 0])) : Nat × va_E)) (f_6 : ws[6]? = some ((A6, Sum.inr (3, [u0, Value.int 0, Value.int 0])) : Nat × va_E)) (f_25 : ws[25]? = some ((A25, Sum.inl (cR, 4, Sum.inr (Sum.inr (Sum.inr (Sum.inr (va_up (va_up (va_up (va_up (fun _ => none) 0 (some A26)) 1 (some A31)) 2 (some A36)) 3 (some A41))))))) : Nat × va_E)) (f_26 : ws[26]? = some ((A26, Sum.inr (6, [Value.ref A27, Value.int 0, Value.int 0])) : Nat × va_E)) (f_31 : ws[31]? = some ((A31, Sum.inr (6, [Value.ref A32, Value.int 0, Value.int 0])) : Nat × va_E)) (f_36 : ws[36]? = some ((A36, Sum.inr (6, [Value.ref A37, Value.int 0, Value.int 0])) : Nat × va_E)) (f_41 : ws[41]? = some ((A41, Sum.inr (6, [Value.ref A42, Value.int 0, Value.int 0])) : Nat × va_E)) (ht4 : tys[4]? = some ((cR, FieldType.object "CommitLedger$Reader") : ClassId × FieldType)) : gx_Met l y_Le_count [Cond.code y_Le_count b_Le_count 2 (some .int)] { frames := 2, cells := 0, slots := 0, locals := 34 } (gx_P z sz D classes tys ws [Value.ref A0, Value.int p0]) (gx_Q D classes tys (va_A ws sz) (fun r ws' => (r = Sum.inl (some (Value.int 0)) ∧ ws' = ws ∧ p0 = 0) ∨ (r = Sum.inl (some (Value.int 0)) ∧ ws' = ws ∧ ¬ p0 = 0 ∧ p0 = 1) ∨ (r = Sum.inl (some (Value.int 0)) ∧ ws' = ws ∧ ¬ p0 = 0 ∧ ¬ p0 = 1 ∧ p0 = 2) ∨ (r = Sum.inl (some (Value.int 0)) ∧ ws' = ws ∧ ¬ p0 = 0 ∧ ¬ p0 = 1 ∧ ¬ p0 = 2 ∧ p0 = 3) ∨ (r = Sum.inl (some (Value.int 0)) ∧ ws' = ws ∧ ¬ p0 = 0 ∧ ¬ p0 = 1 ∧ ¬ p0 = 2 ∧ ¬ p0 = 3 ∧ p0 = 4) ∨ (r = Sum.inl (some (Value.int (-1))) ∧ ws' = ws ∧ ¬ p0 = 0 ∧ ¬ p0 = 1 ∧ ¬ p0 = 2 ∧ ¬ p0 = 3 ∧ ¬ p0 = 4 ∧ p0 < 5) ∨ (r = Sum.inl (some (Value.int 0)) ∧ ws' = ws ∧ ¬ p0 = 0 ∧ ¬ p0 = 1 ∧ ¬ p0 = 2 ∧ ¬ p0 = 3 ∧ ¬ p0 = 4 ∧ ¬ p0 < 5 ∧ p0 ≤ 11) ∨ (r = Sum.inl (some (Value.int (-1))) ∧ ws' = ws ∧ ¬ p0 = 0 ∧ ¬ p0 = 1 ∧ ¬ p0 = 2 ∧ ¬ p0 = 3 ∧ ¬ p0 = 4 ∧ ¬ p0 < 5 ∧ ¬ p0 ≤ 11))) 0 0 (va_A ws sz) := by
  refine gx_ofW (cc := b_Le_count) (maxL := 2) (ret := (some .int)) (by decide) rfl ?_
  intro p e s m args below meth c s₁ B hml hv
  obtain ⟨rfl, hsz, hz, hP, hK, hD0, hY⟩ := hv
  have hx := B.exec
  have hb := B.bytes
  have hr := B.returns
  have hts := hY.hts (#[Value.ref A0, Value.int p0] : Array Value)
  have hown : s.vm.findClass "CommitLedger" = some m.cls := findClass_of_methodNamed B.named
  have hlocks := B.notSynchronized
  have hne : c.exceptionTable.isEmpty = true := B.noHandlers (atoms_spec (ws := [Cond.code y_Le_count b_Le_count 2 (some .int)]) B.pre _ List.mem_cons_self)
  subst hsz
  have hAz := gx_az hD0 hz
  have hD := hD0.self (sz := s.heap.size)
  have hN := gx_ns hP
  have hA : ∀ q : Nat, s.heap.size ≤ q → va_A ws s.heap.size q := fun q h => Or.inr h
  generalize va_A ws s.heap.size = A at hD hN hA hAz ⊢
  generalize hPQ : (fun (r : Option Value ⊕ String) (ws' : va_W) => (r = Sum.inl (some (Value.int 0)) ∧ ws' = ws ∧ p0 = 0) ∨ (r = Sum.inl (some (Value.int 0)) ∧ ws' = ws ∧ ¬ p0 = 0 ∧ p0 = 1) ∨ (r = Sum.inl (some (Value.int 0)) ∧ ws' = ws ∧ ¬ p0 = 0 ∧ ¬ p0 = 1 ∧ p0 = 2) ∨ (r = Sum.inl (some (Value.int 0)) ∧ ws' = ws ∧ ¬ p0 = 0 ∧ ¬ p0 = 1 ∧ ¬ p0 = 2 ∧ p0 = 3) ∨ (r = Sum.inl (some (Value.int 0)) ∧ ws' = ws ∧ ¬ p0 = 0 ∧ ¬ p0 = 1 ∧ ¬ p0 = 2 ∧ ¬ p0 = 3 ∧ p0 = 4) ∨ (r = Sum.inl (some (Value.int (-1))) ∧ ws' = ws ∧ ¬ p0 = 0 ∧ ¬ p0 = 1 ∧ ¬ p0 = 2 ∧ ¬ p0 = 3 ∧ ¬ p0 = 4 ∧ p0 < 5) ∨ (r = Sum.inl (some (Value.int 0)) ∧ ws' = ws ∧ ¬ p0 = 0 ∧ ¬ p0 = 1 ∧ ¬ p0 = 2 ∧ ¬ p0 = 3 ∧ ¬ p0 = 4 ∧ ¬ p0 < 5 ∧ p0 ≤ 11) ∨ (r = Sum.inl (some (Value.int (-1))) ∧ ws' = ws ∧ ¬ p0 = 0 ∧ ¬ p0 = 1 ∧ ¬ p0 = 2 ∧ ¬ p0 = 3 ∧ ¬ p0 = 4 ∧ ¬ p0 < 5 ∧ ¬ p0 ≤ 11)) = PQ
  have hS : va_S A s.heap s.heap [] := va_S.rf
  have hU : gx_g ws ws 0 [] := gx_g.rf
  have hl := lv_entry ([Value.ref A0, Value.int p0]) (n := 2) (Nat.le_of_ble_eq_true rfl)
  rw [lg_entry_eq]
  generalize (lg_sl ([Value.ref A0, Value.int p0]) ++ List.replicate (2 - (lg_sl ([Value.ref A0, Value.int p0])).length) Slot.unset).toArray = ls at hl ⊢
  have hl : lv_has ls 2 [(0, Value.ref A0), (1, Value.int p0)] := hl
  refine lv_iload_n hx hb d_Le_count_0 rfl (lv_at hl 1 rfl) ?_
  by_cases s1_0 : p0 = 0
  · refine gx_topi s1_0 ?_
    refine lv_tableIn (off := 35) (tgt := 36) hx hb d_Le_count_1 (by decide) (by decide) rfl (by decide) ?_
    refine lv_aload_n hx hb d_Le_count_36 rfl (lv_at hl 0 rfl) ?_
    refine va_get (D := D) (ci := 0) (v := Value.int 0) (C := "CommitLedger") (T := F_Le) (N := 18) hx hb hts i_Le hown hK hP 0 f_0 rfl 16 (by decide) (hts _ kf_Le_274) (fun _ h9 => h9) rfl d_Le_count_37 ?_
    exact gx_ret (W.iret (v := 0) hx hb hr (gx_post hP hK hD hS (by rw [← hPQ]; exact Or.inl ⟨rfl, rfl, s1_0⟩)) hS.2.2 d_Le_count_40)
  by_cases s1_1 : p0 = 1
  · refine gx_topi s1_1 ?_
    refine lv_tableIn (off := 40) (tgt := 41) hx hb d_Le_count_1 (by decide) (by decide) rfl (by decide) ?_
    refine lv_aload_n hx hb d_Le_count_41 rfl (lv_at hl 0 rfl) ?_
    refine va_get (D := D) (ci := 0) (v := Value.ref A5) (C := "CommitLedger") (T := F_Le) (N := 18) hx hb hts i_Le hown hK hP 0 f_0 rfl 1 (by decide) (hts _ kf_Le_19) (fun _ h9 => h9) rfl d_Le_count_42 ?_
    refine va_get (D := D) (ci := 2) (v := Value.ref A6) (C := "CommitLedger$Directory") (T := F_Di) (N := 4) hx hb hts i_Di hown hK hP 5 f_5 rfl 0 (by decide) (hts _ kf_Le_277) (fun _ h9 => h9) rfl d_Le_count_45 ?_
    refine gx_call (ig := .invokevirtual 281) (c_Al_size l htr D tys z _ ws A6 6 (u0) 0 0 f_6) (gx_invV (As := []) (rest := []) hx hb hown hts km_Le_281 kI_Al_size kV_Al_size kc_Al_size (by decide) (show (parseMethodDescriptor y_Al_size.desc).map (fun d => d.parameters.length) = some 0 by decide +kernel) (gx_recv (ci := 3) hK hP rfl f_6) rfl rfl d_Le_count_48) (gx_cw (z := 0) hts kc_Al_size kN_Al rfl rfl ⟨Nat.le_of_ble_eq_true rfl, Nat.le_of_ble_eq_true rfl⟩) hb hml gx_blind (gx_pre hz hP hK hD hY hS hAz [Value.ref A6]) rfl hl.1 (lv_room (Nat.le_of_ble_eq_true rfl)) d_Le_count_48 ⟨Nat.le_of_ble_eq_true rfl, Nat.le_of_ble_eq_true rfl⟩ (fun v2 st2 t2 L2 h0_2 hW_2 hQ_2 hL_2 => ?_) (fun v2 st2 t2 L2 h0_2 hW_2 hQ_2 hL_2 => ?_)
    · obtain ⟨ws3, hp, hP9, -, hD9, hS9⟩ := gx_back h0_2 hW_2 hQ_2 hL_2 hD hS hA
      clear hQ_2 h0_2 hL_2 hW_2 hP hD hS
      have hP := hP9
      have hD := hD9
      have hS := hS9
      clear hP9 hD9 hS9
      rcases hp with ⟨hv9, e_ws3⟩
      cases hv9
      rw [e_ws3] at hP hD
      refine W.eq (g2 := F0 m 51 ls [Value.int 0]) rfl ?_
      generalize t2.heap = H at hP hS ⊢
      generalize [] ++ L2 = locs at hS ⊢
      exact gx_ret (W.iret (v := 0) hx hb hr (gx_post hP hK hD hS (by rw [← hPQ]; exact Or.inr (Or.inl ⟨rfl, rfl, s1_0, s1_1⟩))) hS.2.2 d_Le_count_51)
    · obtain ⟨E9, ws4, ce, hp, hce, hP9, -, hD9, hS9⟩ := gx_backT h0_2 hW_2 hQ_2 hL_2 hD hS hA
      clear hQ_2 h0_2 hL_2 hW_2 hP hD hS
      have hP := hP9
      have hD := hD9
      have hS := hS9
      clear hP9 hD9 hS9
      rcases hp with ⟨hv9, e_ws4⟩
      cases hv9
  by_cases s1_2 : p0 = 2
  · refine gx_topi s1_2 ?_
    refine lv_tableIn (off := 51) (tgt := 52) hx hb d_Le_count_1 (by decide) (by decide) rfl (by decide) ?_
    refine lv_aload_n hx hb d_Le_count_52 rfl (lv_at hl 0 rfl) ?_
    refine gx_call (ig := .invokevirtual 196) (c_Le_openReaders_v1 l htr D tys z _ ws cR A0 A1 A5 A8 A20 A25 A12 A16 A26 A31 A36 A41 A27 A32 A37 A42 f_0 f_25 f_26 f_31 f_36 f_41 ht4) (gx_invV (As := []) (rest := []) hx hb hown hts km_Le_196 kI_Le_openReaders kV_Le_openReaders kc_Le_openReaders (by decide) (show (parseMethodDescriptor y_Le_openReaders.desc).map (fun d => d.parameters.length) = some 0 by decide +kernel) (gx_recv (ci := 0) hK hP rfl f_0) rfl rfl d_Le_count_53) (gx_cw (z := 0) hts kc_Le_openReaders kN_Le rfl rfl ⟨Nat.le_of_ble_eq_true rfl, Nat.le_of_ble_eq_true rfl⟩) hb hml gx_blind (gx_pre hz hP hK hD hY hS hAz [Value.ref A0]) rfl hl.1 (lv_room (Nat.le_of_ble_eq_true rfl)) d_Le_count_53 ⟨Nat.le_of_ble_eq_true rfl, Nat.le_of_ble_eq_true rfl⟩ (fun v5 st5 t5 L5 h0_5 hW_5 hQ_5 hL_5 => ?_) (fun v5 st5 t5 L5 h0_5 hW_5 hQ_5 hL_5 => ?_)
    · obtain ⟨ws6, hp, hP9, -, hD9, hS9⟩ := gx_back h0_5 hW_5 hQ_5 hL_5 hD hS hA
      clear hQ_5 h0_5 hL_5 hW_5 hP hD hS
      have hP := hP9
      have hD := hD9
      have hS := hS9
      clear hP9 hD9 hS9
      rcases hp with ⟨hv9, e_ws6⟩
      cases hv9
      rw [e_ws6] at hP hD
      refine W.eq (g2 := F0 m 56 ls [Value.int 0]) rfl ?_
      generalize t5.heap = H at hP hS ⊢
      generalize [] ++ L5 = locs at hS ⊢
      exact gx_ret (W.iret (v := 0) hx hb hr (gx_post hP hK hD hS (by rw [← hPQ]; exact Or.inr (Or.inr (Or.inl ⟨rfl, rfl, s1_0, s1_1, s1_2⟩)))) hS.2.2 d_Le_count_56)
    · obtain ⟨E9, ws7, ce, hp, hce, hP9, -, hD9, hS9⟩ := gx_backT h0_5 hW_5 hQ_5 hL_5 hD hS hA
      clear hQ_5 h0_5 hL_5 hW_5 hP hD hS
      have hP := hP9
      have hD := hD9
      have hS := hS9
      clear hP9 hD9 hS9
      rcases hp with ⟨hv9, e_ws7⟩
      cases hv9
  by_cases s1_3 : p0 = 3
  · refine gx_topi s1_3 ?_
    refine lv_tableIn (off := 56) (tgt := 57) hx hb d_Le_count_1 (by decide) (by decide) rfl (by decide) ?_
    refine lv_aload_n hx hb d_Le_count_57 rfl (lv_at hl 0 rfl) ?_
    refine va_get (D := D) (ci := 0) (v := Value.int 0) (C := "CommitLedger") (T := F_Le) (N := 18) hx hb hts i_Le hown hK hP 0 f_0 rfl 15 (by decide) (hts _ kf_Le_84) (fun _ h9 => h9) rfl d_Le_count_58 ?_
    exact gx_ret (W.iret (v := 0) hx hb hr (gx_post hP hK hD hS (by rw [← hPQ]; exact Or.inr (Or.inr (Or.inr (Or.inl ⟨rfl, rfl, s1_0, s1_1, s1_2, s1_3⟩))))) hS.2.2 d_Le_count_61)
  by_cases s1_4 : p0 = 4
  · refine gx_topi s1_4 ?_
    refine lv_tableIn (off := 61) (tgt := 62) hx hb d_Le_count_1 (by decide) (by decide) rfl (by decide) ?_
    refine lv_aload_n hx hb d_Le_count_62 rfl (lv_at hl 0 rfl) ?_
    refine va_get (D := D) (ci := 0) (v := Value.int 0) (C := "CommitLedger") (T := F_Le) (N := 18) hx hb hts i_Le hown hK hP 0 f_0 rfl 7 (by decide) (hts _ kf_Le_64) (fun _ h9 => h9) rfl d_Le_count_63 ?_
    refine lv_if_eq (tgt := 73) hx hb d_Le_count_66 (by decide) (fun _ => ?_) (fun c9 => absurd (by decide) c9)
    refine lv_iconst (v := 0) hx hb d_Le_count_73 (by decide) ?_
    exact gx_ret (W.iret (v := 0) hx hb hr (gx_post hP hK hD hS (by rw [← hPQ]; exact Or.inr (Or.inr (Or.inr (Or.inr (Or.inl ⟨rfl, rfl, s1_0, s1_1, s1_2, s1_3, s1_4⟩)))))) hS.2.2 d_Le_count_74)
  refine lv_tableOut (tgt := 75) hx hb d_Le_count_1 (by have e0 := lv_neT s1_0 (a := 0) (by decide); have e1 := lv_neT s1_1 (a := 1) (by decide); have e2 := lv_neT s1_2 (a := 2) (by decide); have e3 := lv_neT s1_3 (a := 3) (by decide); have e4 := lv_neT s1_4 (a := 4) (by decide); omega) (by decide) ?_
  refine lv_aload_n hx hb d_Le_count_75 rfl (lv_at hl 0 rfl) ?_
  refine lv_iload_n hx hb d_Le_count_76 rfl (lv_at hl 1 rfl) ?_
  refine gx_call (ig := .invokevirtual 285) (c_Le_countOfWriter_v1 l htr D tys z _ ws A0 p0 A1 A5 A8 A20 A25 A12 A16 f_0) (gx_invV (As := [Value.int p0]) (rest := []) hx hb hown hts km_Le_285 kI_Le_countOfWriter kV_Le_countOfWriter kc_Le_countOfWriter (by decide) (show (parseMethodDescriptor y_Le_countOfWriter.desc).map (fun d => d.parameters.length) = some 1 by decide +kernel) (gx_recv (ci := 0) hK hP rfl f_0) rfl rfl d_Le_count_77) (gx_cw (z := 0) hts kc_Le_countOfWriter kN_Le rfl rfl ⟨Nat.le_of_ble_eq_true rfl, Nat.le_of_ble_eq_true rfl⟩) hb hml gx_blind (gx_pre hz hP hK hD hY hS hAz [Value.ref A0, Value.int p0]) rfl hl.1 (lv_room (Nat.le_of_ble_eq_true rfl)) d_Le_count_77 ⟨Nat.le_of_ble_eq_true rfl, Nat.le_of_ble_eq_true rfl⟩ (fun v8 st8 t8 L8 h0_8 hW_8 hQ_8 hL_8 => ?_) (fun v8 st8 t8 L8 h0_8 hW_8 hQ_8 hL_8 => ?_)
  · obtain ⟨ws9, hp, hP9, -, hD9, hS9⟩ := gx_back h0_8 hW_8 hQ_8 hL_8 hD hS hA
    clear hQ_8 h0_8 hL_8 hW_8 hP hD hS
    have hP := hP9
    have hD := hD9
    have hS := hS9
    clear hP9 hD9 hS9
    rcases hp with ⟨hv9, e_ws9, g8_0⟩ | ⟨hv9, e_ws9, g8_0, g8_1⟩ | ⟨hv9, e_ws9, g8_0, g8_1⟩
    · cases hv9
      rw [e_ws9] at hP hD
      refine W.eq (g2 := F0 m 80 ls [Value.int (-1)]) rfl ?_
      generalize t8.heap = H at hP hS ⊢
      generalize [] ++ L8 = locs at hS ⊢
      exact gx_ret (W.iret (v := (-1)) hx hb hr (gx_post hP hK hD hS (by rw [← hPQ]; exact Or.inr (Or.inr (Or.inr (Or.inr (Or.inr (Or.inl ⟨rfl, rfl, s1_0, s1_1, s1_2, s1_3, s1_4, g8_0⟩))))))) hS.2.2 d_Le_count_80)
    · cases hv9
      rw [e_ws9] at hP hD
      refine W.eq (g2 := F0 m 80 ls [Value.int 0]) rfl ?_
      generalize t8.heap = H at hP hS ⊢
      generalize [] ++ L8 = locs at hS ⊢
      exact gx_ret (W.iret (v := 0) hx hb hr (gx_post hP hK hD hS (by rw [← hPQ]; exact Or.inr (Or.inr (Or.inr (Or.inr (Or.inr (Or.inr (Or.inl ⟨rfl, rfl, s1_0, s1_1, s1_2, s1_3, s1_4, g8_0, g8_1⟩)))))))) hS.2.2 d_Le_count_80)
    · cases hv9
      rw [e_ws9] at hP hD
      refine W.eq (g2 := F0 m 80 ls [Value.int (-1)]) rfl ?_
      generalize t8.heap = H at hP hS ⊢
      generalize [] ++ L8 = locs at hS ⊢
      exact gx_ret (W.iret (v := (-1)) hx hb hr (gx_post hP hK hD hS (by rw [← hPQ]; exact Or.inr (Or.inr (Or.inr (Or.inr (Or.inr (Or.inr (Or.inr (⟨rfl, rfl, s1_0, s1_1, s1_2, s1_3, s1_4, g8_0, g8_1⟩))))))))) hS.2.2 d_Le_count_80)
  · obtain ⟨E9, ws10, ce, hp, hce, hP9, -, hD9, hS9⟩ := gx_backT h0_8 hW_8 hQ_8 hL_8 hD hS hA
    clear hQ_8 h0_8 hL_8 hW_8 hP hD hS
    have hP := hP9
    have hD := hD9
    have hS := hS9
    clear hP9 hD9 hS9
    rcases hp with ⟨hv9, e_ws10, g8_0⟩ | ⟨hv9, e_ws10, g8_0, g8_1⟩ | ⟨hv9, e_ws10, g8_0, g8_1⟩
    · cases hv9
    · cases hv9
    · cases hv9
