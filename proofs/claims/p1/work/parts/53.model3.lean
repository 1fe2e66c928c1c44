/-! CONTRACTS of the reference on a new object, rows printed by an own text program -/
set_option maxHeartbeats 4000000 in
set_option maxRecDepth 100000 in
theorem c_Mo_release_v1 (l : Launch) (htr : l.stackTraces = false) (D : va_G) (tys : List (ClassId × FieldType)) (z sz : Nat) (ws : va_W) (cV : ClassId) (A46 : Nat) (p0 : Int32) (A47 : Nat) (A48 : Nat) (A49 : Nat) (A50 : Nat) (A51 : Nat) (A52 : Nat) (A53 : Nat) (A54 : Nat) (A62 : Nat) (A70 : Nat) (A78 : Nat) (A79 : Nat) (u0 : Value) (A80 : Nat) (A81 : Nat) (A82 : Nat) (A83 : Nat) (A84 : Nat) (A85 : Nat) (A86 : Nat) (A87 : Nat) (A88 : Nat) (A89 : Nat) (A90 : Nat) (A91 : Nat) (A92 : Nat) (A93 : Nat) (A94 : Nat) (A95 : Nat) (A96 : Nat) (A97 : Nat) (A98 : Nat) (A99 : Nat) (A100 : Nat) (A101 : Nat) (A102 : Nat) (A103 : Nat) (A104 : Nat) (A105 : Nat) (A106 : Nat) (A107 : Nat) (A108 : Nat) (A109 : Nat) (A110 : Nat) (A111 : Nat) (A112 : Nat) (A113 : Nat) (A114 : Nat) (A115 : Nat) (f_46 : ws[46]? = some ((A46, Sum.inr (8, [Value.int 0, Value.int 0, Value.ref A47, Value.ref A48, Value.ref A49, Value.int 0, Value.ref A50, Value.ref A51, Value.ref A52, Value.ref A53, Value.int 0, Value.int 0, Value.int 0, Value.int (-1), Value.int 0, Value.ref A54, Value.ref A62, Value.ref A70, Value.int 0, Value.int 0, Value.int 0, Value.ref A78, Value.ref A79, Value.int 0, Value.int 16, Value.int 4, u0, Value.ref A80, Value.ref A81, Value.ref A82, Value.int 0, Value.ref A83, Value.int 0, Value.int 0, Value.int 0])) : Nat × va_E)) (f_84 : ws[84]? = some ((A84, Sum.inr (9, [Value.ref A85, Value.ref A86, Value.ref A87, Value.ref A88, Value.ref A89, Value.ref A90, Value.ref A91, Value.int 0, Value.int 0, Value.int 0, Value.int 0])) : Nat × va_E)) (f_92 : ws[92]? = some ((A92, Sum.inr (9, [Value.ref A93, Value.ref A94, Value.ref A95, Value.ref A96, Value.ref A97, Value.ref A98, Value.ref A99, Value.int 0, Value.int 0, Value.int 0, Value.int 0])) : Nat × va_E)) (f_100 : ws[100]? = some ((A100, Sum.inr (9, [Value.ref A101, Value.ref A102, Value.ref A103, Value.ref A104, Value.ref A105, Value.ref A106, Value.ref A107, Value.int 0, Value.int 0, Value.int 0, Value.int 0])) : Nat × va_E)) (f_108 : ws[108]? = some ((A108, Sum.inr (9, [Value.ref A109, Value.ref A110, Value.ref A111, Value.ref A112, Value.ref A113, Value.ref A114, Value.ref A115, Value.int 0, Value.int 0, Value.int 0, Value.int 0])) : Nat × va_E)) (f_83 : ws[83]? = some ((A83, Sum.inl (cV, 4, Sum.inr (Sum.inr (Sum.inr (Sum.inr (va_up (va_up (va_up (va_up (fun _ => none) 0 (some A84)) 1 (some A92)) 2 (some A100)) 3 (some A108))))))) : Nat × va_E)) (ht5 : tys[5]? = some ((cV, FieldType.object "CommitLedgerModel$Version") : ClassId × FieldType)) : gx_Met l y_Mo_release [Cond.code y_Mo_release b_Mo_release 4 none] { frames := 4, cells := 0, slots := 0, locals := 80 } (gx_P z sz D classes tys ws [Value.ref A46, Value.int p0]) (gx_Q D classes tys (va_A ws sz) (fun r ws' => (r = Sum.inl none ∧ gx_g ws ws' 0 [46] ∧ ws'[46]? = some ((A46, Sum.inr (8, [Value.int 0, Value.int 1, Value.ref A47, Value.ref A48, Value.ref A49, Value.int 0, Value.ref A50, Value.ref A51, Value.ref A52, Value.ref A53, Value.int 0, Value.int 0, Value.int 0, Value.int (-1), Value.int 0, Value.ref A54, Value.ref A62, Value.ref A70, Value.int 0, Value.int 0, Value.int 0, Value.ref A78, Value.ref A79, Value.int 0, Value.int 16, Value.int 4, u0, Value.ref A80, Value.ref A81, Value.ref A82, Value.int 0, Value.ref A83, Value.int 0, Value.int 0, Value.int 0])) : Nat × va_E)))) 0 0 (va_A ws sz) := by
  refine gx_ofW (cc := b_Mo_release) (maxL := 4) (ret := none) (by decide) rfl ?_
  intro p e s m args below meth c s₁ B hml hv
  obtain ⟨rfl, hsz, hz, hP, hK, hD0, hY⟩ := hv
  have hx := B.exec
  have hb := B.bytes
  have hr := B.returns
  have hts := hY.hts (#[Value.ref A46, Value.int p0] : Array Value)
  have hown : s.vm.findClass "CommitLedgerModel" = some m.cls := findClass_of_methodNamed B.named
  have hlocks := B.notSynchronized
  have hne : c.exceptionTable.isEmpty = true := B.noHandlers (atoms_spec (ws := [Cond.code y_Mo_release b_Mo_release 4 none]) B.pre _ List.mem_cons_self)
  subst hsz
  have hAz := gx_az hD0 hz
  have hD := hD0.self (sz := s.heap.size)
  have hN := gx_ns hP
  have hA : ∀ q : Nat, s.heap.size ≤ q → va_A ws s.heap.size q := fun q h => Or.inr h
  generalize va_A ws s.heap.size = A at hD hN hA hAz ⊢
  generalize hPQ : (fun (r : Option Value ⊕ String) (ws' : va_W) => (r = Sum.inl none ∧ gx_g ws ws' 0 [46] ∧ ws'[46]? = some ((A46, Sum.inr (8, [Value.int 0, Value.int 1, Value.ref A47, Value.ref A48, Value.ref A49, Value.int 0, Value.ref A50, Value.ref A51, Value.ref A52, Value.ref A53, Value.int 0, Value.int 0, Value.int 0, Value.int (-1), Value.int 0, Value.ref A54, Value.ref A62, Value.ref A70, Value.int 0, Value.int 0, Value.int 0, Value.ref A78, Value.ref A79, Value.int 0, Value.int 16, Value.int 4, u0, Value.ref A80, Value.ref A81, Value.ref A82, Value.int 0, Value.ref A83, Value.int 0, Value.int 0, Value.int 0])) : Nat × va_E))) = PQ
  have hS : va_S A s.heap s.heap [] := va_S.rf
  have hU : gx_g ws ws 0 [46] := gx_g.rf
  have hl := lv_entry ([Value.ref A46, Value.int p0]) (n := 4) (Nat.le_of_ble_eq_true rfl)
  rw [lg_entry_eq]
  generalize (lg_sl ([Value.ref A46, Value.int p0]) ++ List.replicate (4 - (lg_sl ([Value.ref A46, Value.int p0])).length) Slot.unset).toArray = ls at hl ⊢
  have hl : lv_has ls 4 [(0, Value.ref A46), (1, Value.int p0)] := hl
  refine lv_aload_n hx hb d_Mo_release_0 rfl (lv_at hl 0 rfl) ?_
  refine lv_iload_n hx hb d_Mo_release_1 rfl (lv_at hl 1 rfl) ?_
  refine gx_call (ig := .invokevirtual 257) (c_Mo_reading_v1 l htr D tys z _ ws cV A46 p0 A47 A48 A49 A50 A51 A52 A53 A54 A62 A70 A78 A79 (u0) A80 A81 A82 A83 A84 A85 A86 A87 A88 A89 A90 A91 A92 A93 A94 A95 A96 A97 A98 A99 A100 A101 A102 A103 A104 A105 A106 A107 A108 A109 A110 A111 A112 A113 A114 A115 f_46 f_84 f_92 f_100 f_108 f_83 ht5) (gx_invV (As := [Value.int p0]) (rest := []) hx hb hown hts km_Mo_257 kI_Mo_reading kV_Mo_reading kc_Mo_reading (by decide) (show (parseMethodDescriptor y_Mo_reading.desc).map (fun d => d.parameters.length) = some 1 by decide +kernel) (gx_recv (ci := 8) hK hP rfl f_46) rfl rfl d_Mo_release_2) (gx_cw (z := 0) hts kc_Mo_reading kN_Mo rfl rfl ⟨Nat.le_of_ble_eq_true rfl, Nat.le_of_ble_eq_true rfl⟩) hb hml gx_blind (gx_pre hz hP hK hD hY hS hAz [Value.ref A46, Value.int p0]) rfl hl.1 (lv_room (Nat.le_of_ble_eq_true rfl)) d_Mo_release_2 ⟨Nat.le_of_ble_eq_true rfl, Nat.le_of_ble_eq_true rfl⟩ (fun v1 st1 t1 L1 h0_1 hW_1 hQ_1 hL_1 => ?_) (fun v1 st1 t1 L1 h0_1 hW_1 hQ_1 hL_1 => ?_)
  · obtain ⟨ws2, hp, hP9, -, hD9, hS9⟩ := gx_back h0_1 hW_1 hQ_1 hL_1 hD hS hA
    clear hQ_1 h0_1 hL_1 hW_1 hP hD hS
    have hP := hP9
    have hD := hD9
    have hS := hS9
    clear hP9 hD9 hS9
    rcases hp with ⟨hv9, e_ws2, f_46_ws2⟩
    cases hv9
    have f_46_ws2 : ws2[46]? = some ((A46, Sum.inr (8, [Value.int 3, Value.int 0, Value.ref A47, Value.ref A48, Value.ref A49, Value.int 0, Value.ref A50, Value.ref A51, Value.ref A52, Value.ref A53, Value.int 0, Value.int 0, Value.int 0, Value.int (-1), Value.int 0, Value.ref A54, Value.ref A62, Value.ref A70, Value.int 0, Value.int 0, Value.int 0, Value.ref A78, Value.ref A79, Value.int 0, Value.int 16, Value.int 4, u0, Value.ref A80, Value.ref A81, Value.ref A82, Value.int 0, Value.ref A83, Value.int 0, Value.int 0, Value.int 0])) : Nat × va_E) := f_46_ws2
    replace hU : gx_g ws ws2 0 [46] := hU.call e_ws2 (by simp; first | done | omega)
    refine W.eq (g2 := F0 m 5 ls [Value.ref A84]) rfl ?_
    generalize t1.heap = H at hP hS ⊢
    generalize [] ++ L1 = locs at hS ⊢
    refine lv_astore_n (lv' := [(2, Value.ref A84), (0, Value.ref A46), (1, Value.int p0)]) hx hb d_Mo_release_5 rfl hl (by decide) rfl (fun ls hl => ?_)
    refine lv_aload_n hx hb d_Mo_release_6 rfl (lv_at hl 1 rfl) ?_
    refine va_get (D := D) (ci := 8) (v := Value.int 3) (C := "CommitLedgerModel") (T := F_Mo) (N := 35) hx hb hts i_Mo hown hK hP 46 f_46_ws2 rfl 0 (by decide) (hts _ kf_Mo_84) (fun _ h9 => h9) rfl d_Mo_release_7 ?_
    refine lv_if_ne (tgt := 18) hx hb d_Mo_release_10 (by decide) (fun _ => ?_) (fun c9 => absurd c9 (by decide))
    refine lv_aload_n hx hb d_Mo_release_18 rfl (lv_at hl 1 rfl) ?_
    refine lv_iconst (v := 0) hx hb d_Mo_release_19 (by decide) ?_
    refine lv_iconst (v := 3) hx hb d_Mo_release_20 (by decide) ?_
    have f_84_ws2 : ws2[84]? = some ((A84, Sum.inr (9, [Value.ref A85, Value.ref A86, Value.ref A87, Value.ref A88, Value.ref A89, Value.ref A90, Value.ref A91, Value.int 0, Value.int 0, Value.int 0, Value.int 0])) : Nat × va_E) := e_ws2.at (by first | decide | (simp; done) | (simp; omega)) f_84
    clear f_84
    have f_92_ws2 : ws2[92]? = some ((A92, Sum.inr (9, [Value.ref A93, Value.ref A94, Value.ref A95, Value.ref A96, Value.ref A97, Value.ref A98, Value.ref A99, Value.int 0, Value.int 0, Value.int 0, Value.int 0])) : Nat × va_E) := e_ws2.at (by first | decide | (simp; done) | (simp; omega)) f_92
    clear f_92
    have f_100_ws2 : ws2[100]? = some ((A100, Sum.inr (9, [Value.ref A101, Value.ref A102, Value.ref A103, Value.ref A104, Value.ref A105, Value.ref A106, Value.ref A107, Value.int 0, Value.int 0, Value.int 0, Value.int 0])) : Nat × va_E) := e_ws2.at (by first | decide | (simp; done) | (simp; omega)) f_100
    clear f_100
    have f_108_ws2 : ws2[108]? = some ((A108, Sum.inr (9, [Value.ref A109, Value.ref A110, Value.ref A111, Value.ref A112, Value.ref A113, Value.ref A114, Value.ref A115, Value.int 0, Value.int 0, Value.int 0, Value.int 0])) : Nat × va_E) := e_ws2.at (by first | decide | (simp; done) | (simp; omega)) f_108
    clear f_108
    have f_83_ws2 : ws2[83]? = some ((A83, Sum.inl (cV, 4, Sum.inr (Sum.inr (Sum.inr (Sum.inr (va_up (va_up (va_up (va_up (fun _ => none) 0 (some A84)) 1 (some A92)) 2 (some A100)) 3 (some A108))))))) : Nat × va_E) := e_ws2.at (by first | decide | (simp; done) | (simp; omega)) f_83
    clear f_83
    refine gx_call (ig := .invokevirtual 175) (c_Mo_finished_v4 l htr D tys z _ ws2 cV A46 A47 A48 A49 A50 A51 A52 A53 A54 A62 A70 A78 A79 (u0) A80 A81 A82 A83 A84 A85 A86 A87 A88 A89 A90 A91 A92 A93 A94 A95 A96 A97 A98 A99 A100 A101 A102 A103 A104 A105 A106 A107 A108 A109 A110 A111 A112 A113 A114 A115 f_46_ws2 f_84_ws2 f_92_ws2 f_100_ws2 f_108_ws2 f_83_ws2 ht5) (gx_invV (As := [Value.int 0, Value.int 3]) (rest := []) hx hb hown hts km_Mo_175 kI_Mo_finished kV_Mo_finished kc_Mo_finished (by decide) (show (parseMethodDescriptor y_Mo_finished.desc).map (fun d => d.parameters.length) = some 2 by decide +kernel) (gx_recv (ci := 8) hK hP rfl f_46_ws2) rfl rfl d_Mo_release_21) (gx_cw (z := 0) hts kc_Mo_finished kN_Mo rfl rfl ⟨Nat.le_of_ble_eq_true rfl, Nat.le_of_ble_eq_true rfl⟩) hb hml gx_blind (gx_pre hz hP hK hD hY hS hAz [Value.ref A46, Value.int 0, Value.int 3]) rfl hl.1 (lv_room (Nat.le_of_ble_eq_true rfl)) d_Mo_release_21 ⟨Nat.le_of_ble_eq_true rfl, Nat.le_of_ble_eq_true rfl⟩ (fun v3 st3 t3 L3 h0_3 hW_3 hQ_3 hL_3 => ?_) (fun v3 st3 t3 L3 h0_3 hW_3 hQ_3 hL_3 => ?_)
    · obtain ⟨ws4, hp, hP9, -, hD9, hS9⟩ := gx_back h0_3 hW_3 hQ_3 hL_3 hD hS hA
      clear hQ_3 h0_3 hL_3 hW_3 hP hD hS
      have hP := hP9
      have hD := hD9
      have hS := hS9
      clear hP9 hD9 hS9
      rcases hp with ⟨hv9, e_ws4, f_46_ws4⟩
      cases hv9
      have f_46_ws4 : ws4[46]? = some ((A46, Sum.inr (8, [Value.int 0, Value.int 1, Value.ref A47, Value.ref A48, Value.ref A49, Value.int 0, Value.ref A50, Value.ref A51, Value.ref A52, Value.ref A53, Value.int 0, Value.int 0, Value.int 0, Value.int (-1), Value.int 0, Value.ref A54, Value.ref A62, Value.ref A70, Value.int 0, Value.int 0, Value.int 0, Value.ref A78, Value.ref A79, Value.int 0, Value.int 16, Value.int 4, u0, Value.ref A80, Value.ref A81, Value.ref A82, Value.int 0, Value.ref A83, Value.int 0, Value.int 0, Value.int 0])) : Nat × va_E) := f_46_ws4
      replace hU : gx_g ws ws4 0 [46] := hU.call e_ws4 (by simp; first | done | omega)
      refine W.eq (g2 := F0 m 24 ls [Value.int 0]) rfl ?_
      generalize t3.heap = H at hP hS ⊢
      generalize locs ++ L3 = locs at hS ⊢
      refine lv_istore_n (lv' := [(3, Value.int 0), (2, Value.ref A84), (0, Value.ref A46), (1, Value.int p0)]) hx hb d_Mo_release_24 rfl hl (by decide) rfl (fun ls hl => ?_)
      exact gx_ret (W.vret hx hb hr (gx_post hP hK hD hS (by rw [← hPQ]; exact ⟨rfl, hU, f_46_ws4⟩)) hS.2.2 d_Mo_release_25)
    · obtain ⟨E9, ws5, ce, hp, hce, hP9, -, hD9, hS9⟩ := gx_backT h0_3 hW_3 hQ_3 hL_3 hD hS hA
      clear hQ_3 h0_3 hL_3 hW_3 hP hD hS
      have hP := hP9
      have hD := hD9
      have hS := hS9
      clear hP9 hD9 hS9
      rcases hp with ⟨hv9, e_ws5, f_46_ws5⟩
      cases hv9
  · obtain ⟨E9, ws6, ce, hp, hce, hP9, -, hD9, hS9⟩ := gx_backT h0_1 hW_1 hQ_1 hL_1 hD hS hA
    clear hQ_1 h0_1 hL_1 hW_1 hP hD hS
    have hP := hP9
    have hD := hD9
    have hS := hS9
    clear hP9 hD9 hS9
    rcases hp with ⟨hv9, e_ws6, f_46_ws6⟩
    cases hv9

set_option maxHeartbeats 4000000 in
set_option maxRecDepth 100000 in
theorem c_Ve_docs_v1 (l : Launch) (htr : l.stackTraces = false) (D : va_G) (tys : List (ClassId × FieldType)) (z sz : Nat) (ws : va_W) (cI : ClassId) (A84 : Nat) (A85 : Nat) (A86 : Nat) (A87 : Nat) (A88 : Nat) (A89 : Nat) (A90 : Nat) (A91 : Nat) (f_84 : ws[84]? = some ((A84, Sum.inr (9, [Value.ref A85, Value.ref A86, Value.ref A87, Value.ref A88, Value.ref A89, Value.ref A90, Value.ref A91, Value.int 0, Value.int 0, Value.int 0, Value.int 0])) : Nat × va_E)) (f_87 : ws[87]? = some ((A87, Sum.inl (cI, 4098, Sum.inl (fun _ => 0))) : Nat × va_E)) (ht0 : tys[0]? = some ((cI, FieldType.int) : ClassId × FieldType)) : gx_Met l y_Ve_docs [Cond.code y_Ve_docs b_Ve_docs 1 (some .int)] { frames := 1, cells := 0, slots := 0, locals := 12 } (gx_P z sz D classes tys ws [Value.ref A84]) (gx_Q D classes tys (va_A ws sz) (fun r ws' => (r = Sum.inl (some (Value.int 0)) ∧ ws' = ws))) 0 0 (va_A ws sz) := by
  refine gx_ofW (cc := b_Ve_docs) (maxL := 1) (ret := (some .int)) (by decide) rfl ?_
  intro p e s m args below meth c s₁ B hml hv
  obtain ⟨rfl, hsz, hz, hP, hK, hD0, hY⟩ := hv
  have hx := B.exec
  have hb := B.bytes
  have hr := B.returns
  have hts := hY.hts (#[Value.ref A84] : Array Value)
  have hown : s.vm.findClass "CommitLedgerModel$Version" = some m.cls := findClass_of_methodNamed B.named
  have hlocks := B.notSynchronized
  have hne : c.exceptionTable.isEmpty = true := B.noHandlers (atoms_spec (ws := [Cond.code y_Ve_docs b_Ve_docs 1 (some .int)]) B.pre _ List.mem_cons_self)
  subst hsz
  have hAz := gx_az hD0 hz
  have hD := hD0.self (sz := s.heap.size)
  have hN := gx_ns hP
  have hA : ∀ q : Nat, s.heap.size ≤ q → va_A ws s.heap.size q := fun q h => Or.inr h
  generalize va_A ws s.heap.size = A at hD hN hA hAz ⊢
  generalize hPQ : (fun (r : Option Value ⊕ String) (ws' : va_W) => (r = Sum.inl (some (Value.int 0)) ∧ ws' = ws)) = PQ
  have hS : va_S A s.heap s.heap [] := va_S.rf
  have hU : gx_g ws ws 0 [] := gx_g.rf
  have hl := lv_entry ([Value.ref A84]) (n := 1) (Nat.le_of_ble_eq_true rfl)
  rw [lg_entry_eq]
  generalize (lg_sl ([Value.ref A84]) ++ List.replicate (1 - (lg_sl ([Value.ref A84])).length) Slot.unset).toArray = ls at hl ⊢
  have hl : lv_has ls 1 [(0, Value.ref A84)] := hl
  refine lv_aload_n hx hb d_Ve_docs_0 rfl (lv_at hl 0 rfl) ?_
  refine va_get (D := D) (ci := 9) (v := Value.ref A87) (C := "CommitLedgerModel$Version") (T := F_Ve) (N := 11) hx hb hts i_Ve hown hK hP 84 f_84 rfl 2 (by decide) (hts _ kf_Ve_18) (fun _ h9 => h9) rfl d_Ve_docs_1 ?_
  refine lv_aload_n hx hb d_Ve_docs_4 rfl (lv_at hl 0 rfl) ?_
  refine va_get (D := D) (ci := 9) (v := Value.int 0) (C := "CommitLedgerModel$Version") (T := F_Ve) (N := 11) hx hb hts i_Ve hown hK hP 84 f_84 rfl 7 (by decide) (hts _ kf_Ve_34) (fun _ h9 => h9) rfl d_Ve_docs_5 ?_
  refine gx_iald (D := D) (x := 0) (j := 0) hx hb hK hP 87 0 f_87 ht0 (gx_inl (by decide)) (by decide) (rfl) d_Ve_docs_8 ?_
  exact gx_ret (W.iret (v := 0) hx hb hr (gx_post hP hK hD hS (by rw [← hPQ]; exact ⟨rfl, rfl⟩)) hS.2.2 d_Ve_docs_9)

set_option maxHeartbeats 4000000 in
set_option maxRecDepth 100000 in
theorem c_Mo_wrong_v8 (l : Launch) (htr : l.stackTraces = false) (D : va_G) (tys : List (ClassId × FieldType)) (z sz : Nat) (ws : va_W) (A46 : Nat) (A47 : Nat) (A48 : Nat) (A49 : Nat) (A50 : Nat) (A51 : Nat) (A52 : Nat) (A53 : Nat) (A54 : Nat) (A62 : Nat) (A70 : Nat) (A78 : Nat) (A79 : Nat) (u0 : Value) (A80 : Nat) (A81 : Nat) (A82 : Nat) (A83 : Nat) (f_46 : ws[46]? = some ((A46, Sum.inr (8, [Value.int 3, Value.int 0, Value.ref A47, Value.ref A48, Value.ref A49, Value.int 0, Value.ref A50, Value.ref A51, Value.ref A52, Value.ref A53, Value.int 0, Value.int 0, Value.int 0, Value.int (-1), Value.int 0, Value.ref A54, Value.ref A62, Value.ref A70, Value.int 0, Value.int 0, Value.int 0, Value.ref A78, Value.ref A79, Value.int 0, Value.int 16, Value.int 4, u0, Value.ref A80, Value.ref A81, Value.ref A82, Value.int 0, Value.ref A83, Value.int 0, Value.int 0, Value.int 0])) : Nat × va_E)) : gx_Met l y_Mo_wrong [Cond.code y_Mo_wrong b_Mo_wrong 3 (some .boolean)] { frames := 1, cells := 0, slots := 0, locals := 12 } (gx_P z sz D classes tys ws [Value.ref A46, Value.int 1, Value.int 3]) (gx_Q D classes tys (va_A ws sz) (fun r ws' => (r = Sum.inl (some (Value.int 1)) ∧ ws' = ws))) 0 0 (va_A ws sz) := by
  refine gx_ofW (cc := b_Mo_wrong) (maxL := 3) (ret := (some .boolean)) (by decide) rfl ?_
  intro p e s m args below meth c s₁ B hml hv
  obtain ⟨rfl, hsz, hz, hP, hK, hD0, hY⟩ := hv
  have hx := B.exec
  have hb := B.bytes
  have hr := B.returns
  have hts := hY.hts (#[Value.ref A46, Value.int 1, Value.int 3] : Array Value)
  have hown : s.vm.findClass "CommitLedgerModel" = some m.cls := findClass_of_methodNamed B.named
  have hlocks := B.notSynchronized
  have hne : c.exceptionTable.isEmpty = true := B.noHandlers (atoms_spec (ws := [Cond.code y_Mo_wrong b_Mo_wrong 3 (some .boolean)]) B.pre _ List.mem_cons_self)
  subst hsz
  have hAz := gx_az hD0 hz
  have hD := hD0.self (sz := s.heap.size)
  have hN := gx_ns hP
  have hA : ∀ q : Nat, s.heap.size ≤ q → va_A ws s.heap.size q := fun q h => Or.inr h
  generalize va_A ws s.heap.size = A at hD hN hA hAz ⊢
  generalize hPQ : (fun (r : Option Value ⊕ String) (ws' : va_W) => (r = Sum.inl (some (Value.int 1)) ∧ ws' = ws)) = PQ
  have hS : va_S A s.heap s.heap [] := va_S.rf
  have hU : gx_g ws ws 0 [] := gx_g.rf
  have hl := lv_entry ([Value.ref A46, Value.int 1, Value.int 3]) (n := 3) (Nat.le_of_ble_eq_true rfl)
  rw [lg_entry_eq]
  generalize (lg_sl ([Value.ref A46, Value.int 1, Value.int 3]) ++ List.replicate (3 - (lg_sl ([Value.ref A46, Value.int 1, Value.int 3])).length) Slot.unset).toArray = ls at hl ⊢
  have hl : lv_has ls 3 [(0, Value.ref A46), (1, Value.int 1), (2, Value.int 3)] := hl
  refine lv_iload_n hx hb d_Mo_wrong_0 rfl (lv_at hl 1 rfl) ?_
  refine lv_if_eq (tgt := 16) hx hb d_Mo_wrong_1 (by decide) (fun c9 => absurd c9 (by decide)) (fun _ => ?_)
  refine lv_aload_n hx hb d_Mo_wrong_4 rfl (lv_at hl 0 rfl) ?_
  refine va_get (D := D) (ci := 8) (v := Value.int 3) (C := "CommitLedgerModel") (T := F_Mo) (N := 35) hx hb hts i_Mo hown hK hP 46 f_46 rfl 0 (by decide) (hts _ kf_Mo_84) (fun _ h9 => h9) rfl d_Mo_wrong_5 ?_
  refine lv_if_ne (tgt := 16) hx hb d_Mo_wrong_8 (by decide) (fun _ => ?_) (fun c9 => absurd c9 (by decide))
  refine lv_aload_n hx hb d_Mo_wrong_16 rfl (lv_at hl 0 rfl) ?_
  refine va_get (D := D) (ci := 8) (v := Value.int 3) (C := "CommitLedgerModel") (T := F_Mo) (N := 35) hx hb hts i_Mo hown hK hP 46 f_46 rfl 0 (by decide) (hts _ kf_Mo_84) (fun _ h9 => h9) rfl d_Mo_wrong_17 ?_
  refine lv_if_eq (tgt := 27) hx hb d_Mo_wrong_20 (by decide) (fun c9 => absurd c9 (by decide)) (fun _ => ?_)
  refine lv_iconst (v := 1) hx hb d_Mo_wrong_23 (by decide) ?_
  refine lv_goto (tgt := 28) hx hb d_Mo_wrong_24 (by decide) ?_
  exact gx_ret (W.zret (v := 1) (ty := .boolean) hx hb hr (rfl) (gx_post hP hK hD hS (by rw [← hPQ]; exact ⟨rfl, rfl⟩)) hS.2.2 d_Mo_wrong_28)

set_option maxHeartbeats 4000000 in
set_option maxRecDepth 100000 in
theorem c_Mo_value_v1 (l : Launch) (htr : l.stackTraces = false) (D : va_G) (tys : List (ClassId × FieldType)) (z sz : Nat) (ws : va_W) (cI : ClassId) (cV : ClassId) (A46 : Nat) (p0 : Int32) (p1 : Int32) (A47 : Nat) (A48 : Nat) (A49 : Nat) (A50 : Nat) (A51 : Nat) (A52 : Nat) (A53 : Nat) (A54 : Nat) (A62 : Nat) (A70 : Nat) (A78 : Nat) (A79 : Nat) (u0 : Value) (A80 : Nat) (A81 : Nat) (A82 : Nat) (A83 : Nat) (A84 : Nat) (A85 : Nat) (A86 : Nat) (A87 : Nat) (A88 : Nat) (A89 : Nat) (A90 : Nat) (A91 : Nat) (A92 : Nat) (A93 : Nat) (A94 : Nat) (A95 : Nat) (A96 : Nat) (A97 : Nat) (A98 : Nat) (A99 : Nat) (A100 : Nat) (A101 : Nat) (A102 : Nat) (A103 : Nat) (A104 : Nat) (A105 : Nat) (A106 : Nat) (A107 : Nat) (A108 : Nat) (A109 : Nat) (A110 : Nat) (A111 : Nat) (A112 : Nat) (A113 : Nat) (A114 : Nat) (A115 : Nat) (f_46 : ws[46]? = some ((A46, Sum.inr (8, [Value.int 0, Value.int 0, Value.ref A47, Value.ref A48, Value.ref A49, Value.int 0, Value.ref A50, Value.ref A51, Value.ref A52, Value.ref A53, Value.int 0, Value.int 0, Value.int 0, Value.int (-1), Value.int 0, Value.ref A54, Value.ref A62, Value.ref A70, Value.int 0, Value.int 0, Value.int 0, Value.ref A78, Value.ref A79, Value.int 0, Value.int 16, Value.int 4, u0, Value.ref A80, Value.ref A81, Value.ref A82, Value.int 0, Value.ref A83, Value.int 0, Value.int 0, Value.int 0])) : Nat × va_E)) (f_84 : ws[84]? = some ((A84, Sum.inr (9, [Value.ref A85, Value.ref A86, Value.ref A87, Value.ref A88, Value.ref A89, Value.ref A90, Value.ref A91, Value.int 0, Value.int 0, Value.int 0, Value.int 0])) : Nat × va_E)) (f_87 : ws[87]? = some ((A87, Sum.inl (cI, 4098, Sum.inl (fun _ => 0))) : Nat × va_E)) (f_92 : ws[92]? = some ((A92, Sum.inr (9, [Value.ref A93, Value.ref A94, Value.ref A95, Value.ref A96, Value.ref A97, Value.ref A98, Value.ref A99, Value.int 0, Value.int 0, Value.int 0, Value.int 0])) : Nat × va_E)) (f_100 : ws[100]? = some ((A100, Sum.inr (9, [Value.ref A101, Value.ref A102, Value.ref A103, Value.ref A104, Value.ref A105, Value.ref A106, Value.ref A107, Value.int 0, Value.int 0, Value.int 0, Value.int 0])) : Nat × va_E)) (f_108 : ws[108]? = some ((A108, Sum.inr (9, [Value.ref A109, Value.ref A110, Value.ref A111, Value.ref A112, Value.ref A113, Value.ref A114, Value.ref A115, Value.int 0, Value.int 0, Value.int 0, Value.int 0])) : Nat × va_E)) (f_83 : ws[83]? = some ((A83, Sum.inl (cV, 4, Sum.inr (Sum.inr (Sum.inr (Sum.inr (va_up (va_up (va_up (va_up (fun _ => none) 0 (some A84)) 1 (some A92)) 2 (some A100)) 3 (some A108))))))) : Nat × va_E)) (ht0 : tys[0]? = some ((cI, FieldType.int) : ClassId × FieldType)) (ht5 : tys[5]? = some ((cV, FieldType.object "CommitLedgerModel$Version") : ClassId × FieldType)) : gx_Met l y_Mo_value [Cond.code y_Mo_value b_Mo_value 6 (some .int)] { frames := 2, cells := 0, slots := 0, locals := 37 } (gx_P z sz D classes tys ws [Value.ref A46, Value.int p0, Value.int p1]) (gx_Q D classes tys (va_A ws sz) (fun r ws' => (r = Sum.inl (some (Value.int 0)) ∧ gx_g ws ws' 0 [46] ∧ ws'[46]? = some ((A46, Sum.inr (8, [Value.int 0, Value.int 1, Value.ref A47, Value.ref A48, Value.ref A49, Value.int 0, Value.ref A50, Value.ref A51, Value.ref A52, Value.ref A53, Value.int 0, Value.int 0, Value.int 0, Value.int (-1), Value.int 0, Value.ref A54, Value.ref A62, Value.ref A70, Value.int 0, Value.int 0, Value.int 0, Value.ref A78, Value.ref A79, Value.int 0, Value.int 16, Value.int 4, u0, Value.ref A80, Value.ref A81, Value.ref A82, Value.int 0, Value.ref A83, Value.int 0, Value.int 0, Value.int 0])) : Nat × va_E)))) 0 0 (va_A ws sz) := by
  refine gx_ofW (cc := b_Mo_value) (maxL := 6) (ret := (some .int)) (by decide) rfl ?_
  intro p e s m args below meth c s₁ B hml hv
  obtain ⟨rfl, hsz, hz, hP, hK, hD0, hY⟩ := hv
  have hx := B.exec
  have hb := B.bytes
  have hr := B.returns
  have hts := hY.hts (#[Value.ref A46, Value.int p0, Value.int p1] : Array Value)
  have hown : s.vm.findClass "CommitLedgerModel" = some m.cls := findClass_of_methodNamed B.named
  have hlocks := B.notSynchronized
  have hne : c.exceptionTable.isEmpty = true := B.noHandlers (atoms_spec (ws := [Cond.code y_Mo_value b_Mo_value 6 (some .int)]) B.pre _ List.mem_cons_self)
  subst hsz
  have hAz := gx_az hD0 hz
  have hD := hD0.self (sz := s.heap.size)
  have hN := gx_ns hP
  have hA : ∀ q : Nat, s.heap.size ≤ q → va_A ws s.heap.size q := fun q h => Or.inr h
  generalize va_A ws s.heap.size = A at hD hN hA hAz ⊢
  generalize hPQ : (fun (r : Option Value ⊕ String) (ws' : va_W) => (r = Sum.inl (some (Value.int 0)) ∧ gx_g ws ws' 0 [46] ∧ ws'[46]? = some ((A46, Sum.inr (8, [Value.int 0, Value.int 1, Value.ref A47, Value.ref A48, Value.ref A49, Value.int 0, Value.ref A50, Value.ref A51, Value.ref A52, Value.ref A53, Value.int 0, Value.int 0, Value.int 0, Value.int (-1), Value.int 0, Value.ref A54, Value.ref A62, Value.ref A70, Value.int 0, Value.int 0, Value.int 0, Value.ref A78, Value.ref A79, Value.int 0, Value.int 16, Value.int 4, u0, Value.ref A80, Value.ref A81, Value.ref A82, Value.int 0, Value.ref A83, Value.int 0, Value.int 0, Value.int 0])) : Nat × va_E))) = PQ
  have hS : va_S A s.heap s.heap [] := va_S.rf
  have hU : gx_g ws ws 0 [46] := gx_g.rf
  have hl := lv_entry ([Value.ref A46, Value.int p0, Value.int p1]) (n := 6) (Nat.le_of_ble_eq_true rfl)
  rw [lg_entry_eq]
  generalize (lg_sl ([Value.ref A46, Value.int p0, Value.int p1]) ++ List.replicate (6 - (lg_sl ([Value.ref A46, Value.int p0, Value.int p1])).length) Slot.unset).toArray = ls at hl ⊢
  have hl : lv_has ls 6 [(0, Value.ref A46), (1, Value.int p0), (2, Value.int p1)] := hl
  refine lv_aload_n hx hb d_Mo_value_0 rfl (lv_at hl 0 rfl) ?_
  refine lv_iload_n hx hb d_Mo_value_1 rfl (lv_at hl 1 rfl) ?_
  refine gx_call (ig := .invokevirtual 257) (c_Mo_reading_v1 l htr D tys z _ ws cV A46 p0 A47 A48 A49 A50 A51 A52 A53 A54 A62 A70 A78 A79 (u0) A80 A81 A82 A83 A84 A85 A86 A87 A88 A89 A90 A91 A92 A93 A94 A95 A96 A97 A98 A99 A100 A101 A102 A103 A104 A105 A106 A107 A108 A109 A110 A111 A112 A113 A114 A115 f_46 f_84 f_92 f_100 f_108 f_83 ht5) (gx_invV (As := [Value.int p0]) (rest := []) hx hb hown hts km_Mo_257 kI_Mo_reading kV_Mo_reading kc_Mo_reading (by decide) (show (parseMethodDescriptor y_Mo_reading.desc).map (fun d => d.parameters.length) = some 1 by decide +kernel) (gx_recv (ci := 8) hK hP rfl f_46) rfl rfl d_Mo_value_2) (gx_cw (z := 0) hts kc_Mo_reading kN_Mo rfl rfl ⟨Nat.le_of_ble_eq_true rfl, Nat.le_of_ble_eq_true rfl⟩) hb hml gx_blind (gx_pre hz hP hK hD hY hS hAz [Value.ref A46, Value.int p0]) rfl hl.1 (lv_room (Nat.le_of_ble_eq_true rfl)) d_Mo_value_2 ⟨Nat.le_of_ble_eq_true rfl, Nat.le_of_ble_eq_true rfl⟩ (fun v1 st1 t1 L1 h0_1 hW_1 hQ_1 hL_1 => ?_) (fun v1 st1 t1 L1 h0_1 hW_1 hQ_1 hL_1 => ?_)
  · obtain ⟨ws2, hp, hP9, -, hD9, hS9⟩ := gx_back h0_1 hW_1 hQ_1 hL_1 hD hS hA
    clear hQ_1 h0_1 hL_1 hW_1 hP hD hS
    have hP := hP9
    have hD := hD9
    have hS := hS9
    clear hP9 hD9 hS9
    rcases hp with ⟨hv9, e_ws2, f_46_ws2⟩
    cases hv9
    have f_46_ws2 : ws2[46]? = some ((A46, Sum.inr (8, [Value.int 3, Value.int 0, Value.ref A47, Value.ref A48, Value.ref A49, Value.int 0, Value.ref A50, Value.ref A51, Value.ref A52, Value.ref A53, Value.int 0, Value.int 0, Value.int 0, Value.int (-1), Value.int 0, Value.ref A54, Value.ref A62, Value.ref A70, Value.int 0, Value.int 0, Value.int 0, Value.ref A78, Value.ref A79, Value.int 0, Value.int 16, Value.int 4, u0, Value.ref A80, Value.ref A81, Value.ref A82, Value.int 0, Value.ref A83, Value.int 0, Value.int 0, Value.int 0])) : Nat × va_E) := f_46_ws2
    replace hU : gx_g ws ws2 0 [46] := hU.call e_ws2 (by simp; first | done | omega)
    refine W.eq (g2 := F0 m 5 ls [Value.ref A84]) rfl ?_
    generalize t1.heap = H at hP hS ⊢
    generalize [] ++ L1 = locs at hS ⊢
    refine lv_astore_n (lv' := [(3, Value.ref A84), (0, Value.ref A46), (1, Value.int p0), (2, Value.int p1)]) hx hb d_Mo_value_5 rfl hl (by decide) rfl (fun ls hl => ?_)
    refine lv_iconst (v := (-1)) hx hb d_Mo_value_6 (by decide) ?_
    refine lv_istore (lv' := [(4, Value.int (-1)), (3, Value.ref A84), (0, Value.ref A46), (1, Value.int p0), (2, Value.int p1)]) hx hb d_Mo_value_7 hl (by decide) rfl (fun ls hl => ?_)
    refine lv_iconst (v := 0) hx hb d_Mo_value_9 (by decide) ?_
    refine lv_istore (lv' := [(5, Value.int 0), (4, Value.int (-1)), (3, Value.ref A84), (0, Value.ref A46), (1, Value.int p0), (2, Value.int p1)]) hx hb d_Mo_value_10 hl (by decide) rfl (fun ls hl => ?_)
    refine lv_iload hx hb d_Mo_value_12 (lv_at hl 0 rfl) ?_
    refine lv_aload_n hx hb d_Mo_value_14 rfl (lv_at hl 2 rfl) ?_
    have f_84_ws2 : ws2[84]? = some ((A84, Sum.inr (9, [Value.ref A85, Value.ref A86, Value.ref A87, Value.ref A88, Value.ref A89, Value.ref A90, Value.ref A91, Value.int 0, Value.int 0, Value.int 0, Value.int 0])) : Nat × va_E) := e_ws2.at (by first | decide | (simp; done) | (simp; omega)) f_84
    clear f_84
    have f_87_ws2 : ws2[87]? = some ((A87, Sum.inl (cI, 4098, Sum.inl (fun _ => 0))) : Nat × va_E) := e_ws2.at (by first | decide | (simp; done) | (simp; omega)) f_87
    clear f_87
    refine gx_call (ig := .invokevirtual 200) (c_Ve_docs_v1 l htr D tys z _ ws2 cI A84 A85 A86 A87 A88 A89 A90 A91 f_84_ws2 f_87_ws2 ht0) (gx_invV (As := []) (rest := [Value.int 0]) hx hb hown hts km_Mo_200 kI_Ve_docs kV_Ve_docs kc_Ve_docs (by decide) (show (parseMethodDescriptor y_Ve_docs.desc).map (fun d => d.parameters.length) = some 0 by decide +kernel) (gx_recv (ci := 9) hK hP rfl f_84_ws2) rfl rfl d_Mo_value_15) (gx_cw (z := 0) hts kc_Ve_docs kN_Ve rfl rfl ⟨Nat.le_of_ble_eq_true rfl, Nat.le_of_ble_eq_true rfl⟩) hb hml gx_blind (gx_pre hz hP hK hD hY hS hAz [Value.ref A84]) rfl hl.1 (lv_room (Nat.le_of_ble_eq_true rfl)) d_Mo_value_15 ⟨Nat.le_of_ble_eq_true rfl, Nat.le_of_ble_eq_true rfl⟩ (fun v3 st3 t3 L3 h0_3 hW_3 hQ_3 hL_3 => ?_) (fun v3 st3 t3 L3 h0_3 hW_3 hQ_3 hL_3 => ?_)
    · obtain ⟨ws4, hp, hP9, -, hD9, hS9⟩ := gx_back h0_3 hW_3 hQ_3 hL_3 hD hS hA
      clear hQ_3 h0_3 hL_3 hW_3 hP hD hS
      have hP := hP9
      have hD := hD9
      have hS := hS9
      clear hP9 hD9 hS9
      rcases hp with ⟨hv9, e_ws4⟩
      cases hv9
      rw [e_ws4] at hP hD
      refine W.eq (g2 := F0 m 18 ls [Value.int 0, Value.int 0]) rfl ?_
      generalize t3.heap = H at hP hS ⊢
      generalize locs ++ L3 = locs at hS ⊢
      refine lv_icmp_ge (tgt := 64) hx hb d_Mo_value_18 (by decide) (fun _ => ?_) (fun c9 => absurd (by decide) c9)
      refine lv_aload_n hx hb d_Mo_value_64 rfl (lv_at hl 3 rfl) ?_
      refine lv_iload hx hb d_Mo_value_65 (lv_at hl 1 rfl) ?_
      refine lv_if_ge (tgt := 74) hx hb d_Mo_value_67 (by decide) (fun c9 => absurd c9 (by decide)) (fun _ => ?_)
      refine lv_iconst (v := 1) hx hb d_Mo_value_70 (by decide) ?_
      refine lv_goto (tgt := 75) hx hb d_Mo_value_71 (by decide) ?_
      refine lv_iconst (v := 3) hx hb d_Mo_value_75 (by decide) ?_
      refine gx_call (ig := .invokevirtual 152) (c_Mo_wrong_v8 l htr D tys z _ ws2 A46 A47 A48 A49 A50 A51 A52 A53 A54 A62 A70 A78 A79 (u0) A80 A81 A82 A83 f_46_ws2) (gx_invV (As := [Value.int 1, Value.int 3]) (rest := []) hx hb hown hts km_Mo_152 kI_Mo_wrong kV_Mo_wrong kc_Mo_wrong (by decide) (show (parseMethodDescriptor y_Mo_wrong.desc).map (fun d => d.parameters.length) = some 2 by decide +kernel) (gx_recv (ci := 8) hK hP rfl f_46_ws2) rfl rfl d_Mo_value_76) (gx_cw (z := 0) hts kc_Mo_wrong kN_Mo rfl rfl ⟨Nat.le_of_ble_eq_true rfl, Nat.le_of_ble_eq_true rfl⟩) hb hml gx_blind (gx_pre hz hP hK hD hY hS hAz [Value.ref A46, Value.int 1, Value.int 3]) rfl hl.1 (lv_room (Nat.le_of_ble_eq_true rfl)) d_Mo_value_76 ⟨Nat.le_of_ble_eq_true rfl, Nat.le_of_ble_eq_true rfl⟩ (fun v5 st5 t5 L5 h0_5 hW_5 hQ_5 hL_5 => ?_) (fun v5 st5 t5 L5 h0_5 hW_5 hQ_5 hL_5 => ?_)
      · obtain ⟨ws6, hp, hP9, -, hD9, hS9⟩ := gx_back h0_5 hW_5 hQ_5 hL_5 hD hS hA
        clear hQ_5 h0_5 hL_5 hW_5 hP hD hS
        have hP := hP9
        have hD := hD9
        have hS := hS9
        clear hP9 hD9 hS9
        rcases hp with ⟨hv9, e_ws6⟩
        cases hv9
        rw [e_ws6] at hP hD
        refine W.eq (g2 := F0 m 79 ls [Value.int 1]) rfl ?_
        generalize t5.heap = H at hP hS ⊢
        generalize locs ++ L5 = locs at hS ⊢
        refine lv_if_eq (tgt := 89) hx hb d_Mo_value_79 (by decide) (fun c9 => absurd c9 (by decide)) (fun _ => ?_)
        refine lv_aload_n hx hb d_Mo_value_82 rfl (lv_at hl 3 rfl) ?_
        refine lv_iconst (v := 0) hx hb d_Mo_value_83 (by decide) ?_
        refine lv_iconst (v := 3) hx hb d_Mo_value_84 (by decide) ?_
        refine gx_call (ig := .invokevirtual 148) (c_Mo_done_v19 l htr D tys z _ ws2 A46 A47 A48 A49 A50 A51 A52 A53 A54 A62 A70 A78 A79 (u0) A80 A81 A82 A83 f_46_ws2) (gx_invV (As := [Value.int 0, Value.int 3]) (rest := []) hx hb hown hts km_Mo_148 kI_Mo_done kV_Mo_done kc_Mo_done (by decide) (show (parseMethodDescriptor y_Mo_done.desc).map (fun d => d.parameters.length) = some 2 by decide +kernel) (gx_recv (ci := 8) hK hP rfl f_46_ws2) rfl rfl d_Mo_value_85) (gx_cw (z := 0) hts kc_Mo_done kN_Mo rfl rfl ⟨Nat.le_of_ble_eq_true rfl, Nat.le_of_ble_eq_true rfl⟩) hb hml gx_blind (gx_pre hz hP hK hD hY hS hAz [Value.ref A46, Value.int 0, Value.int 3]) rfl hl.1 (lv_room (Nat.le_of_ble_eq_true rfl)) d_Mo_value_85 ⟨Nat.le_of_ble_eq_true rfl, Nat.le_of_ble_eq_true rfl⟩ (fun v7 st7 t7 L7 h0_7 hW_7 hQ_7 hL_7 => ?_) (fun v7 st7 t7 L7 h0_7 hW_7 hQ_7 hL_7 => ?_)
        · obtain ⟨ws8, hp, hP9, -, hD9, hS9⟩ := gx_back h0_7 hW_7 hQ_7 hL_7 hD hS hA
          clear hQ_7 h0_7 hL_7 hW_7 hP hD hS
          have hP := hP9
          have hD := hD9
          have hS := hS9
          clear hP9 hD9 hS9
          rcases hp with ⟨hv9, e_ws8, f_46_ws8⟩
          cases hv9
          have f_46_ws8 : ws8[46]? = some ((A46, Sum.inr (8, [Value.int 0, Value.int 1, Value.ref A47, Value.ref A48, Value.ref A49, Value.int 0, Value.ref A50, Value.ref A51, Value.ref A52, Value.ref A53, Value.int 0, Value.int 0, Value.int 0, Value.int (-1), Value.int 0, Value.ref A54, Value.ref A62, Value.ref A70, Value.int 0, Value.int 0, Value.int 0, Value.ref A78, Value.ref A79, Value.int 0, Value.int 16, Value.int 4, u0, Value.ref A80, Value.ref A81, Value.ref A82, Value.int 0, Value.ref A83, Value.int 0, Value.int 0, Value.int 0])) : Nat × va_E) := f_46_ws8
          replace hU : gx_g ws ws8 0 [46] := hU.call e_ws8 (by simp; first | done | omega)
          refine W.eq (g2 := F0 m 88 ls [Value.int 0]) rfl ?_
          generalize t7.heap = H at hP hS ⊢
          generalize locs ++ L7 = locs at hS ⊢
          exact gx_ret (W.iret (v := 0) hx hb hr (gx_post hP hK hD hS (by rw [← hPQ]; exact ⟨rfl, hU, f_46_ws8⟩)) hS.2.2 d_Mo_value_88)
        · obtain ⟨E9, ws9, ce, hp, hce, hP9, -, hD9, hS9⟩ := gx_backT h0_7 hW_7 hQ_7 hL_7 hD hS hA
          clear hQ_7 h0_7 hL_7 hW_7 hP hD hS
          have hP := hP9
          have hD := hD9
          have hS := hS9
          clear hP9 hD9 hS9
          rcases hp with ⟨hv9, e_ws9, f_46_ws9⟩
          cases hv9
      · obtain ⟨E9, ws10, ce, hp, hce, hP9, -, hD9, hS9⟩ := gx_backT h0_5 hW_5 hQ_5 hL_5 hD hS hA
        clear hQ_5 h0_5 hL_5 hW_5 hP hD hS
        have hP := hP9
        have hD := hD9
        have hS := hS9
        clear hP9 hD9 hS9
        rcases hp with ⟨hv9, e_ws10⟩
        cases hv9
    · obtain ⟨E9, ws11, ce, hp, hce, hP9, -, hD9, hS9⟩ := gx_backT h0_3 hW_3 hQ_3 hL_3 hD hS hA
      clear hQ_3 h0_3 hL_3 hW_3 hP hD hS
      have hP := hP9
      have hD := hD9
      have hS := hS9
      clear hP9 hD9 hS9
      rcases hp with ⟨hv9, e_ws11⟩
      cases hv9
  · obtain ⟨E9, ws12, ce, hp, hce, hP9, -, hD9, hS9⟩ := gx_backT h0_1 hW_1 hQ_1 hL_1 hD hS hA
    clear hQ_1 h0_1 hL_1 hW_1 hP hD hS
    have hP := hP9
    have hD := hD9
    have hS := hS9
    clear hP9 hD9 hS9
    rcases hp with ⟨hv9, e_ws12, f_46_ws12⟩
    cases hv9

set_option maxHeartbeats 4000000 in
set_option maxRecDepth 100000 in
theorem c_Mo_many_v1 (l : Launch) (htr : l.stackTraces = false) (D : va_G) (tys : List (ClassId × FieldType)) (z sz : Nat) (ws : va_W) (cI : ClassId) (cV : ClassId) (A46 : Nat) (p0 : Int32) (p1 : Int32) (A47 : Nat) (A48 : Nat) (A49 : Nat) (A50 : Nat) (A51 : Nat) (A52 : Nat) (A53 : Nat) (A54 : Nat) (A62 : Nat) (A70 : Nat) (A78 : Nat) (A79 : Nat) (u0 : Value) (A80 : Nat) (A81 : Nat) (A82 : Nat) (A83 : Nat) (A84 : Nat) (A85 : Nat) (A86 : Nat) (A87 : Nat) (A88 : Nat) (A89 : Nat) (A90 : Nat) (A91 : Nat) (A92 : Nat) (A93 : Nat) (A94 : Nat) (A95 : Nat) (A96 : Nat) (A97 : Nat) (A98 : Nat) (A99 : Nat) (A100 : Nat) (A101 : Nat) (A102 : Nat) (A103 : Nat) (A104 : Nat) (A105 : Nat) (A106 : Nat) (A107 : Nat) (A108 : Nat) (A109 : Nat) (A110 : Nat) (A111 : Nat) (A112 : Nat) (A113 : Nat) (A114 : Nat) (A115 : Nat) (f_46 : ws[46]? = some ((A46, Sum.inr (8, [Value.int 0, Value.int 0, Value.ref A47, Value.ref A48, Value.ref A49, Value.int 0, Value.ref A50, Value.ref A51, Value.ref A52, Value.ref A53, Value.int 0, Value.int 0, Value.int 0, Value.int (-1), Value.int 0, Value.ref A54, Value.ref A62, Value.ref A70, Value.int 0, Value.int 0, Value.int 0, Value.ref A78, Value.ref A79, Value.int 0, Value.int 16, Value.int 4, u0, Value.ref A80, Value.ref A81, Value.ref A82, Value.int 0, Value.ref A83, Value.int 0, Value.int 0, Value.int 0])) : Nat × va_E)) (f_84 : ws[84]? = some ((A84, Sum.inr (9, [Value.ref A85, Value.ref A86, Value.ref A87, Value.ref A88, Value.ref A89, Value.ref A90, Value.ref A91, Value.int 0, Value.int 0, Value.int 0, Value.int 0])) : Nat × va_E)) (f_87 : ws[87]? = some ((A87, Sum.inl (cI, 4098, Sum.inl (fun _ => 0))) : Nat × va_E)) (f_92 : ws[92]? = some ((A92, Sum.inr (9, [Value.ref A93, Value.ref A94, Value.ref A95, Value.ref A96, Value.ref A97, Value.ref A98, Value.ref A99, Value.int 0, Value.int 0, Value.int 0, Value.int 0])) : Nat × va_E)) (f_100 : ws[100]? = some ((A100, Sum.inr (9, [Value.ref A101, Value.ref A102, Value.ref A103, Value.ref A104, Value.ref A105, Value.ref A106, Value.ref A107, Value.int 0, Value.int 0, Value.int 0, Value.int 0])) : Nat × va_E)) (f_108 : ws[108]? = some ((A108, Sum.inr (9, [Value.ref A109, Value.ref A110, Value.ref A111, Value.ref A112, Value.ref A113, Value.ref A114, Value.ref A115, Value.int 0, Value.int 0, Value.int 0, Value.int 0])) : Nat × va_E)) (f_83 : ws[83]? = some ((A83, Sum.inl (cV, 4, Sum.inr (Sum.inr (Sum.inr (Sum.inr (va_up (va_up (va_up (va_up (fun _ => none) 0 (some A84)) 1 (some A92)) 2 (some A100)) 3 (some A108))))))) : Nat × va_E)) (ht0 : tys[0]? = some ((cI, FieldType.int) : ClassId × FieldType)) (ht5 : tys[5]? = some ((cV, FieldType.object "CommitLedgerModel$Version") : ClassId × FieldType)) : gx_Met l y_Mo_many [Cond.code y_Mo_many b_Mo_many 6 (some .int)] { frames := 2, cells := 0, slots := 0, locals := 37 } (gx_P z sz D classes tys ws [Value.ref A46, Value.int p0, Value.int p1]) (gx_Q D classes tys (va_A ws sz) (fun r ws' => (r = Sum.inl (some (Value.int 0)) ∧ gx_g ws ws' 0 [46] ∧ ws'[46]? = some ((A46, Sum.inr (8, [Value.int 0, Value.int 1, Value.ref A47, Value.ref A48, Value.ref A49, Value.int 0, Value.ref A50, Value.ref A51, Value.ref A52, Value.ref A53, Value.int 0, Value.int 0, Value.int 0, Value.int (-1), Value.int 0, Value.ref A54, Value.ref A62, Value.ref A70, Value.int 0, Value.int 0, Value.int 0, Value.ref A78, Value.ref A79, Value.int 0, Value.int 16, Value.int 4, u0, Value.ref A80, Value.ref A81, Value.ref A82, Value.int 0, Value.ref A83, Value.int 0, Value.int 0, Value.int 0])) : Nat × va_E)))) 0 0 (va_A ws sz) := by
  refine gx_ofW (cc := b_Mo_many) (maxL := 6) (ret := (some .int)) (by decide) rfl ?_
  intro p e s m args below meth c s₁ B hml hv
  obtain ⟨rfl, hsz, hz, hP, hK, hD0, hY⟩ := hv
  have hx := B.exec
  have hb := B.bytes
  have hr := B.returns
  have hts := hY.hts (#[Value.ref A46, Value.int p0, Value.int p1] : Array Value)
  have hown : s.vm.findClass "CommitLedgerModel" = some m.cls := findClass_of_methodNamed B.named
  have hlocks := B.notSynchronized
  have hne : c.exceptionTable.isEmpty = true := B.noHandlers (atoms_spec (ws := [Cond.code y_Mo_many b_Mo_many 6 (some .int)]) B.pre _ List.mem_cons_self)
  subst hsz
  have hAz := gx_az hD0 hz
  have hD := hD0.self (sz := s.heap.size)
  have hN := gx_ns hP
  have hA : ∀ q : Nat, s.heap.size ≤ q → va_A ws s.heap.size q := fun q h => Or.inr h
  generalize va_A ws s.heap.size = A at hD hN hA hAz ⊢
  generalize hPQ : (fun (r : Option Value ⊕ String) (ws' : va_W) => (r = Sum.inl (some (Value.int 0)) ∧ gx_g ws ws' 0 [46] ∧ ws'[46]? = some ((A46, Sum.inr (8, [Value.int 0, Value.int 1, Value.ref A47, Value.ref A48, Value.ref A49, Value.int 0, Value.ref A50, Value.ref A51, Value.ref A52, Value.ref A53, Value.int 0, Value.int 0, Value.int 0, Value.int (-1), Value.int 0, Value.ref A54, Value.ref A62, Value.ref A70, Value.int 0, Value.int 0, Value.int 0, Value.ref A78, Value.ref A79, Value.int 0, Value.int 16, Value.int 4, u0, Value.ref A80, Value.ref A81, Value.ref A82, Value.int 0, Value.ref A83, Value.int 0, Value.int 0, Value.int 0])) : Nat × va_E))) = PQ
  have hS : va_S A s.heap s.heap [] := va_S.rf
  have hU : gx_g ws ws 0 [46] := gx_g.rf
  have hl := lv_entry ([Value.ref A46, Value.int p0, Value.int p1]) (n := 6) (Nat.le_of_ble_eq_true rfl)
  rw [lg_entry_eq]
  generalize (lg_sl ([Value.ref A46, Value.int p0, Value.int p1]) ++ List.replicate (6 - (lg_sl ([Value.ref A46, Value.int p0, Value.int p1])).length) Slot.unset).toArray = ls at hl ⊢
  have hl : lv_has ls 6 [(0, Value.ref A46), (1, Value.int p0), (2, Value.int p1)] := hl
  refine lv_aload_n hx hb d_Mo_many_0 rfl (lv_at hl 0 rfl) ?_
  refine lv_iload_n hx hb d_Mo_many_1 rfl (lv_at hl 1 rfl) ?_
  refine gx_call (ig := .invokevirtual 257) (c_Mo_reading_v1 l htr D tys z _ ws cV A46 p0 A47 A48 A49 A50 A51 A52 A53 A54 A62 A70 A78 A79 (u0) A80 A81 A82 A83 A84 A85 A86 A87 A88 A89 A90 A91 A92 A93 A94 A95 A96 A97 A98 A99 A100 A101 A102 A103 A104 A105 A106 A107 A108 A109 A110 A111 A112 A113 A114 A115 f_46 f_84 f_92 f_100 f_108 f_83 ht5) (gx_invV (As := [Value.int p0]) (rest := []) hx hb hown hts km_Mo_257 kI_Mo_reading kV_Mo_reading kc_Mo_reading (by decide) (show (parseMethodDescriptor y_Mo_reading.desc).map (fun d => d.parameters.length) = some 1 by decide +kernel) (gx_recv (ci := 8) hK hP rfl f_46) rfl rfl d_Mo_many_2) (gx_cw (z := 0) hts kc_Mo_reading kN_Mo rfl rfl ⟨Nat.le_of_ble_eq_true rfl, Nat.le_of_ble_eq_true rfl⟩) hb hml gx_blind (gx_pre hz hP hK hD hY hS hAz [Value.ref A46, Value.int p0]) rfl hl.1 (lv_room (Nat.le_of_ble_eq_true rfl)) d_Mo_many_2 ⟨Nat.le_of_ble_eq_true rfl, Nat.le_of_ble_eq_true rfl⟩ (fun v1 st1 t1 L1 h0_1 hW_1 hQ_1 hL_1 => ?_) (fun v1 st1 t1 L1 h0_1 hW_1 hQ_1 hL_1 => ?_)
  · obtain ⟨ws2, hp, hP9, -, hD9, hS9⟩ := gx_back h0_1 hW_1 hQ_1 hL_1 hD hS hA
    clear hQ_1 h0_1 hL_1 hW_1 hP hD hS
    have hP := hP9
    have hD := hD9
    have hS := hS9
    clear hP9 hD9 hS9
    rcases hp with ⟨hv9, e_ws2, f_46_ws2⟩
    cases hv9
    have f_46_ws2 : ws2[46]? = some ((A46, Sum.inr (8, [Value.int 3, Value.int 0, Value.ref A47, Value.ref A48, Value.ref A49, Value.int 0, Value.ref A50, Value.ref A51, Value.ref A52, Value.ref A53, Value.int 0, Value.int 0, Value.int 0, Value.int (-1), Value.int 0, Value.ref A54, Value.ref A62, Value.ref A70, Value.int 0, Value.int 0, Value.int 0, Value.ref A78, Value.ref A79, Value.int 0, Value.int 16, Value.int 4, u0, Value.ref A80, Value.ref A81, Value.ref A82, Value.int 0, Value.ref A83, Value.int 0, Value.int 0, Value.int 0])) : Nat × va_E) := f_46_ws2
    replace hU : gx_g ws ws2 0 [46] := hU.call e_ws2 (by simp; first | done | omega)
    refine W.eq (g2 := F0 m 5 ls [Value.ref A84]) rfl ?_
    generalize t1.heap = H at hP hS ⊢
    generalize [] ++ L1 = locs at hS ⊢
    refine lv_astore_n (lv' := [(3, Value.ref A84), (0, Value.ref A46), (1, Value.int p0), (2, Value.int p1)]) hx hb d_Mo_many_5 rfl hl (by decide) rfl (fun ls hl => ?_)
    refine lv_iconst (v := 0) hx hb d_Mo_many_6 (by decide) ?_
    refine lv_istore (lv' := [(4, Value.int 0), (3, Value.ref A84), (0, Value.ref A46), (1, Value.int p0), (2, Value.int p1)]) hx hb d_Mo_many_7 hl (by decide) rfl (fun ls hl => ?_)
    refine lv_iconst (v := 0) hx hb d_Mo_many_9 (by decide) ?_
    refine lv_istore (lv' := [(5, Value.int 0), (4, Value.int 0), (3, Value.ref A84), (0, Value.ref A46), (1, Value.int p0), (2, Value.int p1)]) hx hb d_Mo_many_10 hl (by decide) rfl (fun ls hl => ?_)
    refine lv_iload hx hb d_Mo_many_12 (lv_at hl 0 rfl) ?_
    refine lv_aload_n hx hb d_Mo_many_14 rfl (lv_at hl 2 rfl) ?_
    have f_84_ws2 : ws2[84]? = some ((A84, Sum.inr (9, [Value.ref A85, Value.ref A86, Value.ref A87, Value.ref A88, Value.ref A89, Value.ref A90, Value.ref A91, Value.int 0, Value.int 0, Value.int 0, Value.int 0])) : Nat × va_E) := e_ws2.at (by first | decide | (simp; done) | (simp; omega)) f_84
    clear f_84
    have f_87_ws2 : ws2[87]? = some ((A87, Sum.inl (cI, 4098, Sum.inl (fun _ => 0))) : Nat × va_E) := e_ws2.at (by first | decide | (simp; done) | (simp; omega)) f_87
    clear f_87
    refine gx_call (ig := .invokevirtual 200) (c_Ve_docs_v1 l htr D tys z _ ws2 cI A84 A85 A86 A87 A88 A89 A90 A91 f_84_ws2 f_87_ws2 ht0) (gx_invV (As := []) (rest := [Value.int 0]) hx hb hown hts km_Mo_200 kI_Ve_docs kV_Ve_docs kc_Ve_docs (by decide) (show (parseMethodDescriptor y_Ve_docs.desc).map (fun d => d.parameters.length) = some 0 by decide +kernel) (gx_recv (ci := 9) hK hP rfl f_84_ws2) rfl rfl d_Mo_many_15) (gx_cw (z := 0) hts kc_Ve_docs kN_Ve rfl rfl ⟨Nat.le_of_ble_eq_true rfl, Nat.le_of_ble_eq_true rfl⟩) hb hml gx_blind (gx_pre hz hP hK hD hY hS hAz [Value.ref A84]) rfl hl.1 (lv_room (Nat.le_of_ble_eq_true rfl)) d_Mo_many_15 ⟨Nat.le_of_ble_eq_true rfl, Nat.le_of_ble_eq_true rfl⟩ (fun v3 st3 t3 L3 h0_3 hW_3 hQ_3 hL_3 => ?_) (fun v3 st3 t3 L3 h0_3 hW_3 hQ_3 hL_3 => ?_)
    · obtain ⟨ws4, hp, hP9, -, hD9, hS9⟩ := gx_back h0_3 hW_3 hQ_3 hL_3 hD hS hA
      clear hQ_3 h0_3 hL_3 hW_3 hP hD hS
      have hP := hP9
      have hD := hD9
      have hS := hS9
      clear hP9 hD9 hS9
      rcases hp with ⟨hv9, e_ws4⟩
      cases hv9
      rw [e_ws4] at hP hD
      refine W.eq (g2 := F0 m 18 ls [Value.int 0, Value.int 0]) rfl ?_
      generalize t3.heap = H at hP hS ⊢
      generalize locs ++ L3 = locs at hS ⊢
      refine lv_icmp_ge (tgt := 56) hx hb d_Mo_many_18 (by decide) (fun _ => ?_) (fun c9 => absurd (by decide) c9)
      refine lv_aload_n hx hb d_Mo_many_56 rfl (lv_at hl 3 rfl) ?_
      refine lv_iload hx hb d_Mo_many_57 (lv_at hl 1 rfl) ?_
      refine lv_iconst (v := 3) hx hb d_Mo_many_59 (by decide) ?_
      refine gx_call (ig := .invokevirtual 148) (c_Mo_done_v19 l htr D tys z _ ws2 A46 A47 A48 A49 A50 A51 A52 A53 A54 A62 A70 A78 A79 (u0) A80 A81 A82 A83 f_46_ws2) (gx_invV (As := [Value.int 0, Value.int 3]) (rest := []) hx hb hown hts km_Mo_148 kI_Mo_done kV_Mo_done kc_Mo_done (by decide) (show (parseMethodDescriptor y_Mo_done.desc).map (fun d => d.parameters.length) = some 2 by decide +kernel) (gx_recv (ci := 8) hK hP rfl f_46_ws2) rfl rfl d_Mo_many_60) (gx_cw (z := 0) hts kc_Mo_done kN_Mo rfl rfl ⟨Nat.le_of_ble_eq_true rfl, Nat.le_of_ble_eq_true rfl⟩) hb hml gx_blind (gx_pre hz hP hK hD hY hS hAz [Value.ref A46, Value.int 0, Value.int 3]) rfl hl.1 (lv_room (Nat.le_of_ble_eq_true rfl)) d_Mo_many_60 ⟨Nat.le_of_ble_eq_true rfl, Nat.le_of_ble_eq_true rfl⟩ (fun v5 st5 t5 L5 h0_5 hW_5 hQ_5 hL_5 => ?_) (fun v5 st5 t5 L5 h0_5 hW_5 hQ_5 hL_5 => ?_)
      · obtain ⟨ws6, hp, hP9, -, hD9, hS9⟩ := gx_back h0_5 hW_5 hQ_5 hL_5 hD hS hA
        clear hQ_5 h0_5 hL_5 hW_5 hP hD hS
        have hP := hP9
        have hD := hD9
        have hS := hS9
        clear hP9 hD9 hS9
        rcases hp with ⟨hv9, e_ws6, f_46_ws6⟩
        cases hv9
        have f_46_ws6 : ws6[46]? = some ((A46, Sum.inr (8, [Value.int 0, Value.int 1, Value.ref A47, Value.ref A48, Value.ref A49, Value.int 0, Value.ref A50, Value.ref A51, Value.ref A52, Value.ref A53, Value.int 0, Value.int 0, Value.int 0, Value.int (-1), Value.int 0, Value.ref A54, Value.ref A62, Value.ref A70, Value.int 0, Value.int 0, Value.int 0, Value.ref A78, Value.ref A79, Value.int 0, Value.int 16, Value.int 4, u0, Value.ref A80, Value.ref A81, Value.ref A82, Value.int 0, Value.ref A83, Value.int 0, Value.int 0, Value.int 0])) : Nat × va_E) := f_46_ws6
        replace hU : gx_g ws ws6 0 [46] := hU.call e_ws6 (by simp; first | done | omega)
        refine W.eq (g2 := F0 m 63 ls [Value.int 0]) rfl ?_
        generalize t5.heap = H at hP hS ⊢
        generalize locs ++ L5 = locs at hS ⊢
        exact gx_ret (W.iret (v := 0) hx hb hr (gx_post hP hK hD hS (by rw [← hPQ]; exact ⟨rfl, hU, f_46_ws6⟩)) hS.2.2 d_Mo_many_63)
      · obtain ⟨E9, ws7, ce, hp, hce, hP9, -, hD9, hS9⟩ := gx_backT h0_5 hW_5 hQ_5 hL_5 hD hS hA
        clear hQ_5 h0_5 hL_5 hW_5 hP hD hS
        have hP := hP9
        have hD := hD9
        have hS := hS9
        clear hP9 hD9 hS9
        rcases hp with ⟨hv9, e_ws7, f_46_ws7⟩
        cases hv9
    · obtain ⟨E9, ws8, ce, hp, hce, hP9, -, hD9, hS9⟩ := gx_backT h0_3 hW_3 hQ_3 hL_3 hD hS hA
      clear hQ_3 h0_3 hL_3 hW_3 hP hD hS
      have hP := hP9
      have hD := hD9
      have hS := hS9
      clear hP9 hD9 hS9
      rcases hp with ⟨hv9, e_ws8⟩
      cases hv9
  · obtain ⟨E9, ws9, ce, hp, hce, hP9, -, hD9, hS9⟩ := gx_backT h0_1 hW_1 hQ_1 hL_1 hD hS hA
    clear hQ_1 h0_1 hL_1 hW_1 hP hD hS
    have hP := hP9
    have hD := hD9
    have hS := hS9
    clear hP9 hD9 hS9
    rcases hp with ⟨hv9, e_ws9, f_46_ws9⟩
    cases hv9

set_option maxHeartbeats 4000000 in
set_option maxRecDepth 100000 in
theorem c_Mo_serial_v1 (l : Launch) (htr : l.stackTraces = false) (D : va_G) (tys : List (ClassId × FieldType)) (z sz : Nat) (ws : va_W) (cI : ClassId) (cV : ClassId) (A46 : Nat) (p0 : Int32) (p1 : Int32) (A47 : Nat) (A48 : Nat) (A49 : Nat) (A50 : Nat) (A51 : Nat) (A52 : Nat) (A53 : Nat) (A54 : Nat) (A62 : Nat) (A70 : Nat) (A78 : Nat) (A79 : Nat) (u0 : Value) (A80 : Nat) (A81 : Nat) (A82 : Nat) (A83 : Nat) (A84 : Nat) (A85 : Nat) (A86 : Nat) (A87 : Nat) (A88 : Nat) (A89 : Nat) (A90 : Nat) (A91 : Nat) (A92 : Nat) (A93 : Nat) (A94 : Nat) (A95 : Nat) (A96 : Nat) (A97 : Nat) (A98 : Nat) (A99 : Nat) (A100 : Nat) (A101 : Nat) (A102 : Nat) (A103 : Nat) (A104 : Nat) (A105 : Nat) (A106 : Nat) (A107 : Nat) (A108 : Nat) (A109 : Nat) (A110 : Nat) (A111 : Nat) (A112 : Nat) (A113 : Nat) (A114 : Nat) (A115 : Nat) (f_46 : ws[46]? = some ((A46, Sum.inr (8, [Value.int 0, Value.int 0, Value.ref A47, Value.ref A48, Value.ref A49, Value.int 0, Value.ref A50, Value.ref A51, Value.ref A52, Value.ref A53, Value.int 0, Value.int 0, Value.int 0, Value.int (-1), Value.int 0, Value.ref A54, Value.ref A62, Value.ref A70, Value.int 0, Value.int 0, Value.int 0, Value.ref A78, Value.ref A79, Value.int 0, Value.int 16, Value.int 4, u0, Value.ref A80, Value.ref A81, Value.ref A82, Value.int 0, Value.ref A83, Value.int 0, Value.int 0, Value.int 0])) : Nat × va_E)) (f_84 : ws[84]? = some ((A84, Sum.inr (9, [Value.ref A85, Value.ref A86, Value.ref A87, Value.ref A88, Value.ref A89, Value.ref A90, Value.ref A91, Value.int 0, Value.int 0, Value.int 0, Value.int 0])) : Nat × va_E)) (f_87 : ws[87]? = some ((A87, Sum.inl (cI, 4098, Sum.inl (fun _ => 0))) : Nat × va_E)) (f_92 : ws[92]? = some ((A92, Sum.inr (9, [Value.ref A93, Value.ref A94, Value.ref A95, Value.ref A96, Value.ref A97, Value.ref A98, Value.ref A99, Value.int 0, Value.int 0, Value.int 0, Value.int 0])) : Nat × va_E)) (f_100 : ws[100]? = some ((A100, Sum.inr (9, [Value.ref A101, Value.ref A102, Value.ref A103, Value.ref A104, Value.ref A105, Value.ref A106, Value.ref A107, Value.int 0, Value.int 0, Value.int 0, Value.int 0])) : Nat × va_E)) (f_108 : ws[108]? = some ((A108, Sum.inr (9, [Value.ref A109, Value.ref A110, Value.ref A111, Value.ref A112, Value.ref A113, Value.ref A114, Value.ref A115, Value.int 0, Value.int 0, Value.int 0, Value.int 0])) : Nat × va_E)) (f_83 : ws[83]? = some ((A83, Sum.inl (cV, 4, Sum.inr (Sum.inr (Sum.inr (Sum.inr (va_up (va_up (va_up (va_up (fun _ => none) 0 (some A84)) 1 (some A92)) 2 (some A100)) 3 (some A108))))))) : Nat × va_E)) (ht0 : tys[0]? = some ((cI, FieldType.int) : ClassId × FieldType)) (ht5 : tys[5]? = some ((cV, FieldType.object "CommitLedgerModel$Version") : ClassId × FieldType)) : gx_Met l y_Mo_serial [Cond.code y_Mo_serial b_Mo_serial 6 (some .int)] { frames := 2, cells := 0, slots := 0, locals := 37 } (gx_P z sz D classes tys ws [Value.ref A46, Value.int p0, Value.int p1]) (gx_Q D classes tys (va_A ws sz) (fun r ws' => (r = Sum.inl (some (Value.int 0)) ∧ gx_g ws ws' 0 [46] ∧ ws'[46]? = some ((A46, Sum.inr (8, [Value.int 0, Value.int 1, Value.ref A47, Value.ref A48, Value.ref A49, Value.int 0, Value.ref A50, Value.ref A51, Value.ref A52, Value.ref A53, Value.int 0, Value.int 0, Value.int 0, Value.int (-1), Value.int 0, Value.ref A54, Value.ref A62, Value.ref A70, Value.int 0, Value.int 0, Value.int 0, Value.ref A78, Value.ref A79, Value.int 0, Value.int 16, Value.int 4, u0, Value.ref A80, Value.ref A81, Value.ref A82, Value.int 0, Value.ref A83, Value.int 0, Value.int 0, Value.int 0])) : Nat × va_E)))) 0 0 (va_A ws sz) := by
  refine gx_ofW (cc := b_Mo_serial) (maxL := 6) (ret := (some .int)) (by decide) rfl ?_
  intro p e s m args below meth c s₁ B hml hv
  obtain ⟨rfl, hsz, hz, hP, hK, hD0, hY⟩ := hv
  have hx := B.exec
  have hb := B.bytes
  have hr := B.returns
  have hts := hY.hts (#[Value.ref A46, Value.int p0, Value.int p1] : Array Value)
  have hown : s.vm.findClass "CommitLedgerModel" = some m.cls := findClass_of_methodNamed B.named
  have hlocks := B.notSynchronized
  have hne : c.exceptionTable.isEmpty = true := B.noHandlers (atoms_spec (ws := [Cond.code y_Mo_serial b_Mo_serial 6 (some .int)]) B.pre _ List.mem_cons_self)
  subst hsz
  have hAz := gx_az hD0 hz
  have hD := hD0.self (sz := s.heap.size)
  have hN := gx_ns hP
  have hA : ∀ q : Nat, s.heap.size ≤ q → va_A ws s.heap.size q := fun q h => Or.inr h
  generalize va_A ws s.heap.size = A at hD hN hA hAz ⊢
  generalize hPQ : (fun (r : Option Value ⊕ String) (ws' : va_W) => (r = Sum.inl (some (Value.int 0)) ∧ gx_g ws ws' 0 [46] ∧ ws'[46]? = some ((A46, Sum.inr (8, [Value.int 0, Value.int 1, Value.ref A47, Value.ref A48, Value.ref A49, Value.int 0, Value.ref A50, Value.ref A51, Value.ref A52, Value.ref A53, Value.int 0, Value.int 0, Value.int 0, Value.int (-1), Value.int 0, Value.ref A54, Value.ref A62, Value.ref A70, Value.int 0, Value.int 0, Value.int 0, Value.ref A78, Value.ref A79, Value.int 0, Value.int 16, Value.int 4, u0, Value.ref A80, Value.ref A81, Value.ref A82, Value.int 0, Value.ref A83, Value.int 0, Value.int 0, Value.int 0])) : Nat × va_E))) = PQ
  have hS : va_S A s.heap s.heap [] := va_S.rf
  have hU : gx_g ws ws 0 [46] := gx_g.rf
  have hl := lv_entry ([Value.ref A46, Value.int p0, Value.int p1]) (n := 6) (Nat.le_of_ble_eq_true rfl)
  rw [lg_entry_eq]
  generalize (lg_sl ([Value.ref A46, Value.int p0, Value.int p1]) ++ List.replicate (6 - (lg_sl ([Value.ref A46, Value.int p0, Value.int p1])).length) Slot.unset).toArray = ls at hl ⊢
  have hl : lv_has ls 6 [(0, Value.ref A46), (1, Value.int p0), (2, Value.int p1)] := hl
  refine lv_aload_n hx hb d_Mo_serial_0 rfl (lv_at hl 0 rfl) ?_
  refine lv_iload_n hx hb d_Mo_serial_1 rfl (lv_at hl 1 rfl) ?_
  refine gx_call (ig := .invokevirtual 257) (c_Mo_reading_v1 l htr D tys z _ ws cV A46 p0 A47 A48 A49 A50 A51 A52 A53 A54 A62 A70 A78 A79 (u0) A80 A81 A82 A83 A84 A85 A86 A87 A88 A89 A90 A91 A92 A93 A94 A95 A96 A97 A98 A99 A100 A101 A102 A103 A104 A105 A106 A107 A108 A109 A110 A111 A112 A113 A114 A115 f_46 f_84 f_92 f_100 f_108 f_83 ht5) (gx_invV (As := [Value.int p0]) (rest := []) hx hb hown hts km_Mo_257 kI_Mo_reading kV_Mo_reading kc_Mo_reading (by decide) (show (parseMethodDescriptor y_Mo_reading.desc).map (fun d => d.parameters.length) = some 1 by decide +kernel) (gx_recv (ci := 8) hK hP rfl f_46) rfl rfl d_Mo_serial_2) (gx_cw (z := 0) hts kc_Mo_reading kN_Mo rfl rfl ⟨Nat.le_of_ble_eq_true rfl, Nat.le_of_ble_eq_true rfl⟩) hb hml gx_blind (gx_pre hz hP hK hD hY hS hAz [Value.ref A46, Value.int p0]) rfl hl.1 (lv_room (Nat.le_of_ble_eq_true rfl)) d_Mo_serial_2 ⟨Nat.le_of_ble_eq_true rfl, Nat.le_of_ble_eq_true rfl⟩ (fun v1 st1 t1 L1 h0_1 hW_1 hQ_1 hL_1 => ?_) (fun v1 st1 t1 L1 h0_1 hW_1 hQ_1 hL_1 => ?_)
  · obtain ⟨ws2, hp, hP9, -, hD9, hS9⟩ := gx_back h0_1 hW_1 hQ_1 hL_1 hD hS hA
    clear hQ_1 h0_1 hL_1 hW_1 hP hD hS
    have hP := hP9
    have hD := hD9
    have hS := hS9
    clear hP9 hD9 hS9
    rcases hp with ⟨hv9, e_ws2, f_46_ws2⟩
    cases hv9
    have f_46_ws2 : ws2[46]? = some ((A46, Sum.inr (8, [Value.int 3, Value.int 0, Value.ref A47, Value.ref A48, Value.ref A49, Value.int 0, Value.ref A50, Value.ref A51, Value.ref A52, Value.ref A53, Value.int 0, Value.int 0, Value.int 0, Value.int (-1), Value.int 0, Value.ref A54, Value.ref A62, Value.ref A70, Value.int 0, Value.int 0, Value.int 0, Value.ref A78, Value.ref A79, Value.int 0, Value.int 16, Value.int 4, u0, Value.ref A80, Value.ref A81, Value.ref A82, Value.int 0, Value.ref A83, Value.int 0, Value.int 0, Value.int 0])) : Nat × va_E) := f_46_ws2
    replace hU : gx_g ws ws2 0 [46] := hU.call e_ws2 (by simp; first | done | omega)
    refine W.eq (g2 := F0 m 5 ls [Value.ref A84]) rfl ?_
    generalize t1.heap = H at hP hS ⊢
    generalize [] ++ L1 = locs at hS ⊢
    refine lv_astore_n (lv' := [(3, Value.ref A84), (0, Value.ref A46), (1, Value.int p0), (2, Value.int p1)]) hx hb d_Mo_serial_5 rfl hl (by decide) rfl (fun ls hl => ?_)
    refine lv_iconst (v := 0) hx hb d_Mo_serial_6 (by decide) ?_
    refine lv_istore (lv' := [(4, Value.int 0), (3, Value.ref A84), (0, Value.ref A46), (1, Value.int p0), (2, Value.int p1)]) hx hb d_Mo_serial_7 hl (by decide) rfl (fun ls hl => ?_)
    refine lv_iconst (v := 0) hx hb d_Mo_serial_9 (by decide) ?_
    refine lv_istore (lv' := [(5, Value.int 0), (4, Value.int 0), (3, Value.ref A84), (0, Value.ref A46), (1, Value.int p0), (2, Value.int p1)]) hx hb d_Mo_serial_10 hl (by decide) rfl (fun ls hl => ?_)
    refine lv_iload hx hb d_Mo_serial_12 (lv_at hl 0 rfl) ?_
    refine lv_aload_n hx hb d_Mo_serial_14 rfl (lv_at hl 2 rfl) ?_
    have f_84_ws2 : ws2[84]? = some ((A84, Sum.inr (9, [Value.ref A85, Value.ref A86, Value.ref A87, Value.ref A88, Value.ref A89, Value.ref A90, Value.ref A91, Value.int 0, Value.int 0, Value.int 0, Value.int 0])) : Nat × va_E) := e_ws2.at (by first | decide | (simp; done) | (simp; omega)) f_84
    clear f_84
    have f_87_ws2 : ws2[87]? = some ((A87, Sum.inl (cI, 4098, Sum.inl (fun _ => 0))) : Nat × va_E) := e_ws2.at (by first | decide | (simp; done) | (simp; omega)) f_87
    clear f_87
    refine gx_call (ig := .invokevirtual 200) (c_Ve_docs_v1 l htr D tys z _ ws2 cI A84 A85 A86 A87 A88 A89 A90 A91 f_84_ws2 f_87_ws2 ht0) (gx_invV (As := []) (rest := [Value.int 0]) hx hb hown hts km_Mo_200 kI_Ve_docs kV_Ve_docs kc_Ve_docs (by decide) (show (parseMethodDescriptor y_Ve_docs.desc).map (fun d => d.parameters.length) = some 0 by decide +kernel) (gx_recv (ci := 9) hK hP rfl f_84_ws2) rfl rfl d_Mo_serial_15) (gx_cw (z := 0) hts kc_Ve_docs kN_Ve rfl rfl ⟨Nat.le_of_ble_eq_true rfl, Nat.le_of_ble_eq_true rfl⟩) hb hml gx_blind (gx_pre hz hP hK hD hY hS hAz [Value.ref A84]) rfl hl.1 (lv_room (Nat.le_of_ble_eq_true rfl)) d_Mo_serial_15 ⟨Nat.le_of_ble_eq_true rfl, Nat.le_of_ble_eq_true rfl⟩ (fun v3 st3 t3 L3 h0_3 hW_3 hQ_3 hL_3 => ?_) (fun v3 st3 t3 L3 h0_3 hW_3 hQ_3 hL_3 => ?_)
    · obtain ⟨ws4, hp, hP9, -, hD9, hS9⟩ := gx_back h0_3 hW_3 hQ_3 hL_3 hD hS hA
      clear hQ_3 h0_3 hL_3 hW_3 hP hD hS
      have hP := hP9
      have hD := hD9
      have hS := hS9
      clear hP9 hD9 hS9
      rcases hp with ⟨hv9, e_ws4⟩
      cases hv9
      rw [e_ws4] at hP hD
      refine W.eq (g2 := F0 m 18 ls [Value.int 0, Value.int 0]) rfl ?_
      generalize t3.heap = H at hP hS ⊢
      generalize locs ++ L3 = locs at hS ⊢
      refine lv_icmp_ge (tgt := 74) hx hb d_Mo_serial_18 (by decide) (fun _ => ?_) (fun c9 => absurd (by decide) c9)
      refine lv_aload_n hx hb d_Mo_serial_74 rfl (lv_at hl 3 rfl) ?_
      refine lv_iconst (v := 1) hx hb d_Mo_serial_75 (by decide) ?_
      refine lv_iconst (v := 3) hx hb d_Mo_serial_76 (by decide) ?_
      refine gx_call (ig := .invokevirtual 152) (c_Mo_wrong_v8 l htr D tys z _ ws2 A46 A47 A48 A49 A50 A51 A52 A53 A54 A62 A70 A78 A79 (u0) A80 A81 A82 A83 f_46_ws2) (gx_invV (As := [Value.int 1, Value.int 3]) (rest := []) hx hb hown hts km_Mo_152 kI_Mo_wrong kV_Mo_wrong kc_Mo_wrong (by decide) (show (parseMethodDescriptor y_Mo_wrong.desc).map (fun d => d.parameters.length) = some 2 by decide +kernel) (gx_recv (ci := 8) hK hP rfl f_46_ws2) rfl rfl d_Mo_serial_77) (gx_cw (z := 0) hts kc_Mo_wrong kN_Mo rfl rfl ⟨Nat.le_of_ble_eq_true rfl, Nat.le_of_ble_eq_true rfl⟩) hb hml gx_blind (gx_pre hz hP hK hD hY hS hAz [Value.ref A46, Value.int 1, Value.int 3]) rfl hl.1 (lv_room (Nat.le_of_ble_eq_true rfl)) d_Mo_serial_77 ⟨Nat.le_of_ble_eq_true rfl, Nat.le_of_ble_eq_true rfl⟩ (fun v5 st5 t5 L5 h0_5 hW_5 hQ_5 hL_5 => ?_) (fun v5 st5 t5 L5 h0_5 hW_5 hQ_5 hL_5 => ?_)
      · obtain ⟨ws6, hp, hP9, -, hD9, hS9⟩ := gx_back h0_5 hW_5 hQ_5 hL_5 hD hS hA
        clear hQ_5 h0_5 hL_5 hW_5 hP hD hS
        have hP := hP9
        have hD := hD9
        have hS := hS9
        clear hP9 hD9 hS9
        rcases hp with ⟨hv9, e_ws6⟩
        cases hv9
        rw [e_ws6] at hP hD
        refine W.eq (g2 := F0 m 80 ls [Value.int 1]) rfl ?_
        generalize t5.heap = H at hP hS ⊢
        generalize locs ++ L5 = locs at hS ⊢
        refine lv_pop hx hb d_Mo_serial_80 rfl ?_
        refine lv_aload_n hx hb d_Mo_serial_81 rfl (lv_at hl 3 rfl) ?_
        refine lv_iconst (v := 0) hx hb d_Mo_serial_82 (by decide) ?_
        refine lv_iconst (v := 3) hx hb d_Mo_serial_83 (by decide) ?_
        refine gx_call (ig := .invokevirtual 148) (c_Mo_done_v19 l htr D tys z _ ws2 A46 A47 A48 A49 A50 A51 A52 A53 A54 A62 A70 A78 A79 (u0) A80 A81 A82 A83 f_46_ws2) (gx_invV (As := [Value.int 0, Value.int 3]) (rest := []) hx hb hown hts km_Mo_148 kI_Mo_done kV_Mo_done kc_Mo_done (by decide) (show (parseMethodDescriptor y_Mo_done.desc).map (fun d => d.parameters.length) = some 2 by decide +kernel) (gx_recv (ci := 8) hK hP rfl f_46_ws2) rfl rfl d_Mo_serial_84) (gx_cw (z := 0) hts kc_Mo_done kN_Mo rfl rfl ⟨Nat.le_of_ble_eq_true rfl, Nat.le_of_ble_eq_true rfl⟩) hb hml gx_blind (gx_pre hz hP hK hD hY hS hAz [Value.ref A46, Value.int 0, Value.int 3]) rfl hl.1 (lv_room (Nat.le_of_ble_eq_true rfl)) d_Mo_serial_84 ⟨Nat.le_of_ble_eq_true rfl, Nat.le_of_ble_eq_true rfl⟩ (fun v7 st7 t7 L7 h0_7 hW_7 hQ_7 hL_7 => ?_) (fun v7 st7 t7 L7 h0_7 hW_7 hQ_7 hL_7 => ?_)
        · obtain ⟨ws8, hp, hP9, -, hD9, hS9⟩ := gx_back h0_7 hW_7 hQ_7 hL_7 hD hS hA
          clear hQ_7 h0_7 hL_7 hW_7 hP hD hS
          have hP := hP9
          have hD := hD9
          have hS := hS9
          clear hP9 hD9 hS9
          rcases hp with ⟨hv9, e_ws8, f_46_ws8⟩
          cases hv9
          have f_46_ws8 : ws8[46]? = some ((A46, Sum.inr (8, [Value.int 0, Value.int 1, Value.ref A47, Value.ref A48, Value.ref A49, Value.int 0, Value.ref A50, Value.ref A51, Value.ref A52, Value.ref A53, Value.int 0, Value.int 0, Value.int 0, Value.int (-1), Value.int 0, Value.ref A54, Value.ref A62, Value.ref A70, Value.int 0, Value.int 0, Value.int 0, Value.ref A78, Value.ref A79, Value.int 0, Value.int 16, Value.int 4, u0, Value.ref A80, Value.ref A81, Value.ref A82, Value.int 0, Value.ref A83, Value.int 0, Value.int 0, Value.int 0])) : Nat × va_E) := f_46_ws8
          replace hU : gx_g ws ws8 0 [46] := hU.call e_ws8 (by simp; first | done | omega)
          refine W.eq (g2 := F0 m 87 ls [Value.int 0]) rfl ?_
          generalize t7.heap = H at hP hS ⊢
          generalize locs ++ L7 = locs at hS ⊢
          exact gx_ret (W.iret (v := 0) hx hb hr (gx_post hP hK hD hS (by rw [← hPQ]; exact ⟨rfl, hU, f_46_ws8⟩)) hS.2.2 d_Mo_serial_87)
        · obtain ⟨E9, ws9, ce, hp, hce, hP9, -, hD9, hS9⟩ := gx_backT h0_7 hW_7 hQ_7 hL_7 hD hS hA
          clear hQ_7 h0_7 hL_7 hW_7 hP hD hS
          have hP := hP9
          have hD := hD9
          have hS := hS9
          clear hP9 hD9 hS9
          rcases hp with ⟨hv9, e_ws9, f_46_ws9⟩
          cases hv9
      · obtain ⟨E9, ws10, ce, hp, hce, hP9, -, hD9, hS9⟩ := gx_backT h0_5 hW_5 hQ_5 hL_5 hD hS hA
        clear hQ_5 h0_5 hL_5 hW_5 hP hD hS
        have hP := hP9
        have hD := hD9
        have hS := hS9
        clear hP9 hD9 hS9
        rcases hp with ⟨hv9, e_ws10⟩
        cases hv9
    · obtain ⟨E9, ws11, ce, hp, hce, hP9, -, hD9, hS9⟩ := gx_backT h0_3 hW_3 hQ_3 hL_3 hD hS hA
      clear hQ_3 h0_3 hL_3 hW_3 hP hD hS
      have hP := hP9
      have hD := hD9
      have hS := hS9
      clear hP9 hD9 hS9
      rcases hp with ⟨hv9, e_ws11⟩
      cases hv9
  · obtain ⟨E9, ws12, ce, hp, hce, hP9, -, hD9, hS9⟩ := gx_backT h0_1 hW_1 hQ_1 hL_1 hD hS hA
    clear hQ_1 h0_1 hL_1 hW_1 hP hD hS
    have hP := hP9
    have hD := hD9
    have hS := hS9
    clear hP9 hD9 hS9
    rcases hp with ⟨hv9, e_ws12, f_46_ws12⟩
    cases hv9

set_option maxHeartbeats 4000000 in
set_option maxRecDepth 100000 in
theorem c_Mo_done_v20 (l : Launch) (htr : l.stackTraces = false) (D : va_G) (tys : List (ClassId × FieldType)) (z sz : Nat) (ws : va_W) (A46 : Nat) (A47 : Nat) (A48 : Nat) (A49 : Nat) (A50 : Nat) (A51 : Nat) (A52 : Nat) (A53 : Nat) (A54 : Nat) (A62 : Nat) (A70 : Nat) (A78 : Nat) (A79 : Nat) (u0 : Value) (A80 : Nat) (A81 : Nat) (A82 : Nat) (A83 : Nat) (f_46 : ws[46]? = some ((A46, Sum.inr (8, [Value.int 1, Value.int 0, Value.ref A47, Value.ref A48, Value.ref A49, Value.int 0, Value.ref A50, Value.ref A51, Value.ref A52, Value.ref A53, Value.int 0, Value.int 0, Value.int 0, Value.int (-1), Value.int 0, Value.ref A54, Value.ref A62, Value.ref A70, Value.int 0, Value.int 0, Value.int 0, Value.ref A78, Value.ref A79, Value.int 0, Value.int 16, Value.int 4, u0, Value.ref A80, Value.ref A81, Value.ref A82, Value.int 0, Value.ref A83, Value.int 0, Value.int 0, Value.int 0])) : Nat × va_E)) : gx_Met l y_Mo_done [Cond.code y_Mo_done b_Mo_done 6 (some .int)] { frames := 1, cells := 0, slots := 0, locals := 12 } (gx_P z sz D classes tys ws [Value.ref A46, Value.int 0, Value.int 13]) (gx_Q D classes tys (va_A ws sz) (fun r ws' => (r = Sum.inl (some (Value.int 0)) ∧ gx_g ws ws' 0 [46] ∧ ws'[46]? = some ((A46, Sum.inr (8, [Value.int 0, Value.int 1, Value.ref A47, Value.ref A48, Value.ref A49, Value.int 0, Value.ref A50, Value.ref A51, Value.ref A52, Value.ref A53, Value.int 0, Value.int 0, Value.int 0, Value.int (-1), Value.int 0, Value.ref A54, Value.ref A62, Value.ref A70, Value.int 0, Value.int 0, Value.int 0, Value.ref A78, Value.ref A79, Value.int 0, Value.int 16, Value.int 4, u0, Value.ref A80, Value.ref A81, Value.ref A82, Value.int 0, Value.ref A83, Value.int 0, Value.int 0, Value.int 0])) : Nat × va_E)))) 0 0 (va_A ws sz) := by
  refine gx_ofW (cc := b_Mo_done) (maxL := 6) (ret := (some .int)) (by decide) rfl ?_
  intro p e s m args below meth c s₁ B hml hv
  obtain ⟨rfl, hsz, hz, hP, hK, hD0, hY⟩ := hv
  have hx := B.exec
  have hb := B.bytes
  have hr := B.returns
  have hts := hY.hts (#[Value.ref A46, Value.int 0, Value.int 13] : Array Value)
  have hown : s.vm.findClass "CommitLedgerModel" = some m.cls := findClass_of_methodNamed B.named
  have hlocks := B.notSynchronized
  have hne : c.exceptionTable.isEmpty = true := B.noHandlers (atoms_spec (ws := [Cond.code y_Mo_done b_Mo_done 6 (some .int)]) B.pre _ List.mem_cons_self)
  subst hsz
  have hAz := gx_az hD0 hz
  have hD := hD0.self (sz := s.heap.size)
  have hN := gx_ns hP
  have hA : ∀ q : Nat, s.heap.size ≤ q → va_A ws s.heap.size q := fun q h => Or.inr h
  generalize va_A ws s.heap.size = A at hD hN hA hAz ⊢
  generalize hPQ : (fun (r : Option Value ⊕ String) (ws' : va_W) => (r = Sum.inl (some (Value.int 0)) ∧ gx_g ws ws' 0 [46] ∧ ws'[46]? = some ((A46, Sum.inr (8, [Value.int 0, Value.int 1, Value.ref A47, Value.ref A48, Value.ref A49, Value.int 0, Value.ref A50, Value.ref A51, Value.ref A52, Value.ref A53, Value.int 0, Value.int 0, Value.int 0, Value.int (-1), Value.int 0, Value.ref A54, Value.ref A62, Value.ref A70, Value.int 0, Value.int 0, Value.int 0, Value.ref A78, Value.ref A79, Value.int 0, Value.int 16, Value.int 4, u0, Value.ref A80, Value.ref A81, Value.ref A82, Value.int 0, Value.ref A83, Value.int 0, Value.int 0, Value.int 0])) : Nat × va_E))) = PQ
  have hS : va_S A s.heap s.heap [] := va_S.rf
  have hU : gx_g ws ws 0 [46] := gx_g.rf
  have hl := lv_entry ([Value.ref A46, Value.int 0, Value.int 13]) (n := 6) (Nat.le_of_ble_eq_true rfl)
  rw [lg_entry_eq]
  generalize (lg_sl ([Value.ref A46, Value.int 0, Value.int 13]) ++ List.replicate (6 - (lg_sl ([Value.ref A46, Value.int 0, Value.int 13])).length) Slot.unset).toArray = ls at hl ⊢
  have hl : lv_has ls 6 [(0, Value.ref A46), (1, Value.int 0), (2, Value.int 13)] := hl
  refine lv_aload_n hx hb d_Mo_done_0 rfl (lv_at hl 0 rfl) ?_
  refine lv_iconst (v := 0) hx hb d_Mo_done_1 (by decide) ?_
  refine va_put (D := D) (ci := 8) (v := Value.int 0) (ty := .int) (C := "CommitLedgerModel") (T := F_Mo) (N := 35) hx hb hts i_Mo t_Mo t_Mo_ok n_Mo hown hK hP hD hS 46 f_46 rfl 1 (by decide) (hts _ kf_Mo_80) (fun _ h9 => h9) rfl (by decide +kernel) rfl rfl (Nat.le_of_ble_eq_true rfl) d_Mo_done_2 (fun H locs hP9 hD9 hS9 => ?_)
  obtain ⟨ws1, e_ws1⟩ : ∃ x : va_W, x = ws.set 46 ((A46, Sum.inr (8, [Value.int 1, Value.int 0, Value.ref A47, Value.ref A48, Value.ref A49, Value.int 0, Value.ref A50, Value.ref A51, Value.ref A52, Value.ref A53, Value.int 0, Value.int 0, Value.int 0, Value.int (-1), Value.int 0, Value.ref A54, Value.ref A62, Value.ref A70, Value.int 0, Value.int 0, Value.int 0, Value.ref A78, Value.ref A79, Value.int 0, Value.int 16, Value.int 4, u0, Value.ref A80, Value.ref A81, Value.ref A82, Value.int 0, Value.ref A83, Value.int 0, Value.int 0, Value.int 0])) : Nat × va_E) := ⟨_, rfl⟩
  replace hP : va_P D classes ws1 H := by rw [e_ws1]; exact hP9
  replace hD : va_D A ws1 := by rw [e_ws1]; exact hD9
  replace hS := hS9
  clear hP9 hD9 hS9
  have f_46_ws1 : ws1[46]? = some ((A46, Sum.inr (8, [Value.int 1, Value.int 0, Value.ref A47, Value.ref A48, Value.ref A49, Value.int 0, Value.ref A50, Value.ref A51, Value.ref A52, Value.ref A53, Value.int 0, Value.int 0, Value.int 0, Value.int (-1), Value.int 0, Value.ref A54, Value.ref A62, Value.ref A70, Value.int 0, Value.int 0, Value.int 0, Value.ref A78, Value.ref A79, Value.int 0, Value.int 16, Value.int 4, u0, Value.ref A80, Value.ref A81, Value.ref A82, Value.int 0, Value.ref A83, Value.int 0, Value.int 0, Value.int 0])) : Nat × va_E) := by rw [e_ws1]; exact gs_self f_46
  replace hU : gx_g ws ws1 0 [46] := by rw [e_ws1]; exact hU.put (Or.inl (by simp))
  refine lv_iconst (v := 0) hx hb d_Mo_done_5 (by decide) ?_
  refine lv_istore_n (lv' := [(3, Value.int 0), (0, Value.ref A46), (1, Value.int 0), (2, Value.int 13)]) hx hb d_Mo_done_6 rfl hl (by decide) rfl (fun ls hl => ?_)
  refine lv_ldc (v := 100000) hx hb hown (hts _ ki_Mo_83) d_Mo_done_7 ?_
  refine lv_istore (lv' := [(4, Value.int 100000), (3, Value.int 0), (0, Value.ref A46), (1, Value.int 0), (2, Value.int 13)]) hx hb d_Mo_done_9 hl (by decide) rfl (fun ls hl => ?_)
  refine lv_iload hx hb d_Mo_done_11 (lv_at hl 0 rfl) ?_
  refine lv_if_le (tgt := 60) hx hb d_Mo_done_13 (by decide) (fun c9 => absurd c9 (by decide)) (fun _ => ?_)
  refine lv_iload_n hx hb d_Mo_done_16 rfl (lv_at hl 4 rfl) ?_
  refine lv_iload hx hb d_Mo_done_17 (lv_at hl 0 rfl) ?_
  refine lv_idiv hx hb d_Mo_done_19 (by decide) ?_
  refine gx_topi (y := 0) (by decide) ?_
  refine lv_bipush (v := 10) hx hb d_Mo_done_20 (by decide) ?_
  refine lv_irem hx hb d_Mo_done_22 (by decide) ?_
  refine gx_topi (y := 0) (by decide) ?_
  refine lv_istore (lv' := [(5, Value.int 0), (4, Value.int 100000), (3, Value.int 0), (0, Value.ref A46), (1, Value.int 0), (2, Value.int 13)]) hx hb d_Mo_done_23 hl (by decide) rfl (fun ls hl => ?_)
  refine lv_iload hx hb d_Mo_done_25 (lv_at hl 0 rfl) ?_
  refine lv_if_ne (tgt := 33) hx hb d_Mo_done_27 (by decide) (fun c9 => absurd (by decide) c9) (fun _ => ?_)
  refine lv_goto (tgt := 50) hx hb d_Mo_done_30 (by decide) ?_
  refine lv_iload hx hb d_Mo_done_50 (lv_at hl 1 rfl) ?_
  refine lv_bipush (v := 10) hx hb d_Mo_done_52 (by decide) ?_
  refine lv_idiv hx hb d_Mo_done_54 (by decide) ?_
  refine gx_topi (y := 10000) (by decide) ?_
  refine lv_istore (lv' := [(4, Value.int 10000), (5, Value.int 0), (3, Value.int 0), (0, Value.ref A46), (1, Value.int 0), (2, Value.int 13)]) hx hb d_Mo_done_55 hl (by decide) rfl (fun ls hl => ?_)
  refine lv_goto (tgt := 11) hx hb d_Mo_done_57 (by decide) ?_
  refine lv_iload hx hb d_Mo_done_11 (lv_at hl 0 rfl) ?_
  refine lv_if_le (tgt := 60) hx hb d_Mo_done_13 (by decide) (fun c9 => absurd c9 (by decide)) (fun _ => ?_)
  refine lv_iload_n hx hb d_Mo_done_16 rfl (lv_at hl 5 rfl) ?_
  refine lv_iload hx hb d_Mo_done_17 (lv_at hl 0 rfl) ?_
  refine lv_idiv hx hb d_Mo_done_19 (by decide) ?_
  refine gx_topi (y := 0) (by decide) ?_
  refine lv_bipush (v := 10) hx hb d_Mo_done_20 (by decide) ?_
  refine lv_irem hx hb d_Mo_done_22 (by decide) ?_
  refine gx_topi (y := 0) (by decide) ?_
  refine lv_istore (lv' := [(5, Value.int 0), (4, Value.int 10000), (3, Value.int 0), (0, Value.ref A46), (1, Value.int 0), (2, Value.int 13)]) hx hb d_Mo_done_23 hl (by decide) rfl (fun ls hl => ?_)
  refine lv_iload hx hb d_Mo_done_25 (lv_at hl 0 rfl) ?_
  refine lv_if_ne (tgt := 33) hx hb d_Mo_done_27 (by decide) (fun c9 => absurd (by decide) c9) (fun _ => ?_)
  refine lv_goto (tgt := 50) hx hb d_Mo_done_30 (by decide) ?_
  refine lv_iload hx hb d_Mo_done_50 (lv_at hl 1 rfl) ?_
  refine lv_bipush (v := 10) hx hb d_Mo_done_52 (by decide) ?_
  refine lv_idiv hx hb d_Mo_done_54 (by decide) ?_
  refine gx_topi (y := 1000) (by decide) ?_
  refine lv_istore (lv' := [(4, Value.int 1000), (5, Value.int 0), (3, Value.int 0), (0, Value.ref A46), (1, Value.int 0), (2, Value.int 13)]) hx hb d_Mo_done_55 hl (by decide) rfl (fun ls hl => ?_)
  refine lv_goto (tgt := 11) hx hb d_Mo_done_57 (by decide) ?_
  refine lv_iload hx hb d_Mo_done_11 (lv_at hl 0 rfl) ?_
  refine lv_if_le (tgt := 60) hx hb d_Mo_done_13 (by decide) (fun c9 => absurd c9 (by decide)) (fun _ => ?_)
  refine lv_iload_n hx hb d_Mo_done_16 rfl (lv_at hl 5 rfl) ?_
  refine lv_iload hx hb d_Mo_done_17 (lv_at hl 0 rfl) ?_
  refine lv_idiv hx hb d_Mo_done_19 (by decide) ?_
  refine gx_topi (y := 0) (by decide) ?_
  refine lv_bipush (v := 10) hx hb d_Mo_done_20 (by decide) ?_
  refine lv_irem hx hb d_Mo_done_22 (by decide) ?_
  refine gx_topi (y := 0) (by decide) ?_
  refine lv_istore (lv' := [(5, Value.int 0), (4, Value.int 1000), (3, Value.int 0), (0, Value.ref A46), (1, Value.int 0), (2, Value.int 13)]) hx hb d_Mo_done_23 hl (by decide) rfl (fun ls hl => ?_)
  refine lv_iload hx hb d_Mo_done_25 (lv_at hl 0 rfl) ?_
  refine lv_if_ne (tgt := 33) hx hb d_Mo_done_27 (by decide) (fun c9 => absurd (by decide) c9) (fun _ => ?_)
  refine lv_goto (tgt := 50) hx hb d_Mo_done_30 (by decide) ?_
  refine lv_iload hx hb d_Mo_done_50 (lv_at hl 1 rfl) ?_
  refine lv_bipush (v := 10) hx hb d_Mo_done_52 (by decide) ?_
  refine lv_idiv hx hb d_Mo_done_54 (by decide) ?_
  refine gx_topi (y := 100) (by decide) ?_
  refine lv_istore (lv' := [(4, Value.int 100), (5, Value.int 0), (3, Value.int 0), (0, Value.ref A46), (1, Value.int 0), (2, Value.int 13)]) hx hb d_Mo_done_55 hl (by decide) rfl (fun ls hl => ?_)
  refine lv_goto (tgt := 11) hx hb d_Mo_done_57 (by decide) ?_
  refine lv_iload hx hb d_Mo_done_11 (lv_at hl 0 rfl) ?_
  refine lv_if_le (tgt := 60) hx hb d_Mo_done_13 (by decide) (fun c9 => absurd c9 (by decide)) (fun _ => ?_)
  refine lv_iload_n hx hb d_Mo_done_16 rfl (lv_at hl 5 rfl) ?_
  refine lv_iload hx hb d_Mo_done_17 (lv_at hl 0 rfl) ?_
  refine lv_idiv hx hb d_Mo_done_19 (by decide) ?_
  refine gx_topi (y := 0) (by decide) ?_
  refine lv_bipush (v := 10) hx hb d_Mo_done_20 (by decide) ?_
  refine lv_irem hx hb d_Mo_done_22 (by decide) ?_
  refine gx_topi (y := 0) (by decide) ?_
  refine lv_istore (lv' := [(5, Value.int 0), (4, Value.int 100), (3, Value.int 0), (0, Value.ref A46), (1, Value.int 0), (2, Value.int 13)]) hx hb d_Mo_done_23 hl (by decide) rfl (fun ls hl => ?_)
  refine lv_iload hx hb d_Mo_done_25 (lv_at hl 0 rfl) ?_
  refine lv_if_ne (tgt := 33) hx hb d_Mo_done_27 (by decide) (fun c9 => absurd (by decide) c9) (fun _ => ?_)
  refine lv_goto (tgt := 50) hx hb d_Mo_done_30 (by decide) ?_
  refine lv_iload hx hb d_Mo_done_50 (lv_at hl 1 rfl) ?_
  refine lv_bipush (v := 10) hx hb d_Mo_done_52 (by decide) ?_
  refine lv_idiv hx hb d_Mo_done_54 (by decide) ?_
  refine gx_topi (y := 10) (by decide) ?_
  refine lv_istore (lv' := [(4, Value.int 10), (5, Value.int 0), (3, Value.int 0), (0, Value.ref A46), (1, Value.int 0), (2, Value.int 13)]) hx hb d_Mo_done_55 hl (by decide) rfl (fun ls hl => ?_)
  refine lv_goto (tgt := 11) hx hb d_Mo_done_57 (by decide) ?_
  refine lv_iload hx hb d_Mo_done_11 (lv_at hl 0 rfl) ?_
  refine lv_if_le (tgt := 60) hx hb d_Mo_done_13 (by decide) (fun c9 => absurd c9 (by decide)) (fun _ => ?_)
  refine lv_iload_n hx hb d_Mo_done_16 rfl (lv_at hl 5 rfl) ?_
  refine lv_iload hx hb d_Mo_done_17 (lv_at hl 0 rfl) ?_
  refine lv_idiv hx hb d_Mo_done_19 (by decide) ?_
  refine gx_topi (y := 1) (by decide) ?_
  refine lv_bipush (v := 10) hx hb d_Mo_done_20 (by decide) ?_
  refine lv_irem hx hb d_Mo_done_22 (by decide) ?_
  refine gx_topi (y := 1) (by decide) ?_
  refine lv_istore (lv' := [(5, Value.int 1), (4, Value.int 10), (3, Value.int 0), (0, Value.ref A46), (1, Value.int 0), (2, Value.int 13)]) hx hb d_Mo_done_23 hl (by decide) rfl (fun ls hl => ?_)
  refine lv_iload hx hb d_Mo_done_25 (lv_at hl 0 rfl) ?_
  refine lv_if_ne (tgt := 33) hx hb d_Mo_done_27 (by decide) (fun _ => ?_) (fun c9 => absurd c9 (by decide))
  refine lv_iinc (v := 1) (lv' := [(3, Value.int 1), (5, Value.int 1), (4, Value.int 10), (0, Value.ref A46), (1, Value.int 0), (2, Value.int 13)]) hx hb d_Mo_done_33 hl (k := 2) rfl (by decide) (by decide) rfl (fun ls hl => ?_)
  refine lv_iload hx hb d_Mo_done_36 (lv_at hl 1 rfl) ?_
  refine lv_aload_n hx hb d_Mo_done_38 rfl (lv_at hl 3 rfl) ?_
  refine va_get (D := D) (ci := 8) (v := Value.int 1) (C := "CommitLedgerModel") (T := F_Mo) (N := 35) hx hb hts i_Mo hown hK hP 46 f_46_ws1 rfl 0 (by decide) (hts _ kf_Mo_84) (fun _ h9 => h9) rfl d_Mo_done_39 ?_
  refine lv_icmp_ne (tgt := 50) hx hb d_Mo_done_42 (by decide) (fun c9 => absurd (by decide) c9) (fun _ => ?_)
  refine lv_aload_n hx hb d_Mo_done_45 rfl (lv_at hl 3 rfl) ?_
  refine lv_iload_n hx hb d_Mo_done_46 rfl (lv_at hl 0 rfl) ?_
  refine va_put (D := D) (ci := 8) (v := Value.int 1) (ty := .int) (C := "CommitLedgerModel") (T := F_Mo) (N := 35) hx hb hts i_Mo t_Mo t_Mo_ok n_Mo hown hK hP hD hS 46 f_46_ws1 rfl 1 (by decide) (hts _ kf_Mo_80) (fun _ h9 => h9) rfl (by decide +kernel) rfl rfl (Nat.le_of_ble_eq_true rfl) d_Mo_done_47 (fun H locs hP9 hD9 hS9 => ?_)
  obtain ⟨ws2, e_ws2⟩ : ∃ x : va_W, x = ws1.set 46 ((A46, Sum.inr (8, [Value.int 1, Value.int 1, Value.ref A47, Value.ref A48, Value.ref A49, Value.int 0, Value.ref A50, Value.ref A51, Value.ref A52, Value.ref A53, Value.int 0, Value.int 0, Value.int 0, Value.int (-1), Value.int 0, Value.ref A54, Value.ref A62, Value.ref A70, Value.int 0, Value.int 0, Value.int 0, Value.ref A78, Value.ref A79, Value.int 0, Value.int 16, Value.int 4, u0, Value.ref A80, Value.ref A81, Value.ref A82, Value.int 0, Value.ref A83, Value.int 0, Value.int 0, Value.int 0])) : Nat × va_E) := ⟨_, rfl⟩
  replace hP : va_P D classes ws2 H := by rw [e_ws2]; exact hP9
  replace hD : va_D A ws2 := by rw [e_ws2]; exact hD9
  replace hS := hS9
  clear hP9 hD9 hS9
  have f_46_ws2 : ws2[46]? = some ((A46, Sum.inr (8, [Value.int 1, Value.int 1, Value.ref A47, Value.ref A48, Value.ref A49, Value.int 0, Value.ref A50, Value.ref A51, Value.ref A52, Value.ref A53, Value.int 0, Value.int 0, Value.int 0, Value.int (-1), Value.int 0, Value.ref A54, Value.ref A62, Value.ref A70, Value.int 0, Value.int 0, Value.int 0, Value.ref A78, Value.ref A79, Value.int 0, Value.int 16, Value.int 4, u0, Value.ref A80, Value.ref A81, Value.ref A82, Value.int 0, Value.ref A83, Value.int 0, Value.int 0, Value.int 0])) : Nat × va_E) := by rw [e_ws2]; exact gs_self f_46_ws1
  replace hU : gx_g ws ws2 0 [46] := by rw [e_ws2]; exact hU.put (Or.inl (by simp))
  refine lv_iload hx hb d_Mo_done_50 (lv_at hl 2 rfl) ?_
  refine lv_bipush (v := 10) hx hb d_Mo_done_52 (by decide) ?_
  refine lv_idiv hx hb d_Mo_done_54 (by decide) ?_
  refine gx_topi (y := 1) (by decide) ?_
  refine lv_istore (lv' := [(4, Value.int 1), (3, Value.int 1), (5, Value.int 1), (0, Value.ref A46), (1, Value.int 0), (2, Value.int 13)]) hx hb d_Mo_done_55 hl (by decide) rfl (fun ls hl => ?_)
  refine lv_goto (tgt := 11) hx hb d_Mo_done_57 (by decide) ?_
  refine lv_iload hx hb d_Mo_done_11 (lv_at hl 0 rfl) ?_
  refine lv_if_le (tgt := 60) hx hb d_Mo_done_13 (by decide) (fun c9 => absurd c9 (by decide)) (fun _ => ?_)
  refine lv_iload_n hx hb d_Mo_done_16 rfl (lv_at hl 5 rfl) ?_
  refine lv_iload hx hb d_Mo_done_17 (lv_at hl 0 rfl) ?_
  refine lv_idiv hx hb d_Mo_done_19 (by decide) ?_
  refine gx_topi (y := 13) (by decide) ?_
  refine lv_bipush (v := 10) hx hb d_Mo_done_20 (by decide) ?_
  refine lv_irem hx hb d_Mo_done_22 (by decide) ?_
  refine gx_topi (y := 3) (by decide) ?_
  refine lv_istore (lv' := [(5, Value.int 3), (4, Value.int 1), (3, Value.int 1), (0, Value.ref A46), (1, Value.int 0), (2, Value.int 13)]) hx hb d_Mo_done_23 hl (by decide) rfl (fun ls hl => ?_)
  refine lv_iload hx hb d_Mo_done_25 (lv_at hl 0 rfl) ?_
  refine lv_if_ne (tgt := 33) hx hb d_Mo_done_27 (by decide) (fun _ => ?_) (fun c9 => absurd c9 (by decide))
  refine lv_iinc (v := 2) (lv' := [(3, Value.int 2), (5, Value.int 3), (4, Value.int 1), (0, Value.ref A46), (1, Value.int 0), (2, Value.int 13)]) hx hb d_Mo_done_33 hl (k := 2) rfl (by decide) (by decide) rfl (fun ls hl => ?_)
  refine lv_iload hx hb d_Mo_done_36 (lv_at hl 1 rfl) ?_
  refine lv_aload_n hx hb d_Mo_done_38 rfl (lv_at hl 3 rfl) ?_
  refine va_get (D := D) (ci := 8) (v := Value.int 1) (C := "CommitLedgerModel") (T := F_Mo) (N := 35) hx hb hts i_Mo hown hK hP 46 f_46_ws2 rfl 0 (by decide) (hts _ kf_Mo_84) (fun _ h9 => h9) rfl d_Mo_done_39 ?_
  refine lv_icmp_ne (tgt := 50) hx hb d_Mo_done_42 (by decide) (fun _ => ?_) (fun c9 => absurd c9 (by decide))
  refine lv_iload hx hb d_Mo_done_50 (lv_at hl 2 rfl) ?_
  refine lv_bipush (v := 10) hx hb d_Mo_done_52 (by decide) ?_
  refine lv_idiv hx hb d_Mo_done_54 (by decide) ?_
  refine gx_topi (y := 0) (by decide) ?_
  refine lv_istore (lv' := [(4, Value.int 0), (3, Value.int 2), (5, Value.int 3), (0, Value.ref A46), (1, Value.int 0), (2, Value.int 13)]) hx hb d_Mo_done_55 hl (by decide) rfl (fun ls hl => ?_)
  refine lv_goto (tgt := 11) hx hb d_Mo_done_57 (by decide) ?_
  refine lv_iload hx hb d_Mo_done_11 (lv_at hl 0 rfl) ?_
  refine lv_if_le (tgt := 60) hx hb d_Mo_done_13 (by decide) (fun _ => ?_) (fun c9 => absurd (by decide) c9)
  refine lv_aload_n hx hb d_Mo_done_60 rfl (lv_at hl 3 rfl) ?_
  refine lv_iconst (v := 0) hx hb d_Mo_done_61 (by decide) ?_
  refine va_put (D := D) (ci := 8) (v := Value.int 0) (ty := .int) (C := "CommitLedgerModel") (T := F_Mo) (N := 35) hx hb hts i_Mo t_Mo t_Mo_ok n_Mo hown hK hP hD hS 46 f_46_ws2 rfl 0 (by decide) (hts _ kf_Mo_84) (fun _ h9 => h9) rfl (by decide +kernel) rfl rfl (Nat.le_of_ble_eq_true rfl) d_Mo_done_62 (fun H locs hP9 hD9 hS9 => ?_)
  obtain ⟨ws3, e_ws3⟩ : ∃ x : va_W, x = ws2.set 46 ((A46, Sum.inr (8, [Value.int 0, Value.int 1, Value.ref A47, Value.ref A48, Value.ref A49, Value.int 0, Value.ref A50, Value.ref A51, Value.ref A52, Value.ref A53, Value.int 0, Value.int 0, Value.int 0, Value.int (-1), Value.int 0, Value.ref A54, Value.ref A62, Value.ref A70, Value.int 0, Value.int 0, Value.int 0, Value.ref A78, Value.ref A79, Value.int 0, Value.int 16, Value.int 4, u0, Value.ref A80, Value.ref A81, Value.ref A82, Value.int 0, Value.ref A83, Value.int 0, Value.int 0, Value.int 0])) : Nat × va_E) := ⟨_, rfl⟩
  replace hP : va_P D classes ws3 H := by rw [e_ws3]; exact hP9
  replace hD : va_D A ws3 := by rw [e_ws3]; exact hD9
  replace hS := hS9
  clear hP9 hD9 hS9
  have f_46_ws3 : ws3[46]? = some ((A46, Sum.inr (8, [Value.int 0, Value.int 1, Value.ref A47, Value.ref A48, Value.ref A49, Value.int 0, Value.ref A50, Value.ref A51, Value.ref A52, Value.ref A53, Value.int 0, Value.int 0, Value.int 0, Value.int (-1), Value.int 0, Value.ref A54, Value.ref A62, Value.ref A70, Value.int 0, Value.int 0, Value.int 0, Value.ref A78, Value.ref A79, Value.int 0, Value.int 16, Value.int 4, u0, Value.ref A80, Value.ref A81, Value.ref A82, Value.int 0, Value.ref A83, Value.int 0, Value.int 0, Value.int 0])) : Nat × va_E) := by rw [e_ws3]; exact gs_self f_46_ws2
  replace hU : gx_g ws ws3 0 [46] := by rw [e_ws3]; exact hU.put (Or.inl (by simp))
  refine lv_aload_n hx hb d_Mo_done_65 rfl (lv_at hl 3 rfl) ?_
  refine va_get (D := D) (ci := 8) (v := Value.int 1) (C := "CommitLedgerModel") (T := F_Mo) (N := 35) hx hb hts i_Mo hown hK hP 46 f_46_ws3 rfl 1 (by decide) (hts _ kf_Mo_80) (fun _ h9 => h9) rfl d_Mo_done_66 ?_
  refine lv_if_le (tgt := 76) hx hb d_Mo_done_69 (by decide) (fun c9 => absurd c9 (by decide)) (fun _ => ?_)
  refine lv_iconst (v := 0) hx hb d_Mo_done_72 (by decide) ?_
  refine lv_goto (tgt := 77) hx hb d_Mo_done_73 (by decide) ?_
  exact gx_ret (W.iret (v := 0) hx hb hr (gx_post hP hK hD hS (by rw [← hPQ]; exact ⟨rfl, hU, f_46_ws3⟩)) hS.2.2 d_Mo_done_77)

set_option maxHeartbeats 4000000 in
set_option maxRecDepth 100000 in
theorem c_Mo_done_v21 (l : Launch) (htr : l.stackTraces = false) (D : va_G) (tys : List (ClassId × FieldType)) (z sz : Nat) (ws : va_W) (A46 : Nat) (A47 : Nat) (A48 : Nat) (A49 : Nat) (A50 : Nat) (A51 : Nat) (A52 : Nat) (A53 : Nat) (A54 : Nat) (A62 : Nat) (A70 : Nat) (A78 : Nat) (A79 : Nat) (u0 : Value) (A80 : Nat) (A81 : Nat) (A82 : Nat) (A83 : Nat) (f_46 : ws[46]? = some ((A46, Sum.inr (8, [Value.int 3, Value.int 0, Value.ref A47, Value.ref A48, Value.ref A49, Value.int 0, Value.ref A50, Value.ref A51, Value.ref A52, Value.ref A53, Value.int 0, Value.int 0, Value.int 0, Value.int (-1), Value.int 0, Value.ref A54, Value.ref A62, Value.ref A70, Value.int 0, Value.int 0, Value.int 0, Value.ref A78, Value.ref A79, Value.int 0, Value.int 16, Value.int 4, u0, Value.ref A80, Value.ref A81, Value.ref A82, Value.int 0, Value.ref A83, Value.int 0, Value.int 0, Value.int 0])) : Nat × va_E)) : gx_Met l y_Mo_done [Cond.code y_Mo_done b_Mo_done 6 (some .int)] { frames := 1, cells := 0, slots := 0, locals := 12 } (gx_P z sz D classes tys ws [Value.ref A46, Value.int 0, Value.int 13]) (gx_Q D classes tys (va_A ws sz) (fun r ws' => (r = Sum.inl (some (Value.int 0)) ∧ gx_g ws ws' 0 [46] ∧ ws'[46]? = some ((A46, Sum.inr (8, [Value.int 0, Value.int 2, Value.ref A47, Value.ref A48, Value.ref A49, Value.int 0, Value.ref A50, Value.ref A51, Value.ref A52, Value.ref A53, Value.int 0, Value.int 0, Value.int 0, Value.int (-1), Value.int 0, Value.ref A54, Value.ref A62, Value.ref A70, Value.int 0, Value.int 0, Value.int 0, Value.ref A78, Value.ref A79, Value.int 0, Value.int 16, Value.int 4, u0, Value.ref A80, Value.ref A81, Value.ref A82, Value.int 0, Value.ref A83, Value.int 0, Value.int 0, Value.int 0])) : Nat × va_E)))) 0 0 (va_A ws sz) := by
  refine gx_ofW (cc := b_Mo_done) (maxL := 6) (ret := (some .int)) (by decide) rfl ?_
  intro p e s m args below meth c s₁ B hml hv
  obtain ⟨rfl, hsz, hz, hP, hK, hD0, hY⟩ := hv
  have hx := B.exec
  have hb := B.bytes
  have hr := B.returns
  have hts := hY.hts (#[Value.ref A46, Value.int 0, Value.int 13] : Array Value)
  have hown : s.vm.findClass "CommitLedgerModel" = some m.cls := findClass_of_methodNamed B.named
  have hlocks := B.notSynchronized
  have hne : c.exceptionTable.isEmpty = true := B.noHandlers (atoms_spec (ws := [Cond.code y_Mo_done b_Mo_done 6 (some .int)]) B.pre _ List.mem_cons_self)
  subst hsz
  have hAz := gx_az hD0 hz
  have hD := hD0.self (sz := s.heap.size)
  have hN := gx_ns hP
  have hA : ∀ q : Nat, s.heap.size ≤ q → va_A ws s.heap.size q := fun q h => Or.inr h
  generalize va_A ws s.heap.size = A at hD hN hA hAz ⊢
  generalize hPQ : (fun (r : Option Value ⊕ String) (ws' : va_W) => (r = Sum.inl (some (Value.int 0)) ∧ gx_g ws ws' 0 [46] ∧ ws'[46]? = some ((A46, Sum.inr (8, [Value.int 0, Value.int 2, Value.ref A47, Value.ref A48, Value.ref A49, Value.int 0, Value.ref A50, Value.ref A51, Value.ref A52, Value.ref A53, Value.int 0, Value.int 0, Value.int 0, Value.int (-1), Value.int 0, Value.ref A54, Value.ref A62, Value.ref A70, Value.int 0, Value.int 0, Value.int 0, Value.ref A78, Value.ref A79, Value.int 0, Value.int 16, Value.int 4, u0, Value.ref A80, Value.ref A81, Value.ref A82, Value.int 0, Value.ref A83, Value.int 0, Value.int 0, Value.int 0])) : Nat × va_E))) = PQ
  have hS : va_S A s.heap s.heap [] := va_S.rf
  have hU : gx_g ws ws 0 [46] := gx_g.rf
  have hl := lv_entry ([Value.ref A46, Value.int 0, Value.int 13]) (n := 6) (Nat.le_of_ble_eq_true rfl)
  rw [lg_entry_eq]
  generalize (lg_sl ([Value.ref A46, Value.int 0, Value.int 13]) ++ List.replicate (6 - (lg_sl ([Value.ref A46, Value.int 0, Value.int 13])).length) Slot.unset).toArray = ls at hl ⊢
  have hl : lv_has ls 6 [(0, Value.ref A46), (1, Value.int 0), (2, Value.int 13)] := hl
  refine lv_aload_n hx hb d_Mo_done_0 rfl (lv_at hl 0 rfl) ?_
  refine lv_iconst (v := 0) hx hb d_Mo_done_1 (by decide) ?_
  refine va_put (D := D) (ci := 8) (v := Value.int 0) (ty := .int) (C := "CommitLedgerModel") (T := F_Mo) (N := 35) hx hb hts i_Mo t_Mo t_Mo_ok n_Mo hown hK hP hD hS 46 f_46 rfl 1 (by decide) (hts _ kf_Mo_80) (fun _ h9 => h9) rfl (by decide +kernel) rfl rfl (Nat.le_of_ble_eq_true rfl) d_Mo_done_2 (fun H locs hP9 hD9 hS9 => ?_)
  obtain ⟨ws1, e_ws1⟩ : ∃ x : va_W, x = ws.set 46 ((A46, Sum.inr (8, [Value.int 3, Value.int 0, Value.ref A47, Value.ref A48, Value.ref A49, Value.int 0, Value.ref A50, Value.ref A51, Value.ref A52, Value.ref A53, Value.int 0, Value.int 0, Value.int 0, Value.int (-1), Value.int 0, Value.ref A54, Value.ref A62, Value.ref A70, Value.int 0, Value.int 0, Value.int 0, Value.ref A78, Value.ref A79, Value.int 0, Value.int 16, Value.int 4, u0, Value.ref A80, Value.ref A81, Value.ref A82, Value.int 0, Value.ref A83, Value.int 0, Value.int 0, Value.int 0])) : Nat × va_E) := ⟨_, rfl⟩
  replace hP : va_P D classes ws1 H := by rw [e_ws1]; exact hP9
  replace hD : va_D A ws1 := by rw [e_ws1]; exact hD9
  replace hS := hS9
  clear hP9 hD9 hS9
  have f_46_ws1 : ws1[46]? = some ((A46, Sum.inr (8, [Value.int 3, Value.int 0, Value.ref A47, Value.ref A48, Value.ref A49, Value.int 0, Value.ref A50, Value.ref A51, Value.ref A52, Value.ref A53, Value.int 0, Value.int 0, Value.int 0, Value.int (-1), Value.int 0, Value.ref A54, Value.ref A62, Value.ref A70, Value.int 0, Value.int 0, Value.int 0, Value.ref A78, Value.ref A79, Value.int 0, Value.int 16, Value.int 4, u0, Value.ref A80, Value.ref A81, Value.ref A82, Value.int 0, Value.ref A83, Value.int 0, Value.int 0, Value.int 0])) : Nat × va_E) := by rw [e_ws1]; exact gs_self f_46
  replace hU : gx_g ws ws1 0 [46] := by rw [e_ws1]; exact hU.put (Or.inl (by simp))
  refine lv_iconst (v := 0) hx hb d_Mo_done_5 (by decide) ?_
  refine lv_istore_n (lv' := [(3, Value.int 0), (0, Value.ref A46), (1, Value.int 0), (2, Value.int 13)]) hx hb d_Mo_done_6 rfl hl (by decide) rfl (fun ls hl => ?_)
  refine lv_ldc (v := 100000) hx hb hown (hts _ ki_Mo_83) d_Mo_done_7 ?_
  refine lv_istore (lv' := [(4, Value.int 100000), (3, Value.int 0), (0, Value.ref A46), (1, Value.int 0), (2, Value.int 13)]) hx hb d_Mo_done_9 hl (by decide) rfl (fun ls hl => ?_)
  refine lv_iload hx hb d_Mo_done_11 (lv_at hl 0 rfl) ?_
  refine lv_if_le (tgt := 60) hx hb d_Mo_done_13 (by decide) (fun c9 => absurd c9 (by decide)) (fun _ => ?_)
  refine lv_iload_n hx hb d_Mo_done_16 rfl (lv_at hl 4 rfl) ?_
  refine lv_iload hx hb d_Mo_done_17 (lv_at hl 0 rfl) ?_
  refine lv_idiv hx hb d_Mo_done_19 (by decide) ?_
  refine gx_topi (y := 0) (by decide) ?_
  refine lv_bipush (v := 10) hx hb d_Mo_done_20 (by decide) ?_
  refine lv_irem hx hb d_Mo_done_22 (by decide) ?_
  refine gx_topi (y := 0) (by decide) ?_
  refine lv_istore (lv' := [(5, Value.int 0), (4, Value.int 100000), (3, Value.int 0), (0, Value.ref A46), (1, Value.int 0), (2, Value.int 13)]) hx hb d_Mo_done_23 hl (by decide) rfl (fun ls hl => ?_)
  refine lv_iload hx hb d_Mo_done_25 (lv_at hl 0 rfl) ?_
  refine lv_if_ne (tgt := 33) hx hb d_Mo_done_27 (by decide) (fun c9 => absurd (by decide) c9) (fun _ => ?_)
  refine lv_goto (tgt := 50) hx hb d_Mo_done_30 (by decide) ?_
  refine lv_iload hx hb d_Mo_done_50 (lv_at hl 1 rfl) ?_
  refine lv_bipush (v := 10) hx hb d_Mo_done_52 (by decide) ?_
  refine lv_idiv hx hb d_Mo_done_54 (by decide) ?_
  refine gx_topi (y := 10000) (by decide) ?_
  refine lv_istore (lv' := [(4, Value.int 10000), (5, Value.int 0), (3, Value.int 0), (0, Value.ref A46), (1, Value.int 0), (2, Value.int 13)]) hx hb d_Mo_done_55 hl (by decide) rfl (fun ls hl => ?_)
  refine lv_goto (tgt := 11) hx hb d_Mo_done_57 (by decide) ?_
  refine lv_iload hx hb d_Mo_done_11 (lv_at hl 0 rfl) ?_
  refine lv_if_le (tgt := 60) hx hb d_Mo_done_13 (by decide) (fun c9 => absurd c9 (by decide)) (fun _ => ?_)
  refine lv_iload_n hx hb d_Mo_done_16 rfl (lv_at hl 5 rfl) ?_
  refine lv_iload hx hb d_Mo_done_17 (lv_at hl 0 rfl) ?_
  refine lv_idiv hx hb d_Mo_done_19 (by decide) ?_
  refine gx_topi (y := 0) (by decide) ?_
  refine lv_bipush (v := 10) hx hb d_Mo_done_20 (by decide) ?_
  refine lv_irem hx hb d_Mo_done_22 (by decide) ?_
  refine gx_topi (y := 0) (by decide) ?_
  refine lv_istore (lv' := [(5, Value.int 0), (4, Value.int 10000), (3, Value.int 0), (0, Value.ref A46), (1, Value.int 0), (2, Value.int 13)]) hx hb d_Mo_done_23 hl (by decide) rfl (fun ls hl => ?_)
  refine lv_iload hx hb d_Mo_done_25 (lv_at hl 0 rfl) ?_
  refine lv_if_ne (tgt := 33) hx hb d_Mo_done_27 (by decide) (fun c9 => absurd (by decide) c9) (fun _ => ?_)
  refine lv_goto (tgt := 50) hx hb d_Mo_done_30 (by decide) ?_
  refine lv_iload hx hb d_Mo_done_50 (lv_at hl 1 rfl) ?_
  refine lv_bipush (v := 10) hx hb d_Mo_done_52 (by decide) ?_
  refine lv_idiv hx hb d_Mo_done_54 (by decide) ?_
  refine gx_topi (y := 1000) (by decide) ?_
  refine lv_istore (lv' := [(4, Value.int 1000), (5, Value.int 0), (3, Value.int 0), (0, Value.ref A46), (1, Value.int 0), (2, Value.int 13)]) hx hb d_Mo_done_55 hl (by decide) rfl (fun ls hl => ?_)
  refine lv_goto (tgt := 11) hx hb d_Mo_done_57 (by decide) ?_
  refine lv_iload hx hb d_Mo_done_11 (lv_at hl 0 rfl) ?_
  refine lv_if_le (tgt := 60) hx hb d_Mo_done_13 (by decide) (fun c9 => absurd c9 (by decide)) (fun _ => ?_)
  refine lv_iload_n hx hb d_Mo_done_16 rfl (lv_at hl 5 rfl) ?_
  refine lv_iload hx hb d_Mo_done_17 (lv_at hl 0 rfl) ?_
  refine lv_idiv hx hb d_Mo_done_19 (by decide) ?_
  refine gx_topi (y := 0) (by decide) ?_
  refine lv_bipush (v := 10) hx hb d_Mo_done_20 (by decide) ?_
  refine lv_irem hx hb d_Mo_done_22 (by decide) ?_
  refine gx_topi (y := 0) (by decide) ?_
  refine lv_istore (lv' := [(5, Value.int 0), (4, Value.int 1000), (3, Value.int 0), (0, Value.ref A46), (1, Value.int 0), (2, Value.int 13)]) hx hb d_Mo_done_23 hl (by decide) rfl (fun ls hl => ?_)
  refine lv_iload hx hb d_Mo_done_25 (lv_at hl 0 rfl) ?_
  refine lv_if_ne (tgt := 33) hx hb d_Mo_done_27 (by decide) (fun c9 => absurd (by decide) c9) (fun _ => ?_)
  refine lv_goto (tgt := 50) hx hb d_Mo_done_30 (by decide) ?_
  refine lv_iload hx hb d_Mo_done_50 (lv_at hl 1 rfl) ?_
  refine lv_bipush (v := 10) hx hb d_Mo_done_52 (by decide) ?_
  refine lv_idiv hx hb d_Mo_done_54 (by decide) ?_
  refine gx_topi (y := 100) (by decide) ?_
  refine lv_istore (lv' := [(4, Value.int 100), (5, Value.int 0), (3, Value.int 0), (0, Value.ref A46), (1, Value.int 0), (2, Value.int 13)]) hx hb d_Mo_done_55 hl (by decide) rfl (fun ls hl => ?_)
  refine lv_goto (tgt := 11) hx hb d_Mo_done_57 (by decide) ?_
  refine lv_iload hx hb d_Mo_done_11 (lv_at hl 0 rfl) ?_
  refine lv_if_le (tgt := 60) hx hb d_Mo_done_13 (by decide) (fun c9 => absurd c9 (by decide)) (fun _ => ?_)
  refine lv_iload_n hx hb d_Mo_done_16 rfl (lv_at hl 5 rfl) ?_
  refine lv_iload hx hb d_Mo_done_17 (lv_at hl 0 rfl) ?_
  refine lv_idiv hx hb d_Mo_done_19 (by decide) ?_
  refine gx_topi (y := 0) (by decide) ?_
  refine lv_bipush (v := 10) hx hb d_Mo_done_20 (by decide) ?_
  refine lv_irem hx hb d_Mo_done_22 (by decide) ?_
  refine gx_topi (y := 0) (by decide) ?_
  refine lv_istore (lv' := [(5, Value.int 0), (4, Value.int 100), (3, Value.int 0), (0, Value.ref A46), (1, Value.int 0), (2, Value.int 13)]) hx hb d_Mo_done_23 hl (by decide) rfl (fun ls hl => ?_)
  refine lv_iload hx hb d_Mo_done_25 (lv_at hl 0 rfl) ?_
  refine lv_if_ne (tgt := 33) hx hb d_Mo_done_27 (by decide) (fun c9 => absurd (by decide) c9) (fun _ => ?_)
  refine lv_goto (tgt := 50) hx hb d_Mo_done_30 (by decide) ?_
  refine lv_iload hx hb d_Mo_done_50 (lv_at hl 1 rfl) ?_
  refine lv_bipush (v := 10) hx hb d_Mo_done_52 (by decide) ?_
  refine lv_idiv hx hb d_Mo_done_54 (by decide) ?_
  refine gx_topi (y := 10) (by decide) ?_
  refine lv_istore (lv' := [(4, Value.int 10), (5, Value.int 0), (3, Value.int 0), (0, Value.ref A46), (1, Value.int 0), (2, Value.int 13)]) hx hb d_Mo_done_55 hl (by decide) rfl (fun ls hl => ?_)
  refine lv_goto (tgt := 11) hx hb d_Mo_done_57 (by decide) ?_
  refine lv_iload hx hb d_Mo_done_11 (lv_at hl 0 rfl) ?_
  refine lv_if_le (tgt := 60) hx hb d_Mo_done_13 (by decide) (fun c9 => absurd c9 (by decide)) (fun _ => ?_)
  refine lv_iload_n hx hb d_Mo_done_16 rfl (lv_at hl 5 rfl) ?_
  refine lv_iload hx hb d_Mo_done_17 (lv_at hl 0 rfl) ?_
  refine lv_idiv hx hb d_Mo_done_19 (by decide) ?_
  refine gx_topi (y := 1) (by decide) ?_
  refine lv_bipush (v := 10) hx hb d_Mo_done_20 (by decide) ?_
  refine lv_irem hx hb d_Mo_done_22 (by decide) ?_
  refine gx_topi (y := 1) (by decide) ?_
  refine lv_istore (lv' := [(5, Value.int 1), (4, Value.int 10), (3, Value.int 0), (0, Value.ref A46), (1, Value.int 0), (2, Value.int 13)]) hx hb d_Mo_done_23 hl (by decide) rfl (fun ls hl => ?_)
  refine lv_iload hx hb d_Mo_done_25 (lv_at hl 0 rfl) ?_
  refine lv_if_ne (tgt := 33) hx hb d_Mo_done_27 (by decide) (fun _ => ?_) (fun c9 => absurd c9 (by decide))
  refine lv_iinc (v := 1) (lv' := [(3, Value.int 1), (5, Value.int 1), (4, Value.int 10), (0, Value.ref A46), (1, Value.int 0), (2, Value.int 13)]) hx hb d_Mo_done_33 hl (k := 2) rfl (by decide) (by decide) rfl (fun ls hl => ?_)
  refine lv_iload hx hb d_Mo_done_36 (lv_at hl 1 rfl) ?_
  refine lv_aload_n hx hb d_Mo_done_38 rfl (lv_at hl 3 rfl) ?_
  refine va_get (D := D) (ci := 8) (v := Value.int 3) (C := "CommitLedgerModel") (T := F_Mo) (N := 35) hx hb hts i_Mo hown hK hP 46 f_46_ws1 rfl 0 (by decide) (hts _ kf_Mo_84) (fun _ h9 => h9) rfl d_Mo_done_39 ?_
  refine lv_icmp_ne (tgt := 50) hx hb d_Mo_done_42 (by decide) (fun _ => ?_) (fun c9 => absurd c9 (by decide))
  refine lv_iload hx hb d_Mo_done_50 (lv_at hl 2 rfl) ?_
  refine lv_bipush (v := 10) hx hb d_Mo_done_52 (by decide) ?_
  refine lv_idiv hx hb d_Mo_done_54 (by decide) ?_
  refine gx_topi (y := 1) (by decide) ?_
  refine lv_istore (lv' := [(4, Value.int 1), (3, Value.int 1), (5, Value.int 1), (0, Value.ref A46), (1, Value.int 0), (2, Value.int 13)]) hx hb d_Mo_done_55 hl (by decide) rfl (fun ls hl => ?_)
  refine lv_goto (tgt := 11) hx hb d_Mo_done_57 (by decide) ?_
  refine lv_iload hx hb d_Mo_done_11 (lv_at hl 0 rfl) ?_
  refine lv_if_le (tgt := 60) hx hb d_Mo_done_13 (by decide) (fun c9 => absurd c9 (by decide)) (fun _ => ?_)
  refine lv_iload_n hx hb d_Mo_done_16 rfl (lv_at hl 5 rfl) ?_
  refine lv_iload hx hb d_Mo_done_17 (lv_at hl 0 rfl) ?_
  refine lv_idiv hx hb d_Mo_done_19 (by decide) ?_
  refine gx_topi (y := 13) (by decide) ?_
  refine lv_bipush (v := 10) hx hb d_Mo_done_20 (by decide) ?_
  refine lv_irem hx hb d_Mo_done_22 (by decide) ?_
  refine gx_topi (y := 3) (by decide) ?_
  refine lv_istore (lv' := [(5, Value.int 3), (4, Value.int 1), (3, Value.int 1), (0, Value.ref A46), (1, Value.int 0), (2, Value.int 13)]) hx hb d_Mo_done_23 hl (by decide) rfl (fun ls hl => ?_)
  refine lv_iload hx hb d_Mo_done_25 (lv_at hl 0 rfl) ?_
  refine lv_if_ne (tgt := 33) hx hb d_Mo_done_27 (by decide) (fun _ => ?_) (fun c9 => absurd c9 (by decide))
  refine lv_iinc (v := 2) (lv' := [(3, Value.int 2), (5, Value.int 3), (4, Value.int 1), (0, Value.ref A46), (1, Value.int 0), (2, Value.int 13)]) hx hb d_Mo_done_33 hl (k := 2) rfl (by decide) (by decide) rfl (fun ls hl => ?_)
  refine lv_iload hx hb d_Mo_done_36 (lv_at hl 1 rfl) ?_
  refine lv_aload_n hx hb d_Mo_done_38 rfl (lv_at hl 3 rfl) ?_
  refine va_get (D := D) (ci := 8) (v := Value.int 3) (C := "CommitLedgerModel") (T := F_Mo) (N := 35) hx hb hts i_Mo hown hK hP 46 f_46_ws1 rfl 0 (by decide) (hts _ kf_Mo_84) (fun _ h9 => h9) rfl d_Mo_done_39 ?_
  refine lv_icmp_ne (tgt := 50) hx hb d_Mo_done_42 (by decide) (fun c9 => absurd (by decide) c9) (fun _ => ?_)
  refine lv_aload_n hx hb d_Mo_done_45 rfl (lv_at hl 3 rfl) ?_
  refine lv_iload_n hx hb d_Mo_done_46 rfl (lv_at hl 0 rfl) ?_
  refine va_put (D := D) (ci := 8) (v := Value.int 2) (ty := .int) (C := "CommitLedgerModel") (T := F_Mo) (N := 35) hx hb hts i_Mo t_Mo t_Mo_ok n_Mo hown hK hP hD hS 46 f_46_ws1 rfl 1 (by decide) (hts _ kf_Mo_80) (fun _ h9 => h9) rfl (by decide +kernel) rfl rfl (Nat.le_of_ble_eq_true rfl) d_Mo_done_47 (fun H locs hP9 hD9 hS9 => ?_)
  obtain ⟨ws2, e_ws2⟩ : ∃ x : va_W, x = ws1.set 46 ((A46, Sum.inr (8, [Value.int 3, Value.int 2, Value.ref A47, Value.ref A48, Value.ref A49, Value.int 0, Value.ref A50, Value.ref A51, Value.ref A52, Value.ref A53, Value.int 0, Value.int 0, Value.int 0, Value.int (-1), Value.int 0, Value.ref A54, Value.ref A62, Value.ref A70, Value.int 0, Value.int 0, Value.int 0, Value.ref A78, Value.ref A79, Value.int 0, Value.int 16, Value.int 4, u0, Value.ref A80, Value.ref A81, Value.ref A82, Value.int 0, Value.ref A83, Value.int 0, Value.int 0, Value.int 0])) : Nat × va_E) := ⟨_, rfl⟩
  replace hP : va_P D classes ws2 H := by rw [e_ws2]; exact hP9
  replace hD : va_D A ws2 := by rw [e_ws2]; exact hD9
  replace hS := hS9
  clear hP9 hD9 hS9
  have f_46_ws2 : ws2[46]? = some ((A46, Sum.inr (8, [Value.int 3, Value.int 2, Value.ref A47, Value.ref A48, Value.ref A49, Value.int 0, Value.ref A50, Value.ref A51, Value.ref A52, Value.ref A53, Value.int 0, Value.int 0, Value.int 0, Value.int (-1), Value.int 0, Value.ref A54, Value.ref A62, Value.ref A70, Value.int 0, Value.int 0, Value.int 0, Value.ref A78, Value.ref A79, Value.int 0, Value.int 16, Value.int 4, u0, Value.ref A80, Value.ref A81, Value.ref A82, Value.int 0, Value.ref A83, Value.int 0, Value.int 0, Value.int 0])) : Nat × va_E) := by rw [e_ws2]; exact gs_self f_46_ws1
  replace hU : gx_g ws ws2 0 [46] := by rw [e_ws2]; exact hU.put (Or.inl (by simp))
  refine lv_iload hx hb d_Mo_done_50 (lv_at hl 2 rfl) ?_
  refine lv_bipush (v := 10) hx hb d_Mo_done_52 (by decide) ?_
  refine lv_idiv hx hb d_Mo_done_54 (by decide) ?_
  refine gx_topi (y := 0) (by decide) ?_
  refine lv_istore (lv' := [(4, Value.int 0), (3, Value.int 2), (5, Value.int 3), (0, Value.ref A46), (1, Value.int 0), (2, Value.int 13)]) hx hb d_Mo_done_55 hl (by decide) rfl (fun ls hl => ?_)
  refine lv_goto (tgt := 11) hx hb d_Mo_done_57 (by decide) ?_
  refine lv_iload hx hb d_Mo_done_11 (lv_at hl 0 rfl) ?_
  refine lv_if_le (tgt := 60) hx hb d_Mo_done_13 (by decide) (fun _ => ?_) (fun c9 => absurd (by decide) c9)
  refine lv_aload_n hx hb d_Mo_done_60 rfl (lv_at hl 3 rfl) ?_
  refine lv_iconst (v := 0) hx hb d_Mo_done_61 (by decide) ?_
  refine va_put (D := D) (ci := 8) (v := Value.int 0) (ty := .int) (C := "CommitLedgerModel") (T := F_Mo) (N := 35) hx hb hts i_Mo t_Mo t_Mo_ok n_Mo hown hK hP hD hS 46 f_46_ws2 rfl 0 (by decide) (hts _ kf_Mo_84) (fun _ h9 => h9) rfl (by decide +kernel) rfl rfl (Nat.le_of_ble_eq_true rfl) d_Mo_done_62 (fun H locs hP9 hD9 hS9 => ?_)
  obtain ⟨ws3, e_ws3⟩ : ∃ x : va_W, x = ws2.set 46 ((A46, Sum.inr (8, [Value.int 0, Value.int 2, Value.ref A47, Value.ref A48, Value.ref A49, Value.int 0, Value.ref A50, Value.ref A51, Value.ref A52, Value.ref A53, Value.int 0, Value.int 0, Value.int 0, Value.int (-1), Value.int 0, Value.ref A54, Value.ref A62, Value.ref A70, Value.int 0, Value.int 0, Value.int 0, Value.ref A78, Value.ref A79, Value.int 0, Value.int 16, Value.int 4, u0, Value.ref A80, Value.ref A81, Value.ref A82, Value.int 0, Value.ref A83, Value.int 0, Value.int 0, Value.int 0])) : Nat × va_E) := ⟨_, rfl⟩
  replace hP : va_P D classes ws3 H := by rw [e_ws3]; exact hP9
  replace hD : va_D A ws3 := by rw [e_ws3]; exact hD9
  replace hS := hS9
  clear hP9 hD9 hS9
  have f_46_ws3 : ws3[46]? = some ((A46, Sum.inr (8, [Value.int 0, Value.int 2, Value.ref A47, Value.ref A48, Value.ref A49, Value.int 0, Value.ref A50, Value.ref A51, Value.ref A52, Value.ref A53, Value.int 0, Value.int 0, Value.int 0, Value.int (-1), Value.int 0, Value.ref A54, Value.ref A62, Value.ref A70, Value.int 0, Value.int 0, Value.int 0, Value.ref A78, Value.ref A79, Value.int 0, Value.int 16, Value.int 4, u0, Value.ref A80, Value.ref A81, Value.ref A82, Value.int 0, Value.ref A83, Value.int 0, Value.int 0, Value.int 0])) : Nat × va_E) := by rw [e_ws3]; exact gs_self f_46_ws2
  replace hU : gx_g ws ws3 0 [46] := by rw [e_ws3]; exact hU.put (Or.inl (by simp))
  refine lv_aload_n hx hb d_Mo_done_65 rfl (lv_at hl 3 rfl) ?_
  refine va_get (D := D) (ci := 8) (v := Value.int 2) (C := "CommitLedgerModel") (T := F_Mo) (N := 35) hx hb hts i_Mo hown hK hP 46 f_46_ws3 rfl 1 (by decide) (hts _ kf_Mo_80) (fun _ h9 => h9) rfl d_Mo_done_66 ?_
  refine lv_if_le (tgt := 76) hx hb d_Mo_done_69 (by decide) (fun c9 => absurd c9 (by decide)) (fun _ => ?_)
  refine lv_iconst (v := 0) hx hb d_Mo_done_72 (by decide) ?_
  refine lv_goto (tgt := 77) hx hb d_Mo_done_73 (by decide) ?_
  exact gx_ret (W.iret (v := 0) hx hb hr (gx_post hP hK hD hS (by rw [← hPQ]; exact ⟨rfl, hU, f_46_ws3⟩)) hS.2.2 d_Mo_done_77)

set_option maxHeartbeats 4000000 in
set_option maxRecDepth 100000 in
theorem c_Mo_seen_v1 (l : Launch) (htr : l.stackTraces = false) (D : va_G) (tys : List (ClassId × FieldType)) (z sz : Nat) (ws : va_W) (cV : ClassId) (A46 : Nat) (p0 : Int32) (p1 : Int32) (A47 : Nat) (A48 : Nat) (A49 : Nat) (A50 : Nat) (A51 : Nat) (A52 : Nat) (A53 : Nat) (A54 : Nat) (A62 : Nat) (A70 : Nat) (A78 : Nat) (A79 : Nat) (u0 : Value) (A80 : Nat) (A81 : Nat) (A82 : Nat) (A83 : Nat) (A84 : Nat) (A85 : Nat) (A86 : Nat) (A87 : Nat) (A88 : Nat) (A89 : Nat) (A90 : Nat) (A91 : Nat) (A92 : Nat) (A93 : Nat) (A94 : Nat) (A95 : Nat) (A96 : Nat) (A97 : Nat) (A98 : Nat) (A99 : Nat) (A100 : Nat) (A101 : Nat) (A102 : Nat) (A103 : Nat) (A104 : Nat) (A105 : Nat) (A106 : Nat) (A107 : Nat) (A108 : Nat) (A109 : Nat) (A110 : Nat) (A111 : Nat) (A112 : Nat) (A113 : Nat) (A114 : Nat) (A115 : Nat) (f_46 : ws[46]? = some ((A46, Sum.inr (8, [Value.int 0, Value.int 0, Value.ref A47, Value.ref A48, Value.ref A49, Value.int 0, Value.ref A50, Value.ref A51, Value.ref A52, Value.ref A53, Value.int 0, Value.int 0, Value.int 0, Value.int (-1), Value.int 0, Value.ref A54, Value.ref A62, Value.ref A70, Value.int 0, Value.int 0, Value.int 0, Value.ref A78, Value.ref A79, Value.int 0, Value.int 16, Value.int 4, u0, Value.ref A80, Value.ref A81, Value.ref A82, Value.int 0, Value.ref A83, Value.int 0, Value.int 0, Value.int 0])) : Nat × va_E)) (f_84 : ws[84]? = some ((A84, Sum.inr (9, [Value.ref A85, Value.ref A86, Value.ref A87, Value.ref A88, Value.ref A89, Value.ref A90, Value.ref A91, Value.int 0, Value.int 0, Value.int 0, Value.int 0])) : Nat × va_E)) (f_92 : ws[92]? = some ((A92, Sum.inr (9, [Value.ref A93, Value.ref A94, Value.ref A95, Value.ref A96, Value.ref A97, Value.ref A98, Value.ref A99, Value.int 0, Value.int 0, Value.int 0, Value.int 0])) : Nat × va_E)) (f_100 : ws[100]? = some ((A100, Sum.inr (9, [Value.ref A101, Value.ref A102, Value.ref A103, Value.ref A104, Value.ref A105, Value.ref A106, Value.ref A107, Value.int 0, Value.int 0, Value.int 0, Value.int 0])) : Nat × va_E)) (f_108 : ws[108]? = some ((A108, Sum.inr (9, [Value.ref A109, Value.ref A110, Value.ref A111, Value.ref A112, Value.ref A113, Value.ref A114, Value.ref A115, Value.int 0, Value.int 0, Value.int 0, Value.int 0])) : Nat × va_E)) (f_83 : ws[83]? = some ((A83, Sum.inl (cV, 4, Sum.inr (Sum.inr (Sum.inr (Sum.inr (va_up (va_up (va_up (va_up (fun _ => none) 0 (some A84)) 1 (some A92)) 2 (some A100)) 3 (some A108))))))) : Nat × va_E)) (ht5 : tys[5]? = some ((cV, FieldType.object "CommitLedgerModel$Version") : ClassId × FieldType)) : gx_Met l y_Mo_seen [Cond.code y_Mo_seen b_Mo_seen 4 (some .int)] { frames := 2, cells := 0, slots := 0, locals := 37 } (gx_P z sz D classes tys ws [Value.ref A46, Value.int p0, Value.int p1]) (gx_Q D classes tys (va_A ws sz) (fun r ws' => (r = Sum.inl (some (Value.int 0)) ∧ gx_g ws ws' 0 [46] ∧ ws'[46]? = some ((A46, Sum.inr (8, [Value.int 0, Value.int 1, Value.ref A47, Value.ref A48, Value.ref A49, Value.int 0, Value.ref A50, Value.ref A51, Value.ref A52, Value.ref A53, Value.int 0, Value.int 0, Value.int 0, Value.int (-1), Value.int 0, Value.ref A54, Value.ref A62, Value.ref A70, Value.int 0, Value.int 0, Value.int 0, Value.ref A78, Value.ref A79, Value.int 0, Value.int 16, Value.int 4, u0, Value.ref A80, Value.ref A81, Value.ref A82, Value.int 0, Value.ref A83, Value.int 0, Value.int 0, Value.int 0])) : Nat × va_E) ∧ p1 < 0) ∨ (r = Sum.inl (some (Value.int 0)) ∧ gx_g ws ws' 0 [46] ∧ ws'[46]? = some ((A46, Sum.inr (8, [Value.int 0, Value.int 2, Value.ref A47, Value.ref A48, Value.ref A49, Value.int 0, Value.ref A50, Value.ref A51, Value.ref A52, Value.ref A53, Value.int 0, Value.int 0, Value.int 0, Value.int (-1), Value.int 0, Value.ref A54, Value.ref A62, Value.ref A70, Value.int 0, Value.int 0, Value.int 0, Value.ref A78, Value.ref A79, Value.int 0, Value.int 16, Value.int 4, u0, Value.ref A80, Value.ref A81, Value.ref A82, Value.int 0, Value.ref A83, Value.int 0, Value.int 0, Value.int 0])) : Nat × va_E) ∧ ¬ p1 < 0 ∧ p1 ≤ 2) ∨ (r = Sum.inl (some (Value.int 0)) ∧ gx_g ws ws' 0 [46] ∧ ws'[46]? = some ((A46, Sum.inr (8, [Value.int 0, Value.int 1, Value.ref A47, Value.ref A48, Value.ref A49, Value.int 0, Value.ref A50, Value.ref A51, Value.ref A52, Value.ref A53, Value.int 0, Value.int 0, Value.int 0, Value.int (-1), Value.int 0, Value.ref A54, Value.ref A62, Value.ref A70, Value.int 0, Value.int 0, Value.int 0, Value.ref A78, Value.ref A79, Value.int 0, Value.int 16, Value.int 4, u0, Value.ref A80, Value.ref A81, Value.ref A82, Value.int 0, Value.ref A83, Value.int 0, Value.int 0, Value.int 0])) : Nat × va_E) ∧ ¬ p1 < 0 ∧ ¬ p1 ≤ 2))) 0 0 (va_A ws sz) := by
  refine gx_ofW (cc := b_Mo_seen) (maxL := 4) (ret := (some .int)) (by decide) rfl ?_
  intro p e s m args below meth c s₁ B hml hv
  obtain ⟨rfl, hsz, hz, hP, hK, hD0, hY⟩ := hv
  have hx := B.exec
  have hb := B.bytes
  have hr := B.returns
  have hts := hY.hts (#[Value.ref A46, Value.int p0, Value.int p1] : Array Value)
  have hown : s.vm.findClass "CommitLedgerModel" = some m.cls := findClass_of_methodNamed B.named
  have hlocks := B.notSynchronized
  have hne : c.exceptionTable.isEmpty = true := B.noHandlers (atoms_spec (ws := [Cond.code y_Mo_seen b_Mo_seen 4 (some .int)]) B.pre _ List.mem_cons_self)
  subst hsz
  have hAz := gx_az hD0 hz
  have hD := hD0.self (sz := s.heap.size)
  have hN := gx_ns hP
  have hA : ∀ q : Nat, s.heap.size ≤ q → va_A ws s.heap.size q := fun q h => Or.inr h
  generalize va_A ws s.heap.size = A at hD hN hA hAz ⊢
  generalize hPQ : (fun (r : Option Value ⊕ String) (ws' : va_W) => (r = Sum.inl (some (Value.int 0)) ∧ gx_g ws ws' 0 [46] ∧ ws'[46]? = some ((A46, Sum.inr (8, [Value.int 0, Value.int 1, Value.ref A47, Value.ref A48, Value.ref A49, Value.int 0, Value.ref A50, Value.ref A51, Value.ref A52, Value.ref A53, Value.int 0, Value.int 0, Value.int 0, Value.int (-1), Value.int 0, Value.ref A54, Value.ref A62, Value.ref A70, Value.int 0, Value.int 0, Value.int 0, Value.ref A78, Value.ref A79, Value.int 0, Value.int 16, Value.int 4, u0, Value.ref A80, Value.ref A81, Value.ref A82, Value.int 0, Value.ref A83, Value.int 0, Value.int 0, Value.int 0])) : Nat × va_E) ∧ p1 < 0) ∨ (r = Sum.inl (some (Value.int 0)) ∧ gx_g ws ws' 0 [46] ∧ ws'[46]? = some ((A46, Sum.inr (8, [Value.int 0, Value.int 2, Value.ref A47, Value.ref A48, Value.ref A49, Value.int 0, Value.ref A50, Value.ref A51, Value.ref A52, Value.ref A53, Value.int 0, Value.int 0, Value.int 0, Value.int (-1), Value.int 0, Value.ref A54, Value.ref A62, Value.ref A70, Value.int 0, Value.int 0, Value.int 0, Value.ref A78, Value.ref A79, Value.int 0, Value.int 16, Value.int 4, u0, Value.ref A80, Value.ref A81, Value.ref A82, Value.int 0, Value.ref A83, Value.int 0, Value.int 0, Value.int 0])) : Nat × va_E) ∧ ¬ p1 < 0 ∧ p1 ≤ 2) ∨ (r = Sum.inl (some (Value.int 0)) ∧ gx_g ws ws' 0 [46] ∧ ws'[46]? = some ((A46, Sum.inr (8, [Value.int 0, Value.int 1, Value.ref A47, Value.ref A48, Value.ref A49, Value.int 0, Value.ref A50, Value.ref A51, Value.ref A52, Value.ref A53, Value.int 0, Value.int 0, Value.int 0, Value.int (-1), Value.int 0, Value.ref A54, Value.ref A62, Value.ref A70, Value.int 0, Value.int 0, Value.int 0, Value.ref A78, Value.ref A79, Value.int 0, Value.int 16, Value.int 4, u0, Value.ref A80, Value.ref A81, Value.ref A82, Value.int 0, Value.ref A83, Value.int 0, Value.int 0, Value.int 0])) : Nat × va_E) ∧ ¬ p1 < 0 ∧ ¬ p1 ≤ 2)) = PQ
  have hS : va_S A s.heap s.heap [] := va_S.rf
  have hU : gx_g ws ws 0 [46] := gx_g.rf
  have hl := lv_entry ([Value.ref A46, Value.int p0, Value.int p1]) (n := 4) (Nat.le_of_ble_eq_true rfl)
  rw [lg_entry_eq]
  generalize (lg_sl ([Value.ref A46, Value.int p0, Value.int p1]) ++ List.replicate (4 - (lg_sl ([Value.ref A46, Value.int p0, Value.int p1])).length) Slot.unset).toArray = ls at hl ⊢
  have hl : lv_has ls 4 [(0, Value.ref A46), (1, Value.int p0), (2, Value.int p1)] := hl
  refine lv_aload_n hx hb d_Mo_seen_0 rfl (lv_at hl 0 rfl) ?_
  refine lv_iload_n hx hb d_Mo_seen_1 rfl (lv_at hl 2 rfl) ?_
  refine lv_if_lt (tgt := 10) hx hb d_Mo_seen_2 (by decide) (fun c2_1 => ?_) (fun c2_1 => ?_)
  · refine lv_iconst (v := 1) hx hb d_Mo_seen_10 (by decide) ?_
    refine lv_goto (tgt := 15) hx hb d_Mo_seen_11 (by decide) ?_
    refine lv_iconst (v := 1) hx hb d_Mo_seen_15 (by decide) ?_
    refine gx_call (ig := .invokevirtual 152) (c_Mo_wrong_v1 l htr D tys z _ ws A46 A47 A48 A49 A50 A51 A52 A53 A54 A62 A70 A78 A79 (u0) A80 A81 A82 A83 f_46) (gx_invV (As := [Value.int 1, Value.int 1]) (rest := []) hx hb hown hts km_Mo_152 kI_Mo_wrong kV_Mo_wrong kc_Mo_wrong (by decide) (show (parseMethodDescriptor y_Mo_wrong.desc).map (fun d => d.parameters.length) = some 2 by decide +kernel) (gx_recv (ci := 8) hK hP rfl f_46) rfl rfl d_Mo_seen_16) (gx_cw (z := 0) hts kc_Mo_wrong kN_Mo rfl rfl ⟨Nat.le_of_ble_eq_true rfl, Nat.le_of_ble_eq_true rfl⟩) hb hml gx_blind (gx_pre hz hP hK hD hY hS hAz [Value.ref A46, Value.int 1, Value.int 1]) rfl hl.1 (lv_room (Nat.le_of_ble_eq_true rfl)) d_Mo_seen_16 ⟨Nat.le_of_ble_eq_true rfl, Nat.le_of_ble_eq_true rfl⟩ (fun v2 st2 t2 L2 h0_2 hW_2 hQ_2 hL_2 => ?_) (fun v2 st2 t2 L2 h0_2 hW_2 hQ_2 hL_2 => ?_)
    · obtain ⟨ws3, hp, hP9, -, hD9, hS9⟩ := gx_back h0_2 hW_2 hQ_2 hL_2 hD hS hA
      clear hQ_2 h0_2 hL_2 hW_2 hP hD hS
      have hP := hP9
      have hD := hD9
      have hS := hS9
      clear hP9 hD9 hS9
      rcases hp with ⟨hv9, e_ws3, f_46_ws3⟩
      cases hv9
      have f_46_ws3 : ws3[46]? = some ((A46, Sum.inr (8, [Value.int 1, Value.int 0, Value.ref A47, Value.ref A48, Value.ref A49, Value.int 0, Value.ref A50, Value.ref A51, Value.ref A52, Value.ref A53, Value.int 0, Value.int 0, Value.int 0, Value.int (-1), Value.int 0, Value.ref A54, Value.ref A62, Value.ref A70, Value.int 0, Value.int 0, Value.int 0, Value.ref A78, Value.ref A79, Value.int 0, Value.int 16, Value.int 4, u0, Value.ref A80, Value.ref A81, Value.ref A82, Value.int 0, Value.ref A83, Value.int 0, Value.int 0, Value.int 0])) : Nat × va_E) := f_46_ws3
      replace hU : gx_g ws ws3 0 [46] := hU.call e_ws3 (by simp; first | done | omega)
      refine W.eq (g2 := F0 m 19 ls [Value.int 1]) rfl ?_
      generalize t2.heap = H at hP hS ⊢
      generalize [] ++ L2 = locs at hS ⊢
      refine lv_if_eq (tgt := 30) hx hb d_Mo_seen_19 (by decide) (fun c9 => absurd c9 (by decide)) (fun _ => ?_)
      refine lv_aload_n hx hb d_Mo_seen_22 rfl (lv_at hl 0 rfl) ?_
      refine lv_iconst (v := 0) hx hb d_Mo_seen_23 (by decide) ?_
      refine lv_bipush (v := 13) hx hb d_Mo_seen_24 (by decide) ?_
      refine gx_call (ig := .invokevirtual 148) (c_Mo_done_v20 l htr D tys z _ ws3 A46 A47 A48 A49 A50 A51 A52 A53 A54 A62 A70 A78 A79 (u0) A80 A81 A82 A83 f_46_ws3) (gx_invV (As := [Value.int 0, Value.int 13]) (rest := []) hx hb hown hts km_Mo_148 kI_Mo_done kV_Mo_done kc_Mo_done (by decide) (show (parseMethodDescriptor y_Mo_done.desc).map (fun d => d.parameters.length) = some 2 by decide +kernel) (gx_recv (ci := 8) hK hP rfl f_46_ws3) rfl rfl d_Mo_seen_26) (gx_cw (z := 0) hts kc_Mo_done kN_Mo rfl rfl ⟨Nat.le_of_ble_eq_true rfl, Nat.le_of_ble_eq_true rfl⟩) hb hml gx_blind (gx_pre hz hP hK hD hY hS hAz [Value.ref A46, Value.int 0, Value.int 13]) rfl hl.1 (lv_room (Nat.le_of_ble_eq_true rfl)) d_Mo_seen_26 ⟨Nat.le_of_ble_eq_true rfl, Nat.le_of_ble_eq_true rfl⟩ (fun v4 st4 t4 L4 h0_4 hW_4 hQ_4 hL_4 => ?_) (fun v4 st4 t4 L4 h0_4 hW_4 hQ_4 hL_4 => ?_)
      · obtain ⟨ws5, hp, hP9, -, hD9, hS9⟩ := gx_back h0_4 hW_4 hQ_4 hL_4 hD hS hA
        clear hQ_4 h0_4 hL_4 hW_4 hP hD hS
        have hP := hP9
        have hD := hD9
        have hS := hS9
        clear hP9 hD9 hS9
        rcases hp with ⟨hv9, e_ws5, f_46_ws5⟩
        cases hv9
        have f_46_ws5 : ws5[46]? = some ((A46, Sum.inr (8, [Value.int 0, Value.int 1, Value.ref A47, Value.ref A48, Value.ref A49, Value.int 0, Value.ref A50, Value.ref A51, Value.ref A52, Value.ref A53, Value.int 0, Value.int 0, Value.int 0, Value.int (-1), Value.int 0, Value.ref A54, Value.ref A62, Value.ref A70, Value.int 0, Value.int 0, Value.int 0, Value.ref A78, Value.ref A79, Value.int 0, Value.int 16, Value.int 4, u0, Value.ref A80, Value.ref A81, Value.ref A82, Value.int 0, Value.ref A83, Value.int 0, Value.int 0, Value.int 0])) : Nat × va_E) := f_46_ws5
        replace hU : gx_g ws ws5 0 [46] := hU.call e_ws5 (by simp; first | done | omega)
        refine W.eq (g2 := F0 m 29 ls [Value.int 0]) rfl ?_
        generalize t4.heap = H at hP hS ⊢
        generalize locs ++ L4 = locs at hS ⊢
        exact gx_ret (W.iret (v := 0) hx hb hr (gx_post hP hK hD hS (by rw [← hPQ]; exact Or.inl ⟨rfl, hU, f_46_ws5, c2_1⟩)) hS.2.2 d_Mo_seen_29)
      · obtain ⟨E9, ws6, ce, hp, hce, hP9, -, hD9, hS9⟩ := gx_backT h0_4 hW_4 hQ_4 hL_4 hD hS hA
        clear hQ_4 h0_4 hL_4 hW_4 hP hD hS
        have hP := hP9
        have hD := hD9
        have hS := hS9
        clear hP9 hD9 hS9
        rcases hp with ⟨hv9, e_ws6, f_46_ws6⟩
        cases hv9
    · obtain ⟨E9, ws7, ce, hp, hce, hP9, -, hD9, hS9⟩ := gx_backT h0_2 hW_2 hQ_2 hL_2 hD hS hA
      clear hQ_2 h0_2 hL_2 hW_2 hP hD hS
      have hP := hP9
      have hD := hD9
      have hS := hS9
      clear hP9 hD9 hS9
      rcases hp with ⟨hv9, e_ws7, f_46_ws7⟩
      cases hv9
  · refine lv_iload_n hx hb d_Mo_seen_5 rfl (lv_at hl 2 rfl) ?_
    refine lv_iconst (v := 2) hx hb d_Mo_seen_6 (by decide) ?_
    refine lv_icmp_le (tgt := 14) hx hb d_Mo_seen_7 (by decide) (fun c7_8 => ?_) (fun c7_8 => ?_)
    · refine lv_iconst (v := 0) hx hb d_Mo_seen_14 (by decide) ?_
      refine lv_iconst (v := 1) hx hb d_Mo_seen_15 (by decide) ?_
      refine gx_call (ig := .invokevirtual 152) (c_Mo_wrong_v2 l htr D tys z _ ws A46 A47 A48 A49 A50 A51 A52 A53 A54 A62 A70 A78 A79 (u0) A80 A81 A82 A83 f_46) (gx_invV (As := [Value.int 0, Value.int 1]) (rest := []) hx hb hown hts km_Mo_152 kI_Mo_wrong kV_Mo_wrong kc_Mo_wrong (by decide) (show (parseMethodDescriptor y_Mo_wrong.desc).map (fun d => d.parameters.length) = some 2 by decide +kernel) (gx_recv (ci := 8) hK hP rfl f_46) rfl rfl d_Mo_seen_16) (gx_cw (z := 0) hts kc_Mo_wrong kN_Mo rfl rfl ⟨Nat.le_of_ble_eq_true rfl, Nat.le_of_ble_eq_true rfl⟩) hb hml gx_blind (gx_pre hz hP hK hD hY hS hAz [Value.ref A46, Value.int 0, Value.int 1]) rfl hl.1 (lv_room (Nat.le_of_ble_eq_true rfl)) d_Mo_seen_16 ⟨Nat.le_of_ble_eq_true rfl, Nat.le_of_ble_eq_true rfl⟩ (fun v9 st9 t9 L9 h0_9 hW_9 hQ_9 hL_9 => ?_) (fun v9 st9 t9 L9 h0_9 hW_9 hQ_9 hL_9 => ?_)
      · obtain ⟨ws10, hp, hP9, -, hD9, hS9⟩ := gx_back h0_9 hW_9 hQ_9 hL_9 hD hS hA
        clear hQ_9 h0_9 hL_9 hW_9 hP hD hS
        have hP := hP9
        have hD := hD9
        have hS := hS9
        clear hP9 hD9 hS9
        rcases hp with ⟨hv9, e_ws10⟩
        cases hv9
        rw [e_ws10] at hP hD
        refine W.eq (g2 := F0 m 19 ls [Value.int 0]) rfl ?_
        generalize t9.heap = H at hP hS ⊢
        generalize [] ++ L9 = locs at hS ⊢
        refine lv_if_eq (tgt := 30) hx hb d_Mo_seen_19 (by decide) (fun _ => ?_) (fun c9 => absurd (by decide) c9)
        refine lv_aload_n hx hb d_Mo_seen_30 rfl (lv_at hl 0 rfl) ?_
        refine lv_iload_n hx hb d_Mo_seen_31 rfl (lv_at hl 1 rfl) ?_
        refine gx_call (ig := .invokevirtual 257) (c_Mo_reading_v1 l htr D tys z _ ws cV A46 p0 A47 A48 A49 A50 A51 A52 A53 A54 A62 A70 A78 A79 (u0) A80 A81 A82 A83 A84 A85 A86 A87 A88 A89 A90 A91 A92 A93 A94 A95 A96 A97 A98 A99 A100 A101 A102 A103 A104 A105 A106 A107 A108 A109 A110 A111 A112 A113 A114 A115 f_46 f_84 f_92 f_100 f_108 f_83 ht5) (gx_invV (As := [Value.int p0]) (rest := []) hx hb hown hts km_Mo_257 kI_Mo_reading kV_Mo_reading kc_Mo_reading (by decide) (show (parseMethodDescriptor y_Mo_reading.desc).map (fun d => d.parameters.length) = some 1 by decide +kernel) (gx_recv (ci := 8) hK hP rfl f_46) rfl rfl d_Mo_seen_32) (gx_cw (z := 0) hts kc_Mo_reading kN_Mo rfl rfl ⟨Nat.le_of_ble_eq_true rfl, Nat.le_of_ble_eq_true rfl⟩) hb hml gx_blind (gx_pre hz hP hK hD hY hS hAz [Value.ref A46, Value.int p0]) rfl hl.1 (lv_room (Nat.le_of_ble_eq_true rfl)) d_Mo_seen_32 ⟨Nat.le_of_ble_eq_true rfl, Nat.le_of_ble_eq_true rfl⟩ (fun v11 st11 t11 L11 h0_11 hW_11 hQ_11 hL_11 => ?_) (fun v11 st11 t11 L11 h0_11 hW_11 hQ_11 hL_11 => ?_)
        · obtain ⟨ws12, hp, hP9, -, hD9, hS9⟩ := gx_back h0_11 hW_11 hQ_11 hL_11 hD hS hA
          clear hQ_11 h0_11 hL_11 hW_11 hP hD hS
          have hP := hP9
          have hD := hD9
          have hS := hS9
          clear hP9 hD9 hS9
          rcases hp with ⟨hv9, e_ws12, f_46_ws12⟩
          cases hv9
          have f_46_ws12 : ws12[46]? = some ((A46, Sum.inr (8, [Value.int 3, Value.int 0, Value.ref A47, Value.ref A48, Value.ref A49, Value.int 0, Value.ref A50, Value.ref A51, Value.ref A52, Value.ref A53, Value.int 0, Value.int 0, Value.int 0, Value.int (-1), Value.int 0, Value.ref A54, Value.ref A62, Value.ref A70, Value.int 0, Value.int 0, Value.int 0, Value.ref A78, Value.ref A79, Value.int 0, Value.int 16, Value.int 4, u0, Value.ref A80, Value.ref A81, Value.ref A82, Value.int 0, Value.ref A83, Value.int 0, Value.int 0, Value.int 0])) : Nat × va_E) := f_46_ws12
          replace hU : gx_g ws ws12 0 [46] := hU.call e_ws12 (by simp; first | done | omega)
          refine W.eq (g2 := F0 m 35 ls [Value.ref A84]) rfl ?_
          generalize t11.heap = H at hP hS ⊢
          generalize locs ++ L11 = locs at hS ⊢
          refine lv_astore_n (lv' := [(3, Value.ref A84), (0, Value.ref A46), (1, Value.int p0), (2, Value.int p1)]) hx hb d_Mo_seen_35 rfl hl (by decide) rfl (fun ls hl => ?_)
          refine lv_aload_n hx hb d_Mo_seen_36 rfl (lv_at hl 1 rfl) ?_
          refine va_get (D := D) (ci := 8) (v := Value.int 3) (C := "CommitLedgerModel") (T := F_Mo) (N := 35) hx hb hts i_Mo hown hK hP 46 f_46_ws12 rfl 0 (by decide) (hts _ kf_Mo_84) (fun _ h9 => h9) rfl d_Mo_seen_37 ?_
          refine lv_if_eq (tgt := 51) hx hb d_Mo_seen_40 (by decide) (fun c9 => absurd c9 (by decide)) (fun _ => ?_)
          refine lv_aload_n hx hb d_Mo_seen_43 rfl (lv_at hl 1 rfl) ?_
          refine lv_iconst (v := 0) hx hb d_Mo_seen_44 (by decide) ?_
          refine lv_bipush (v := 13) hx hb d_Mo_seen_45 (by decide) ?_
          refine gx_call (ig := .invokevirtual 148) (c_Mo_done_v21 l htr D tys z _ ws12 A46 A47 A48 A49 A50 A51 A52 A53 A54 A62 A70 A78 A79 (u0) A80 A81 A82 A83 f_46_ws12) (gx_invV (As := [Value.int 0, Value.int 13]) (rest := []) hx hb hown hts km_Mo_148 kI_Mo_done kV_Mo_done kc_Mo_done (by decide) (show (parseMethodDescriptor y_Mo_done.desc).map (fun d => d.parameters.length) = some 2 by decide +kernel) (gx_recv (ci := 8) hK hP rfl f_46_ws12) rfl rfl d_Mo_seen_47) (gx_cw (z := 0) hts kc_Mo_done kN_Mo rfl rfl ⟨Nat.le_of_ble_eq_true rfl, Nat.le_of_ble_eq_true rfl⟩) hb hml gx_blind (gx_pre hz hP hK hD hY hS hAz [Value.ref A46, Value.int 0, Value.int 13]) rfl hl.1 (lv_room (Nat.le_of_ble_eq_true rfl)) d_Mo_seen_47 ⟨Nat.le_of_ble_eq_true rfl, Nat.le_of_ble_eq_true rfl⟩ (fun v13 st13 t13 L13 h0_13 hW_13 hQ_13 hL_13 => ?_) (fun v13 st13 t13 L13 h0_13 hW_13 hQ_13 hL_13 => ?_)
          · obtain ⟨ws14, hp, hP9, -, hD9, hS9⟩ := gx_back h0_13 hW_13 hQ_13 hL_13 hD hS hA
            clear hQ_13 h0_13 hL_13 hW_13 hP hD hS
            have hP := hP9
            have hD := hD9
            have hS := hS9
            clear hP9 hD9 hS9
            rcases hp with ⟨hv9, e_ws14, f_46_ws14⟩
            cases hv9
            have f_46_ws14 : ws14[46]? = some ((A46, Sum.inr (8, [Value.int 0, Value.int 2, Value.ref A47, Value.ref A48, Value.ref A49, Value.int 0, Value.ref A50, Value.ref A51, Value.ref A52, Value.ref A53, Value.int 0, Value.int 0, Value.int 0, Value.int (-1), Value.int 0, Value.ref A54, Value.ref A62, Value.ref A70, Value.int 0, Value.int 0, Value.int 0, Value.ref A78, Value.ref A79, Value.int 0, Value.int 16, Value.int 4, u0, Value.ref A80, Value.ref A81, Value.ref A82, Value.int 0, Value.ref A83, Value.int 0, Value.int 0, Value.int 0])) : Nat × va_E) := f_46_ws14
            replace hU : gx_g ws ws14 0 [46] := hU.call e_ws14 (by simp; first | done | omega)
            refine W.eq (g2 := F0 m 50 ls [Value.int 0]) rfl ?_
            generalize t13.heap = H at hP hS ⊢
            generalize locs ++ L13 = locs at hS ⊢
            exact gx_ret (W.iret (v := 0) hx hb hr (gx_post hP hK hD hS (by rw [← hPQ]; exact Or.inr (Or.inl ⟨rfl, hU, f_46_ws14, c2_1, c7_8⟩))) hS.2.2 d_Mo_seen_50)
          · obtain ⟨E9, ws15, ce, hp, hce, hP9, -, hD9, hS9⟩ := gx_backT h0_13 hW_13 hQ_13 hL_13 hD hS hA
            clear hQ_13 h0_13 hL_13 hW_13 hP hD hS
            have hP := hP9
            have hD := hD9
            have hS := hS9
            clear hP9 hD9 hS9
            rcases hp with ⟨hv9, e_ws15, f_46_ws15⟩
            cases hv9
        · obtain ⟨E9, ws16, ce, hp, hce, hP9, -, hD9, hS9⟩ := gx_backT h0_11 hW_11 hQ_11 hL_11 hD hS hA
          clear hQ_11 h0_11 hL_11 hW_11 hP hD hS
          have hP := hP9
          have hD := hD9
          have hS := hS9
          clear hP9 hD9 hS9
          rcases hp with ⟨hv9, e_ws16, f_46_ws16⟩
          cases hv9
      · obtain ⟨E9, ws17, ce, hp, hce, hP9, -, hD9, hS9⟩ := gx_backT h0_9 hW_9 hQ_9 hL_9 hD hS hA
        clear hQ_9 h0_9 hL_9 hW_9 hP hD hS
        have hP := hP9
        have hD := hD9
        have hS := hS9
        clear hP9 hD9 hS9
        rcases hp with ⟨hv9, e_ws17⟩
        cases hv9
    · refine lv_iconst (v := 1) hx hb d_Mo_seen_10 (by decide) ?_
      refine lv_goto (tgt := 15) hx hb d_Mo_seen_11 (by decide) ?_
      refine lv_iconst (v := 1) hx hb d_Mo_seen_15 (by decide) ?_
      refine gx_call (ig := .invokevirtual 152) (c_Mo_wrong_v1 l htr D tys z _ ws A46 A47 A48 A49 A50 A51 A52 A53 A54 A62 A70 A78 A79 (u0) A80 A81 A82 A83 f_46) (gx_invV (As := [Value.int 1, Value.int 1]) (rest := []) hx hb hown hts km_Mo_152 kI_Mo_wrong kV_Mo_wrong kc_Mo_wrong (by decide) (show (parseMethodDescriptor y_Mo_wrong.desc).map (fun d => d.parameters.length) = some 2 by decide +kernel) (gx_recv (ci := 8) hK hP rfl f_46) rfl rfl d_Mo_seen_16) (gx_cw (z := 0) hts kc_Mo_wrong kN_Mo rfl rfl ⟨Nat.le_of_ble_eq_true rfl, Nat.le_of_ble_eq_true rfl⟩) hb hml gx_blind (gx_pre hz hP hK hD hY hS hAz [Value.ref A46, Value.int 1, Value.int 1]) rfl hl.1 (lv_room (Nat.le_of_ble_eq_true rfl)) d_Mo_seen_16 ⟨Nat.le_of_ble_eq_true rfl, Nat.le_of_ble_eq_true rfl⟩ (fun v18 st18 t18 L18 h0_18 hW_18 hQ_18 hL_18 => ?_) (fun v18 st18 t18 L18 h0_18 hW_18 hQ_18 hL_18 => ?_)
      · obtain ⟨ws19, hp, hP9, -, hD9, hS9⟩ := gx_back h0_18 hW_18 hQ_18 hL_18 hD hS hA
        clear hQ_18 h0_18 hL_18 hW_18 hP hD hS
        have hP := hP9
        have hD := hD9
        have hS := hS9
        clear hP9 hD9 hS9
        rcases hp with ⟨hv9, e_ws19, f_46_ws19⟩
        cases hv9
        have f_46_ws19 : ws19[46]? = some ((A46, Sum.inr (8, [Value.int 1, Value.int 0, Value.ref A47, Value.ref A48, Value.ref A49, Value.int 0, Value.ref A50, Value.ref A51, Value.ref A52, Value.ref A53, Value.int 0, Value.int 0, Value.int 0, Value.int (-1), Value.int 0, Value.ref A54, Value.ref A62, Value.ref A70, Value.int 0, Value.int 0, Value.int 0, Value.ref A78, Value.ref A79, Value.int 0, Value.int 16, Value.int 4, u0, Value.ref A80, Value.ref A81, Value.ref A82, Value.int 0, Value.ref A83, Value.int 0, Value.int 0, Value.int 0])) : Nat × va_E) := f_46_ws19
        replace hU : gx_g ws ws19 0 [46] := hU.call e_ws19 (by simp; first | done | omega)
        refine W.eq (g2 := F0 m 19 ls [Value.int 1]) rfl ?_
        generalize t18.heap = H at hP hS ⊢
        generalize [] ++ L18 = locs at hS ⊢
        refine lv_if_eq (tgt := 30) hx hb d_Mo_seen_19 (by decide) (fun c9 => absurd c9 (by decide)) (fun _ => ?_)
        refine lv_aload_n hx hb d_Mo_seen_22 rfl (lv_at hl 0 rfl) ?_
        refine lv_iconst (v := 0) hx hb d_Mo_seen_23 (by decide) ?_
        refine lv_bipush (v := 13) hx hb d_Mo_seen_24 (by decide) ?_
        refine gx_call (ig := .invokevirtual 148) (c_Mo_done_v20 l htr D tys z _ ws19 A46 A47 A48 A49 A50 A51 A52 A53 A54 A62 A70 A78 A79 (u0) A80 A81 A82 A83 f_46_ws19) (gx_invV (As := [Value.int 0, Value.int 13]) (rest := []) hx hb hown hts km_Mo_148 kI_Mo_done kV_Mo_done kc_Mo_done (by decide) (show (parseMethodDescriptor y_Mo_done.desc).map (fun d => d.parameters.length) = some 2 by decide +kernel) (gx_recv (ci := 8) hK hP rfl f_46_ws19) rfl rfl d_Mo_seen_26) (gx_cw (z := 0) hts kc_Mo_done kN_Mo rfl rfl ⟨Nat.le_of_ble_eq_true rfl, Nat.le_of_ble_eq_true rfl⟩) hb hml gx_blind (gx_pre hz hP hK hD hY hS hAz [Value.ref A46, Value.int 0, Value.int 13]) rfl hl.1 (lv_room (Nat.le_of_ble_eq_true rfl)) d_Mo_seen_26 ⟨Nat.le_of_ble_eq_true rfl, Nat.le_of_ble_eq_true rfl⟩ (fun v20 st20 t20 L20 h0_20 hW_20 hQ_20 hL_20 => ?_) (fun v20 st20 t20 L20 h0_20 hW_20 hQ_20 hL_20 => ?_)
        · obtain ⟨ws21, hp, hP9, -, hD9, hS9⟩ := gx_back h0_20 hW_20 hQ_20 hL_20 hD hS hA
          clear hQ_20 h0_20 hL_20 hW_20 hP hD hS
          have hP := hP9
          have hD := hD9
          have hS := hS9
          clear hP9 hD9 hS9
          rcases hp with ⟨hv9, e_ws21, f_46_ws21⟩
          cases hv9
          have f_46_ws21 : ws21[46]? = some ((A46, Sum.inr (8, [Value.int 0, Value.int 1, Value.ref A47, Value.ref A48, Value.ref A49, Value.int 0, Value.ref A50, Value.ref A51, Value.ref A52, Value.ref A53, Value.int 0, Value.int 0, Value.int 0, Value.int (-1), Value.int 0, Value.ref A54, Value.ref A62, Value.ref A70, Value.int 0, Value.int 0, Value.int 0, Value.ref A78, Value.ref A79, Value.int 0, Value.int 16, Value.int 4, u0, Value.ref A80, Value.ref A81, Value.ref A82, Value.int 0, Value.ref A83, Value.int 0, Value.int 0, Value.int 0])) : Nat × va_E) := f_46_ws21
          replace hU : gx_g ws ws21 0 [46] := hU.call e_ws21 (by simp; first | done | omega)
          refine W.eq (g2 := F0 m 29 ls [Value.int 0]) rfl ?_
          generalize t20.heap = H at hP hS ⊢
          generalize locs ++ L20 = locs at hS ⊢
          exact gx_ret (W.iret (v := 0) hx hb hr (gx_post hP hK hD hS (by rw [← hPQ]; exact Or.inr (Or.inr (⟨rfl, hU, f_46_ws21, c2_1, c7_8⟩)))) hS.2.2 d_Mo_seen_29)
        · obtain ⟨E9, ws22, ce, hp, hce, hP9, -, hD9, hS9⟩ := gx_backT h0_20 hW_20 hQ_20 hL_20 hD hS hA
          clear hQ_20 h0_20 hL_20 hW_20 hP hD hS
          have hP := hP9
          have hD := hD9
          have hS := hS9
          clear hP9 hD9 hS9
          rcases hp with ⟨hv9, e_ws22, f_46_ws22⟩
          cases hv9
      · obtain ⟨E9, ws23, ce, hp, hce, hP9, -, hD9, hS9⟩ := gx_backT h0_18 hW_18 hQ_18 hL_18 hD hS hA
        clear hQ_18 h0_18 hL_18 hW_18 hP hD hS
        have hP := hP9
        have hD := hD9
        have hS := hS9
        clear hP9 hD9 hS9
        rcases hp with ⟨hv9, e_ws23, f_46_ws23⟩
        cases hv9

set_option maxHeartbeats 4000000 in
set_option maxRecDepth 100000 in
theorem c_Mo_done_v22 (l : Launch) (htr : l.stackTraces = false) (D : va_G) (tys : List (ClassId × FieldType)) (z sz : Nat) (ws : va_W) (A46 : Nat) (A47 : Nat) (A48 : Nat) (A49 : Nat) (A50 : Nat) (A51 : Nat) (A52 : Nat) (A53 : Nat) (A54 : Nat) (A62 : Nat) (A70 : Nat) (A78 : Nat) (A79 : Nat) (u0 : Value) (A80 : Nat) (A81 : Nat) (A82 : Nat) (A83 : Nat) (f_46 : ws[46]? = some ((A46, Sum.inr (8, [Value.int 2, Value.int 0, Value.ref A47, Value.ref A48, Value.ref A49, Value.int 0, Value.ref A50, Value.ref A51, Value.ref A52, Value.ref A53, Value.int 0, Value.int 0, Value.int 0, Value.int (-1), Value.int 0, Value.ref A54, Value.ref A62, Value.ref A70, Value.int 0, Value.int 0, Value.int 0, Value.ref A78, Value.ref A79, Value.int 0, Value.int 16, Value.int 4, u0, Value.ref A80, Value.ref A81, Value.ref A82, Value.int 0, Value.ref A83, Value.int 0, Value.int 0, Value.int 0])) : Nat × va_E)) : gx_Met l y_Mo_done [Cond.code y_Mo_done b_Mo_done 6 (some .int)] { frames := 1, cells := 0, slots := 0, locals := 12 } (gx_P z sz D classes tys ws [Value.ref A46, Value.int 0, Value.int 123]) (gx_Q D classes tys (va_A ws sz) (fun r ws' => (r = Sum.inl (some (Value.int 0)) ∧ gx_g ws ws' 0 [46] ∧ ws'[46]? = some ((A46, Sum.inr (8, [Value.int 0, Value.int 2, Value.ref A47, Value.ref A48, Value.ref A49, Value.int 0, Value.ref A50, Value.ref A51, Value.ref A52, Value.ref A53, Value.int 0, Value.int 0, Value.int 0, Value.int (-1), Value.int 0, Value.ref A54, Value.ref A62, Value.ref A70, Value.int 0, Value.int 0, Value.int 0, Value.ref A78, Value.ref A79, Value.int 0, Value.int 16, Value.int 4, u0, Value.ref A80, Value.ref A81, Value.ref A82, Value.int 0, Value.ref A83, Value.int 0, Value.int 0, Value.int 0])) : Nat × va_E)))) 0 0 (va_A ws sz) := by
  refine gx_ofW (cc := b_Mo_done) (maxL := 6) (ret := (some .int)) (by decide) rfl ?_
  intro p e s m args below meth c s₁ B hml hv
  obtain ⟨rfl, hsz, hz, hP, hK, hD0, hY⟩ := hv
  have hx := B.exec
  have hb := B.bytes
  have hr := B.returns
  have hts := hY.hts (#[Value.ref A46, Value.int 0, Value.int 123] : Array Value)
  have hown : s.vm.findClass "CommitLedgerModel" = some m.cls := findClass_of_methodNamed B.named
  have hlocks := B.notSynchronized
  have hne : c.exceptionTable.isEmpty = true := B.noHandlers (atoms_spec (ws := [Cond.code y_Mo_done b_Mo_done 6 (some .int)]) B.pre _ List.mem_cons_self)
  subst hsz
  have hAz := gx_az hD0 hz
  have hD := hD0.self (sz := s.heap.size)
  have hN := gx_ns hP
  have hA : ∀ q : Nat, s.heap.size ≤ q → va_A ws s.heap.size q := fun q h => Or.inr h
  generalize va_A ws s.heap.size = A at hD hN hA hAz ⊢
  generalize hPQ : (fun (r : Option Value ⊕ String) (ws' : va_W) => (r = Sum.inl (some (Value.int 0)) ∧ gx_g ws ws' 0 [46] ∧ ws'[46]? = some ((A46, Sum.inr (8, [Value.int 0, Value.int 2, Value.ref A47, Value.ref A48, Value.ref A49, Value.int 0, Value.ref A50, Value.ref A51, Value.ref A52, Value.ref A53, Value.int 0, Value.int 0, Value.int 0, Value.int (-1), Value.int 0, Value.ref A54, Value.ref A62, Value.ref A70, Value.int 0, Value.int 0, Value.int 0, Value.ref A78, Value.ref A79, Value.int 0, Value.int 16, Value.int 4, u0, Value.ref A80, Value.ref A81, Value.ref A82, Value.int 0, Value.ref A83, Value.int 0, Value.int 0, Value.int 0])) : Nat × va_E))) = PQ
  have hS : va_S A s.heap s.heap [] := va_S.rf
  have hU : gx_g ws ws 0 [46] := gx_g.rf
  have hl := lv_entry ([Value.ref A46, Value.int 0, Value.int 123]) (n := 6) (Nat.le_of_ble_eq_true rfl)
  rw [lg_entry_eq]
  generalize (lg_sl ([Value.ref A46, Value.int 0, Value.int 123]) ++ List.replicate (6 - (lg_sl ([Value.ref A46, Value.int 0, Value.int 123])).length) Slot.unset).toArray = ls at hl ⊢
  have hl : lv_has ls 6 [(0, Value.ref A46), (1, Value.int 0), (2, Value.int 123)] := hl
  refine lv_aload_n hx hb d_Mo_done_0 rfl (lv_at hl 0 rfl) ?_
  refine lv_iconst (v := 0) hx hb d_Mo_done_1 (by decide) ?_
  refine va_put (D := D) (ci := 8) (v := Value.int 0) (ty := .int) (C := "CommitLedgerModel") (T := F_Mo) (N := 35) hx hb hts i_Mo t_Mo t_Mo_ok n_Mo hown hK hP hD hS 46 f_46 rfl 1 (by decide) (hts _ kf_Mo_80) (fun _ h9 => h9) rfl (by decide +kernel) rfl rfl (Nat.le_of_ble_eq_true rfl) d_Mo_done_2 (fun H locs hP9 hD9 hS9 => ?_)
  obtain ⟨ws1, e_ws1⟩ : ∃ x : va_W, x = ws.set 46 ((A46, Sum.inr (8, [Value.int 2, Value.int 0, Value.ref A47, Value.ref A48, Value.ref A49, Value.int 0, Value.ref A50, Value.ref A51, Value.ref A52, Value.ref A53, Value.int 0, Value.int 0, Value.int 0, Value.int (-1), Value.int 0, Value.ref A54, Value.ref A62, Value.ref A70, Value.int 0, Value.int 0, Value.int 0, Value.ref A78, Value.ref A79, Value.int 0, Value.int 16, Value.int 4, u0, Value.ref A80, Value.ref A81, Value.ref A82, Value.int 0, Value.ref A83, Value.int 0, Value.int 0, Value.int 0])) : Nat × va_E) := ⟨_, rfl⟩
  replace hP : va_P D classes ws1 H := by rw [e_ws1]; exact hP9
  replace hD : va_D A ws1 := by rw [e_ws1]; exact hD9
  replace hS := hS9
  clear hP9 hD9 hS9
  have f_46_ws1 : ws1[46]? = some ((A46, Sum.inr (8, [Value.int 2, Value.int 0, Value.ref A47, Value.ref A48, Value.ref A49, Value.int 0, Value.ref A50, Value.ref A51, Value.ref A52, Value.ref A53, Value.int 0, Value.int 0, Value.int 0, Value.int (-1), Value.int 0, Value.ref A54, Value.ref A62, Value.ref A70, Value.int 0, Value.int 0, Value.int 0, Value.ref A78, Value.ref A79, Value.int 0, Value.int 16, Value.int 4, u0, Value.ref A80, Value.ref A81, Value.ref A82, Value.int 0, Value.ref A83, Value.int 0, Value.int 0, Value.int 0])) : Nat × va_E) := by rw [e_ws1]; exact gs_self f_46
  replace hU : gx_g ws ws1 0 [46] := by rw [e_ws1]; exact hU.put (Or.inl (by simp))
  refine lv_iconst (v := 0) hx hb d_Mo_done_5 (by decide) ?_
  refine lv_istore_n (lv' := [(3, Value.int 0), (0, Value.ref A46), (1, Value.int 0), (2, Value.int 123)]) hx hb d_Mo_done_6 rfl hl (by decide) rfl (fun ls hl => ?_)
  refine lv_ldc (v := 100000) hx hb hown (hts _ ki_Mo_83) d_Mo_done_7 ?_
  refine lv_istore (lv' := [(4, Value.int 100000), (3, Value.int 0), (0, Value.ref A46), (1, Value.int 0), (2, Value.int 123)]) hx hb d_Mo_done_9 hl (by decide) rfl (fun ls hl => ?_)
  refine lv_iload hx hb d_Mo_done_11 (lv_at hl 0 rfl) ?_
  refine lv_if_le (tgt := 60) hx hb d_Mo_done_13 (by decide) (fun c9 => absurd c9 (by decide)) (fun _ => ?_)
  refine lv_iload_n hx hb d_Mo_done_16 rfl (lv_at hl 4 rfl) ?_
  refine lv_iload hx hb d_Mo_done_17 (lv_at hl 0 rfl) ?_
  refine lv_idiv hx hb d_Mo_done_19 (by decide) ?_
  refine gx_topi (y := 0) (by decide) ?_
  refine lv_bipush (v := 10) hx hb d_Mo_done_20 (by decide) ?_
  refine lv_irem hx hb d_Mo_done_22 (by decide) ?_
  refine gx_topi (y := 0) (by decide) ?_
  refine lv_istore (lv' := [(5, Value.int 0), (4, Value.int 100000), (3, Value.int 0), (0, Value.ref A46), (1, Value.int 0), (2, Value.int 123)]) hx hb d_Mo_done_23 hl (by decide) rfl (fun ls hl => ?_)
  refine lv_iload hx hb d_Mo_done_25 (lv_at hl 0 rfl) ?_
  refine lv_if_ne (tgt := 33) hx hb d_Mo_done_27 (by decide) (fun c9 => absurd (by decide) c9) (fun _ => ?_)
  refine lv_goto (tgt := 50) hx hb d_Mo_done_30 (by decide) ?_
  refine lv_iload hx hb d_Mo_done_50 (lv_at hl 1 rfl) ?_
  refine lv_bipush (v := 10) hx hb d_Mo_done_52 (by decide) ?_
  refine lv_idiv hx hb d_Mo_done_54 (by decide) ?_
  refine gx_topi (y := 10000) (by decide) ?_
  refine lv_istore (lv' := [(4, Value.int 10000), (5, Value.int 0), (3, Value.int 0), (0, Value.ref A46), (1, Value.int 0), (2, Value.int 123)]) hx hb d_Mo_done_55 hl (by decide) rfl (fun ls hl => ?_)
  refine lv_goto (tgt := 11) hx hb d_Mo_done_57 (by decide) ?_
  refine lv_iload hx hb d_Mo_done_11 (lv_at hl 0 rfl) ?_
  refine lv_if_le (tgt := 60) hx hb d_Mo_done_13 (by decide) (fun c9 => absurd c9 (by decide)) (fun _ => ?_)
  refine lv_iload_n hx hb d_Mo_done_16 rfl (lv_at hl 5 rfl) ?_
  refine lv_iload hx hb d_Mo_done_17 (lv_at hl 0 rfl) ?_
  refine lv_idiv hx hb d_Mo_done_19 (by decide) ?_
  refine gx_topi (y := 0) (by decide) ?_
  refine lv_bipush (v := 10) hx hb d_Mo_done_20 (by decide) ?_
  refine lv_irem hx hb d_Mo_done_22 (by decide) ?_
  refine gx_topi (y := 0) (by decide) ?_
  refine lv_istore (lv' := [(5, Value.int 0), (4, Value.int 10000), (3, Value.int 0), (0, Value.ref A46), (1, Value.int 0), (2, Value.int 123)]) hx hb d_Mo_done_23 hl (by decide) rfl (fun ls hl => ?_)
  refine lv_iload hx hb d_Mo_done_25 (lv_at hl 0 rfl) ?_
  refine lv_if_ne (tgt := 33) hx hb d_Mo_done_27 (by decide) (fun c9 => absurd (by decide) c9) (fun _ => ?_)
  refine lv_goto (tgt := 50) hx hb d_Mo_done_30 (by decide) ?_
  refine lv_iload hx hb d_Mo_done_50 (lv_at hl 1 rfl) ?_
  refine lv_bipush (v := 10) hx hb d_Mo_done_52 (by decide) ?_
  refine lv_idiv hx hb d_Mo_done_54 (by decide) ?_
  refine gx_topi (y := 1000) (by decide) ?_
  refine lv_istore (lv' := [(4, Value.int 1000), (5, Value.int 0), (3, Value.int 0), (0, Value.ref A46), (1, Value.int 0), (2, Value.int 123)]) hx hb d_Mo_done_55 hl (by decide) rfl (fun ls hl => ?_)
  refine lv_goto (tgt := 11) hx hb d_Mo_done_57 (by decide) ?_
  refine lv_iload hx hb d_Mo_done_11 (lv_at hl 0 rfl) ?_
  refine lv_if_le (tgt := 60) hx hb d_Mo_done_13 (by decide) (fun c9 => absurd c9 (by decide)) (fun _ => ?_)
  refine lv_iload_n hx hb d_Mo_done_16 rfl (lv_at hl 5 rfl) ?_
  refine lv_iload hx hb d_Mo_done_17 (lv_at hl 0 rfl) ?_
  refine lv_idiv hx hb d_Mo_done_19 (by decide) ?_
  refine gx_topi (y := 0) (by decide) ?_
  refine lv_bipush (v := 10) hx hb d_Mo_done_20 (by decide) ?_
  refine lv_irem hx hb d_Mo_done_22 (by decide) ?_
  refine gx_topi (y := 0) (by decide) ?_
  refine lv_istore (lv' := [(5, Value.int 0), (4, Value.int 1000), (3, Value.int 0), (0, Value.ref A46), (1, Value.int 0), (2, Value.int 123)]) hx hb d_Mo_done_23 hl (by decide) rfl (fun ls hl => ?_)
  refine lv_iload hx hb d_Mo_done_25 (lv_at hl 0 rfl) ?_
  refine lv_if_ne (tgt := 33) hx hb d_Mo_done_27 (by decide) (fun c9 => absurd (by decide) c9) (fun _ => ?_)
  refine lv_goto (tgt := 50) hx hb d_Mo_done_30 (by decide) ?_
  refine lv_iload hx hb d_Mo_done_50 (lv_at hl 1 rfl) ?_
  refine lv_bipush (v := 10) hx hb d_Mo_done_52 (by decide) ?_
  refine lv_idiv hx hb d_Mo_done_54 (by decide) ?_
  refine gx_topi (y := 100) (by decide) ?_
  refine lv_istore (lv' := [(4, Value.int 100), (5, Value.int 0), (3, Value.int 0), (0, Value.ref A46), (1, Value.int 0), (2, Value.int 123)]) hx hb d_Mo_done_55 hl (by decide) rfl (fun ls hl => ?_)
  refine lv_goto (tgt := 11) hx hb d_Mo_done_57 (by decide) ?_
  refine lv_iload hx hb d_Mo_done_11 (lv_at hl 0 rfl) ?_
  refine lv_if_le (tgt := 60) hx hb d_Mo_done_13 (by decide) (fun c9 => absurd c9 (by decide)) (fun _ => ?_)
  refine lv_iload_n hx hb d_Mo_done_16 rfl (lv_at hl 5 rfl) ?_
  refine lv_iload hx hb d_Mo_done_17 (lv_at hl 0 rfl) ?_
  refine lv_idiv hx hb d_Mo_done_19 (by decide) ?_
  refine gx_topi (y := 1) (by decide) ?_
  refine lv_bipush (v := 10) hx hb d_Mo_done_20 (by decide) ?_
  refine lv_irem hx hb d_Mo_done_22 (by decide) ?_
  refine gx_topi (y := 1) (by decide) ?_
  refine lv_istore (lv' := [(5, Value.int 1), (4, Value.int 100), (3, Value.int 0), (0, Value.ref A46), (1, Value.int 0), (2, Value.int 123)]) hx hb d_Mo_done_23 hl (by decide) rfl (fun ls hl => ?_)
  refine lv_iload hx hb d_Mo_done_25 (lv_at hl 0 rfl) ?_
  refine lv_if_ne (tgt := 33) hx hb d_Mo_done_27 (by decide) (fun _ => ?_) (fun c9 => absurd c9 (by decide))
  refine lv_iinc (v := 1) (lv' := [(3, Value.int 1), (5, Value.int 1), (4, Value.int 100), (0, Value.ref A46), (1, Value.int 0), (2, Value.int 123)]) hx hb d_Mo_done_33 hl (k := 2) rfl (by decide) (by decide) rfl (fun ls hl => ?_)
  refine lv_iload hx hb d_Mo_done_36 (lv_at hl 1 rfl) ?_
  refine lv_aload_n hx hb d_Mo_done_38 rfl (lv_at hl 3 rfl) ?_
  refine va_get (D := D) (ci := 8) (v := Value.int 2) (C := "CommitLedgerModel") (T := F_Mo) (N := 35) hx hb hts i_Mo hown hK hP 46 f_46_ws1 rfl 0 (by decide) (hts _ kf_Mo_84) (fun _ h9 => h9) rfl d_Mo_done_39 ?_
  refine lv_icmp_ne (tgt := 50) hx hb d_Mo_done_42 (by decide) (fun _ => ?_) (fun c9 => absurd c9 (by decide))
  refine lv_iload hx hb d_Mo_done_50 (lv_at hl 2 rfl) ?_
  refine lv_bipush (v := 10) hx hb d_Mo_done_52 (by decide) ?_
  refine lv_idiv hx hb d_Mo_done_54 (by decide) ?_
  refine gx_topi (y := 10) (by decide) ?_
  refine lv_istore (lv' := [(4, Value.int 10), (3, Value.int 1), (5, Value.int 1), (0, Value.ref A46), (1, Value.int 0), (2, Value.int 123)]) hx hb d_Mo_done_55 hl (by decide) rfl (fun ls hl => ?_)
  refine lv_goto (tgt := 11) hx hb d_Mo_done_57 (by decide) ?_
  refine lv_iload hx hb d_Mo_done_11 (lv_at hl 0 rfl) ?_
  refine lv_if_le (tgt := 60) hx hb d_Mo_done_13 (by decide) (fun c9 => absurd c9 (by decide)) (fun _ => ?_)
  refine lv_iload_n hx hb d_Mo_done_16 rfl (lv_at hl 5 rfl) ?_
  refine lv_iload hx hb d_Mo_done_17 (lv_at hl 0 rfl) ?_
  refine lv_idiv hx hb d_Mo_done_19 (by decide) ?_
  refine gx_topi (y := 12) (by decide) ?_
  refine lv_bipush (v := 10) hx hb d_Mo_done_20 (by decide) ?_
  refine lv_irem hx hb d_Mo_done_22 (by decide) ?_
  refine gx_topi (y := 2) (by decide) ?_
  refine lv_istore (lv' := [(5, Value.int 2), (4, Value.int 10), (3, Value.int 1), (0, Value.ref A46), (1, Value.int 0), (2, Value.int 123)]) hx hb d_Mo_done_23 hl (by decide) rfl (fun ls hl => ?_)
  refine lv_iload hx hb d_Mo_done_25 (lv_at hl 0 rfl) ?_
  refine lv_if_ne (tgt := 33) hx hb d_Mo_done_27 (by decide) (fun _ => ?_) (fun c9 => absurd c9 (by decide))
  refine lv_iinc (v := 2) (lv' := [(3, Value.int 2), (5, Value.int 2), (4, Value.int 10), (0, Value.ref A46), (1, Value.int 0), (2, Value.int 123)]) hx hb d_Mo_done_33 hl (k := 2) rfl (by decide) (by decide) rfl (fun ls hl => ?_)
  refine lv_iload hx hb d_Mo_done_36 (lv_at hl 1 rfl) ?_
  refine lv_aload_n hx hb d_Mo_done_38 rfl (lv_at hl 3 rfl) ?_
  refine va_get (D := D) (ci := 8) (v := Value.int 2) (C := "CommitLedgerModel") (T := F_Mo) (N := 35) hx hb hts i_Mo hown hK hP 46 f_46_ws1 rfl 0 (by decide) (hts _ kf_Mo_84) (fun _ h9 => h9) rfl d_Mo_done_39 ?_
  refine lv_icmp_ne (tgt := 50) hx hb d_Mo_done_42 (by decide) (fun c9 => absurd (by decide) c9) (fun _ => ?_)
  refine lv_aload_n hx hb d_Mo_done_45 rfl (lv_at hl 3 rfl) ?_
  refine lv_iload_n hx hb d_Mo_done_46 rfl (lv_at hl 0 rfl) ?_
  refine va_put (D := D) (ci := 8) (v := Value.int 2) (ty := .int) (C := "CommitLedgerModel") (T := F_Mo) (N := 35) hx hb hts i_Mo t_Mo t_Mo_ok n_Mo hown hK hP hD hS 46 f_46_ws1 rfl 1 (by decide) (hts _ kf_Mo_80) (fun _ h9 => h9) rfl (by decide +kernel) rfl rfl (Nat.le_of_ble_eq_true rfl) d_Mo_done_47 (fun H locs hP9 hD9 hS9 => ?_)
  obtain ⟨ws2, e_ws2⟩ : ∃ x : va_W, x = ws1.set 46 ((A46, Sum.inr (8, [Value.int 2, Value.int 2, Value.ref A47, Value.ref A48, Value.ref A49, Value.int 0, Value.ref A50, Value.ref A51, Value.ref A52, Value.ref A53, Value.int 0, Value.int 0, Value.int 0, Value.int (-1), Value.int 0, Value.ref A54, Value.ref A62, Value.ref A70, Value.int 0, Value.int 0, Value.int 0, Value.ref A78, Value.ref A79, Value.int 0, Value.int 16, Value.int 4, u0, Value.ref A80, Value.ref A81, Value.ref A82, Value.int 0, Value.ref A83, Value.int 0, Value.int 0, Value.int 0])) : Nat × va_E) := ⟨_, rfl⟩
  replace hP : va_P D classes ws2 H := by rw [e_ws2]; exact hP9
  replace hD : va_D A ws2 := by rw [e_ws2]; exact hD9
  replace hS := hS9
  clear hP9 hD9 hS9
  have f_46_ws2 : ws2[46]? = some ((A46, Sum.inr (8, [Value.int 2, Value.int 2, Value.ref A47, Value.ref A48, Value.ref A49, Value.int 0, Value.ref A50, Value.ref A51, Value.ref A52, Value.ref A53, Value.int 0, Value.int 0, Value.int 0, Value.int (-1), Value.int 0, Value.ref A54, Value.ref A62, Value.ref A70, Value.int 0, Value.int 0, Value.int 0, Value.ref A78, Value.ref A79, Value.int 0, Value.int 16, Value.int 4, u0, Value.ref A80, Value.ref A81, Value.ref A82, Value.int 0, Value.ref A83, Value.int 0, Value.int 0, Value.int 0])) : Nat × va_E) := by rw [e_ws2]; exact gs_self f_46_ws1
  replace hU : gx_g ws ws2 0 [46] := by rw [e_ws2]; exact hU.put (Or.inl (by simp))
  refine lv_iload hx hb d_Mo_done_50 (lv_at hl 2 rfl) ?_
  refine lv_bipush (v := 10) hx hb d_Mo_done_52 (by decide) ?_
  refine lv_idiv hx hb d_Mo_done_54 (by decide) ?_
  refine gx_topi (y := 1) (by decide) ?_
  refine lv_istore (lv' := [(4, Value.int 1), (3, Value.int 2), (5, Value.int 2), (0, Value.ref A46), (1, Value.int 0), (2, Value.int 123)]) hx hb d_Mo_done_55 hl (by decide) rfl (fun ls hl => ?_)
  refine lv_goto (tgt := 11) hx hb d_Mo_done_57 (by decide) ?_
  refine lv_iload hx hb d_Mo_done_11 (lv_at hl 0 rfl) ?_
  refine lv_if_le (tgt := 60) hx hb d_Mo_done_13 (by decide) (fun c9 => absurd c9 (by decide)) (fun _ => ?_)
  refine lv_iload_n hx hb d_Mo_done_16 rfl (lv_at hl 5 rfl) ?_
  refine lv_iload hx hb d_Mo_done_17 (lv_at hl 0 rfl) ?_
  refine lv_idiv hx hb d_Mo_done_19 (by decide) ?_
  refine gx_topi (y := 123) (by decide) ?_
  refine lv_bipush (v := 10) hx hb d_Mo_done_20 (by decide) ?_
  refine lv_irem hx hb d_Mo_done_22 (by decide) ?_
  refine gx_topi (y := 3) (by decide) ?_
  refine lv_istore (lv' := [(5, Value.int 3), (4, Value.int 1), (3, Value.int 2), (0, Value.ref A46), (1, Value.int 0), (2, Value.int 123)]) hx hb d_Mo_done_23 hl (by decide) rfl (fun ls hl => ?_)
  refine lv_iload hx hb d_Mo_done_25 (lv_at hl 0 rfl) ?_
  refine lv_if_ne (tgt := 33) hx hb d_Mo_done_27 (by decide) (fun _ => ?_) (fun c9 => absurd c9 (by decide))
  refine lv_iinc (v := 3) (lv' := [(3, Value.int 3), (5, Value.int 3), (4, Value.int 1), (0, Value.ref A46), (1, Value.int 0), (2, Value.int 123)]) hx hb d_Mo_done_33 hl (k := 2) rfl (by decide) (by decide) rfl (fun ls hl => ?_)
  refine lv_iload hx hb d_Mo_done_36 (lv_at hl 1 rfl) ?_
  refine lv_aload_n hx hb d_Mo_done_38 rfl (lv_at hl 3 rfl) ?_
  refine va_get (D := D) (ci := 8) (v := Value.int 2) (C := "CommitLedgerModel") (T := F_Mo) (N := 35) hx hb hts i_Mo hown hK hP 46 f_46_ws2 rfl 0 (by decide) (hts _ kf_Mo_84) (fun _ h9 => h9) rfl d_Mo_done_39 ?_
  refine lv_icmp_ne (tgt := 50) hx hb d_Mo_done_42 (by decide) (fun _ => ?_) (fun c9 => absurd c9 (by decide))
  refine lv_iload hx hb d_Mo_done_50 (lv_at hl 2 rfl) ?_
  refine lv_bipush (v := 10) hx hb d_Mo_done_52 (by decide) ?_
  refine lv_idiv hx hb d_Mo_done_54 (by decide) ?_
  refine gx_topi (y := 0) (by decide) ?_
  refine lv_istore (lv' := [(4, Value.int 0), (3, Value.int 3), (5, Value.int 3), (0, Value.ref A46), (1, Value.int 0), (2, Value.int 123)]) hx hb d_Mo_done_55 hl (by decide) rfl (fun ls hl => ?_)
  refine lv_goto (tgt := 11) hx hb d_Mo_done_57 (by decide) ?_
  refine lv_iload hx hb d_Mo_done_11 (lv_at hl 0 rfl) ?_
  refine lv_if_le (tgt := 60) hx hb d_Mo_done_13 (by decide) (fun _ => ?_) (fun c9 => absurd (by decide) c9)
  refine lv_aload_n hx hb d_Mo_done_60 rfl (lv_at hl 3 rfl) ?_
  refine lv_iconst (v := 0) hx hb d_Mo_done_61 (by decide) ?_
  refine va_put (D := D) (ci := 8) (v := Value.int 0) (ty := .int) (C := "CommitLedgerModel") (T := F_Mo) (N := 35) hx hb hts i_Mo t_Mo t_Mo_ok n_Mo hown hK hP hD hS 46 f_46_ws2 rfl 0 (by decide) (hts _ kf_Mo_84) (fun _ h9 => h9) rfl (by decide +kernel) rfl rfl (Nat.le_of_ble_eq_true rfl) d_Mo_done_62 (fun H locs hP9 hD9 hS9 => ?_)
  obtain ⟨ws3, e_ws3⟩ : ∃ x : va_W, x = ws2.set 46 ((A46, Sum.inr (8, [Value.int 0, Value.int 2, Value.ref A47, Value.ref A48, Value.ref A49, Value.int 0, Value.ref A50, Value.ref A51, Value.ref A52, Value.ref A53, Value.int 0, Value.int 0, Value.int 0, Value.int (-1), Value.int 0, Value.ref A54, Value.ref A62, Value.ref A70, Value.int 0, Value.int 0, Value.int 0, Value.ref A78, Value.ref A79, Value.int 0, Value.int 16, Value.int 4, u0, Value.ref A80, Value.ref A81, Value.ref A82, Value.int 0, Value.ref A83, Value.int 0, Value.int 0, Value.int 0])) : Nat × va_E) := ⟨_, rfl⟩
  replace hP : va_P D classes ws3 H := by rw [e_ws3]; exact hP9
  replace hD : va_D A ws3 := by rw [e_ws3]; exact hD9
  replace hS := hS9
  clear hP9 hD9 hS9
  have f_46_ws3 : ws3[46]? = some ((A46, Sum.inr (8, [Value.int 0, Value.int 2, Value.ref A47, Value.ref A48, Value.ref A49, Value.int 0, Value.ref A50, Value.ref A51, Value.ref A52, Value.ref A53, Value.int 0, Value.int 0, Value.int 0, Value.int (-1), Value.int 0, Value.ref A54, Value.ref A62, Value.ref A70, Value.int 0, Value.int 0, Value.int 0, Value.ref A78, Value.ref A79, Value.int 0, Value.int 16, Value.int 4, u0, Value.ref A80, Value.ref A81, Value.ref A82, Value.int 0, Value.ref A83, Value.int 0, Value.int 0, Value.int 0])) : Nat × va_E) := by rw [e_ws3]; exact gs_self f_46_ws2
  replace hU : gx_g ws ws3 0 [46] := by rw [e_ws3]; exact hU.put (Or.inl (by simp))
  refine lv_aload_n hx hb d_Mo_done_65 rfl (lv_at hl 3 rfl) ?_
  refine va_get (D := D) (ci := 8) (v := Value.int 2) (C := "CommitLedgerModel") (T := F_Mo) (N := 35) hx hb hts i_Mo hown hK hP 46 f_46_ws3 rfl 1 (by decide) (hts _ kf_Mo_80) (fun _ h9 => h9) rfl d_Mo_done_66 ?_
  refine lv_if_le (tgt := 76) hx hb d_Mo_done_69 (by decide) (fun c9 => absurd c9 (by decide)) (fun _ => ?_)
  refine lv_iconst (v := 0) hx hb d_Mo_done_72 (by decide) ?_
  refine lv_goto (tgt := 77) hx hb d_Mo_done_73 (by decide) ?_
  exact gx_ret (W.iret (v := 0) hx hb hr (gx_post hP hK hD hS (by rw [← hPQ]; exact ⟨rfl, hU, f_46_ws3⟩)) hS.2.2 d_Mo_done_77)

set_option maxHeartbeats 4000000 in
set_option maxRecDepth 100000 in
theorem c_Mo_segment_v1 (l : Launch) (htr : l.stackTraces = false) (D : va_G) (tys : List (ClassId × FieldType)) (z sz : Nat) (ws : va_W) (A46 : Nat) (p0 : Int32) (p1 : Int32) (A47 : Nat) (A48 : Nat) (A49 : Nat) (A50 : Nat) (A51 : Nat) (A52 : Nat) (A53 : Nat) (A54 : Nat) (A62 : Nat) (A70 : Nat) (A78 : Nat) (A79 : Nat) (u0 : Value) (A80 : Nat) (A81 : Nat) (A82 : Nat) (A83 : Nat) (f_46 : ws[46]? = some ((A46, Sum.inr (8, [Value.int 0, Value.int 0, Value.ref A47, Value.ref A48, Value.ref A49, Value.int 0, Value.ref A50, Value.ref A51, Value.ref A52, Value.ref A53, Value.int 0, Value.int 0, Value.int 0, Value.int (-1), Value.int 0, Value.ref A54, Value.ref A62, Value.ref A70, Value.int 0, Value.int 0, Value.int 0, Value.ref A78, Value.ref A79, Value.int 0, Value.int 16, Value.int 4, u0, Value.ref A80, Value.ref A81, Value.ref A82, Value.int 0, Value.ref A83, Value.int 0, Value.int 0, Value.int 0])) : Nat × va_E)) : gx_Met l y_Mo_segment [Cond.code y_Mo_segment b_Mo_segment 4 (some .int)] { frames := 2, cells := 0, slots := 0, locals := 37 } (gx_P z sz D classes tys ws [Value.ref A46, Value.int p0, Value.int p1]) (gx_Q D classes tys (va_A ws sz) (fun r ws' => (r = Sum.inl (some (Value.int 0)) ∧ gx_g ws ws' 0 [46] ∧ ws'[46]? = some ((A46, Sum.inr (8, [Value.int 0, Value.int 1, Value.ref A47, Value.ref A48, Value.ref A49, Value.int 0, Value.ref A50, Value.ref A51, Value.ref A52, Value.ref A53, Value.int 0, Value.int 0, Value.int 0, Value.int (-1), Value.int 0, Value.ref A54, Value.ref A62, Value.ref A70, Value.int 0, Value.int 0, Value.int 0, Value.ref A78, Value.ref A79, Value.int 0, Value.int 16, Value.int 4, u0, Value.ref A80, Value.ref A81, Value.ref A82, Value.int 0, Value.ref A83, Value.int 0, Value.int 0, Value.int 0])) : Nat × va_E) ∧ p1 < 0) ∨ (r = Sum.inl (some (Value.int 0)) ∧ gx_g ws ws' 0 [46] ∧ ws'[46]? = some ((A46, Sum.inr (8, [Value.int 0, Value.int 2, Value.ref A47, Value.ref A48, Value.ref A49, Value.int 0, Value.ref A50, Value.ref A51, Value.ref A52, Value.ref A53, Value.int 0, Value.int 0, Value.int 0, Value.int (-1), Value.int 0, Value.ref A54, Value.ref A62, Value.ref A70, Value.int 0, Value.int 0, Value.int 0, Value.ref A78, Value.ref A79, Value.int 0, Value.int 16, Value.int 4, u0, Value.ref A80, Value.ref A81, Value.ref A82, Value.int 0, Value.ref A83, Value.int 0, Value.int 0, Value.int 0])) : Nat × va_E) ∧ ¬ p1 < 0 ∧ p1 ≤ 4) ∨ (r = Sum.inl (some (Value.int 0)) ∧ gx_g ws ws' 0 [46] ∧ ws'[46]? = some ((A46, Sum.inr (8, [Value.int 0, Value.int 1, Value.ref A47, Value.ref A48, Value.ref A49, Value.int 0, Value.ref A50, Value.ref A51, Value.ref A52, Value.ref A53, Value.int 0, Value.int 0, Value.int 0, Value.int (-1), Value.int 0, Value.ref A54, Value.ref A62, Value.ref A70, Value.int 0, Value.int 0, Value.int 0, Value.ref A78, Value.ref A79, Value.int 0, Value.int 16, Value.int 4, u0, Value.ref A80, Value.ref A81, Value.ref A82, Value.int 0, Value.ref A83, Value.int 0, Value.int 0, Value.int 0])) : Nat × va_E) ∧ ¬ p1 < 0 ∧ ¬ p1 ≤ 4))) 0 0 (va_A ws sz) := by
  refine gx_ofW (cc := b_Mo_segment) (maxL := 4) (ret := (some .int)) (by decide) rfl ?_
  intro p e s m args below meth c s₁ B hml hv
  obtain ⟨rfl, hsz, hz, hP, hK, hD0, hY⟩ := hv
  have hx := B.exec
  have hb := B.bytes
  have hr := B.returns
  have hts := hY.hts (#[Value.ref A46, Value.int p0, Value.int p1] : Array Value)
  have hown : s.vm.findClass "CommitLedgerModel" = some m.cls := findClass_of_methodNamed B.named
  have hlocks := B.notSynchronized
  have hne : c.exceptionTable.isEmpty = true := B.noHandlers (atoms_spec (ws := [Cond.code y_Mo_segment b_Mo_segment 4 (some .int)]) B.pre _ List.mem_cons_self)
  subst hsz
  have hAz := gx_az hD0 hz
  have hD := hD0.self (sz := s.heap.size)
  have hN := gx_ns hP
  have hA : ∀ q : Nat, s.heap.size ≤ q → va_A ws s.heap.size q := fun q h => Or.inr h
  generalize va_A ws s.heap.size = A at hD hN hA hAz ⊢
  generalize hPQ : (fun (r : Option Value ⊕ String) (ws' : va_W) => (r = Sum.inl (some (Value.int 0)) ∧ gx_g ws ws' 0 [46] ∧ ws'[46]? = some ((A46, Sum.inr (8, [Value.int 0, Value.int 1, Value.ref A47, Value.ref A48, Value.ref A49, Value.int 0, Value.ref A50, Value.ref A51, Value.ref A52, Value.ref A53, Value.int 0, Value.int 0, Value.int 0, Value.int (-1), Value.int 0, Value.ref A54, Value.ref A62, Value.ref A70, Value.int 0, Value.int 0, Value.int 0, Value.ref A78, Value.ref A79, Value.int 0, Value.int 16, Value.int 4, u0, Value.ref A80, Value.ref A81, Value.ref A82, Value.int 0, Value.ref A83, Value.int 0, Value.int 0, Value.int 0])) : Nat × va_E) ∧ p1 < 0) ∨ (r = Sum.inl (some (Value.int 0)) ∧ gx_g ws ws' 0 [46] ∧ ws'[46]? = some ((A46, Sum.inr (8, [Value.int 0, Value.int 2, Value.ref A47, Value.ref A48, Value.ref A49, Value.int 0, Value.ref A50, Value.ref A51, Value.ref A52, Value.ref A53, Value.int 0, Value.int 0, Value.int 0, Value.int (-1), Value.int 0, Value.ref A54, Value.ref A62, Value.ref A70, Value.int 0, Value.int 0, Value.int 0, Value.ref A78, Value.ref A79, Value.int 0, Value.int 16, Value.int 4, u0, Value.ref A80, Value.ref A81, Value.ref A82, Value.int 0, Value.ref A83, Value.int 0, Value.int 0, Value.int 0])) : Nat × va_E) ∧ ¬ p1 < 0 ∧ p1 ≤ 4) ∨ (r = Sum.inl (some (Value.int 0)) ∧ gx_g ws ws' 0 [46] ∧ ws'[46]? = some ((A46, Sum.inr (8, [Value.int 0, Value.int 1, Value.ref A47, Value.ref A48, Value.ref A49, Value.int 0, Value.ref A50, Value.ref A51, Value.ref A52, Value.ref A53, Value.int 0, Value.int 0, Value.int 0, Value.int (-1), Value.int 0, Value.ref A54, Value.ref A62, Value.ref A70, Value.int 0, Value.int 0, Value.int 0, Value.ref A78, Value.ref A79, Value.int 0, Value.int 16, Value.int 4, u0, Value.ref A80, Value.ref A81, Value.ref A82, Value.int 0, Value.ref A83, Value.int 0, Value.int 0, Value.int 0])) : Nat × va_E) ∧ ¬ p1 < 0 ∧ ¬ p1 ≤ 4)) = PQ
  have hS : va_S A s.heap s.heap [] := va_S.rf
  have hU : gx_g ws ws 0 [46] := gx_g.rf
  have hl := lv_entry ([Value.ref A46, Value.int p0, Value.int p1]) (n := 4) (Nat.le_of_ble_eq_true rfl)
  rw [lg_entry_eq]
  generalize (lg_sl ([Value.ref A46, Value.int p0, Value.int p1]) ++ List.replicate (4 - (lg_sl ([Value.ref A46, Value.int p0, Value.int p1])).length) Slot.unset).toArray = ls at hl ⊢
  have hl : lv_has ls 4 [(0, Value.ref A46), (1, Value.int p0), (2, Value.int p1)] := hl
  refine lv_aload_n hx hb d_Mo_segment_0 rfl (lv_at hl 0 rfl) ?_
  refine lv_iload_n hx hb d_Mo_segment_1 rfl (lv_at hl 2 rfl) ?_
  refine lv_if_lt (tgt := 10) hx hb d_Mo_segment_2 (by decide) (fun c2_1 => ?_) (fun c2_1 => ?_)
  · refine lv_iconst (v := 1) hx hb d_Mo_segment_10 (by decide) ?_
    refine lv_goto (tgt := 15) hx hb d_Mo_segment_11 (by decide) ?_
    refine lv_iconst (v := 1) hx hb d_Mo_segment_15 (by decide) ?_
    refine gx_call (ig := .invokevirtual 152) (c_Mo_wrong_v1 l htr D tys z _ ws A46 A47 A48 A49 A50 A51 A52 A53 A54 A62 A70 A78 A79 (u0) A80 A81 A82 A83 f_46) (gx_invV (As := [Value.int 1, Value.int 1]) (rest := []) hx hb hown hts km_Mo_152 kI_Mo_wrong kV_Mo_wrong kc_Mo_wrong (by decide) (show (parseMethodDescriptor y_Mo_wrong.desc).map (fun d => d.parameters.length) = some 2 by decide +kernel) (gx_recv (ci := 8) hK hP rfl f_46) rfl rfl d_Mo_segment_16) (gx_cw (z := 0) hts kc_Mo_wrong kN_Mo rfl rfl ⟨Nat.le_of_ble_eq_true rfl, Nat.le_of_ble_eq_true rfl⟩) hb hml gx_blind (gx_pre hz hP hK hD hY hS hAz [Value.ref A46, Value.int 1, Value.int 1]) rfl hl.1 (lv_room (Nat.le_of_ble_eq_true rfl)) d_Mo_segment_16 ⟨Nat.le_of_ble_eq_true rfl, Nat.le_of_ble_eq_true rfl⟩ (fun v2 st2 t2 L2 h0_2 hW_2 hQ_2 hL_2 => ?_) (fun v2 st2 t2 L2 h0_2 hW_2 hQ_2 hL_2 => ?_)
    · obtain ⟨ws3, hp, hP9, -, hD9, hS9⟩ := gx_back h0_2 hW_2 hQ_2 hL_2 hD hS hA
      clear hQ_2 h0_2 hL_2 hW_2 hP hD hS
      have hP := hP9
      have hD := hD9
      have hS := hS9
      clear hP9 hD9 hS9
      rcases hp with ⟨hv9, e_ws3, f_46_ws3⟩
      cases hv9
      have f_46_ws3 : ws3[46]? = some ((A46, Sum.inr (8, [Value.int 1, Value.int 0, Value.ref A47, Value.ref A48, Value.ref A49, Value.int 0, Value.ref A50, Value.ref A51, Value.ref A52, Value.ref A53, Value.int 0, Value.int 0, Value.int 0, Value.int (-1), Value.int 0, Value.ref A54, Value.ref A62, Value.ref A70, Value.int 0, Value.int 0, Value.int 0, Value.ref A78, Value.ref A79, Value.int 0, Value.int 16, Value.int 4, u0, Value.ref A80, Value.ref A81, Value.ref A82, Value.int 0, Value.ref A83, Value.int 0, Value.int 0, Value.int 0])) : Nat × va_E) := f_46_ws3
      replace hU : gx_g ws ws3 0 [46] := hU.call e_ws3 (by simp; first | done | omega)
      refine W.eq (g2 := F0 m 19 ls [Value.int 1]) rfl ?_
      generalize t2.heap = H at hP hS ⊢
      generalize [] ++ L2 = locs at hS ⊢
      refine lv_if_ne (tgt := 70) hx hb d_Mo_segment_19 (by decide) (fun _ => ?_) (fun c9 => absurd c9 (by decide))
      refine lv_aload_n hx hb d_Mo_segment_70 rfl (lv_at hl 0 rfl) ?_
      refine lv_iconst (v := 0) hx hb d_Mo_segment_71 (by decide) ?_
      refine lv_bipush (v := 123) hx hb d_Mo_segment_72 (by decide) ?_
      refine gx_call (ig := .invokevirtual 148) (c_Mo_done_v14 l htr D tys z _ ws3 A46 A47 A48 A49 A50 A51 A52 A53 A54 A62 A70 A78 A79 (u0) A80 A81 A82 A83 f_46_ws3) (gx_invV (As := [Value.int 0, Value.int 123]) (rest := []) hx hb hown hts km_Mo_148 kI_Mo_done kV_Mo_done kc_Mo_done (by decide) (show (parseMethodDescriptor y_Mo_done.desc).map (fun d => d.parameters.length) = some 2 by decide +kernel) (gx_recv (ci := 8) hK hP rfl f_46_ws3) rfl rfl d_Mo_segment_74) (gx_cw (z := 0) hts kc_Mo_done kN_Mo rfl rfl ⟨Nat.le_of_ble_eq_true rfl, Nat.le_of_ble_eq_true rfl⟩) hb hml gx_blind (gx_pre hz hP hK hD hY hS hAz [Value.ref A46, Value.int 0, Value.int 123]) rfl hl.1 (lv_room (Nat.le_of_ble_eq_true rfl)) d_Mo_segment_74 ⟨Nat.le_of_ble_eq_true rfl, Nat.le_of_ble_eq_true rfl⟩ (fun v4 st4 t4 L4 h0_4 hW_4 hQ_4 hL_4 => ?_) (fun v4 st4 t4 L4 h0_4 hW_4 hQ_4 hL_4 => ?_)
      · obtain ⟨ws5, hp, hP9, -, hD9, hS9⟩ := gx_back h0_4 hW_4 hQ_4 hL_4 hD hS hA
        clear hQ_4 h0_4 hL_4 hW_4 hP hD hS
        have hP := hP9
        have hD := hD9
        have hS := hS9
        clear hP9 hD9 hS9
        rcases hp with ⟨hv9, e_ws5, f_46_ws5⟩
        cases hv9
        have f_46_ws5 : ws5[46]? = some ((A46, Sum.inr (8, [Value.int 0, Value.int 1, Value.ref A47, Value.ref A48, Value.ref A49, Value.int 0, Value.ref A50, Value.ref A51, Value.ref A52, Value.ref A53, Value.int 0, Value.int 0, Value.int 0, Value.int (-1), Value.int 0, Value.ref A54, Value.ref A62, Value.ref A70, Value.int 0, Value.int 0, Value.int 0, Value.ref A78, Value.ref A79, Value.int 0, Value.int 16, Value.int 4, u0, Value.ref A80, Value.ref A81, Value.ref A82, Value.int 0, Value.ref A83, Value.int 0, Value.int 0, Value.int 0])) : Nat × va_E) := f_46_ws5
        replace hU : gx_g ws ws5 0 [46] := hU.call e_ws5 (by simp; first | done | omega)
        refine W.eq (g2 := F0 m 77 ls [Value.int 0]) rfl ?_
        generalize t4.heap = H at hP hS ⊢
        generalize locs ++ L4 = locs at hS ⊢
        exact gx_ret (W.iret (v := 0) hx hb hr (gx_post hP hK hD hS (by rw [← hPQ]; exact Or.inl ⟨rfl, hU, f_46_ws5, c2_1⟩)) hS.2.2 d_Mo_segment_77)
      · obtain ⟨E9, ws6, ce, hp, hce, hP9, -, hD9, hS9⟩ := gx_backT h0_4 hW_4 hQ_4 hL_4 hD hS hA
        clear hQ_4 h0_4 hL_4 hW_4 hP hD hS
        have hP := hP9
        have hD := hD9
        have hS := hS9
        clear hP9 hD9 hS9
        rcases hp with ⟨hv9, e_ws6, f_46_ws6⟩
        cases hv9
    · obtain ⟨E9, ws7, ce, hp, hce, hP9, -, hD9, hS9⟩ := gx_backT h0_2 hW_2 hQ_2 hL_2 hD hS hA
      clear hQ_2 h0_2 hL_2 hW_2 hP hD hS
      have hP := hP9
      have hD := hD9
      have hS := hS9
      clear hP9 hD9 hS9
      rcases hp with ⟨hv9, e_ws7, f_46_ws7⟩
      cases hv9
  · refine lv_iload_n hx hb d_Mo_segment_5 rfl (lv_at hl 2 rfl) ?_
    refine lv_iconst (v := 4) hx hb d_Mo_segment_6 (by decide) ?_
    refine lv_icmp_le (tgt := 14) hx hb d_Mo_segment_7 (by decide) (fun c7_8 => ?_) (fun c7_8 => ?_)
    · refine lv_iconst (v := 0) hx hb d_Mo_segment_14 (by decide) ?_
      refine lv_iconst (v := 1) hx hb d_Mo_segment_15 (by decide) ?_
      refine gx_call (ig := .invokevirtual 152) (c_Mo_wrong_v2 l htr D tys z _ ws A46 A47 A48 A49 A50 A51 A52 A53 A54 A62 A70 A78 A79 (u0) A80 A81 A82 A83 f_46) (gx_invV (As := [Value.int 0, Value.int 1]) (rest := []) hx hb hown hts km_Mo_152 kI_Mo_wrong kV_Mo_wrong kc_Mo_wrong (by decide) (show (parseMethodDescriptor y_Mo_wrong.desc).map (fun d => d.parameters.length) = some 2 by decide +kernel) (gx_recv (ci := 8) hK hP rfl f_46) rfl rfl d_Mo_segment_16) (gx_cw (z := 0) hts kc_Mo_wrong kN_Mo rfl rfl ⟨Nat.le_of_ble_eq_true rfl, Nat.le_of_ble_eq_true rfl⟩) hb hml gx_blind (gx_pre hz hP hK hD hY hS hAz [Value.ref A46, Value.int 0, Value.int 1]) rfl hl.1 (lv_room (Nat.le_of_ble_eq_true rfl)) d_Mo_segment_16 ⟨Nat.le_of_ble_eq_true rfl, Nat.le_of_ble_eq_true rfl⟩ (fun v9 st9 t9 L9 h0_9 hW_9 hQ_9 hL_9 => ?_) (fun v9 st9 t9 L9 h0_9 hW_9 hQ_9 hL_9 => ?_)
      · obtain ⟨ws10, hp, hP9, -, hD9, hS9⟩ := gx_back h0_9 hW_9 hQ_9 hL_9 hD hS hA
        clear hQ_9 h0_9 hL_9 hW_9 hP hD hS
        have hP := hP9
        have hD := hD9
        have hS := hS9
        clear hP9 hD9 hS9
        rcases hp with ⟨hv9, e_ws10⟩
        cases hv9
        rw [e_ws10] at hP hD
        refine W.eq (g2 := F0 m 19 ls [Value.int 0]) rfl ?_
        generalize t9.heap = H at hP hS ⊢
        generalize [] ++ L9 = locs at hS ⊢
        refine lv_if_ne (tgt := 70) hx hb d_Mo_segment_19 (by decide) (fun c9 => absurd (by decide) c9) (fun _ => ?_)
        refine lv_aload_n hx hb d_Mo_segment_22 rfl (lv_at hl 0 rfl) ?_
        refine lv_aload_n hx hb d_Mo_segment_23 rfl (lv_at hl 0 rfl) ?_
        refine va_get (D := D) (ci := 8) (v := Value.int 0) (C := "CommitLedgerModel") (T := F_Mo) (N := 35) hx hb hts i_Mo hown hK hP 46 f_46 rfl 18 (by decide) (hts _ kf_Mo_99) (fun _ h9 => h9) rfl d_Mo_segment_24 ?_
        refine lv_if_ne (tgt := 34) hx hb d_Mo_segment_27 (by decide) (fun c9 => absurd (by decide) c9) (fun _ => ?_)
        refine lv_iconst (v := 1) hx hb d_Mo_segment_30 (by decide) ?_
        refine lv_goto (tgt := 35) hx hb d_Mo_segment_31 (by decide) ?_
        refine lv_iconst (v := 2) hx hb d_Mo_segment_35 (by decide) ?_
        refine gx_call (ig := .invokevirtual 152) (c_Mo_wrong_v5 l htr D tys z _ ws A46 A47 A48 A49 A50 A51 A52 A53 A54 A62 A70 A78 A79 (u0) A80 A81 A82 A83 f_46) (gx_invV (As := [Value.int 1, Value.int 2]) (rest := []) hx hb hown hts km_Mo_152 kI_Mo_wrong kV_Mo_wrong kc_Mo_wrong (by decide) (show (parseMethodDescriptor y_Mo_wrong.desc).map (fun d => d.parameters.length) = some 2 by decide +kernel) (gx_recv (ci := 8) hK hP rfl f_46) rfl rfl d_Mo_segment_36) (gx_cw (z := 0) hts kc_Mo_wrong kN_Mo rfl rfl ⟨Nat.le_of_ble_eq_true rfl, Nat.le_of_ble_eq_true rfl⟩) hb hml gx_blind (gx_pre hz hP hK hD hY hS hAz [Value.ref A46, Value.int 1, Value.int 2]) rfl hl.1 (lv_room (Nat.le_of_ble_eq_true rfl)) d_Mo_segment_36 ⟨Nat.le_of_ble_eq_true rfl, Nat.le_of_ble_eq_true rfl⟩ (fun v11 st11 t11 L11 h0_11 hW_11 hQ_11 hL_11 => ?_) (fun v11 st11 t11 L11 h0_11 hW_11 hQ_11 hL_11 => ?_)
        · obtain ⟨ws12, hp, hP9, -, hD9, hS9⟩ := gx_back h0_11 hW_11 hQ_11 hL_11 hD hS hA
          clear hQ_11 h0_11 hL_11 hW_11 hP hD hS
          have hP := hP9
          have hD := hD9
          have hS := hS9
          clear hP9 hD9 hS9
          rcases hp with ⟨hv9, e_ws12, f_46_ws12⟩
          cases hv9
          have f_46_ws12 : ws12[46]? = some ((A46, Sum.inr (8, [Value.int 2, Value.int 0, Value.ref A47, Value.ref A48, Value.ref A49, Value.int 0, Value.ref A50, Value.ref A51, Value.ref A52, Value.ref A53, Value.int 0, Value.int 0, Value.int 0, Value.int (-1), Value.int 0, Value.ref A54, Value.ref A62, Value.ref A70, Value.int 0, Value.int 0, Value.int 0, Value.ref A78, Value.ref A79, Value.int 0, Value.int 16, Value.int 4, u0, Value.ref A80, Value.ref A81, Value.ref A82, Value.int 0, Value.ref A83, Value.int 0, Value.int 0, Value.int 0])) : Nat × va_E) := f_46_ws12
          replace hU : gx_g ws ws12 0 [46] := hU.call e_ws12 (by simp; first | done | omega)
          refine W.eq (g2 := F0 m 39 ls [Value.int 1]) rfl ?_
          generalize t11.heap = H at hP hS ⊢
          generalize locs ++ L11 = locs at hS ⊢
          refine lv_if_ne (tgt := 70) hx hb d_Mo_segment_39 (by decide) (fun _ => ?_) (fun c9 => absurd c9 (by decide))
          refine lv_aload_n hx hb d_Mo_segment_70 rfl (lv_at hl 0 rfl) ?_
          refine lv_iconst (v := 0) hx hb d_Mo_segment_71 (by decide) ?_
          refine lv_bipush (v := 123) hx hb d_Mo_segment_72 (by decide) ?_
          refine gx_call (ig := .invokevirtual 148) (c_Mo_done_v22 l htr D tys z _ ws12 A46 A47 A48 A49 A50 A51 A52 A53 A54 A62 A70 A78 A79 (u0) A80 A81 A82 A83 f_46_ws12) (gx_invV (As := [Value.int 0, Value.int 123]) (rest := []) hx hb hown hts km_Mo_148 kI_Mo_done kV_Mo_done kc_Mo_done (by decide) (show (parseMethodDescriptor y_Mo_done.desc).map (fun d => d.parameters.length) = some 2 by decide +kernel) (gx_recv (ci := 8) hK hP rfl f_46_ws12) rfl rfl d_Mo_segment_74) (gx_cw (z := 0) hts kc_Mo_done kN_Mo rfl rfl ⟨Nat.le_of_ble_eq_true rfl, Nat.le_of_ble_eq_true rfl⟩) hb hml gx_blind (gx_pre hz hP hK hD hY hS hAz [Value.ref A46, Value.int 0, Value.int 123]) rfl hl.1 (lv_room (Nat.le_of_ble_eq_true rfl)) d_Mo_segment_74 ⟨Nat.le_of_ble_eq_true rfl, Nat.le_of_ble_eq_true rfl⟩ (fun v13 st13 t13 L13 h0_13 hW_13 hQ_13 hL_13 => ?_) (fun v13 st13 t13 L13 h0_13 hW_13 hQ_13 hL_13 => ?_)
          · obtain ⟨ws14, hp, hP9, -, hD9, hS9⟩ := gx_back h0_13 hW_13 hQ_13 hL_13 hD hS hA
            clear hQ_13 h0_13 hL_13 hW_13 hP hD hS
            have hP := hP9
            have hD := hD9
            have hS := hS9
            clear hP9 hD9 hS9
            rcases hp with ⟨hv9, e_ws14, f_46_ws14⟩
            cases hv9
            have f_46_ws14 : ws14[46]? = some ((A46, Sum.inr (8, [Value.int 0, Value.int 2, Value.ref A47, Value.ref A48, Value.ref A49, Value.int 0, Value.ref A50, Value.ref A51, Value.ref A52, Value.ref A53, Value.int 0, Value.int 0, Value.int 0, Value.int (-1), Value.int 0, Value.ref A54, Value.ref A62, Value.ref A70, Value.int 0, Value.int 0, Value.int 0, Value.ref A78, Value.ref A79, Value.int 0, Value.int 16, Value.int 4, u0, Value.ref A80, Value.ref A81, Value.ref A82, Value.int 0, Value.ref A83, Value.int 0, Value.int 0, Value.int 0])) : Nat × va_E) := f_46_ws14
            replace hU : gx_g ws ws14 0 [46] := hU.call e_ws14 (by simp; first | done | omega)
            refine W.eq (g2 := F0 m 77 ls [Value.int 0]) rfl ?_
            generalize t13.heap = H at hP hS ⊢
            generalize locs ++ L13 = locs at hS ⊢
            exact gx_ret (W.iret (v := 0) hx hb hr (gx_post hP hK hD hS (by rw [← hPQ]; exact Or.inr (Or.inl ⟨rfl, hU, f_46_ws14, c2_1, c7_8⟩))) hS.2.2 d_Mo_segment_77)
          · obtain ⟨E9, ws15, ce, hp, hce, hP9, -, hD9, hS9⟩ := gx_backT h0_13 hW_13 hQ_13 hL_13 hD hS hA
            clear hQ_13 h0_13 hL_13 hW_13 hP hD hS
            have hP := hP9
            have hD := hD9
            have hS := hS9
            clear hP9 hD9 hS9
            rcases hp with ⟨hv9, e_ws15, f_46_ws15⟩
            cases hv9
        · obtain ⟨E9, ws16, ce, hp, hce, hP9, -, hD9, hS9⟩ := gx_backT h0_11 hW_11 hQ_11 hL_11 hD hS hA
          clear hQ_11 h0_11 hL_11 hW_11 hP hD hS
          have hP := hP9
          have hD := hD9
          have hS := hS9
          clear hP9 hD9 hS9
          rcases hp with ⟨hv9, e_ws16, f_46_ws16⟩
          cases hv9
      · obtain ⟨E9, ws17, ce, hp, hce, hP9, -, hD9, hS9⟩ := gx_backT h0_9 hW_9 hQ_9 hL_9 hD hS hA
        clear hQ_9 h0_9 hL_9 hW_9 hP hD hS
        have hP := hP9
        have hD := hD9
        have hS := hS9
        clear hP9 hD9 hS9
        rcases hp with ⟨hv9, e_ws17⟩
        cases hv9
    · refine lv_iconst (v := 1) hx hb d_Mo_segment_10 (by decide) ?_
      refine lv_goto (tgt := 15) hx hb d_Mo_segment_11 (by decide) ?_
      refine lv_iconst (v := 1) hx hb d_Mo_segment_15 (by decide) ?_
      refine gx_call (ig := .invokevirtual 152) (c_Mo_wrong_v1 l htr D tys z _ ws A46 A47 A48 A49 A50 A51 A52 A53 A54 A62 A70 A78 A79 (u0) A80 A81 A82 A83 f_46) (gx_invV (As := [Value.int 1, Value.int 1]) (rest := []) hx hb hown hts km_Mo_152 kI_Mo_wrong kV_Mo_wrong kc_Mo_wrong (by decide) (show (parseMethodDescriptor y_Mo_wrong.desc).map (fun d => d.parameters.length) = some 2 by decide +kernel) (gx_recv (ci := 8) hK hP rfl f_46) rfl rfl d_Mo_segment_16) (gx_cw (z := 0) hts kc_Mo_wrong kN_Mo rfl rfl ⟨Nat.le_of_ble_eq_true rfl, Nat.le_of_ble_eq_true rfl⟩) hb hml gx_blind (gx_pre hz hP hK hD hY hS hAz [Value.ref A46, Value.int 1, Value.int 1]) rfl hl.1 (lv_room (Nat.le_of_ble_eq_true rfl)) d_Mo_segment_16 ⟨Nat.le_of_ble_eq_true rfl, Nat.le_of_ble_eq_true rfl⟩ (fun v18 st18 t18 L18 h0_18 hW_18 hQ_18 hL_18 => ?_) (fun v18 st18 t18 L18 h0_18 hW_18 hQ_18 hL_18 => ?_)
      · obtain ⟨ws19, hp, hP9, -, hD9, hS9⟩ := gx_back h0_18 hW_18 hQ_18 hL_18 hD hS hA
        clear hQ_18 h0_18 hL_18 hW_18 hP hD hS
        have hP := hP9
        have hD := hD9
        have hS := hS9
        clear hP9 hD9 hS9
        rcases hp with ⟨hv9, e_ws19, f_46_ws19⟩
        cases hv9
        have f_46_ws19 : ws19[46]? = some ((A46, Sum.inr (8, [Value.int 1, Value.int 0, Value.ref A47, Value.ref A48, Value.ref A49, Value.int 0, Value.ref A50, Value.ref A51, Value.ref A52, Value.ref A53, Value.int 0, Value.int 0, Value.int 0, Value.int (-1), Value.int 0, Value.ref A54, Value.ref A62, Value.ref A70, Value.int 0, Value.int 0, Value.int 0, Value.ref A78, Value.ref A79, Value.int 0, Value.int 16, Value.int 4, u0, Value.ref A80, Value.ref A81, Value.ref A82, Value.int 0, Value.ref A83, Value.int 0, Value.int 0, Value.int 0])) : Nat × va_E) := f_46_ws19
        replace hU : gx_g ws ws19 0 [46] := hU.call e_ws19 (by simp; first | done | omega)
        refine W.eq (g2 := F0 m 19 ls [Value.int 1]) rfl ?_
        generalize t18.heap = H at hP hS ⊢
        generalize [] ++ L18 = locs at hS ⊢
        refine lv_if_ne (tgt := 70) hx hb d_Mo_segment_19 (by decide) (fun _ => ?_) (fun c9 => absurd c9 (by decide))
        refine lv_aload_n hx hb d_Mo_segment_70 rfl (lv_at hl 0 rfl) ?_
        refine lv_iconst (v := 0) hx hb d_Mo_segment_71 (by decide) ?_
        refine lv_bipush (v := 123) hx hb d_Mo_segment_72 (by decide) ?_
        refine gx_call (ig := .invokevirtual 148) (c_Mo_done_v14 l htr D tys z _ ws19 A46 A47 A48 A49 A50 A51 A52 A53 A54 A62 A70 A78 A79 (u0) A80 A81 A82 A83 f_46_ws19) (gx_invV (As := [Value.int 0, Value.int 123]) (rest := []) hx hb hown hts km_Mo_148 kI_Mo_done kV_Mo_done kc_Mo_done (by decide) (show (parseMethodDescriptor y_Mo_done.desc).map (fun d => d.parameters.length) = some 2 by decide +kernel) (gx_recv (ci := 8) hK hP rfl f_46_ws19) rfl rfl d_Mo_segment_74) (gx_cw (z := 0) hts kc_Mo_done kN_Mo rfl rfl ⟨Nat.le_of_ble_eq_true rfl, Nat.le_of_ble_eq_true rfl⟩) hb hml gx_blind (gx_pre hz hP hK hD hY hS hAz [Value.ref A46, Value.int 0, Value.int 123]) rfl hl.1 (lv_room (Nat.le_of_ble_eq_true rfl)) d_Mo_segment_74 ⟨Nat.le_of_ble_eq_true rfl, Nat.le_of_ble_eq_true rfl⟩ (fun v20 st20 t20 L20 h0_20 hW_20 hQ_20 hL_20 => ?_) (fun v20 st20 t20 L20 h0_20 hW_20 hQ_20 hL_20 => ?_)
        · obtain ⟨ws21, hp, hP9, -, hD9, hS9⟩ := gx_back h0_20 hW_20 hQ_20 hL_20 hD hS hA
          clear hQ_20 h0_20 hL_20 hW_20 hP hD hS
          have hP := hP9
          have hD := hD9
          have hS := hS9
          clear hP9 hD9 hS9
          rcases hp with ⟨hv9, e_ws21, f_46_ws21⟩
          cases hv9
          have f_46_ws21 : ws21[46]? = some ((A46, Sum.inr (8, [Value.int 0, Value.int 1, Value.ref A47, Value.ref A48, Value.ref A49, Value.int 0, Value.ref A50, Value.ref A51, Value.ref A52, Value.ref A53, Value.int 0, Value.int 0, Value.int 0, Value.int (-1), Value.int 0, Value.ref A54, Value.ref A62, Value.ref A70, Value.int 0, Value.int 0, Value.int 0, Value.ref A78, Value.ref A79, Value.int 0, Value.int 16, Value.int 4, u0, Value.ref A80, Value.ref A81, Value.ref A82, Value.int 0, Value.ref A83, Value.int 0, Value.int 0, Value.int 0])) : Nat × va_E) := f_46_ws21
          replace hU : gx_g ws ws21 0 [46] := hU.call e_ws21 (by simp; first | done | omega)
          refine W.eq (g2 := F0 m 77 ls [Value.int 0]) rfl ?_
          generalize t20.heap = H at hP hS ⊢
          generalize locs ++ L20 = locs at hS ⊢
          exact gx_ret (W.iret (v := 0) hx hb hr (gx_post hP hK hD hS (by rw [← hPQ]; exact Or.inr (Or.inr (⟨rfl, hU, f_46_ws21, c2_1, c7_8⟩)))) hS.2.2 d_Mo_segment_77)
        · obtain ⟨E9, ws22, ce, hp, hce, hP9, -, hD9, hS9⟩ := gx_backT h0_20 hW_20 hQ_20 hL_20 hD hS hA
          clear hQ_20 h0_20 hL_20 hW_20 hP hD hS
          have hP := hP9
          have hD := hD9
          have hS := hS9
          clear hP9 hD9 hS9
          rcases hp with ⟨hv9, e_ws22, f_46_ws22⟩
          cases hv9
      · obtain ⟨E9, ws23, ce, hp, hce, hP9, -, hD9, hS9⟩ := gx_backT h0_18 hW_18 hQ_18 hL_18 hD hS hA
        clear hQ_18 h0_18 hL_18 hW_18 hP hD hS
        have hP := hP9
        have hD := hD9
        have hS := hS9
        clear hP9 hD9 hS9
        rcases hp with ⟨hv9, e_ws23, f_46_ws23⟩
        cases hv9

set_option maxHeartbeats 4000000 in
set_option maxRecDepth 100000 in
theorem c_Mo_readersOpen_v1 (l : Launch) (htr : l.stackTraces = false) (D : va_G) (tys : List (ClassId × FieldType)) (z sz : Nat) (ws : va_W) (cV : ClassId) (A46 : Nat) (A47 : Nat) (A48 : Nat) (A49 : Nat) (A50 : Nat) (A51 : Nat) (A52 : Nat) (A53 : Nat) (A54 : Nat) (A62 : Nat) (A70 : Nat) (A78 : Nat) (A79 : Nat) (u0 : Value) (A80 : Nat) (A81 : Nat) (A82 : Nat) (A83 : Nat) (A84 : Nat) (A85 : Nat) (A86 : Nat) (A87 : Nat) (A88 : Nat) (A89 : Nat) (A90 : Nat) (A91 : Nat) (A92 : Nat) (A93 : Nat) (A94 : Nat) (A95 : Nat) (A96 : Nat) (A97 : Nat) (A98 : Nat) (A99 : Nat) (A100 : Nat) (A101 : Nat) (A102 : Nat) (A103 : Nat) (A104 : Nat) (A105 : Nat) (A106 : Nat) (A107 : Nat) (A108 : Nat) (A109 : Nat) (A110 : Nat) (A111 : Nat) (A112 : Nat) (A113 : Nat) (A114 : Nat) (A115 : Nat) (f_46 : ws[46]? = some ((A46, Sum.inr (8, [Value.int 0, Value.int 0, Value.ref A47, Value.ref A48, Value.ref A49, Value.int 0, Value.ref A50, Value.ref A51, Value.ref A52, Value.ref A53, Value.int 0, Value.int 0, Value.int 0, Value.int (-1), Value.int 0, Value.ref A54, Value.ref A62, Value.ref A70, Value.int 0, Value.int 0, Value.int 0, Value.ref A78, Value.ref A79, Value.int 0, Value.int 16, Value.int 4, u0, Value.ref A80, Value.ref A81, Value.ref A82, Value.int 0, Value.ref A83, Value.int 0, Value.int 0, Value.int 0])) : Nat × va_E)) (f_84 : ws[84]? = some ((A84, Sum.inr (9, [Value.ref A85, Value.ref A86, Value.ref A87, Value.ref A88, Value.ref A89, Value.ref A90, Value.ref A91, Value.int 0, Value.int 0, Value.int 0, Value.int 0])) : Nat × va_E)) (f_92 : ws[92]? = some ((A92, Sum.inr (9, [Value.ref A93, Value.ref A94, Value.ref A95, Value.ref A96, Value.ref A97, Value.ref A98, Value.ref A99, Value.int 0, Value.int 0, Value.int 0, Value.int 0])) : Nat × va_E)) (f_100 : ws[100]? = some ((A100, Sum.inr (9, [Value.ref A101, Value.ref A102, Value.ref A103, Value.ref A104, Value.ref A105, Value.ref A106, Value.ref A107, Value.int 0, Value.int 0, Value.int 0, Value.int 0])) : Nat × va_E)) (f_108 : ws[108]? = some ((A108, Sum.inr (9, [Value.ref A109, Value.ref A110, Value.ref A111, Value.ref A112, Value.ref A113, Value.ref A114, Value.ref A115, Value.int 0, Value.int 0, Value.int 0, Value.int 0])) : Nat × va_E)) (f_83 : ws[83]? = some ((A83, Sum.inl (cV, 4, Sum.inr (Sum.inr (Sum.inr (Sum.inr (va_up (va_up (va_up (va_up (fun _ => none) 0 (some A84)) 1 (some A92)) 2 (some A100)) 3 (some A108))))))) : Nat × va_E)) (ht5 : tys[5]? = some ((cV, FieldType.object "CommitLedgerModel$Version") : ClassId × FieldType)) : gx_Met l y_Mo_readersOpen [Cond.code y_Mo_readersOpen b_Mo_readersOpen 6 (some .int)] { frames := 1, cells := 0, slots := 0, locals := 12 } (gx_P z sz D classes tys ws [Value.ref A46]) (gx_Q D classes tys (va_A ws sz) (fun r ws' => (r = Sum.inl (some (Value.int 0)) ∧ ws' = ws))) 0 0 (va_A ws sz) := by
  refine gx_ofW (cc := b_Mo_readersOpen) (maxL := 6) (ret := (some .int)) (by decide) rfl ?_
  intro p e s m args below meth c s₁ B hml hv
  obtain ⟨rfl, hsz, hz, hP, hK, hD0, hY⟩ := hv
  have hx := B.exec
  have hb := B.bytes
  have hr := B.returns
  have hts := hY.hts (#[Value.ref A46] : Array Value)
  have hown : s.vm.findClass "CommitLedgerModel" = some m.cls := findClass_of_methodNamed B.named
  have hlocks := B.notSynchronized
  have hne : c.exceptionTable.isEmpty = true := B.noHandlers (atoms_spec (ws := [Cond.code y_Mo_readersOpen b_Mo_readersOpen 6 (some .int)]) B.pre _ List.mem_cons_self)
  subst hsz
  have hAz := gx_az hD0 hz
  have hD := hD0.self (sz := s.heap.size)
  have hN := gx_ns hP
  have hA : ∀ q : Nat, s.heap.size ≤ q → va_A ws s.heap.size q := fun q h => Or.inr h
  generalize va_A ws s.heap.size = A at hD hN hA hAz ⊢
  generalize hPQ : (fun (r : Option Value ⊕ String) (ws' : va_W) => (r = Sum.inl (some (Value.int 0)) ∧ ws' = ws)) = PQ
  have hS : va_S A s.heap s.heap [] := va_S.rf
  have hU : gx_g ws ws 0 [] := gx_g.rf
  have hl := lv_entry ([Value.ref A46]) (n := 6) (Nat.le_of_ble_eq_true rfl)
  rw [lg_entry_eq]
  generalize (lg_sl ([Value.ref A46]) ++ List.replicate (6 - (lg_sl ([Value.ref A46])).length) Slot.unset).toArray = ls at hl ⊢
  have hl : lv_has ls 6 [(0, Value.ref A46)] := hl
  refine lv_iconst (v := 0) hx hb d_Mo_readersOpen_0 (by decide) ?_
  refine lv_istore_n (lv' := [(1, Value.int 0), (0, Value.ref A46)]) hx hb d_Mo_readersOpen_1 rfl hl (by decide) rfl (fun ls hl => ?_)
  refine lv_aload_n hx hb d_Mo_readersOpen_2 rfl (lv_at hl 1 rfl) ?_
  refine va_get (D := D) (ci := 8) (v := Value.ref A83) (C := "CommitLedgerModel") (T := F_Mo) (N := 35) hx hb hts i_Mo hown hK hP 46 f_46 rfl 31 (by decide) (hts _ kf_Mo_76) (fun _ h9 => h9) rfl d_Mo_readersOpen_3 ?_
  refine lv_astore_n (lv' := [(2, Value.ref A83), (1, Value.int 0), (0, Value.ref A46)]) hx hb d_Mo_readersOpen_6 rfl hl (by decide) rfl (fun ls hl => ?_)
  refine lv_aload_n hx hb d_Mo_readersOpen_7 rfl (lv_at hl 0 rfl) ?_
  refine va_alen (D := D) (v := 4) hx hb hK hP 83 5 f_83 ht5 rfl d_Mo_readersOpen_8 ?_
  refine lv_istore_n (lv' := [(3, Value.int 4), (2, Value.ref A83), (1, Value.int 0), (0, Value.ref A46)]) hx hb d_Mo_readersOpen_9 rfl hl (by decide) rfl (fun ls hl => ?_)
  refine lv_iconst (v := 0) hx hb d_Mo_readersOpen_10 (by decide) ?_
  refine lv_istore (lv' := [(4, Value.int 0), (3, Value.int 4), (2, Value.ref A83), (1, Value.int 0), (0, Value.ref A46)]) hx hb d_Mo_readersOpen_11 hl (by decide) rfl (fun ls hl => ?_)
  refine lv_iload hx hb d_Mo_readersOpen_13 (lv_at hl 0 rfl) ?_
  refine lv_iload_n hx hb d_Mo_readersOpen_15 rfl (lv_at hl 1 rfl) ?_
  refine lv_icmp_ge (tgt := 42) hx hb d_Mo_readersOpen_16 (by decide) (fun c9 => absurd c9 (by decide)) (fun _ => ?_)
  refine lv_aload_n hx hb d_Mo_readersOpen_19 rfl (lv_at hl 2 rfl) ?_
  refine lv_iload hx hb d_Mo_readersOpen_20 (lv_at hl 0 rfl) ?_
  refine gx_aald (D := D) (b := A84) (j := 0) hx hb hK hP 83 5 f_83 ht5 (gx_inl (by decide)) (by decide) (rfl) d_Mo_readersOpen_22 ?_
  refine lv_astore (lv' := [(5, Value.ref A84), (4, Value.int 0), (3, Value.int 4), (2, Value.ref A83), (1, Value.int 0), (0, Value.ref A46)]) hx hb d_Mo_readersOpen_23 hl (by decide) rfl (fun ls hl => ?_)
  refine lv_aload hx hb d_Mo_readersOpen_25 (lv_at hl 0 rfl) ?_
  refine va_get (D := D) (ci := 9) (v := Value.int 0) (C := "CommitLedgerModel$Version") (T := F_Ve) (N := 11) hx hb hts i_Ve hown hK hP 84 f_84 rfl 10 (by decide) (hts _ kf_Mo_103) (fun _ h9 => h9) rfl d_Mo_readersOpen_27 ?_
  refine lv_if_le (tgt := 36) hx hb d_Mo_readersOpen_30 (by decide) (fun _ => ?_) (fun c9 => absurd (by decide) c9)
  refine lv_iinc (v := 1) (lv' := [(4, Value.int 1), (5, Value.ref A84), (3, Value.int 4), (2, Value.ref A83), (1, Value.int 0), (0, Value.ref A46)]) hx hb d_Mo_readersOpen_36 hl (k := 1) rfl (by decide) (by decide) rfl (fun ls hl => ?_)
  refine lv_goto (tgt := 13) hx hb d_Mo_readersOpen_39 (by decide) ?_
  refine lv_iload hx hb d_Mo_readersOpen_13 (lv_at hl 0 rfl) ?_
  refine lv_iload_n hx hb d_Mo_readersOpen_15 rfl (lv_at hl 2 rfl) ?_
  refine lv_icmp_ge (tgt := 42) hx hb d_Mo_readersOpen_16 (by decide) (fun c9 => absurd c9 (by decide)) (fun _ => ?_)
  refine lv_aload_n hx hb d_Mo_readersOpen_19 rfl (lv_at hl 3 rfl) ?_
  refine lv_iload hx hb d_Mo_readersOpen_20 (lv_at hl 0 rfl) ?_
  refine gx_aald (D := D) (b := A92) (j := 1) hx hb hK hP 83 5 f_83 ht5 (gx_inl (by decide)) (by decide) (rfl) d_Mo_readersOpen_22 ?_
  refine lv_astore (lv' := [(5, Value.ref A92), (4, Value.int 1), (3, Value.int 4), (2, Value.ref A83), (1, Value.int 0), (0, Value.ref A46)]) hx hb d_Mo_readersOpen_23 hl (by decide) rfl (fun ls hl => ?_)
  refine lv_aload hx hb d_Mo_readersOpen_25 (lv_at hl 0 rfl) ?_
  refine va_get (D := D) (ci := 9) (v := Value.int 0) (C := "CommitLedgerModel$Version") (T := F_Ve) (N := 11) hx hb hts i_Ve hown hK hP 92 f_92 rfl 10 (by decide) (hts _ kf_Mo_103) (fun _ h9 => h9) rfl d_Mo_readersOpen_27 ?_
  refine lv_if_le (tgt := 36) hx hb d_Mo_readersOpen_30 (by decide) (fun _ => ?_) (fun c9 => absurd (by decide) c9)
  refine lv_iinc (v := 2) (lv' := [(4, Value.int 2), (5, Value.ref A92), (3, Value.int 4), (2, Value.ref A83), (1, Value.int 0), (0, Value.ref A46)]) hx hb d_Mo_readersOpen_36 hl (k := 1) rfl (by decide) (by decide) rfl (fun ls hl => ?_)
  refine lv_goto (tgt := 13) hx hb d_Mo_readersOpen_39 (by decide) ?_
  refine lv_iload hx hb d_Mo_readersOpen_13 (lv_at hl 0 rfl) ?_
  refine lv_iload_n hx hb d_Mo_readersOpen_15 rfl (lv_at hl 2 rfl) ?_
  refine lv_icmp_ge (tgt := 42) hx hb d_Mo_readersOpen_16 (by decide) (fun c9 => absurd c9 (by decide)) (fun _ => ?_)
  refine lv_aload_n hx hb d_Mo_readersOpen_19 rfl (lv_at hl 3 rfl) ?_
  refine lv_iload hx hb d_Mo_readersOpen_20 (lv_at hl 0 rfl) ?_
  refine gx_aald (D := D) (b := A100) (j := 2) hx hb hK hP 83 5 f_83 ht5 (gx_inl (by decide)) (by decide) (rfl) d_Mo_readersOpen_22 ?_
  refine lv_astore (lv' := [(5, Value.ref A100), (4, Value.int 2), (3, Value.int 4), (2, Value.ref A83), (1, Value.int 0), (0, Value.ref A46)]) hx hb d_Mo_readersOpen_23 hl (by decide) rfl (fun ls hl => ?_)
  refine lv_aload hx hb d_Mo_readersOpen_25 (lv_at hl 0 rfl) ?_
  refine va_get (D := D) (ci := 9) (v := Value.int 0) (C := "CommitLedgerModel$Version") (T := F_Ve) (N := 11) hx hb hts i_Ve hown hK hP 100 f_100 rfl 10 (by decide) (hts _ kf_Mo_103) (fun _ h9 => h9) rfl d_Mo_readersOpen_27 ?_
  refine lv_if_le (tgt := 36) hx hb d_Mo_readersOpen_30 (by decide) (fun _ => ?_) (fun c9 => absurd (by decide) c9)
  refine lv_iinc (v := 3) (lv' := [(4, Value.int 3), (5, Value.ref A100), (3, Value.int 4), (2, Value.ref A83), (1, Value.int 0), (0, Value.ref A46)]) hx hb d_Mo_readersOpen_36 hl (k := 1) rfl (by decide) (by decide) rfl (fun ls hl => ?_)
  refine lv_goto (tgt := 13) hx hb d_Mo_readersOpen_39 (by decide) ?_
  refine lv_iload hx hb d_Mo_readersOpen_13 (lv_at hl 0 rfl) ?_
  refine lv_iload_n hx hb d_Mo_readersOpen_15 rfl (lv_at hl 2 rfl) ?_
  refine lv_icmp_ge (tgt := 42) hx hb d_Mo_readersOpen_16 (by decide) (fun c9 => absurd c9 (by decide)) (fun _ => ?_)
  refine lv_aload_n hx hb d_Mo_readersOpen_19 rfl (lv_at hl 3 rfl) ?_
  refine lv_iload hx hb d_Mo_readersOpen_20 (lv_at hl 0 rfl) ?_
  refine gx_aald (D := D) (b := A108) (j := 3) hx hb hK hP 83 5 f_83 ht5 (gx_inl (by decide)) (by decide) (rfl) d_Mo_readersOpen_22 ?_
  refine lv_astore (lv' := [(5, Value.ref A108), (4, Value.int 3), (3, Value.int 4), (2, Value.ref A83), (1, Value.int 0), (0, Value.ref A46)]) hx hb d_Mo_readersOpen_23 hl (by decide) rfl (fun ls hl => ?_)
  refine lv_aload hx hb d_Mo_readersOpen_25 (lv_at hl 0 rfl) ?_
  refine va_get (D := D) (ci := 9) (v := Value.int 0) (C := "CommitLedgerModel$Version") (T := F_Ve) (N := 11) hx hb hts i_Ve hown hK hP 108 f_108 rfl 10 (by decide) (hts _ kf_Mo_103) (fun _ h9 => h9) rfl d_Mo_readersOpen_27 ?_
  refine lv_if_le (tgt := 36) hx hb d_Mo_readersOpen_30 (by decide) (fun _ => ?_) (fun c9 => absurd (by decide) c9)
  refine lv_iinc (v := 4) (lv' := [(4, Value.int 4), (5, Value.ref A108), (3, Value.int 4), (2, Value.ref A83), (1, Value.int 0), (0, Value.ref A46)]) hx hb d_Mo_readersOpen_36 hl (k := 1) rfl (by decide) (by decide) rfl (fun ls hl => ?_)
  refine lv_goto (tgt := 13) hx hb d_Mo_readersOpen_39 (by decide) ?_
  refine lv_iload hx hb d_Mo_readersOpen_13 (lv_at hl 0 rfl) ?_
  refine lv_iload_n hx hb d_Mo_readersOpen_15 rfl (lv_at hl 2 rfl) ?_
  refine lv_icmp_ge (tgt := 42) hx hb d_Mo_readersOpen_16 (by decide) (fun _ => ?_) (fun c9 => absurd (by decide) c9)
  refine lv_iload_n hx hb d_Mo_readersOpen_42 rfl (lv_at hl 4 rfl) ?_
  exact gx_ret (W.iret (v := 0) hx hb hr (gx_post hP hK hD hS (by rw [← hPQ]; exact ⟨rfl, rfl⟩)) hS.2.2 d_Mo_readersOpen_43)

set_option maxHeartbeats 4000000 in
set_option maxRecDepth 100000 in
theorem c_Mo_counted_v1 (l : Launch) (htr : l.stackTraces = false) (D : va_G) (tys : List (ClassId × FieldType)) (z sz : Nat) (ws : va_W) (cV : ClassId) (A46 : Nat) (p0 : Int32) (A47 : Nat) (A48 : Nat) (A49 : Nat) (A50 : Nat) (A51 : Nat) (A52 : Nat) (A53 : Nat) (A54 : Nat) (A62 : Nat) (A70 : Nat) (A78 : Nat) (A79 : Nat) (u0 : Value) (A80 : Nat) (A81 : Nat) (A82 : Nat) (A83 : Nat) (A84 : Nat) (A85 : Nat) (A86 : Nat) (A87 : Nat) (A88 : Nat) (A89 : Nat) (A90 : Nat) (A91 : Nat) (A92 : Nat) (A93 : Nat) (A94 : Nat) (A95 : Nat) (A96 : Nat) (A97 : Nat) (A98 : Nat) (A99 : Nat) (A100 : Nat) (A101 : Nat) (A102 : Nat) (A103 : Nat) (A104 : Nat) (A105 : Nat) (A106 : Nat) (A107 : Nat) (A108 : Nat) (A109 : Nat) (A110 : Nat) (A111 : Nat) (A112 : Nat) (A113 : Nat) (A114 : Nat) (A115 : Nat) (f_46 : ws[46]? = some ((A46, Sum.inr (8, [Value.int 0, Value.int 0, Value.ref A47, Value.ref A48, Value.ref A49, Value.int 0, Value.ref A50, Value.ref A51, Value.ref A52, Value.ref A53, Value.int 0, Value.int 0, Value.int 0, Value.int (-1), Value.int 0, Value.ref A54, Value.ref A62, Value.ref A70, Value.int 0, Value.int 0, Value.int 0, Value.ref A78, Value.ref A79, Value.int 0, Value.int 16, Value.int 4, u0, Value.ref A80, Value.ref A81, Value.ref A82, Value.int 0, Value.ref A83, Value.int 0, Value.int 0, Value.int 0])) : Nat × va_E)) (f_84 : ws[84]? = some ((A84, Sum.inr (9, [Value.ref A85, Value.ref A86, Value.ref A87, Value.ref A88, Value.ref A89, Value.ref A90, Value.ref A91, Value.int 0, Value.int 0, Value.int 0, Value.int 0])) : Nat × va_E)) (f_92 : ws[92]? = some ((A92, Sum.inr (9, [Value.ref A93, Value.ref A94, Value.ref A95, Value.ref A96, Value.ref A97, Value.ref A98, Value.ref A99, Value.int 0, Value.int 0, Value.int 0, Value.int 0])) : Nat × va_E)) (f_100 : ws[100]? = some ((A100, Sum.inr (9, [Value.ref A101, Value.ref A102, Value.ref A103, Value.ref A104, Value.ref A105, Value.ref A106, Value.ref A107, Value.int 0, Value.int 0, Value.int 0, Value.int 0])) : Nat × va_E)) (f_108 : ws[108]? = some ((A108, Sum.inr (9, [Value.ref A109, Value.ref A110, Value.ref A111, Value.ref A112, Value.ref A113, Value.ref A114, Value.ref A115, Value.int 0, Value.int 0, Value.int 0, Value.int 0])) : Nat × va_E)) (f_83 : ws[83]? = some ((A83, Sum.inl (cV, 4, Sum.inr (Sum.inr (Sum.inr (Sum.inr (va_up (va_up (va_up (va_up (fun _ => none) 0 (some A84)) 1 (some A92)) 2 (some A100)) 3 (some A108))))))) : Nat × va_E)) (ht5 : tys[5]? = some ((cV, FieldType.object "CommitLedgerModel$Version") : ClassId × FieldType)) : gx_Met l y_Mo_counted [Cond.code y_Mo_counted b_Mo_counted 2 (some .int)] { frames := 2, cells := 0, slots := 0, locals := 37 } (gx_P z sz D classes tys ws [Value.ref A46, Value.int p0]) (gx_Q D classes tys (va_A ws sz) (fun r ws' => (r = Sum.inl (some (Value.int 0)) ∧ ws' = ws ∧ p0 = 0) ∨ (r = Sum.inl (some (Value.int 0)) ∧ ws' = ws ∧ ¬ p0 = 0 ∧ p0 = 1) ∨ (r = Sum.inl (some (Value.int 0)) ∧ ws' = ws ∧ ¬ p0 = 0 ∧ ¬ p0 = 1 ∧ p0 = 2) ∨ (r = Sum.inl (some (Value.int 0)) ∧ ws' = ws ∧ ¬ p0 = 0 ∧ ¬ p0 = 1 ∧ ¬ p0 = 2 ∧ p0 = 3) ∨ (r = Sum.inl (some (Value.int 0)) ∧ ws' = ws ∧ ¬ p0 = 0 ∧ ¬ p0 = 1 ∧ ¬ p0 = 2 ∧ ¬ p0 = 3 ∧ p0 = 4) ∨ (r = Sum.inl (some (Value.int 0)) ∧ ws' = ws ∧ ¬ p0 = 0 ∧ ¬ p0 = 1 ∧ ¬ p0 = 2 ∧ ¬ p0 = 3 ∧ ¬ p0 = 4 ∧ p0 = 5) ∨ (r = Sum.inl (some (Value.int 0)) ∧ ws' = ws ∧ ¬ p0 = 0 ∧ ¬ p0 = 1 ∧ ¬ p0 = 2 ∧ ¬ p0 = 3 ∧ ¬ p0 = 4 ∧ ¬ p0 = 5 ∧ p0 = 6) ∨ (r = Sum.inl (some (Value.int 0)) ∧ ws' = ws ∧ ¬ p0 = 0 ∧ ¬ p0 = 1 ∧ ¬ p0 = 2 ∧ ¬ p0 = 3 ∧ ¬ p0 = 4 ∧ ¬ p0 = 5 ∧ ¬ p0 = 6 ∧ p0 = 7) ∨ (r = Sum.inl (some (Value.int 0)) ∧ ws' = ws ∧ ¬ p0 = 0 ∧ ¬ p0 = 1 ∧ ¬ p0 = 2 ∧ ¬ p0 = 3 ∧ ¬ p0 = 4 ∧ ¬ p0 = 5 ∧ ¬ p0 = 6 ∧ ¬ p0 = 7 ∧ p0 = 8) ∨ (r = Sum.inl (some (Value.int 0)) ∧ ws' = ws ∧ ¬ p0 = 0 ∧ ¬ p0 = 1 ∧ ¬ p0 = 2 ∧ ¬ p0 = 3 ∧ ¬ p0 = 4 ∧ ¬ p0 = 5 ∧ ¬ p0 = 6 ∧ ¬ p0 = 7 ∧ ¬ p0 = 8 ∧ p0 = 9) ∨ (r = Sum.inl (some (Value.int 0)) ∧ ws' = ws ∧ ¬ p0 = 0 ∧ ¬ p0 = 1 ∧ ¬ p0 = 2 ∧ ¬ p0 = 3 ∧ ¬ p0 = 4 ∧ ¬ p0 = 5 ∧ ¬ p0 = 6 ∧ ¬ p0 = 7 ∧ ¬ p0 = 8 ∧ ¬ p0 = 9 ∧ p0 = 10) ∨ (r = Sum.inl (some (Value.int 0)) ∧ ws' = ws ∧ ¬ p0 = 0 ∧ ¬ p0 = 1 ∧ ¬ p0 = 2 ∧ ¬ p0 = 3 ∧ ¬ p0 = 4 ∧ ¬ p0 = 5 ∧ ¬ p0 = 6 ∧ ¬ p0 = 7 ∧ ¬ p0 = 8 ∧ ¬ p0 = 9 ∧ ¬ p0 = 10 ∧ p0 = 11) ∨ (r = Sum.inl (some (Value.int (-1))) ∧ ws' = ws ∧ ¬ p0 = 0 ∧ ¬ p0 = 1 ∧ ¬ p0 = 2 ∧ ¬ p0 = 3 ∧ ¬ p0 = 4 ∧ ¬ p0 = 5 ∧ ¬ p0 = 6 ∧ ¬ p0 = 7 ∧ ¬ p0 = 8 ∧ ¬ p0 = 9 ∧ ¬ p0 = 10 ∧ ¬ p0 = 11))) 0 0 (va_A ws sz) := by
  refine gx_ofW (cc := b_Mo_counted) (maxL := 2) (ret := (some .int)) (by decide) rfl ?_
  intro p e s m args below meth c s₁ B hml hv
  obtain ⟨rfl, hsz, hz, hP, hK, hD0, hY⟩ := hv
  have hx := B.exec
  have hb := B.bytes
  have hr := B.returns
  have hts := hY.hts (#[Value.ref A46, Value.int p0] : Array Value)
  have hown : s.vm.findClass "CommitLedgerModel" = some m.cls := findClass_of_methodNamed B.named
  have hlocks := B.notSynchronized
  have hne : c.exceptionTable.isEmpty = true := B.noHandlers (atoms_spec (ws := [Cond.code y_Mo_counted b_Mo_counted 2 (some .int)]) B.pre _ List.mem_cons_self)
  subst hsz
  have hAz := gx_az hD0 hz
  have hD := hD0.self (sz := s.heap.size)
  have hN := gx_ns hP
  have hA : ∀ q : Nat, s.heap.size ≤ q → va_A ws s.heap.size q := fun q h => Or.inr h
  generalize va_A ws s.heap.size = A at hD hN hA hAz ⊢
  generalize hPQ : (fun (r : Option Value ⊕ String) (ws' : va_W) => (r = Sum.inl (some (Value.int 0)) ∧ ws' = ws ∧ p0 = 0) ∨ (r = Sum.inl (some (Value.int 0)) ∧ ws' = ws ∧ ¬ p0 = 0 ∧ p0 = 1) ∨ (r = Sum.inl (some (Value.int 0)) ∧ ws' = ws ∧ ¬ p0 = 0 ∧ ¬ p0 = 1 ∧ p0 = 2) ∨ (r = Sum.inl (some (Value.int 0)) ∧ ws' = ws ∧ ¬ p0 = 0 ∧ ¬ p0 = 1 ∧ ¬ p0 = 2 ∧ p0 = 3) ∨ (r = Sum.inl (some (Value.int 0)) ∧ ws' = ws ∧ ¬ p0 = 0 ∧ ¬ p0 = 1 ∧ ¬ p0 = 2 ∧ ¬ p0 = 3 ∧ p0 = 4) ∨ (r = Sum.inl (some (Value.int 0)) ∧ ws' = ws ∧ ¬ p0 = 0 ∧ ¬ p0 = 1 ∧ ¬ p0 = 2 ∧ ¬ p0 = 3 ∧ ¬ p0 = 4 ∧ p0 = 5) ∨ (r = Sum.inl (some (Value.int 0)) ∧ ws' = ws ∧ ¬ p0 = 0 ∧ ¬ p0 = 1 ∧ ¬ p0 = 2 ∧ ¬ p0 = 3 ∧ ¬ p0 = 4 ∧ ¬ p0 = 5 ∧ p0 = 6) ∨ (r = Sum.inl (some (Value.int 0)) ∧ ws' = ws ∧ ¬ p0 = 0 ∧ ¬ p0 = 1 ∧ ¬ p0 = 2 ∧ ¬ p0 = 3 ∧ ¬ p0 = 4 ∧ ¬ p0 = 5 ∧ ¬ p0 = 6 ∧ p0 = 7) ∨ (r = Sum.inl (some (Value.int 0)) ∧ ws' = ws ∧ ¬ p0 = 0 ∧ ¬ p0 = 1 ∧ ¬ p0 = 2 ∧ ¬ p0 = 3 ∧ ¬ p0 = 4 ∧ ¬ p0 = 5 ∧ ¬ p0 = 6 ∧ ¬ p0 = 7 ∧ p0 = 8) ∨ (r = Sum.inl (some (Value.int 0)) ∧ ws' = ws ∧ ¬ p0 = 0 ∧ ¬ p0 = 1 ∧ ¬ p0 = 2 ∧ ¬ p0 = 3 ∧ ¬ p0 = 4 ∧ ¬ p0 = 5 ∧ ¬ p0 = 6 ∧ ¬ p0 = 7 ∧ ¬ p0 = 8 ∧ p0 = 9) ∨ (r = Sum.inl (some (Value.int 0)) ∧ ws' = ws ∧ ¬ p0 = 0 ∧ ¬ p0 = 1 ∧ ¬ p0 = 2 ∧ ¬ p0 = 3 ∧ ¬ p0 = 4 ∧ ¬ p0 = 5 ∧ ¬ p0 = 6 ∧ ¬ p0 = 7 ∧ ¬ p0 = 8 ∧ ¬ p0 = 9 ∧ p0 = 10) ∨ (r = Sum.inl (some (Value.int 0)) ∧ ws' = ws ∧ ¬ p0 = 0 ∧ ¬ p0 = 1 ∧ ¬ p0 = 2 ∧ ¬ p0 = 3 ∧ ¬ p0 = 4 ∧ ¬ p0 = 5 ∧ ¬ p0 = 6 ∧ ¬ p0 = 7 ∧ ¬ p0 = 8 ∧ ¬ p0 = 9 ∧ ¬ p0 = 10 ∧ p0 = 11) ∨ (r = Sum.inl (some (Value.int (-1))) ∧ ws' = ws ∧ ¬ p0 = 0 ∧ ¬ p0 = 1 ∧ ¬ p0 = 2 ∧ ¬ p0 = 3 ∧ ¬ p0 = 4 ∧ ¬ p0 = 5 ∧ ¬ p0 = 6 ∧ ¬ p0 = 7 ∧ ¬ p0 = 8 ∧ ¬ p0 = 9 ∧ ¬ p0 = 10 ∧ ¬ p0 = 11)) = PQ
  have hS : va_S A s.heap s.heap [] := va_S.rf
  have hU : gx_g ws ws 0 [] := gx_g.rf
  have hl := lv_entry ([Value.ref A46, Value.int p0]) (n := 2) (Nat.le_of_ble_eq_true rfl)
  rw [lg_entry_eq]
  generalize (lg_sl ([Value.ref A46, Value.int p0]) ++ List.replicate (2 - (lg_sl ([Value.ref A46, Value.int p0])).length) Slot.unset).toArray = ls at hl ⊢
  have hl : lv_has ls 2 [(0, Value.ref A46), (1, Value.int p0)] := hl
  refine lv_iload_n hx hb d_Mo_counted_0 rfl (lv_at hl 1 rfl) ?_
  by_cases s1_0 : p0 = 0
  · refine gx_topi s1_0 ?_
    refine lv_tableIn (off := 63) (tgt := 64) hx hb d_Mo_counted_1 (by decide) (by decide) rfl (by decide) ?_
    refine lv_aload_n hx hb d_Mo_counted_64 rfl (lv_at hl 0 rfl) ?_
    refine va_get (D := D) (ci := 8) (v := Value.int 0) (C := "CommitLedgerModel") (T := F_Mo) (N := 35) hx hb hts i_Mo hown hK hP 46 f_46 rfl 12 (by decide) (hts _ kf_Mo_90) (fun _ h9 => h9) rfl d_Mo_counted_65 ?_
    exact gx_ret (W.iret (v := 0) hx hb hr (gx_post hP hK hD hS (by rw [← hPQ]; exact Or.inl ⟨rfl, rfl, s1_0⟩)) hS.2.2 d_Mo_counted_68)
  by_cases s1_1 : p0 = 1
  · refine gx_topi s1_1 ?_
    refine lv_tableIn (off := 68) (tgt := 69) hx hb d_Mo_counted_1 (by decide) (by decide) rfl (by decide) ?_
    refine lv_aload_n hx hb d_Mo_counted_69 rfl (lv_at hl 0 rfl) ?_
    refine va_get (D := D) (ci := 8) (v := Value.int 0) (C := "CommitLedgerModel") (T := F_Mo) (N := 35) hx hb hts i_Mo hown hK hP 46 f_46 rfl 10 (by decide) (hts _ kf_Mo_93) (fun _ h9 => h9) rfl d_Mo_counted_70 ?_
    exact gx_ret (W.iret (v := 0) hx hb hr (gx_post hP hK hD hS (by rw [← hPQ]; exact Or.inr (Or.inl ⟨rfl, rfl, s1_0, s1_1⟩))) hS.2.2 d_Mo_counted_73)
  by_cases s1_2 : p0 = 2
  · refine gx_topi s1_2 ?_
    refine lv_tableIn (off := 73) (tgt := 74) hx hb d_Mo_counted_1 (by decide) (by decide) rfl (by decide) ?_
    refine lv_aload_n hx hb d_Mo_counted_74 rfl (lv_at hl 0 rfl) ?_
    refine gx_call (ig := .invokevirtual 266) (c_Mo_readersOpen_v1 l htr D tys z _ ws cV A46 A47 A48 A49 A50 A51 A52 A53 A54 A62 A70 A78 A79 (u0) A80 A81 A82 A83 A84 A85 A86 A87 A88 A89 A90 A91 A92 A93 A94 A95 A96 A97 A98 A99 A100 A101 A102 A103 A104 A105 A106 A107 A108 A109 A110 A111 A112 A113 A114 A115 f_46 f_84 f_92 f_100 f_108 f_83 ht5) (gx_invV (As := []) (rest := []) hx hb hown hts km_Mo_266 kI_Mo_readersOpen kV_Mo_readersOpen kc_Mo_readersOpen (by decide) (show (parseMethodDescriptor y_Mo_readersOpen.desc).map (fun d => d.parameters.length) = some 0 by decide +kernel) (gx_recv (ci := 8) hK hP rfl f_46) rfl rfl d_Mo_counted_75) (gx_cw (z := 0) hts kc_Mo_readersOpen kN_Mo rfl rfl ⟨Nat.le_of_ble_eq_true rfl, Nat.le_of_ble_eq_true rfl⟩) hb hml gx_blind (gx_pre hz hP hK hD hY hS hAz [Value.ref A46]) rfl hl.1 (lv_room (Nat.le_of_ble_eq_true rfl)) d_Mo_counted_75 ⟨Nat.le_of_ble_eq_true rfl, Nat.le_of_ble_eq_true rfl⟩ (fun v2 st2 t2 L2 h0_2 hW_2 hQ_2 hL_2 => ?_) (fun v2 st2 t2 L2 h0_2 hW_2 hQ_2 hL_2 => ?_)
    · obtain ⟨ws3, hp, hP9, -, hD9, hS9⟩ := gx_back h0_2 hW_2 hQ_2 hL_2 hD hS hA
      clear hQ_2 h0_2 hL_2 hW_2 hP hD hS
      have hP := hP9
      have hD := hD9
      have hS := hS9
      clear hP9 hD9 hS9
      rcases hp with ⟨hv9, e_ws3⟩
      cases hv9
      rw [e_ws3] at hP hD
      refine W.eq (g2 := F0 m 78 ls [Value.int 0]) rfl ?_
      generalize t2.heap = H at hP hS ⊢
      generalize [] ++ L2 = locs at hS ⊢
      exact gx_ret (W.iret (v := 0) hx hb hr (gx_post hP hK hD hS (by rw [← hPQ]; exact Or.inr (Or.inr (Or.inl ⟨rfl, rfl, s1_0, s1_1, s1_2⟩)))) hS.2.2 d_Mo_counted_78)
    · obtain ⟨E9, ws4, ce, hp, hce, hP9, -, hD9, hS9⟩ := gx_backT h0_2 hW_2 hQ_2 hL_2 hD hS hA
      clear hQ_2 h0_2 hL_2 hW_2 hP hD hS
      have hP := hP9
      have hD := hD9
      have hS := hS9
      clear hP9 hD9 hS9
      rcases hp with ⟨hv9, e_ws4⟩
      cases hv9
  by_cases s1_3 : p0 = 3
  · refine gx_topi s1_3 ?_
    refine lv_tableIn (off := 78) (tgt := 79) hx hb d_Mo_counted_1 (by decide) (by decide) rfl (by decide) ?_
    refine lv_aload_n hx hb d_Mo_counted_79 rfl (lv_at hl 0 rfl) ?_
    refine va_get (D := D) (ci := 8) (v := Value.int 0) (C := "CommitLedgerModel") (T := F_Mo) (N := 35) hx hb hts i_Mo hown hK hP 46 f_46 rfl 20 (by decide) (hts _ kf_Mo_135) (fun _ h9 => h9) rfl d_Mo_counted_80 ?_
    exact gx_ret (W.iret (v := 0) hx hb hr (gx_post hP hK hD hS (by rw [← hPQ]; exact Or.inr (Or.inr (Or.inr (Or.inl ⟨rfl, rfl, s1_0, s1_1, s1_2, s1_3⟩))))) hS.2.2 d_Mo_counted_83)
  by_cases s1_4 : p0 = 4
  · refine gx_topi s1_4 ?_
    refine lv_tableIn (off := 83) (tgt := 84) hx hb d_Mo_counted_1 (by decide) (by decide) rfl (by decide) ?_
    refine lv_aload_n hx hb d_Mo_counted_84 rfl (lv_at hl 0 rfl) ?_
    refine va_get (D := D) (ci := 8) (v := Value.int 0) (C := "CommitLedgerModel") (T := F_Mo) (N := 35) hx hb hts i_Mo hown hK hP 46 f_46 rfl 18 (by decide) (hts _ kf_Mo_99) (fun _ h9 => h9) rfl d_Mo_counted_85 ?_
    refine lv_if_eq (tgt := 95) hx hb d_Mo_counted_88 (by decide) (fun _ => ?_) (fun c9 => absurd (by decide) c9)
    refine lv_iconst (v := 0) hx hb d_Mo_counted_95 (by decide) ?_
    exact gx_ret (W.iret (v := 0) hx hb hr (gx_post hP hK hD hS (by rw [← hPQ]; exact Or.inr (Or.inr (Or.inr (Or.inr (Or.inl ⟨rfl, rfl, s1_0, s1_1, s1_2, s1_3, s1_4⟩)))))) hS.2.2 d_Mo_counted_96)
  by_cases s1_5 : p0 = 5
  · refine gx_topi s1_5 ?_
    refine lv_tableIn (off := 96) (tgt := 97) hx hb d_Mo_counted_1 (by decide) (by decide) rfl (by decide) ?_
    refine lv_aload_n hx hb d_Mo_counted_97 rfl (lv_at hl 0 rfl) ?_
    refine va_get (D := D) (ci := 8) (v := Value.int 0) (C := "CommitLedgerModel") (T := F_Mo) (N := 35) hx hb hts i_Mo hown hK hP 46 f_46 rfl 18 (by decide) (hts _ kf_Mo_99) (fun _ h9 => h9) rfl d_Mo_counted_98 ?_
    refine lv_if_eq (tgt := 111) hx hb d_Mo_counted_101 (by decide) (fun _ => ?_) (fun c9 => absurd (by decide) c9)
    refine lv_iconst (v := 0) hx hb d_Mo_counted_111 (by decide) ?_
    exact gx_ret (W.iret (v := 0) hx hb hr (gx_post hP hK hD hS (by rw [← hPQ]; exact Or.inr (Or.inr (Or.inr (Or.inr (Or.inr (Or.inl ⟨rfl, rfl, s1_0, s1_1, s1_2, s1_3, s1_4, s1_5⟩))))))) hS.2.2 d_Mo_counted_112)
  by_cases s1_6 : p0 = 6
  · refine gx_topi s1_6 ?_
    refine lv_tableIn (off := 112) (tgt := 113) hx hb d_Mo_counted_1 (by decide) (by decide) rfl (by decide) ?_
    refine lv_aload_n hx hb d_Mo_counted_113 rfl (lv_at hl 0 rfl) ?_
    refine va_get (D := D) (ci := 8) (v := Value.int 0) (C := "CommitLedgerModel") (T := F_Mo) (N := 35) hx hb hts i_Mo hown hK hP 46 f_46 rfl 18 (by decide) (hts _ kf_Mo_99) (fun _ h9 => h9) rfl d_Mo_counted_114 ?_
    refine lv_if_eq (tgt := 130) hx hb d_Mo_counted_117 (by decide) (fun _ => ?_) (fun c9 => absurd (by decide) c9)
    refine lv_iconst (v := 0) hx hb d_Mo_counted_130 (by decide) ?_
    exact gx_ret (W.iret (v := 0) hx hb hr (gx_post hP hK hD hS (by rw [← hPQ]; exact Or.inr (Or.inr (Or.inr (Or.inr (Or.inr (Or.inr (Or.inl ⟨rfl, rfl, s1_0, s1_1, s1_2, s1_3, s1_4, s1_5, s1_6⟩)))))))) hS.2.2 d_Mo_counted_131)
  by_cases s1_7 : p0 = 7
  · refine gx_topi s1_7 ?_
    refine lv_tableIn (off := 131) (tgt := 132) hx hb d_Mo_counted_1 (by decide) (by decide) rfl (by decide) ?_
    refine lv_aload_n hx hb d_Mo_counted_132 rfl (lv_at hl 0 rfl) ?_
    refine va_get (D := D) (ci := 8) (v := Value.int 0) (C := "CommitLedgerModel") (T := F_Mo) (N := 35) hx hb hts i_Mo hown hK hP 46 f_46 rfl 18 (by decide) (hts _ kf_Mo_99) (fun _ h9 => h9) rfl d_Mo_counted_133 ?_
    refine lv_if_eq (tgt := 154) hx hb d_Mo_counted_136 (by decide) (fun _ => ?_) (fun c9 => absurd (by decide) c9)
    refine lv_iconst (v := 0) hx hb d_Mo_counted_154 (by decide) ?_
    exact gx_ret (W.iret (v := 0) hx hb hr (gx_post hP hK hD hS (by rw [← hPQ]; exact Or.inr (Or.inr (Or.inr (Or.inr (Or.inr (Or.inr (Or.inr (Or.inl ⟨rfl, rfl, s1_0, s1_1, s1_2, s1_3, s1_4, s1_5, s1_6, s1_7⟩))))))))) hS.2.2 d_Mo_counted_155)
  by_cases s1_8 : p0 = 8
  · refine gx_topi s1_8 ?_
    refine lv_tableIn (off := 155) (tgt := 156) hx hb d_Mo_counted_1 (by decide) (by decide) rfl (by decide) ?_
    refine lv_aload_n hx hb d_Mo_counted_156 rfl (lv_at hl 0 rfl) ?_
    refine va_get (D := D) (ci := 8) (v := Value.int 0) (C := "CommitLedgerModel") (T := F_Mo) (N := 35) hx hb hts i_Mo hown hK hP 46 f_46 rfl 18 (by decide) (hts _ kf_Mo_99) (fun _ h9 => h9) rfl d_Mo_counted_157 ?_
    refine lv_if_eq (tgt := 191) hx hb d_Mo_counted_160 (by decide) (fun _ => ?_) (fun c9 => absurd (by decide) c9)
    refine lv_iconst (v := 0) hx hb d_Mo_counted_191 (by decide) ?_
    exact gx_ret (W.iret (v := 0) hx hb hr (gx_post hP hK hD hS (by rw [← hPQ]; exact Or.inr (Or.inr (Or.inr (Or.inr (Or.inr (Or.inr (Or.inr (Or.inr (Or.inl ⟨rfl, rfl, s1_0, s1_1, s1_2, s1_3, s1_4, s1_5, s1_6, s1_7, s1_8⟩)))))))))) hS.2.2 d_Mo_counted_192)
  by_cases s1_9 : p0 = 9
  · refine gx_topi s1_9 ?_
    refine lv_tableIn (off := 192) (tgt := 193) hx hb d_Mo_counted_1 (by decide) (by decide) rfl (by decide) ?_
    refine lv_aload_n hx hb d_Mo_counted_193 rfl (lv_at hl 0 rfl) ?_
    refine va_get (D := D) (ci := 8) (v := Value.int 0) (C := "CommitLedgerModel") (T := F_Mo) (N := 35) hx hb hts i_Mo hown hK hP 46 f_46 rfl 18 (by decide) (hts _ kf_Mo_99) (fun _ h9 => h9) rfl d_Mo_counted_194 ?_
    refine lv_if_eq (tgt := 207) hx hb d_Mo_counted_197 (by decide) (fun _ => ?_) (fun c9 => absurd (by decide) c9)
    refine lv_iconst (v := 0) hx hb d_Mo_counted_207 (by decide) ?_
    exact gx_ret (W.iret (v := 0) hx hb hr (gx_post hP hK hD hS (by rw [← hPQ]; exact Or.inr (Or.inr (Or.inr (Or.inr (Or.inr (Or.inr (Or.inr (Or.inr (Or.inr (Or.inl ⟨rfl, rfl, s1_0, s1_1, s1_2, s1_3, s1_4, s1_5, s1_6, s1_7, s1_8, s1_9⟩))))))))))) hS.2.2 d_Mo_counted_208)
  by_cases s1_10 : p0 = 10
  · refine gx_topi s1_10 ?_
    refine lv_tableIn (off := 208) (tgt := 209) hx hb d_Mo_counted_1 (by decide) (by decide) rfl (by decide) ?_
    refine lv_aload_n hx hb d_Mo_counted_209 rfl (lv_at hl 0 rfl) ?_
    refine va_get (D := D) (ci := 8) (v := Value.int 0) (C := "CommitLedgerModel") (T := F_Mo) (N := 35) hx hb hts i_Mo hown hK hP 46 f_46 rfl 18 (by decide) (hts _ kf_Mo_99) (fun _ h9 => h9) rfl d_Mo_counted_210 ?_
    refine lv_if_eq (tgt := 226) hx hb d_Mo_counted_213 (by decide) (fun _ => ?_) (fun c9 => absurd (by decide) c9)
    refine lv_iconst (v := 0) hx hb d_Mo_counted_226 (by decide) ?_
    exact gx_ret (W.iret (v := 0) hx hb hr (gx_post hP hK hD hS (by rw [← hPQ]; exact Or.inr (Or.inr (Or.inr (Or.inr (Or.inr (Or.inr (Or.inr (Or.inr (Or.inr (Or.inr (Or.inl ⟨rfl, rfl, s1_0, s1_1, s1_2, s1_3, s1_4, s1_5, s1_6, s1_7, s1_8, s1_9, s1_10⟩)))))))))))) hS.2.2 d_Mo_counted_227)
  by_cases s1_11 : p0 = 11
  · refine gx_topi s1_11 ?_
    refine lv_tableIn (off := 227) (tgt := 228) hx hb d_Mo_counted_1 (by decide) (by decide) rfl (by decide) ?_
    refine lv_aload_n hx hb d_Mo_counted_228 rfl (lv_at hl 0 rfl) ?_
    refine va_get (D := D) (ci := 8) (v := Value.int 0) (C := "CommitLedgerModel") (T := F_Mo) (N := 35) hx hb hts i_Mo hown hK hP 46 f_46 rfl 18 (by decide) (hts _ kf_Mo_99) (fun _ h9 => h9) rfl d_Mo_counted_229 ?_
    refine lv_if_eq (tgt := 246) hx hb d_Mo_counted_232 (by decide) (fun _ => ?_) (fun c9 => absurd (by decide) c9)
    refine lv_iconst (v := 0) hx hb d_Mo_counted_246 (by decide) ?_
    exact gx_ret (W.iret (v := 0) hx hb hr (gx_post hP hK hD hS (by rw [← hPQ]; exact Or.inr (Or.inr (Or.inr (Or.inr (Or.inr (Or.inr (Or.inr (Or.inr (Or.inr (Or.inr (Or.inr (Or.inl ⟨rfl, rfl, s1_0, s1_1, s1_2, s1_3, s1_4, s1_5, s1_6, s1_7, s1_8, s1_9, s1_10, s1_11⟩))))))))))))) hS.2.2 d_Mo_counted_247)
  refine lv_tableOut (tgt := 248) hx hb d_Mo_counted_1 (by have e0 := lv_neT s1_0 (a := 0) (by decide); have e1 := lv_neT s1_1 (a := 1) (by decide); have e2 := lv_neT s1_2 (a := 2) (by decide); have e3 := lv_neT s1_3 (a := 3) (by decide); have e4 := lv_neT s1_4 (a := 4) (by decide); have e5 := lv_neT s1_5 (a := 5) (by decide); have e6 := lv_neT s1_6 (a := 6) (by decide); have e7 := lv_neT s1_7 (a := 7) (by decide); have e8 := lv_neT s1_8 (a := 8) (by decide); have e9 := lv_neT s1_9 (a := 9) (by decide); have e10 := lv_neT s1_10 (a := 10) (by decide); have e11 := lv_neT s1_11 (a := 11) (by decide); omega) (by decide) ?_
  refine lv_iconst (v := (-1)) hx hb d_Mo_counted_248 (by decide) ?_
  exact gx_ret (W.iret (v := (-1)) hx hb hr (gx_post hP hK hD hS (by rw [← hPQ]; exact Or.inr (Or.inr (Or.inr (Or.inr (Or.inr (Or.inr (Or.inr (Or.inr (Or.inr (Or.inr (Or.inr (Or.inr (⟨rfl, rfl, s1_0, s1_1, s1_2, s1_3, s1_4, s1_5, s1_6, s1_7, s1_8, s1_9, s1_10, s1_11⟩)))))))))))))) hS.2.2 d_Mo_counted_249)

set_option maxHeartbeats 4000000 in
set_option maxRecDepth 100000 in
theorem c_Mo_done_v23 (l : Launch) (htr : l.stackTraces = false) (D : va_G) (tys : List (ClassId × FieldType)) (z sz : Nat) (ws : va_W) (A46 : Nat) (A47 : Nat) (A48 : Nat) (A49 : Nat) (A50 : Nat) (A51 : Nat) (A52 : Nat) (A53 : Nat) (A54 : Nat) (A62 : Nat) (A70 : Nat) (A78 : Nat) (A79 : Nat) (u0 : Value) (A80 : Nat) (A81 : Nat) (A82 : Nat) (A83 : Nat) (f_46 : ws[46]? = some ((A46, Sum.inr (8, [Value.int 0, Value.int 0, Value.ref A47, Value.ref A48, Value.ref A49, Value.int 0, Value.ref A50, Value.ref A51, Value.ref A52, Value.ref A53, Value.int 0, Value.int 0, Value.int 0, Value.int (-1), Value.int 0, Value.ref A54, Value.ref A62, Value.ref A70, Value.int 0, Value.int 0, Value.int 0, Value.ref A78, Value.ref A79, Value.int 0, Value.int 16, Value.int 4, u0, Value.ref A80, Value.ref A81, Value.ref A82, Value.int 0, Value.ref A83, Value.int 0, Value.int 0, Value.int 0])) : Nat × va_E)) : gx_Met l y_Mo_done [Cond.code y_Mo_done b_Mo_done 6 (some .int)] { frames := 1, cells := 0, slots := 0, locals := 12 } (gx_P z sz D classes tys ws [Value.ref A46, Value.int 0, Value.int 0]) (gx_Q D classes tys (va_A ws sz) (fun r ws' => (r = Sum.inl (some (Value.int 0)) ∧ gx_g ws ws' 0 [46] ∧ ws'[46]? = some ((A46, Sum.inr (8, [Value.int 0, Value.int 0, Value.ref A47, Value.ref A48, Value.ref A49, Value.int 0, Value.ref A50, Value.ref A51, Value.ref A52, Value.ref A53, Value.int 0, Value.int 0, Value.int 0, Value.int (-1), Value.int 0, Value.ref A54, Value.ref A62, Value.ref A70, Value.int 0, Value.int 0, Value.int 0, Value.ref A78, Value.ref A79, Value.int 0, Value.int 16, Value.int 4, u0, Value.ref A80, Value.ref A81, Value.ref A82, Value.int 0, Value.ref A83, Value.int 0, Value.int 0, Value.int 0])) : Nat × va_E)))) 0 0 (va_A ws sz) := by
  refine gx_ofW (cc := b_Mo_done) (maxL := 6) (ret := (some .int)) (by decide) rfl ?_
  intro p e s m args below meth c s₁ B hml hv
  obtain ⟨rfl, hsz, hz, hP, hK, hD0, hY⟩ := hv
  have hx := B.exec
  have hb := B.bytes
  have hr := B.returns
  have hts := hY.hts (#[Value.ref A46, Value.int 0, Value.int 0] : Array Value)
  have hown : s.vm.findClass "CommitLedgerModel" = some m.cls := findClass_of_methodNamed B.named
  have hlocks := B.notSynchronized
  have hne : c.exceptionTable.isEmpty = true := B.noHandlers (atoms_spec (ws := [Cond.code y_Mo_done b_Mo_done 6 (some .int)]) B.pre _ List.mem_cons_self)
  subst hsz
  have hAz := gx_az hD0 hz
  have hD := hD0.self (sz := s.heap.size)
  have hN := gx_ns hP
  have hA : ∀ q : Nat, s.heap.size ≤ q → va_A ws s.heap.size q := fun q h => Or.inr h
  generalize va_A ws s.heap.size = A at hD hN hA hAz ⊢
  generalize hPQ : (fun (r : Option Value ⊕ String) (ws' : va_W) => (r = Sum.inl (some (Value.int 0)) ∧ gx_g ws ws' 0 [46] ∧ ws'[46]? = some ((A46, Sum.inr (8, [Value.int 0, Value.int 0, Value.ref A47, Value.ref A48, Value.ref A49, Value.int 0, Value.ref A50, Value.ref A51, Value.ref A52, Value.ref A53, Value.int 0, Value.int 0, Value.int 0, Value.int (-1), Value.int 0, Value.ref A54, Value.ref A62, Value.ref A70, Value.int 0, Value.int 0, Value.int 0, Value.ref A78, Value.ref A79, Value.int 0, Value.int 16, Value.int 4, u0, Value.ref A80, Value.ref A81, Value.ref A82, Value.int 0, Value.ref A83, Value.int 0, Value.int 0, Value.int 0])) : Nat × va_E))) = PQ
  have hS : va_S A s.heap s.heap [] := va_S.rf
  have hU : gx_g ws ws 0 [46] := gx_g.rf
  have hl := lv_entry ([Value.ref A46, Value.int 0, Value.int 0]) (n := 6) (Nat.le_of_ble_eq_true rfl)
  rw [lg_entry_eq]
  generalize (lg_sl ([Value.ref A46, Value.int 0, Value.int 0]) ++ List.replicate (6 - (lg_sl ([Value.ref A46, Value.int 0, Value.int 0])).length) Slot.unset).toArray = ls at hl ⊢
  have hl : lv_has ls 6 [(0, Value.ref A46), (1, Value.int 0), (2, Value.int 0)] := hl
  refine lv_aload_n hx hb d_Mo_done_0 rfl (lv_at hl 0 rfl) ?_
  refine lv_iconst (v := 0) hx hb d_Mo_done_1 (by decide) ?_
  refine va_put (D := D) (ci := 8) (v := Value.int 0) (ty := .int) (C := "CommitLedgerModel") (T := F_Mo) (N := 35) hx hb hts i_Mo t_Mo t_Mo_ok n_Mo hown hK hP hD hS 46 f_46 rfl 1 (by decide) (hts _ kf_Mo_80) (fun _ h9 => h9) rfl (by decide +kernel) rfl rfl (Nat.le_of_ble_eq_true rfl) d_Mo_done_2 (fun H locs hP9 hD9 hS9 => ?_)
  obtain ⟨ws1, e_ws1⟩ : ∃ x : va_W, x = ws.set 46 ((A46, Sum.inr (8, [Value.int 0, Value.int 0, Value.ref A47, Value.ref A48, Value.ref A49, Value.int 0, Value.ref A50, Value.ref A51, Value.ref A52, Value.ref A53, Value.int 0, Value.int 0, Value.int 0, Value.int (-1), Value.int 0, Value.ref A54, Value.ref A62, Value.ref A70, Value.int 0, Value.int 0, Value.int 0, Value.ref A78, Value.ref A79, Value.int 0, Value.int 16, Value.int 4, u0, Value.ref A80, Value.ref A81, Value.ref A82, Value.int 0, Value.ref A83, Value.int 0, Value.int 0, Value.int 0])) : Nat × va_E) := ⟨_, rfl⟩
  replace hP : va_P D classes ws1 H := by rw [e_ws1]; exact hP9
  replace hD : va_D A ws1 := by rw [e_ws1]; exact hD9
  replace hS := hS9
  clear hP9 hD9 hS9
  have f_46_ws1 : ws1[46]? = some ((A46, Sum.inr (8, [Value.int 0, Value.int 0, Value.ref A47, Value.ref A48, Value.ref A49, Value.int 0, Value.ref A50, Value.ref A51, Value.ref A52, Value.ref A53, Value.int 0, Value.int 0, Value.int 0, Value.int (-1), Value.int 0, Value.ref A54, Value.ref A62, Value.ref A70, Value.int 0, Value.int 0, Value.int 0, Value.ref A78, Value.ref A79, Value.int 0, Value.int 16, Value.int 4, u0, Value.ref A80, Value.ref A81, Value.ref A82, Value.int 0, Value.ref A83, Value.int 0, Value.int 0, Value.int 0])) : Nat × va_E) := by rw [e_ws1]; exact gs_self f_46
  replace hU : gx_g ws ws1 0 [46] := by rw [e_ws1]; exact hU.put (Or.inl (by simp))
  refine lv_iconst (v := 0) hx hb d_Mo_done_5 (by decide) ?_
  refine lv_istore_n (lv' := [(3, Value.int 0), (0, Value.ref A46), (1, Value.int 0), (2, Value.int 0)]) hx hb d_Mo_done_6 rfl hl (by decide) rfl (fun ls hl => ?_)
  refine lv_ldc (v := 100000) hx hb hown (hts _ ki_Mo_83) d_Mo_done_7 ?_
  refine lv_istore (lv' := [(4, Value.int 100000), (3, Value.int 0), (0, Value.ref A46), (1, Value.int 0), (2, Value.int 0)]) hx hb d_Mo_done_9 hl (by decide) rfl (fun ls hl => ?_)
  refine lv_iload hx hb d_Mo_done_11 (lv_at hl 0 rfl) ?_
  refine lv_if_le (tgt := 60) hx hb d_Mo_done_13 (by decide) (fun c9 => absurd c9 (by decide)) (fun _ => ?_)
  refine lv_iload_n hx hb d_Mo_done_16 rfl (lv_at hl 4 rfl) ?_
  refine lv_iload hx hb d_Mo_done_17 (lv_at hl 0 rfl) ?_
  refine lv_idiv hx hb d_Mo_done_19 (by decide) ?_
  refine gx_topi (y := 0) (by decide) ?_
  refine lv_bipush (v := 10) hx hb d_Mo_done_20 (by decide) ?_
  refine lv_irem hx hb d_Mo_done_22 (by decide) ?_
  refine gx_topi (y := 0) (by decide) ?_
  refine lv_istore (lv' := [(5, Value.int 0), (4, Value.int 100000), (3, Value.int 0), (0, Value.ref A46), (1, Value.int 0), (2, Value.int 0)]) hx hb d_Mo_done_23 hl (by decide) rfl (fun ls hl => ?_)
  refine lv_iload hx hb d_Mo_done_25 (lv_at hl 0 rfl) ?_
  refine lv_if_ne (tgt := 33) hx hb d_Mo_done_27 (by decide) (fun c9 => absurd (by decide) c9) (fun _ => ?_)
  refine lv_goto (tgt := 50) hx hb d_Mo_done_30 (by decide) ?_
  refine lv_iload hx hb d_Mo_done_50 (lv_at hl 1 rfl) ?_
  refine lv_bipush (v := 10) hx hb d_Mo_done_52 (by decide) ?_
  refine lv_idiv hx hb d_Mo_done_54 (by decide) ?_
  refine gx_topi (y := 10000) (by decide) ?_
  refine lv_istore (lv' := [(4, Value.int 10000), (5, Value.int 0), (3, Value.int 0), (0, Value.ref A46), (1, Value.int 0), (2, Value.int 0)]) hx hb d_Mo_done_55 hl (by decide) rfl (fun ls hl => ?_)
  refine lv_goto (tgt := 11) hx hb d_Mo_done_57 (by decide) ?_
  refine lv_iload hx hb d_Mo_done_11 (lv_at hl 0 rfl) ?_
  refine lv_if_le (tgt := 60) hx hb d_Mo_done_13 (by decide) (fun c9 => absurd c9 (by decide)) (fun _ => ?_)
  refine lv_iload_n hx hb d_Mo_done_16 rfl (lv_at hl 5 rfl) ?_
  refine lv_iload hx hb d_Mo_done_17 (lv_at hl 0 rfl) ?_
  refine lv_idiv hx hb d_Mo_done_19 (by decide) ?_
  refine gx_topi (y := 0) (by decide) ?_
  refine lv_bipush (v := 10) hx hb d_Mo_done_20 (by decide) ?_
  refine lv_irem hx hb d_Mo_done_22 (by decide) ?_
  refine gx_topi (y := 0) (by decide) ?_
  refine lv_istore (lv' := [(5, Value.int 0), (4, Value.int 10000), (3, Value.int 0), (0, Value.ref A46), (1, Value.int 0), (2, Value.int 0)]) hx hb d_Mo_done_23 hl (by decide) rfl (fun ls hl => ?_)
  refine lv_iload hx hb d_Mo_done_25 (lv_at hl 0 rfl) ?_
  refine lv_if_ne (tgt := 33) hx hb d_Mo_done_27 (by decide) (fun c9 => absurd (by decide) c9) (fun _ => ?_)
  refine lv_goto (tgt := 50) hx hb d_Mo_done_30 (by decide) ?_
  refine lv_iload hx hb d_Mo_done_50 (lv_at hl 1 rfl) ?_
  refine lv_bipush (v := 10) hx hb d_Mo_done_52 (by decide) ?_
  refine lv_idiv hx hb d_Mo_done_54 (by decide) ?_
  refine gx_topi (y := 1000) (by decide) ?_
  refine lv_istore (lv' := [(4, Value.int 1000), (5, Value.int 0), (3, Value.int 0), (0, Value.ref A46), (1, Value.int 0), (2, Value.int 0)]) hx hb d_Mo_done_55 hl (by decide) rfl (fun ls hl => ?_)
  refine lv_goto (tgt := 11) hx hb d_Mo_done_57 (by decide) ?_
  refine lv_iload hx hb d_Mo_done_11 (lv_at hl 0 rfl) ?_
  refine lv_if_le (tgt := 60) hx hb d_Mo_done_13 (by decide) (fun c9 => absurd c9 (by decide)) (fun _ => ?_)
  refine lv_iload_n hx hb d_Mo_done_16 rfl (lv_at hl 5 rfl) ?_
  refine lv_iload hx hb d_Mo_done_17 (lv_at hl 0 rfl) ?_
  refine lv_idiv hx hb d_Mo_done_19 (by decide) ?_
  refine gx_topi (y := 0) (by decide) ?_
  refine lv_bipush (v := 10) hx hb d_Mo_done_20 (by decide) ?_
  refine lv_irem hx hb d_Mo_done_22 (by decide) ?_
  refine gx_topi (y := 0) (by decide) ?_
  refine lv_istore (lv' := [(5, Value.int 0), (4, Value.int 1000), (3, Value.int 0), (0, Value.ref A46), (1, Value.int 0), (2, Value.int 0)]) hx hb d_Mo_done_23 hl (by decide) rfl (fun ls hl => ?_)
  refine lv_iload hx hb d_Mo_done_25 (lv_at hl 0 rfl) ?_
  refine lv_if_ne (tgt := 33) hx hb d_Mo_done_27 (by decide) (fun c9 => absurd (by decide) c9) (fun _ => ?_)
  refine lv_goto (tgt := 50) hx hb d_Mo_done_30 (by decide) ?_
  refine lv_iload hx hb d_Mo_done_50 (lv_at hl 1 rfl) ?_
  refine lv_bipush (v := 10) hx hb d_Mo_done_52 (by decide) ?_
  refine lv_idiv hx hb d_Mo_done_54 (by decide) ?_
  refine gx_topi (y := 100) (by decide) ?_
  refine lv_istore (lv' := [(4, Value.int 100), (5, Value.int 0), (3, Value.int 0), (0, Value.ref A46), (1, Value.int 0), (2, Value.int 0)]) hx hb d_Mo_done_55 hl (by decide) rfl (fun ls hl => ?_)
  refine lv_goto (tgt := 11) hx hb d_Mo_done_57 (by decide) ?_
  refine lv_iload hx hb d_Mo_done_11 (lv_at hl 0 rfl) ?_
  refine lv_if_le (tgt := 60) hx hb d_Mo_done_13 (by decide) (fun c9 => absurd c9 (by decide)) (fun _ => ?_)
  refine lv_iload_n hx hb d_Mo_done_16 rfl (lv_at hl 5 rfl) ?_
  refine lv_iload hx hb d_Mo_done_17 (lv_at hl 0 rfl) ?_
  refine lv_idiv hx hb d_Mo_done_19 (by decide) ?_
  refine gx_topi (y := 0) (by decide) ?_
  refine lv_bipush (v := 10) hx hb d_Mo_done_20 (by decide) ?_
  refine lv_irem hx hb d_Mo_done_22 (by decide) ?_
  refine gx_topi (y := 0) (by decide) ?_
  refine lv_istore (lv' := [(5, Value.int 0), (4, Value.int 100), (3, Value.int 0), (0, Value.ref A46), (1, Value.int 0), (2, Value.int 0)]) hx hb d_Mo_done_23 hl (by decide) rfl (fun ls hl => ?_)
  refine lv_iload hx hb d_Mo_done_25 (lv_at hl 0 rfl) ?_
  refine lv_if_ne (tgt := 33) hx hb d_Mo_done_27 (by decide) (fun c9 => absurd (by decide) c9) (fun _ => ?_)
  refine lv_goto (tgt := 50) hx hb d_Mo_done_30 (by decide) ?_
  refine lv_iload hx hb d_Mo_done_50 (lv_at hl 1 rfl) ?_
  refine lv_bipush (v := 10) hx hb d_Mo_done_52 (by decide) ?_
  refine lv_idiv hx hb d_Mo_done_54 (by decide) ?_
  refine gx_topi (y := 10) (by decide) ?_
  refine lv_istore (lv' := [(4, Value.int 10), (5, Value.int 0), (3, Value.int 0), (0, Value.ref A46), (1, Value.int 0), (2, Value.int 0)]) hx hb d_Mo_done_55 hl (by decide) rfl (fun ls hl => ?_)
  refine lv_goto (tgt := 11) hx hb d_Mo_done_57 (by decide) ?_
  refine lv_iload hx hb d_Mo_done_11 (lv_at hl 0 rfl) ?_
  refine lv_if_le (tgt := 60) hx hb d_Mo_done_13 (by decide) (fun c9 => absurd c9 (by decide)) (fun _ => ?_)
  refine lv_iload_n hx hb d_Mo_done_16 rfl (lv_at hl 5 rfl) ?_
  refine lv_iload hx hb d_Mo_done_17 (lv_at hl 0 rfl) ?_
  refine lv_idiv hx hb d_Mo_done_19 (by decide) ?_
  refine gx_topi (y := 0) (by decide) ?_
  refine lv_bipush (v := 10) hx hb d_Mo_done_20 (by decide) ?_
  refine lv_irem hx hb d_Mo_done_22 (by decide) ?_
  refine gx_topi (y := 0) (by decide) ?_
  refine lv_istore (lv' := [(5, Value.int 0), (4, Value.int 10), (3, Value.int 0), (0, Value.ref A46), (1, Value.int 0), (2, Value.int 0)]) hx hb d_Mo_done_23 hl (by decide) rfl (fun ls hl => ?_)
  refine lv_iload hx hb d_Mo_done_25 (lv_at hl 0 rfl) ?_
  refine lv_if_ne (tgt := 33) hx hb d_Mo_done_27 (by decide) (fun c9 => absurd (by decide) c9) (fun _ => ?_)
  refine lv_goto (tgt := 50) hx hb d_Mo_done_30 (by decide) ?_
  refine lv_iload hx hb d_Mo_done_50 (lv_at hl 1 rfl) ?_
  refine lv_bipush (v := 10) hx hb d_Mo_done_52 (by decide) ?_
  refine lv_idiv hx hb d_Mo_done_54 (by decide) ?_
  refine gx_topi (y := 1) (by decide) ?_
  refine lv_istore (lv' := [(4, Value.int 1), (5, Value.int 0), (3, Value.int 0), (0, Value.ref A46), (1, Value.int 0), (2, Value.int 0)]) hx hb d_Mo_done_55 hl (by decide) rfl (fun ls hl => ?_)
  refine lv_goto (tgt := 11) hx hb d_Mo_done_57 (by decide) ?_
  refine lv_iload hx hb d_Mo_done_11 (lv_at hl 0 rfl) ?_
  refine lv_if_le (tgt := 60) hx hb d_Mo_done_13 (by decide) (fun c9 => absurd c9 (by decide)) (fun _ => ?_)
  refine lv_iload_n hx hb d_Mo_done_16 rfl (lv_at hl 5 rfl) ?_
  refine lv_iload hx hb d_Mo_done_17 (lv_at hl 0 rfl) ?_
  refine lv_idiv hx hb d_Mo_done_19 (by decide) ?_
  refine gx_topi (y := 0) (by decide) ?_
  refine lv_bipush (v := 10) hx hb d_Mo_done_20 (by decide) ?_
  refine lv_irem hx hb d_Mo_done_22 (by decide) ?_
  refine gx_topi (y := 0) (by decide) ?_
  refine lv_istore (lv' := [(5, Value.int 0), (4, Value.int 1), (3, Value.int 0), (0, Value.ref A46), (1, Value.int 0), (2, Value.int 0)]) hx hb d_Mo_done_23 hl (by decide) rfl (fun ls hl => ?_)
  refine lv_iload hx hb d_Mo_done_25 (lv_at hl 0 rfl) ?_
  refine lv_if_ne (tgt := 33) hx hb d_Mo_done_27 (by decide) (fun c9 => absurd (by decide) c9) (fun _ => ?_)
  refine lv_goto (tgt := 50) hx hb d_Mo_done_30 (by decide) ?_
  refine lv_iload hx hb d_Mo_done_50 (lv_at hl 1 rfl) ?_
  refine lv_bipush (v := 10) hx hb d_Mo_done_52 (by decide) ?_
  refine lv_idiv hx hb d_Mo_done_54 (by decide) ?_
  refine gx_topi (y := 0) (by decide) ?_
  refine lv_istore (lv' := [(4, Value.int 0), (5, Value.int 0), (3, Value.int 0), (0, Value.ref A46), (1, Value.int 0), (2, Value.int 0)]) hx hb d_Mo_done_55 hl (by decide) rfl (fun ls hl => ?_)
  refine lv_goto (tgt := 11) hx hb d_Mo_done_57 (by decide) ?_
  refine lv_iload hx hb d_Mo_done_11 (lv_at hl 0 rfl) ?_
  refine lv_if_le (tgt := 60) hx hb d_Mo_done_13 (by decide) (fun _ => ?_) (fun c9 => absurd (by decide) c9)
  refine lv_aload_n hx hb d_Mo_done_60 rfl (lv_at hl 3 rfl) ?_
  refine lv_iconst (v := 0) hx hb d_Mo_done_61 (by decide) ?_
  refine va_put (D := D) (ci := 8) (v := Value.int 0) (ty := .int) (C := "CommitLedgerModel") (T := F_Mo) (N := 35) hx hb hts i_Mo t_Mo t_Mo_ok n_Mo hown hK hP hD hS 46 f_46_ws1 rfl 0 (by decide) (hts _ kf_Mo_84) (fun _ h9 => h9) rfl (by decide +kernel) rfl rfl (Nat.le_of_ble_eq_true rfl) d_Mo_done_62 (fun H locs hP9 hD9 hS9 => ?_)
  obtain ⟨ws2, e_ws2⟩ : ∃ x : va_W, x = ws1.set 46 ((A46, Sum.inr (8, [Value.int 0, Value.int 0, Value.ref A47, Value.ref A48, Value.ref A49, Value.int 0, Value.ref A50, Value.ref A51, Value.ref A52, Value.ref A53, Value.int 0, Value.int 0, Value.int 0, Value.int (-1), Value.int 0, Value.ref A54, Value.ref A62, Value.ref A70, Value.int 0, Value.int 0, Value.int 0, Value.ref A78, Value.ref A79, Value.int 0, Value.int 16, Value.int 4, u0, Value.ref A80, Value.ref A81, Value.ref A82, Value.int 0, Value.ref A83, Value.int 0, Value.int 0, Value.int 0])) : Nat × va_E) := ⟨_, rfl⟩
  replace hP : va_P D classes ws2 H := by rw [e_ws2]; exact hP9
  replace hD : va_D A ws2 := by rw [e_ws2]; exact hD9
  replace hS := hS9
  clear hP9 hD9 hS9
  have f_46_ws2 : ws2[46]? = some ((A46, Sum.inr (8, [Value.int 0, Value.int 0, Value.ref A47, Value.ref A48, Value.ref A49, Value.int 0, Value.ref A50, Value.ref A51, Value.ref A52, Value.ref A53, Value.int 0, Value.int 0, Value.int 0, Value.int (-1), Value.int 0, Value.ref A54, Value.ref A62, Value.ref A70, Value.int 0, Value.int 0, Value.int 0, Value.ref A78, Value.ref A79, Value.int 0, Value.int 16, Value.int 4, u0, Value.ref A80, Value.ref A81, Value.ref A82, Value.int 0, Value.ref A83, Value.int 0, Value.int 0, Value.int 0])) : Nat × va_E) := by rw [e_ws2]; exact gs_self f_46_ws1
  replace hU : gx_g ws ws2 0 [46] := by rw [e_ws2]; exact hU.put (Or.inl (by simp))
  refine lv_aload_n hx hb d_Mo_done_65 rfl (lv_at hl 3 rfl) ?_
  refine va_get (D := D) (ci := 8) (v := Value.int 0) (C := "CommitLedgerModel") (T := F_Mo) (N := 35) hx hb hts i_Mo hown hK hP 46 f_46_ws2 rfl 1 (by decide) (hts _ kf_Mo_80) (fun _ h9 => h9) rfl d_Mo_done_66 ?_
  refine lv_if_le (tgt := 76) hx hb d_Mo_done_69 (by decide) (fun _ => ?_) (fun c9 => absurd (by decide) c9)
  refine lv_iload_n hx hb d_Mo_done_76 rfl (lv_at hl 4 rfl) ?_
  exact gx_ret (W.iret (v := 0) hx hb hr (gx_post hP hK hD hS (by rw [← hPQ]; exact ⟨rfl, hU, f_46_ws2⟩)) hS.2.2 d_Mo_done_77)

set_option maxHeartbeats 4000000 in
set_option maxRecDepth 100000 in
theorem c_Mo_done_v24 (l : Launch) (htr : l.stackTraces = false) (D : va_G) (tys : List (ClassId × FieldType)) (z sz : Nat) (ws : va_W) (A46 : Nat) (A47 : Nat) (A48 : Nat) (A49 : Nat) (A50 : Nat) (A51 : Nat) (A52 : Nat) (A53 : Nat) (A54 : Nat) (A62 : Nat) (A70 : Nat) (A78 : Nat) (A79 : Nat) (u0 : Value) (A80 : Nat) (A81 : Nat) (A82 : Nat) (A83 : Nat) (f_46 : ws[46]? = some ((A46, Sum.inr (8, [Value.int 0, Value.int 0, Value.ref A47, Value.ref A48, Value.ref A49, Value.int 0, Value.ref A50, Value.ref A51, Value.ref A52, Value.ref A53, Value.int 0, Value.int 0, Value.int 0, Value.int (-1), Value.int 0, Value.ref A54, Value.ref A62, Value.ref A70, Value.int 0, Value.int 0, Value.int 0, Value.ref A78, Value.ref A79, Value.int 0, Value.int 16, Value.int 4, u0, Value.ref A80, Value.ref A81, Value.ref A82, Value.int 0, Value.ref A83, Value.int 0, Value.int 0, Value.int 0])) : Nat × va_E)) : gx_Met l y_Mo_done [Cond.code y_Mo_done b_Mo_done 6 (some .int)] { frames := 1, cells := 0, slots := 0, locals := 12 } (gx_P z sz D classes tys ws [Value.ref A46, Value.int (-1), Value.int 0]) (gx_Q D classes tys (va_A ws sz) (fun r ws' => (r = Sum.inl (some (Value.int (-1))) ∧ gx_g ws ws' 0 [46] ∧ ws'[46]? = some ((A46, Sum.inr (8, [Value.int 0, Value.int 0, Value.ref A47, Value.ref A48, Value.ref A49, Value.int 0, Value.ref A50, Value.ref A51, Value.ref A52, Value.ref A53, Value.int 0, Value.int 0, Value.int 0, Value.int (-1), Value.int 0, Value.ref A54, Value.ref A62, Value.ref A70, Value.int 0, Value.int 0, Value.int 0, Value.ref A78, Value.ref A79, Value.int 0, Value.int 16, Value.int 4, u0, Value.ref A80, Value.ref A81, Value.ref A82, Value.int 0, Value.ref A83, Value.int 0, Value.int 0, Value.int 0])) : Nat × va_E)))) 0 0 (va_A ws sz) := by
  refine gx_ofW (cc := b_Mo_done) (maxL := 6) (ret := (some .int)) (by decide) rfl ?_
  intro p e s m args below meth c s₁ B hml hv
  obtain ⟨rfl, hsz, hz, hP, hK, hD0, hY⟩ := hv
  have hx := B.exec
  have hb := B.bytes
  have hr := B.returns
  have hts := hY.hts (#[Value.ref A46, Value.int (-1), Value.int 0] : Array Value)
  have hown : s.vm.findClass "CommitLedgerModel" = some m.cls := findClass_of_methodNamed B.named
  have hlocks := B.notSynchronized
  have hne : c.exceptionTable.isEmpty = true := B.noHandlers (atoms_spec (ws := [Cond.code y_Mo_done b_Mo_done 6 (some .int)]) B.pre _ List.mem_cons_self)
  subst hsz
  have hAz := gx_az hD0 hz
  have hD := hD0.self (sz := s.heap.size)
  have hN := gx_ns hP
  have hA : ∀ q : Nat, s.heap.size ≤ q → va_A ws s.heap.size q := fun q h => Or.inr h
  generalize va_A ws s.heap.size = A at hD hN hA hAz ⊢
  generalize hPQ : (fun (r : Option Value ⊕ String) (ws' : va_W) => (r = Sum.inl (some (Value.int (-1))) ∧ gx_g ws ws' 0 [46] ∧ ws'[46]? = some ((A46, Sum.inr (8, [Value.int 0, Value.int 0, Value.ref A47, Value.ref A48, Value.ref A49, Value.int 0, Value.ref A50, Value.ref A51, Value.ref A52, Value.ref A53, Value.int 0, Value.int 0, Value.int 0, Value.int (-1), Value.int 0, Value.ref A54, Value.ref A62, Value.ref A70, Value.int 0, Value.int 0, Value.int 0, Value.ref A78, Value.ref A79, Value.int 0, Value.int 16, Value.int 4, u0, Value.ref A80, Value.ref A81, Value.ref A82, Value.int 0, Value.ref A83, Value.int 0, Value.int 0, Value.int 0])) : Nat × va_E))) = PQ
  have hS : va_S A s.heap s.heap [] := va_S.rf
  have hU : gx_g ws ws 0 [46] := gx_g.rf
  have hl := lv_entry ([Value.ref A46, Value.int (-1), Value.int 0]) (n := 6) (Nat.le_of_ble_eq_true rfl)
  rw [lg_entry_eq]
  generalize (lg_sl ([Value.ref A46, Value.int (-1), Value.int 0]) ++ List.replicate (6 - (lg_sl ([Value.ref A46, Value.int (-1), Value.int 0])).length) Slot.unset).toArray = ls at hl ⊢
  have hl : lv_has ls 6 [(0, Value.ref A46), (1, Value.int (-1)), (2, Value.int 0)] := hl
  refine lv_aload_n hx hb d_Mo_done_0 rfl (lv_at hl 0 rfl) ?_
  refine lv_iconst (v := 0) hx hb d_Mo_done_1 (by decide) ?_
  refine va_put (D := D) (ci := 8) (v := Value.int 0) (ty := .int) (C := "CommitLedgerModel") (T := F_Mo) (N := 35) hx hb hts i_Mo t_Mo t_Mo_ok n_Mo hown hK hP hD hS 46 f_46 rfl 1 (by decide) (hts _ kf_Mo_80) (fun _ h9 => h9) rfl (by decide +kernel) rfl rfl (Nat.le_of_ble_eq_true rfl) d_Mo_done_2 (fun H locs hP9 hD9 hS9 => ?_)
  obtain ⟨ws1, e_ws1⟩ : ∃ x : va_W, x = ws.set 46 ((A46, Sum.inr (8, [Value.int 0, Value.int 0, Value.ref A47, Value.ref A48, Value.ref A49, Value.int 0, Value.ref A50, Value.ref A51, Value.ref A52, Value.ref A53, Value.int 0, Value.int 0, Value.int 0, Value.int (-1), Value.int 0, Value.ref A54, Value.ref A62, Value.ref A70, Value.int 0, Value.int 0, Value.int 0, Value.ref A78, Value.ref A79, Value.int 0, Value.int 16, Value.int 4, u0, Value.ref A80, Value.ref A81, Value.ref A82, Value.int 0, Value.ref A83, Value.int 0, Value.int 0, Value.int 0])) : Nat × va_E) := ⟨_, rfl⟩
  replace hP : va_P D classes ws1 H := by rw [e_ws1]; exact hP9
  replace hD : va_D A ws1 := by rw [e_ws1]; exact hD9
  replace hS := hS9
  clear hP9 hD9 hS9
  have f_46_ws1 : ws1[46]? = some ((A46, Sum.inr (8, [Value.int 0, Value.int 0, Value.ref A47, Value.ref A48, Value.ref A49, Value.int 0, Value.ref A50, Value.ref A51, Value.ref A52, Value.ref A53, Value.int 0, Value.int 0, Value.int 0, Value.int (-1), Value.int 0, Value.ref A54, Value.ref A62, Value.ref A70, Value.int 0, Value.int 0, Value.int 0, Value.ref A78, Value.ref A79, Value.int 0, Value.int 16, Value.int 4, u0, Value.ref A80, Value.ref A81, Value.ref A82, Value.int 0, Value.ref A83, Value.int 0, Value.int 0, Value.int 0])) : Nat × va_E) := by rw [e_ws1]; exact gs_self f_46
  replace hU : gx_g ws ws1 0 [46] := by rw [e_ws1]; exact hU.put (Or.inl (by simp))
  refine lv_iconst (v := 0) hx hb d_Mo_done_5 (by decide) ?_
  refine lv_istore_n (lv' := [(3, Value.int 0), (0, Value.ref A46), (1, Value.int (-1)), (2, Value.int 0)]) hx hb d_Mo_done_6 rfl hl (by decide) rfl (fun ls hl => ?_)
  refine lv_ldc (v := 100000) hx hb hown (hts _ ki_Mo_83) d_Mo_done_7 ?_
  refine lv_istore (lv' := [(4, Value.int 100000), (3, Value.int 0), (0, Value.ref A46), (1, Value.int (-1)), (2, Value.int 0)]) hx hb d_Mo_done_9 hl (by decide) rfl (fun ls hl => ?_)
  refine lv_iload hx hb d_Mo_done_11 (lv_at hl 0 rfl) ?_
  refine lv_if_le (tgt := 60) hx hb d_Mo_done_13 (by decide) (fun c9 => absurd c9 (by decide)) (fun _ => ?_)
  refine lv_iload_n hx hb d_Mo_done_16 rfl (lv_at hl 4 rfl) ?_
  refine lv_iload hx hb d_Mo_done_17 (lv_at hl 0 rfl) ?_
  refine lv_idiv hx hb d_Mo_done_19 (by decide) ?_
  refine gx_topi (y := 0) (by decide) ?_
  refine lv_bipush (v := 10) hx hb d_Mo_done_20 (by decide) ?_
  refine lv_irem hx hb d_Mo_done_22 (by decide) ?_
  refine gx_topi (y := 0) (by decide) ?_
  refine lv_istore (lv' := [(5, Value.int 0), (4, Value.int 100000), (3, Value.int 0), (0, Value.ref A46), (1, Value.int (-1)), (2, Value.int 0)]) hx hb d_Mo_done_23 hl (by decide) rfl (fun ls hl => ?_)
  refine lv_iload hx hb d_Mo_done_25 (lv_at hl 0 rfl) ?_
  refine lv_if_ne (tgt := 33) hx hb d_Mo_done_27 (by decide) (fun c9 => absurd (by decide) c9) (fun _ => ?_)
  refine lv_goto (tgt := 50) hx hb d_Mo_done_30 (by decide) ?_
  refine lv_iload hx hb d_Mo_done_50 (lv_at hl 1 rfl) ?_
  refine lv_bipush (v := 10) hx hb d_Mo_done_52 (by decide) ?_
  refine lv_idiv hx hb d_Mo_done_54 (by decide) ?_
  refine gx_topi (y := 10000) (by decide) ?_
  refine lv_istore (lv' := [(4, Value.int 10000), (5, Value.int 0), (3, Value.int 0), (0, Value.ref A46), (1, Value.int (-1)), (2, Value.int 0)]) hx hb d_Mo_done_55 hl (by decide) rfl (fun ls hl => ?_)
  refine lv_goto (tgt := 11) hx hb d_Mo_done_57 (by decide) ?_
  refine lv_iload hx hb d_Mo_done_11 (lv_at hl 0 rfl) ?_
  refine lv_if_le (tgt := 60) hx hb d_Mo_done_13 (by decide) (fun c9 => absurd c9 (by decide)) (fun _ => ?_)
  refine lv_iload_n hx hb d_Mo_done_16 rfl (lv_at hl 5 rfl) ?_
  refine lv_iload hx hb d_Mo_done_17 (lv_at hl 0 rfl) ?_
  refine lv_idiv hx hb d_Mo_done_19 (by decide) ?_
  refine gx_topi (y := 0) (by decide) ?_
  refine lv_bipush (v := 10) hx hb d_Mo_done_20 (by decide) ?_
  refine lv_irem hx hb d_Mo_done_22 (by decide) ?_
  refine gx_topi (y := 0) (by decide) ?_
  refine lv_istore (lv' := [(5, Value.int 0), (4, Value.int 10000), (3, Value.int 0), (0, Value.ref A46), (1, Value.int (-1)), (2, Value.int 0)]) hx hb d_Mo_done_23 hl (by decide) rfl (fun ls hl => ?_)
  refine lv_iload hx hb d_Mo_done_25 (lv_at hl 0 rfl) ?_
  refine lv_if_ne (tgt := 33) hx hb d_Mo_done_27 (by decide) (fun c9 => absurd (by decide) c9) (fun _ => ?_)
  refine lv_goto (tgt := 50) hx hb d_Mo_done_30 (by decide) ?_
  refine lv_iload hx hb d_Mo_done_50 (lv_at hl 1 rfl) ?_
  refine lv_bipush (v := 10) hx hb d_Mo_done_52 (by decide) ?_
  refine lv_idiv hx hb d_Mo_done_54 (by decide) ?_
  refine gx_topi (y := 1000) (by decide) ?_
  refine lv_istore (lv' := [(4, Value.int 1000), (5, Value.int 0), (3, Value.int 0), (0, Value.ref A46), (1, Value.int (-1)), (2, Value.int 0)]) hx hb d_Mo_done_55 hl (by decide) rfl (fun ls hl => ?_)
  refine lv_goto (tgt := 11) hx hb d_Mo_done_57 (by decide) ?_
  refine lv_iload hx hb d_Mo_done_11 (lv_at hl 0 rfl) ?_
  refine lv_if_le (tgt := 60) hx hb d_Mo_done_13 (by decide) (fun c9 => absurd c9 (by decide)) (fun _ => ?_)
  refine lv_iload_n hx hb d_Mo_done_16 rfl (lv_at hl 5 rfl) ?_
  refine lv_iload hx hb d_Mo_done_17 (lv_at hl 0 rfl) ?_
  refine lv_idiv hx hb d_Mo_done_19 (by decide) ?_
  refine gx_topi (y := 0) (by decide) ?_
  refine lv_bipush (v := 10) hx hb d_Mo_done_20 (by decide) ?_
  refine lv_irem hx hb d_Mo_done_22 (by decide) ?_
  refine gx_topi (y := 0) (by decide) ?_
  refine lv_istore (lv' := [(5, Value.int 0), (4, Value.int 1000), (3, Value.int 0), (0, Value.ref A46), (1, Value.int (-1)), (2, Value.int 0)]) hx hb d_Mo_done_23 hl (by decide) rfl (fun ls hl => ?_)
  refine lv_iload hx hb d_Mo_done_25 (lv_at hl 0 rfl) ?_
  refine lv_if_ne (tgt := 33) hx hb d_Mo_done_27 (by decide) (fun c9 => absurd (by decide) c9) (fun _ => ?_)
  refine lv_goto (tgt := 50) hx hb d_Mo_done_30 (by decide) ?_
  refine lv_iload hx hb d_Mo_done_50 (lv_at hl 1 rfl) ?_
  refine lv_bipush (v := 10) hx hb d_Mo_done_52 (by decide) ?_
  refine lv_idiv hx hb d_Mo_done_54 (by decide) ?_
  refine gx_topi (y := 100) (by decide) ?_
  refine lv_istore (lv' := [(4, Value.int 100), (5, Value.int 0), (3, Value.int 0), (0, Value.ref A46), (1, Value.int (-1)), (2, Value.int 0)]) hx hb d_Mo_done_55 hl (by decide) rfl (fun ls hl => ?_)
  refine lv_goto (tgt := 11) hx hb d_Mo_done_57 (by decide) ?_
  refine lv_iload hx hb d_Mo_done_11 (lv_at hl 0 rfl) ?_
  refine lv_if_le (tgt := 60) hx hb d_Mo_done_13 (by decide) (fun c9 => absurd c9 (by decide)) (fun _ => ?_)
  refine lv_iload_n hx hb d_Mo_done_16 rfl (lv_at hl 5 rfl) ?_
  refine lv_iload hx hb d_Mo_done_17 (lv_at hl 0 rfl) ?_
  refine lv_idiv hx hb d_Mo_done_19 (by decide) ?_
  refine gx_topi (y := 0) (by decide) ?_
  refine lv_bipush (v := 10) hx hb d_Mo_done_20 (by decide) ?_
  refine lv_irem hx hb d_Mo_done_22 (by decide) ?_
  refine gx_topi (y := 0) (by decide) ?_
  refine lv_istore (lv' := [(5, Value.int 0), (4, Value.int 100), (3, Value.int 0), (0, Value.ref A46), (1, Value.int (-1)), (2, Value.int 0)]) hx hb d_Mo_done_23 hl (by decide) rfl (fun ls hl => ?_)
  refine lv_iload hx hb d_Mo_done_25 (lv_at hl 0 rfl) ?_
  refine lv_if_ne (tgt := 33) hx hb d_Mo_done_27 (by decide) (fun c9 => absurd (by decide) c9) (fun _ => ?_)
  refine lv_goto (tgt := 50) hx hb d_Mo_done_30 (by decide) ?_
  refine lv_iload hx hb d_Mo_done_50 (lv_at hl 1 rfl) ?_
  refine lv_bipush (v := 10) hx hb d_Mo_done_52 (by decide) ?_
  refine lv_idiv hx hb d_Mo_done_54 (by decide) ?_
  refine gx_topi (y := 10) (by decide) ?_
  refine lv_istore (lv' := [(4, Value.int 10), (5, Value.int 0), (3, Value.int 0), (0, Value.ref A46), (1, Value.int (-1)), (2, Value.int 0)]) hx hb d_Mo_done_55 hl (by decide) rfl (fun ls hl => ?_)
  refine lv_goto (tgt := 11) hx hb d_Mo_done_57 (by decide) ?_
  refine lv_iload hx hb d_Mo_done_11 (lv_at hl 0 rfl) ?_
  refine lv_if_le (tgt := 60) hx hb d_Mo_done_13 (by decide) (fun c9 => absurd c9 (by decide)) (fun _ => ?_)
  refine lv_iload_n hx hb d_Mo_done_16 rfl (lv_at hl 5 rfl) ?_
  refine lv_iload hx hb d_Mo_done_17 (lv_at hl 0 rfl) ?_
  refine lv_idiv hx hb d_Mo_done_19 (by decide) ?_
  refine gx_topi (y := 0) (by decide) ?_
  refine lv_bipush (v := 10) hx hb d_Mo_done_20 (by decide) ?_
  refine lv_irem hx hb d_Mo_done_22 (by decide) ?_
  refine gx_topi (y := 0) (by decide) ?_
  refine lv_istore (lv' := [(5, Value.int 0), (4, Value.int 10), (3, Value.int 0), (0, Value.ref A46), (1, Value.int (-1)), (2, Value.int 0)]) hx hb d_Mo_done_23 hl (by decide) rfl (fun ls hl => ?_)
  refine lv_iload hx hb d_Mo_done_25 (lv_at hl 0 rfl) ?_
  refine lv_if_ne (tgt := 33) hx hb d_Mo_done_27 (by decide) (fun c9 => absurd (by decide) c9) (fun _ => ?_)
  refine lv_goto (tgt := 50) hx hb d_Mo_done_30 (by decide) ?_
  refine lv_iload hx hb d_Mo_done_50 (lv_at hl 1 rfl) ?_
  refine lv_bipush (v := 10) hx hb d_Mo_done_52 (by decide) ?_
  refine lv_idiv hx hb d_Mo_done_54 (by decide) ?_
  refine gx_topi (y := 1) (by decide) ?_
  refine lv_istore (lv' := [(4, Value.int 1), (5, Value.int 0), (3, Value.int 0), (0, Value.ref A46), (1, Value.int (-1)), (2, Value.int 0)]) hx hb d_Mo_done_55 hl (by decide) rfl (fun ls hl => ?_)
  refine lv_goto (tgt := 11) hx hb d_Mo_done_57 (by decide) ?_
  refine lv_iload hx hb d_Mo_done_11 (lv_at hl 0 rfl) ?_
  refine lv_if_le (tgt := 60) hx hb d_Mo_done_13 (by decide) (fun c9 => absurd c9 (by decide)) (fun _ => ?_)
  refine lv_iload_n hx hb d_Mo_done_16 rfl (lv_at hl 5 rfl) ?_
  refine lv_iload hx hb d_Mo_done_17 (lv_at hl 0 rfl) ?_
  refine lv_idiv hx hb d_Mo_done_19 (by decide) ?_
  refine gx_topi (y := 0) (by decide) ?_
  refine lv_bipush (v := 10) hx hb d_Mo_done_20 (by decide) ?_
  refine lv_irem hx hb d_Mo_done_22 (by decide) ?_
  refine gx_topi (y := 0) (by decide) ?_
  refine lv_istore (lv' := [(5, Value.int 0), (4, Value.int 1), (3, Value.int 0), (0, Value.ref A46), (1, Value.int (-1)), (2, Value.int 0)]) hx hb d_Mo_done_23 hl (by decide) rfl (fun ls hl => ?_)
  refine lv_iload hx hb d_Mo_done_25 (lv_at hl 0 rfl) ?_
  refine lv_if_ne (tgt := 33) hx hb d_Mo_done_27 (by decide) (fun c9 => absurd (by decide) c9) (fun _ => ?_)
  refine lv_goto (tgt := 50) hx hb d_Mo_done_30 (by decide) ?_
  refine lv_iload hx hb d_Mo_done_50 (lv_at hl 1 rfl) ?_
  refine lv_bipush (v := 10) hx hb d_Mo_done_52 (by decide) ?_
  refine lv_idiv hx hb d_Mo_done_54 (by decide) ?_
  refine gx_topi (y := 0) (by decide) ?_
  refine lv_istore (lv' := [(4, Value.int 0), (5, Value.int 0), (3, Value.int 0), (0, Value.ref A46), (1, Value.int (-1)), (2, Value.int 0)]) hx hb d_Mo_done_55 hl (by decide) rfl (fun ls hl => ?_)
  refine lv_goto (tgt := 11) hx hb d_Mo_done_57 (by decide) ?_
  refine lv_iload hx hb d_Mo_done_11 (lv_at hl 0 rfl) ?_
  refine lv_if_le (tgt := 60) hx hb d_Mo_done_13 (by decide) (fun _ => ?_) (fun c9 => absurd (by decide) c9)
  refine lv_aload_n hx hb d_Mo_done_60 rfl (lv_at hl 3 rfl) ?_
  refine lv_iconst (v := 0) hx hb d_Mo_done_61 (by decide) ?_
  refine va_put (D := D) (ci := 8) (v := Value.int 0) (ty := .int) (C := "CommitLedgerModel") (T := F_Mo) (N := 35) hx hb hts i_Mo t_Mo t_Mo_ok n_Mo hown hK hP hD hS 46 f_46_ws1 rfl 0 (by decide) (hts _ kf_Mo_84) (fun _ h9 => h9) rfl (by decide +kernel) rfl rfl (Nat.le_of_ble_eq_true rfl) d_Mo_done_62 (fun H locs hP9 hD9 hS9 => ?_)
  obtain ⟨ws2, e_ws2⟩ : ∃ x : va_W, x = ws1.set 46 ((A46, Sum.inr (8, [Value.int 0, Value.int 0, Value.ref A47, Value.ref A48, Value.ref A49, Value.int 0, Value.ref A50, Value.ref A51, Value.ref A52, Value.ref A53, Value.int 0, Value.int 0, Value.int 0, Value.int (-1), Value.int 0, Value.ref A54, Value.ref A62, Value.ref A70, Value.int 0, Value.int 0, Value.int 0, Value.ref A78, Value.ref A79, Value.int 0, Value.int 16, Value.int 4, u0, Value.ref A80, Value.ref A81, Value.ref A82, Value.int 0, Value.ref A83, Value.int 0, Value.int 0, Value.int 0])) : Nat × va_E) := ⟨_, rfl⟩
  replace hP : va_P D classes ws2 H := by rw [e_ws2]; exact hP9
  replace hD : va_D A ws2 := by rw [e_ws2]; exact hD9
  replace hS := hS9
  clear hP9 hD9 hS9
  have f_46_ws2 : ws2[46]? = some ((A46, Sum.inr (8, [Value.int 0, Value.int 0, Value.ref A47, Value.ref A48, Value.ref A49, Value.int 0, Value.ref A50, Value.ref A51, Value.ref A52, Value.ref A53, Value.int 0, Value.int 0, Value.int 0, Value.int (-1), Value.int 0, Value.ref A54, Value.ref A62, Value.ref A70, Value.int 0, Value.int 0, Value.int 0, Value.ref A78, Value.ref A79, Value.int 0, Value.int 16, Value.int 4, u0, Value.ref A80, Value.ref A81, Value.ref A82, Value.int 0, Value.ref A83, Value.int 0, Value.int 0, Value.int 0])) : Nat × va_E) := by rw [e_ws2]; exact gs_self f_46_ws1
  replace hU : gx_g ws ws2 0 [46] := by rw [e_ws2]; exact hU.put (Or.inl (by simp))
  refine lv_aload_n hx hb d_Mo_done_65 rfl (lv_at hl 3 rfl) ?_
  refine va_get (D := D) (ci := 8) (v := Value.int 0) (C := "CommitLedgerModel") (T := F_Mo) (N := 35) hx hb hts i_Mo hown hK hP 46 f_46_ws2 rfl 1 (by decide) (hts _ kf_Mo_80) (fun _ h9 => h9) rfl d_Mo_done_66 ?_
  refine lv_if_le (tgt := 76) hx hb d_Mo_done_69 (by decide) (fun _ => ?_) (fun c9 => absurd (by decide) c9)
  refine lv_iload_n hx hb d_Mo_done_76 rfl (lv_at hl 4 rfl) ?_
  exact gx_ret (W.iret (v := (-1)) hx hb hr (gx_post hP hK hD hS (by rw [← hPQ]; exact ⟨rfl, hU, f_46_ws2⟩)) hS.2.2 d_Mo_done_77)

set_option maxHeartbeats 4000000 in
set_option maxRecDepth 100000 in
theorem c_Mo_count_v1 (l : Launch) (htr : l.stackTraces = false) (D : va_G) (tys : List (ClassId × FieldType)) (z sz : Nat) (ws : va_W) (cV : ClassId) (A46 : Nat) (p0 : Int32) (A47 : Nat) (A48 : Nat) (A49 : Nat) (A50 : Nat) (A51 : Nat) (A52 : Nat) (A53 : Nat) (A54 : Nat) (A62 : Nat) (A70 : Nat) (A78 : Nat) (A79 : Nat) (u0 : Value) (A80 : Nat) (A81 : Nat) (A82 : Nat) (A83 : Nat) (A84 : Nat) (A85 : Nat) (A86 : Nat) (A87 : Nat) (A88 : Nat) (A89 : Nat) (A90 : Nat) (A91 : Nat) (A92 : Nat) (A93 : Nat) (A94 : Nat) (A95 : Nat) (A96 : Nat) (A97 : Nat) (A98 : Nat) (A99 : Nat) (A100 : Nat) (A101 : Nat) (A102 : Nat) (A103 : Nat) (A104 : Nat) (A105 : Nat) (A106 : Nat) (A107 : Nat) (A108 : Nat) (A109 : Nat) (A110 : Nat) (A111 : Nat) (A112 : Nat) (A113 : Nat) (A114 : Nat) (A115 : Nat) (f_46 : ws[46]? = some ((A46, Sum.inr (8, [Value.int 0, Value.int 0, Value.ref A47, Value.ref A48, Value.ref A49, Value.int 0, Value.ref A50, Value.ref A51, Value.ref A52, Value.ref A53, Value.int 0, Value.int 0, Value.int 0, Value.int (-1), Value.int 0, Value.ref A54, Value.ref A62, Value.ref A70, Value.int 0, Value.int 0, Value.int 0, Value.ref A78, Value.ref A79, Value.int 0, Value.int 16, Value.int 4, u0, Value.ref A80, Value.ref A81, Value.ref A82, Value.int 0, Value.ref A83, Value.int 0, Value.int 0, Value.int 0])) : Nat × va_E)) (f_84 : ws[84]? = some ((A84, Sum.inr (9, [Value.ref A85, Value.ref A86, Value.ref A87, Value.ref A88, Value.ref A89, Value.ref A90, Value.ref A91, Value.int 0, Value.int 0, Value.int 0, Value.int 0])) : Nat × va_E)) (f_92 : ws[92]? = some ((A92, Sum.inr (9, [Value.ref A93, Value.ref A94, Value.ref A95, Value.ref A96, Value.ref A97, Value.ref A98, Value.ref A99, Value.int 0, Value.int 0, Value.int 0, Value.int 0])) : Nat × va_E)) (f_100 : ws[100]? = some ((A100, Sum.inr (9, [Value.ref A101, Value.ref A102, Value.ref A103, Value.ref A104, Value.ref A105, Value.ref A106, Value.ref A107, Value.int 0, Value.int 0, Value.int 0, Value.int 0])) : Nat × va_E)) (f_108 : ws[108]? = some ((A108, Sum.inr (9, [Value.ref A109, Value.ref A110, Value.ref A111, Value.ref A112, Value.ref A113, Value.ref A114, Value.ref A115, Value.int 0, Value.int 0, Value.int 0, Value.int 0])) : Nat × va_E)) (f_83 : ws[83]? = some ((A83, Sum.inl (cV, 4, Sum.inr (Sum.inr (Sum.inr (Sum.inr (va_up (va_up (va_up (va_up (fun _ => none) 0 (some A84)) 1 (some A92)) 2 (some A100)) 3 (some A108))))))) : Nat × va_E)) (ht5 : tys[5]? = some ((cV, FieldType.object "CommitLedgerModel$Version") : ClassId × FieldType)) : gx_Met l y_Mo_count [Cond.code y_Mo_count b_Mo_count 2 (some .int)] { frames := 3, cells := 0, slots := 0, locals := 58 } (gx_P z sz D classes tys ws [Value.ref A46, Value.int p0]) (gx_Q D classes tys (va_A ws sz) (fun r ws' => (r = Sum.inl (some (Value.int 0)) ∧ gx_g ws ws' 0 [46] ∧ ws'[46]? = some ((A46, Sum.inr (8, [Value.int 0, Value.int 0, Value.ref A47, Value.ref A48, Value.ref A49, Value.int 0, Value.ref A50, Value.ref A51, Value.ref A52, Value.ref A53, Value.int 0, Value.int 0, Value.int 0, Value.int (-1), Value.int 0, Value.ref A54, Value.ref A62, Value.ref A70, Value.int 0, Value.int 0, Value.int 0, Value.ref A78, Value.ref A79, Value.int 0, Value.int 16, Value.int 4, u0, Value.ref A80, Value.ref A81, Value.ref A82, Value.int 0, Value.ref A83, Value.int 0, Value.int 0, Value.int 0])) : Nat × va_E) ∧ p0 = 0) ∨ (r = Sum.inl (some (Value.int 0)) ∧ gx_g ws ws' 0 [46] ∧ ws'[46]? = some ((A46, Sum.inr (8, [Value.int 0, Value.int 0, Value.ref A47, Value.ref A48, Value.ref A49, Value.int 0, Value.ref A50, Value.ref A51, Value.ref A52, Value.ref A53, Value.int 0, Value.int 0, Value.int 0, Value.int (-1), Value.int 0, Value.ref A54, Value.ref A62, Value.ref A70, Value.int 0, Value.int 0, Value.int 0, Value.ref A78, Value.ref A79, Value.int 0, Value.int 16, Value.int 4, u0, Value.ref A80, Value.ref A81, Value.ref A82, Value.int 0, Value.ref A83, Value.int 0, Value.int 0, Value.int 0])) : Nat × va_E) ∧ ¬ p0 = 0 ∧ p0 = 1) ∨ (r = Sum.inl (some (Value.int 0)) ∧ gx_g ws ws' 0 [46] ∧ ws'[46]? = some ((A46, Sum.inr (8, [Value.int 0, Value.int 0, Value.ref A47, Value.ref A48, Value.ref A49, Value.int 0, Value.ref A50, Value.ref A51, Value.ref A52, Value.ref A53, Value.int 0, Value.int 0, Value.int 0, Value.int (-1), Value.int 0, Value.ref A54, Value.ref A62, Value.ref A70, Value.int 0, Value.int 0, Value.int 0, Value.ref A78, Value.ref A79, Value.int 0, Value.int 16, Value.int 4, u0, Value.ref A80, Value.ref A81, Value.ref A82, Value.int 0, Value.ref A83, Value.int 0, Value.int 0, Value.int 0])) : Nat × va_E) ∧ ¬ p0 = 0 ∧ ¬ p0 = 1 ∧ p0 = 2) ∨ (r = Sum.inl (some (Value.int 0)) ∧ gx_g ws ws' 0 [46] ∧ ws'[46]? = some ((A46, Sum.inr (8, [Value.int 0, Value.int 0, Value.ref A47, Value.ref A48, Value.ref A49, Value.int 0, Value.ref A50, Value.ref A51, Value.ref A52, Value.ref A53, Value.int 0, Value.int 0, Value.int 0, Value.int (-1), Value.int 0, Value.ref A54, Value.ref A62, Value.ref A70, Value.int 0, Value.int 0, Value.int 0, Value.ref A78, Value.ref A79, Value.int 0, Value.int 16, Value.int 4, u0, Value.ref A80, Value.ref A81, Value.ref A82, Value.int 0, Value.ref A83, Value.int 0, Value.int 0, Value.int 0])) : Nat × va_E) ∧ ¬ p0 = 0 ∧ ¬ p0 = 1 ∧ ¬ p0 = 2 ∧ p0 = 3) ∨ (r = Sum.inl (some (Value.int 0)) ∧ gx_g ws ws' 0 [46] ∧ ws'[46]? = some ((A46, Sum.inr (8, [Value.int 0, Value.int 0, Value.ref A47, Value.ref A48, Value.ref A49, Value.int 0, Value.ref A50, Value.ref A51, Value.ref A52, Value.ref A53, Value.int 0, Value.int 0, Value.int 0, Value.int (-1), Value.int 0, Value.ref A54, Value.ref A62, Value.ref A70, Value.int 0, Value.int 0, Value.int 0, Value.ref A78, Value.ref A79, Value.int 0, Value.int 16, Value.int 4, u0, Value.ref A80, Value.ref A81, Value.ref A82, Value.int 0, Value.ref A83, Value.int 0, Value.int 0, Value.int 0])) : Nat × va_E) ∧ ¬ p0 = 0 ∧ ¬ p0 = 1 ∧ ¬ p0 = 2 ∧ ¬ p0 = 3 ∧ p0 = 4) ∨ (r = Sum.inl (some (Value.int 0)) ∧ gx_g ws ws' 0 [46] ∧ ws'[46]? = some ((A46, Sum.inr (8, [Value.int 0, Value.int 0, Value.ref A47, Value.ref A48, Value.ref A49, Value.int 0, Value.ref A50, Value.ref A51, Value.ref A52, Value.ref A53, Value.int 0, Value.int 0, Value.int 0, Value.int (-1), Value.int 0, Value.ref A54, Value.ref A62, Value.ref A70, Value.int 0, Value.int 0, Value.int 0, Value.ref A78, Value.ref A79, Value.int 0, Value.int 16, Value.int 4, u0, Value.ref A80, Value.ref A81, Value.ref A82, Value.int 0, Value.ref A83, Value.int 0, Value.int 0, Value.int 0])) : Nat × va_E) ∧ ¬ p0 = 0 ∧ ¬ p0 = 1 ∧ ¬ p0 = 2 ∧ ¬ p0 = 3 ∧ ¬ p0 = 4 ∧ p0 = 5) ∨ (r = Sum.inl (some (Value.int 0)) ∧ gx_g ws ws' 0 [46] ∧ ws'[46]? = some ((A46, Sum.inr (8, [Value.int 0, Value.int 0, Value.ref A47, Value.ref A48, Value.ref A49, Value.int 0, Value.ref A50, Value.ref A51, Value.ref A52, Value.ref A53, Value.int 0, Value.int 0, Value.int 0, Value.int (-1), Value.int 0, Value.ref A54, Value.ref A62, Value.ref A70, Value.int 0, Value.int 0, Value.int 0, Value.ref A78, Value.ref A79, Value.int 0, Value.int 16, Value.int 4, u0, Value.ref A80, Value.ref A81, Value.ref A82, Value.int 0, Value.ref A83, Value.int 0, Value.int 0, Value.int 0])) : Nat × va_E) ∧ ¬ p0 = 0 ∧ ¬ p0 = 1 ∧ ¬ p0 = 2 ∧ ¬ p0 = 3 ∧ ¬ p0 = 4 ∧ ¬ p0 = 5 ∧ p0 = 6) ∨ (r = Sum.inl (some (Value.int 0)) ∧ gx_g ws ws' 0 [46] ∧ ws'[46]? = some ((A46, Sum.inr (8, [Value.int 0, Value.int 0, Value.ref A47, Value.ref A48, Value.ref A49, Value.int 0, Value.ref A50, Value.ref A51, Value.ref A52, Value.ref A53, Value.int 0, Value.int 0, Value.int 0, Value.int (-1), Value.int 0, Value.ref A54, Value.ref A62, Value.ref A70, Value.int 0, Value.int 0, Value.int 0, Value.ref A78, Value.ref A79, Value.int 0, Value.int 16, Value.int 4, u0, Value.ref A80, Value.ref A81, Value.ref A82, Value.int 0, Value.ref A83, Value.int 0, Value.int 0, Value.int 0])) : Nat × va_E) ∧ ¬ p0 = 0 ∧ ¬ p0 = 1 ∧ ¬ p0 = 2 ∧ ¬ p0 = 3 ∧ ¬ p0 = 4 ∧ ¬ p0 = 5 ∧ ¬ p0 = 6 ∧ p0 = 7) ∨ (r = Sum.inl (some (Value.int 0)) ∧ gx_g ws ws' 0 [46] ∧ ws'[46]? = some ((A46, Sum.inr (8, [Value.int 0, Value.int 0, Value.ref A47, Value.ref A48, Value.ref A49, Value.int 0, Value.ref A50, Value.ref A51, Value.ref A52, Value.ref A53, Value.int 0, Value.int 0, Value.int 0, Value.int (-1), Value.int 0, Value.ref A54, Value.ref A62, Value.ref A70, Value.int 0, Value.int 0, Value.int 0, Value.ref A78, Value.ref A79, Value.int 0, Value.int 16, Value.int 4, u0, Value.ref A80, Value.ref A81, Value.ref A82, Value.int 0, Value.ref A83, Value.int 0, Value.int 0, Value.int 0])) : Nat × va_E) ∧ ¬ p0 = 0 ∧ ¬ p0 = 1 ∧ ¬ p0 = 2 ∧ ¬ p0 = 3 ∧ ¬ p0 = 4 ∧ ¬ p0 = 5 ∧ ¬ p0 = 6 ∧ ¬ p0 = 7 ∧ p0 = 8) ∨ (r = Sum.inl (some (Value.int 0)) ∧ gx_g ws ws' 0 [46] ∧ ws'[46]? = some ((A46, Sum.inr (8, [Value.int 0, Value.int 0, Value.ref A47, Value.ref A48, Value.ref A49, Value.int 0, Value.ref A50, Value.ref A51, Value.ref A52, Value.ref A53, Value.int 0, Value.int 0, Value.int 0, Value.int (-1), Value.int 0, Value.ref A54, Value.ref A62, Value.ref A70, Value.int 0, Value.int 0, Value.int 0, Value.ref A78, Value.ref A79, Value.int 0, Value.int 16, Value.int 4, u0, Value.ref A80, Value.ref A81, Value.ref A82, Value.int 0, Value.ref A83, Value.int 0, Value.int 0, Value.int 0])) : Nat × va_E) ∧ ¬ p0 = 0 ∧ ¬ p0 = 1 ∧ ¬ p0 = 2 ∧ ¬ p0 = 3 ∧ ¬ p0 = 4 ∧ ¬ p0 = 5 ∧ ¬ p0 = 6 ∧ ¬ p0 = 7 ∧ ¬ p0 = 8 ∧ p0 = 9) ∨ (r = Sum.inl (some (Value.int 0)) ∧ gx_g ws ws' 0 [46] ∧ ws'[46]? = some ((A46, Sum.inr (8, [Value.int 0, Value.int 0, Value.ref A47, Value.ref A48, Value.ref A49, Value.int 0, Value.ref A50, Value.ref A51, Value.ref A52, Value.ref A53, Value.int 0, Value.int 0, Value.int 0, Value.int (-1), Value.int 0, Value.ref A54, Value.ref A62, Value.ref A70, Value.int 0, Value.int 0, Value.int 0, Value.ref A78, Value.ref A79, Value.int 0, Value.int 16, Value.int 4, u0, Value.ref A80, Value.ref A81, Value.ref A82, Value.int 0, Value.ref A83, Value.int 0, Value.int 0, Value.int 0])) : Nat × va_E) ∧ ¬ p0 = 0 ∧ ¬ p0 = 1 ∧ ¬ p0 = 2 ∧ ¬ p0 = 3 ∧ ¬ p0 = 4 ∧ ¬ p0 = 5 ∧ ¬ p0 = 6 ∧ ¬ p0 = 7 ∧ ¬ p0 = 8 ∧ ¬ p0 = 9 ∧ p0 = 10) ∨ (r = Sum.inl (some (Value.int 0)) ∧ gx_g ws ws' 0 [46] ∧ ws'[46]? = some ((A46, Sum.inr (8, [Value.int 0, Value.int 0, Value.ref A47, Value.ref A48, Value.ref A49, Value.int 0, Value.ref A50, Value.ref A51, Value.ref A52, Value.ref A53, Value.int 0, Value.int 0, Value.int 0, Value.int (-1), Value.int 0, Value.ref A54, Value.ref A62, Value.ref A70, Value.int 0, Value.int 0, Value.int 0, Value.ref A78, Value.ref A79, Value.int 0, Value.int 16, Value.int 4, u0, Value.ref A80, Value.ref A81, Value.ref A82, Value.int 0, Value.ref A83, Value.int 0, Value.int 0, Value.int 0])) : Nat × va_E) ∧ ¬ p0 = 0 ∧ ¬ p0 = 1 ∧ ¬ p0 = 2 ∧ ¬ p0 = 3 ∧ ¬ p0 = 4 ∧ ¬ p0 = 5 ∧ ¬ p0 = 6 ∧ ¬ p0 = 7 ∧ ¬ p0 = 8 ∧ ¬ p0 = 9 ∧ ¬ p0 = 10 ∧ p0 = 11) ∨ (r = Sum.inl (some (Value.int (-1))) ∧ gx_g ws ws' 0 [46] ∧ ws'[46]? = some ((A46, Sum.inr (8, [Value.int 0, Value.int 0, Value.ref A47, Value.ref A48, Value.ref A49, Value.int 0, Value.ref A50, Value.ref A51, Value.ref A52, Value.ref A53, Value.int 0, Value.int 0, Value.int 0, Value.int (-1), Value.int 0, Value.ref A54, Value.ref A62, Value.ref A70, Value.int 0, Value.int 0, Value.int 0, Value.ref A78, Value.ref A79, Value.int 0, Value.int 16, Value.int 4, u0, Value.ref A80, Value.ref A81, Value.ref A82, Value.int 0, Value.ref A83, Value.int 0, Value.int 0, Value.int 0])) : Nat × va_E) ∧ ¬ p0 = 0 ∧ ¬ p0 = 1 ∧ ¬ p0 = 2 ∧ ¬ p0 = 3 ∧ ¬ p0 = 4 ∧ ¬ p0 = 5 ∧ ¬ p0 = 6 ∧ ¬ p0 = 7 ∧ ¬ p0 = 8 ∧ ¬ p0 = 9 ∧ ¬ p0 = 10 ∧ ¬ p0 = 11))) 0 0 (va_A ws sz) := by
  refine gx_ofW (cc := b_Mo_count) (maxL := 2) (ret := (some .int)) (by decide) rfl ?_
  intro p e s m args below meth c s₁ B hml hv
  obtain ⟨rfl, hsz, hz, hP, hK, hD0, hY⟩ := hv
  have hx := B.exec
  have hb := B.bytes
  have hr := B.returns
  have hts := hY.hts (#[Value.ref A46, Value.int p0] : Array Value)
  have hown : s.vm.findClass "CommitLedgerModel" = some m.cls := findClass_of_methodNamed B.named
  have hlocks := B.notSynchronized
  have hne : c.exceptionTable.isEmpty = true := B.noHandlers (atoms_spec (ws := [Cond.code y_Mo_count b_Mo_count 2 (some .int)]) B.pre _ List.mem_cons_self)
  subst hsz
  have hAz := gx_az hD0 hz
  have hD := hD0.self (sz := s.heap.size)
  have hN := gx_ns hP
  have hA : ∀ q : Nat, s.heap.size ≤ q → va_A ws s.heap.size q := fun q h => Or.inr h
  generalize va_A ws s.heap.size = A at hD hN hA hAz ⊢
  generalize hPQ : (fun (r : Option Value ⊕ String) (ws' : va_W) => (r = Sum.inl (some (Value.int 0)) ∧ gx_g ws ws' 0 [46] ∧ ws'[46]? = some ((A46, Sum.inr (8, [Value.int 0, Value.int 0, Value.ref A47, Value.ref A48, Value.ref A49, Value.int 0, Value.ref A50, Value.ref A51, Value.ref A52, Value.ref A53, Value.int 0, Value.int 0, Value.int 0, Value.int (-1), Value.int 0, Value.ref A54, Value.ref A62, Value.ref A70, Value.int 0, Value.int 0, Value.int 0, Value.ref A78, Value.ref A79, Value.int 0, Value.int 16, Value.int 4, u0, Value.ref A80, Value.ref A81, Value.ref A82, Value.int 0, Value.ref A83, Value.int 0, Value.int 0, Value.int 0])) : Nat × va_E) ∧ p0 = 0) ∨ (r = Sum.inl (some (Value.int 0)) ∧ gx_g ws ws' 0 [46] ∧ ws'[46]? = some ((A46, Sum.inr (8, [Value.int 0, Value.int 0, Value.ref A47, Value.ref A48, Value.ref A49, Value.int 0, Value.ref A50, Value.ref A51, Value.ref A52, Value.ref A53, Value.int 0, Value.int 0, Value.int 0, Value.int (-1), Value.int 0, Value.ref A54, Value.ref A62, Value.ref A70, Value.int 0, Value.int 0, Value.int 0, Value.ref A78, Value.ref A79, Value.int 0, Value.int 16, Value.int 4, u0, Value.ref A80, Value.ref A81, Value.ref A82, Value.int 0, Value.ref A83, Value.int 0, Value.int 0, Value.int 0])) : Nat × va_E) ∧ ¬ p0 = 0 ∧ p0 = 1) ∨ (r = Sum.inl (some (Value.int 0)) ∧ gx_g ws ws' 0 [46] ∧ ws'[46]? = some ((A46, Sum.inr (8, [Value.int 0, Value.int 0, Value.ref A47, Value.ref A48, Value.ref A49, Value.int 0, Value.ref A50, Value.ref A51, Value.ref A52, Value.ref A53, Value.int 0, Value.int 0, Value.int 0, Value.int (-1), Value.int 0, Value.ref A54, Value.ref A62, Value.ref A70, Value.int 0, Value.int 0, Value.int 0, Value.ref A78, Value.ref A79, Value.int 0, Value.int 16, Value.int 4, u0, Value.ref A80, Value.ref A81, Value.ref A82, Value.int 0, Value.ref A83, Value.int 0, Value.int 0, Value.int 0])) : Nat × va_E) ∧ ¬ p0 = 0 ∧ ¬ p0 = 1 ∧ p0 = 2) ∨ (r = Sum.inl (some (Value.int 0)) ∧ gx_g ws ws' 0 [46] ∧ ws'[46]? = some ((A46, Sum.inr (8, [Value.int 0, Value.int 0, Value.ref A47, Value.ref A48, Value.ref A49, Value.int 0, Value.ref A50, Value.ref A51, Value.ref A52, Value.ref A53, Value.int 0, Value.int 0, Value.int 0, Value.int (-1), Value.int 0, Value.ref A54, Value.ref A62, Value.ref A70, Value.int 0, Value.int 0, Value.int 0, Value.ref A78, Value.ref A79, Value.int 0, Value.int 16, Value.int 4, u0, Value.ref A80, Value.ref A81, Value.ref A82, Value.int 0, Value.ref A83, Value.int 0, Value.int 0, Value.int 0])) : Nat × va_E) ∧ ¬ p0 = 0 ∧ ¬ p0 = 1 ∧ ¬ p0 = 2 ∧ p0 = 3) ∨ (r = Sum.inl (some (Value.int 0)) ∧ gx_g ws ws' 0 [46] ∧ ws'[46]? = some ((A46, Sum.inr (8, [Value.int 0, Value.int 0, Value.ref A47, Value.ref A48, Value.ref A49, Value.int 0, Value.ref A50, Value.ref A51, Value.ref A52, Value.ref A53, Value.int 0, Value.int 0, Value.int 0, Value.int (-1), Value.int 0, Value.ref A54, Value.ref A62, Value.ref A70, Value.int 0, Value.int 0, Value.int 0, Value.ref A78, Value.ref A79, Value.int 0, Value.int 16, Value.int 4, u0, Value.ref A80, Value.ref A81, Value.ref A82, Value.int 0, Value.ref A83, Value.int 0, Value.int 0, Value.int 0])) : Nat × va_E) ∧ ¬ p0 = 0 ∧ ¬ p0 = 1 ∧ ¬ p0 = 2 ∧ ¬ p0 = 3 ∧ p0 = 4) ∨ (r = Sum.inl (some (Value.int 0)) ∧ gx_g ws ws' 0 [46] ∧ ws'[46]? = some ((A46, Sum.inr (8, [Value.int 0, Value.int 0, Value.ref A47, Value.ref A48, Value.ref A49, Value.int 0, Value.ref A50, Value.ref A51, Value.ref A52, Value.ref A53, Value.int 0, Value.int 0, Value.int 0, Value.int (-1), Value.int 0, Value.ref A54, Value.ref A62, Value.ref A70, Value.int 0, Value.int 0, Value.int 0, Value.ref A78, Value.ref A79, Value.int 0, Value.int 16, Value.int 4, u0, Value.ref A80, Value.ref A81, Value.ref A82, Value.int 0, Value.ref A83, Value.int 0, Value.int 0, Value.int 0])) : Nat × va_E) ∧ ¬ p0 = 0 ∧ ¬ p0 = 1 ∧ ¬ p0 = 2 ∧ ¬ p0 = 3 ∧ ¬ p0 = 4 ∧ p0 = 5) ∨ (r = Sum.inl (some (Value.int 0)) ∧ gx_g ws ws' 0 [46] ∧ ws'[46]? = some ((A46, Sum.inr (8, [Value.int 0, Value.int 0, Value.ref A47, Value.ref A48, Value.ref A49, Value.int 0, Value.ref A50, Value.ref A51, Value.ref A52, Value.ref A53, Value.int 0, Value.int 0, Value.int 0, Value.int (-1), Value.int 0, Value.ref A54, Value.ref A62, Value.ref A70, Value.int 0, Value.int 0, Value.int 0, Value.ref A78, Value.ref A79, Value.int 0, Value.int 16, Value.int 4, u0, Value.ref A80, Value.ref A81, Value.ref A82, Value.int 0, Value.ref A83, Value.int 0, Value.int 0, Value.int 0])) : Nat × va_E) ∧ ¬ p0 = 0 ∧ ¬ p0 = 1 ∧ ¬ p0 = 2 ∧ ¬ p0 = 3 ∧ ¬ p0 = 4 ∧ ¬ p0 = 5 ∧ p0 = 6) ∨ (r = Sum.inl (some (Value.int 0)) ∧ gx_g ws ws' 0 [46] ∧ ws'[46]? = some ((A46, Sum.inr (8, [Value.int 0, Value.int 0, Value.ref A47, Value.ref A48, Value.ref A49, Value.int 0, Value.ref A50, Value.ref A51, Value.ref A52, Value.ref A53, Value.int 0, Value.int 0, Value.int 0, Value.int (-1), Value.int 0, Value.ref A54, Value.ref A62, Value.ref A70, Value.int 0, Value.int 0, Value.int 0, Value.ref A78, Value.ref A79, Value.int 0, Value.int 16, Value.int 4, u0, Value.ref A80, Value.ref A81, Value.ref A82, Value.int 0, Value.ref A83, Value.int 0, Value.int 0, Value.int 0])) : Nat × va_E) ∧ ¬ p0 = 0 ∧ ¬ p0 = 1 ∧ ¬ p0 = 2 ∧ ¬ p0 = 3 ∧ ¬ p0 = 4 ∧ ¬ p0 = 5 ∧ ¬ p0 = 6 ∧ p0 = 7) ∨ (r = Sum.inl (some (Value.int 0)) ∧ gx_g ws ws' 0 [46] ∧ ws'[46]? = some ((A46, Sum.inr (8, [Value.int 0, Value.int 0, Value.ref A47, Value.ref A48, Value.ref A49, Value.int 0, Value.ref A50, Value.ref A51, Value.ref A52, Value.ref A53, Value.int 0, Value.int 0, Value.int 0, Value.int (-1), Value.int 0, Value.ref A54, Value.ref A62, Value.ref A70, Value.int 0, Value.int 0, Value.int 0, Value.ref A78, Value.ref A79, Value.int 0, Value.int 16, Value.int 4, u0, Value.ref A80, Value.ref A81, Value.ref A82, Value.int 0, Value.ref A83, Value.int 0, Value.int 0, Value.int 0])) : Nat × va_E) ∧ ¬ p0 = 0 ∧ ¬ p0 = 1 ∧ ¬ p0 = 2 ∧ ¬ p0 = 3 ∧ ¬ p0 = 4 ∧ ¬ p0 = 5 ∧ ¬ p0 = 6 ∧ ¬ p0 = 7 ∧ p0 = 8) ∨ (r = Sum.inl (some (Value.int 0)) ∧ gx_g ws ws' 0 [46] ∧ ws'[46]? = some ((A46, Sum.inr (8, [Value.int 0, Value.int 0, Value.ref A47, Value.ref A48, Value.ref A49, Value.int 0, Value.ref A50, Value.ref A51, Value.ref A52, Value.ref A53, Value.int 0, Value.int 0, Value.int 0, Value.int (-1), Value.int 0, Value.ref A54, Value.ref A62, Value.ref A70, Value.int 0, Value.int 0, Value.int 0, Value.ref A78, Value.ref A79, Value.int 0, Value.int 16, Value.int 4, u0, Value.ref A80, Value.ref A81, Value.ref A82, Value.int 0, Value.ref A83, Value.int 0, Value.int 0, Value.int 0])) : Nat × va_E) ∧ ¬ p0 = 0 ∧ ¬ p0 = 1 ∧ ¬ p0 = 2 ∧ ¬ p0 = 3 ∧ ¬ p0 = 4 ∧ ¬ p0 = 5 ∧ ¬ p0 = 6 ∧ ¬ p0 = 7 ∧ ¬ p0 = 8 ∧ p0 = 9) ∨ (r = Sum.inl (some (Value.int 0)) ∧ gx_g ws ws' 0 [46] ∧ ws'[46]? = some ((A46, Sum.inr (8, [Value.int 0, Value.int 0, Value.ref A47, Value.ref A48, Value.ref A49, Value.int 0, Value.ref A50, Value.ref A51, Value.ref A52, Value.ref A53, Value.int 0, Value.int 0, Value.int 0, Value.int (-1), Value.int 0, Value.ref A54, Value.ref A62, Value.ref A70, Value.int 0, Value.int 0, Value.int 0, Value.ref A78, Value.ref A79, Value.int 0, Value.int 16, Value.int 4, u0, Value.ref A80, Value.ref A81, Value.ref A82, Value.int 0, Value.ref A83, Value.int 0, Value.int 0, Value.int 0])) : Nat × va_E) ∧ ¬ p0 = 0 ∧ ¬ p0 = 1 ∧ ¬ p0 = 2 ∧ ¬ p0 = 3 ∧ ¬ p0 = 4 ∧ ¬ p0 = 5 ∧ ¬ p0 = 6 ∧ ¬ p0 = 7 ∧ ¬ p0 = 8 ∧ ¬ p0 = 9 ∧ p0 = 10) ∨ (r = Sum.inl (some (Value.int 0)) ∧ gx_g ws ws' 0 [46] ∧ ws'[46]? = some ((A46, Sum.inr (8, [Value.int 0, Value.int 0, Value.ref A47, Value.ref A48, Value.ref A49, Value.int 0, Value.ref A50, Value.ref A51, Value.ref A52, Value.ref A53, Value.int 0, Value.int 0, Value.int 0, Value.int (-1), Value.int 0, Value.ref A54, Value.ref A62, Value.ref A70, Value.int 0, Value.int 0, Value.int 0, Value.ref A78, Value.ref A79, Value.int 0, Value.int 16, Value.int 4, u0, Value.ref A80, Value.ref A81, Value.ref A82, Value.int 0, Value.ref A83, Value.int 0, Value.int 0, Value.int 0])) : Nat × va_E) ∧ ¬ p0 = 0 ∧ ¬ p0 = 1 ∧ ¬ p0 = 2 ∧ ¬ p0 = 3 ∧ ¬ p0 = 4 ∧ ¬ p0 = 5 ∧ ¬ p0 = 6 ∧ ¬ p0 = 7 ∧ ¬ p0 = 8 ∧ ¬ p0 = 9 ∧ ¬ p0 = 10 ∧ p0 = 11) ∨ (r = Sum.inl (some (Value.int (-1))) ∧ gx_g ws ws' 0 [46] ∧ ws'[46]? = some ((A46, Sum.inr (8, [Value.int 0, Value.int 0, Value.ref A47, Value.ref A48, Value.ref A49, Value.int 0, Value.ref A50, Value.ref A51, Value.ref A52, Value.ref A53, Value.int 0, Value.int 0, Value.int 0, Value.int (-1), Value.int 0, Value.ref A54, Value.ref A62, Value.ref A70, Value.int 0, Value.int 0, Value.int 0, Value.ref A78, Value.ref A79, Value.int 0, Value.int 16, Value.int 4, u0, Value.ref A80, Value.ref A81, Value.ref A82, Value.int 0, Value.ref A83, Value.int 0, Value.int 0, Value.int 0])) : Nat × va_E) ∧ ¬ p0 = 0 ∧ ¬ p0 = 1 ∧ ¬ p0 = 2 ∧ ¬ p0 = 3 ∧ ¬ p0 = 4 ∧ ¬ p0 = 5 ∧ ¬ p0 = 6 ∧ ¬ p0 = 7 ∧ ¬ p0 = 8 ∧ ¬ p0 = 9 ∧ ¬ p0 = 10 ∧ ¬ p0 = 11)) = PQ
  have hS : va_S A s.heap s.heap [] := va_S.rf
  have hU : gx_g ws ws 0 [46] := gx_g.rf
  have hl := lv_entry ([Value.ref A46, Value.int p0]) (n := 2) (Nat.le_of_ble_eq_true rfl)
  rw [lg_entry_eq]
  generalize (lg_sl ([Value.ref A46, Value.int p0]) ++ List.replicate (2 - (lg_sl ([Value.ref A46, Value.int p0])).length) Slot.unset).toArray = ls at hl ⊢
  have hl : lv_has ls 2 [(0, Value.ref A46), (1, Value.int p0)] := hl
  refine lv_aload_n hx hb d_Mo_count_0 rfl (lv_at hl 0 rfl) ?_
  refine lv_aload_n hx hb d_Mo_count_1 rfl (lv_at hl 0 rfl) ?_
  refine lv_iload_n hx hb d_Mo_count_2 rfl (lv_at hl 1 rfl) ?_
  refine gx_call (ig := .invokevirtual 263) (c_Mo_counted_v1 l htr D tys z _ ws cV A46 p0 A47 A48 A49 A50 A51 A52 A53 A54 A62 A70 A78 A79 (u0) A80 A81 A82 A83 A84 A85 A86 A87 A88 A89 A90 A91 A92 A93 A94 A95 A96 A97 A98 A99 A100 A101 A102 A103 A104 A105 A106 A107 A108 A109 A110 A111 A112 A113 A114 A115 f_46 f_84 f_92 f_100 f_108 f_83 ht5) (gx_invV (As := [Value.int p0]) (rest := [Value.ref A46]) hx hb hown hts km_Mo_263 kI_Mo_counted kV_Mo_counted kc_Mo_counted (by decide) (show (parseMethodDescriptor y_Mo_counted.desc).map (fun d => d.parameters.length) = some 1 by decide +kernel) (gx_recv (ci := 8) hK hP rfl f_46) rfl rfl d_Mo_count_3) (gx_cw (z := 0) hts kc_Mo_counted kN_Mo rfl rfl ⟨Nat.le_of_ble_eq_true rfl, Nat.le_of_ble_eq_true rfl⟩) hb hml gx_blind (gx_pre hz hP hK hD hY hS hAz [Value.ref A46, Value.int p0]) rfl hl.1 (lv_room (Nat.le_of_ble_eq_true rfl)) d_Mo_count_3 ⟨Nat.le_of_ble_eq_true rfl, Nat.le_of_ble_eq_true rfl⟩ (fun v1 st1 t1 L1 h0_1 hW_1 hQ_1 hL_1 => ?_) (fun v1 st1 t1 L1 h0_1 hW_1 hQ_1 hL_1 => ?_)
  · obtain ⟨ws2, hp, hP9, -, hD9, hS9⟩ := gx_back h0_1 hW_1 hQ_1 hL_1 hD hS hA
    clear hQ_1 h0_1 hL_1 hW_1 hP hD hS
    have hP := hP9
    have hD := hD9
    have hS := hS9
    clear hP9 hD9 hS9
    rcases hp with ⟨hv9, e_ws2, g1_0⟩ | ⟨hv9, e_ws2, g1_0, g1_1⟩ | ⟨hv9, e_ws2, g1_0, g1_1, g1_2⟩ | ⟨hv9, e_ws2, g1_0, g1_1, g1_2, g1_3⟩ | ⟨hv9, e_ws2, g1_0, g1_1, g1_2, g1_3, g1_4⟩ | ⟨hv9, e_ws2, g1_0, g1_1, g1_2, g1_3, g1_4, g1_5⟩ | ⟨hv9, e_ws2, g1_0, g1_1, g1_2, g1_3, g1_4, g1_5, g1_6⟩ | ⟨hv9, e_ws2, g1_0, g1_1, g1_2, g1_3, g1_4, g1_5, g1_6, g1_7⟩ | ⟨hv9, e_ws2, g1_0, g1_1, g1_2, g1_3, g1_4, g1_5, g1_6, g1_7, g1_8⟩ | ⟨hv9, e_ws2, g1_0, g1_1, g1_2, g1_3, g1_4, g1_5, g1_6, g1_7, g1_8, g1_9⟩ | ⟨hv9, e_ws2, g1_0, g1_1, g1_2, g1_3, g1_4, g1_5, g1_6, g1_7, g1_8, g1_9, g1_10⟩ | ⟨hv9, e_ws2, g1_0, g1_1, g1_2, g1_3, g1_4, g1_5, g1_6, g1_7, g1_8, g1_9, g1_10, g1_11⟩ | ⟨hv9, e_ws2, g1_0, g1_1, g1_2, g1_3, g1_4, g1_5, g1_6, g1_7, g1_8, g1_9, g1_10, g1_11⟩
    · cases hv9
      rw [e_ws2] at hP hD
      refine W.eq (g2 := F0 m 6 ls [Value.int 0, Value.ref A46]) rfl ?_
      generalize t1.heap = H at hP hS ⊢
      generalize [] ++ L1 = locs at hS ⊢
      refine lv_iconst (v := 0) hx hb d_Mo_count_6 (by decide) ?_
      refine gx_call (ig := .invokevirtual 148) (c_Mo_done_v23 l htr D tys z _ ws A46 A47 A48 A49 A50 A51 A52 A53 A54 A62 A70 A78 A79 (u0) A80 A81 A82 A83 f_46) (gx_invV (As := [Value.int 0, Value.int 0]) (rest := []) hx hb hown hts km_Mo_148 kI_Mo_done kV_Mo_done kc_Mo_done (by decide) (show (parseMethodDescriptor y_Mo_done.desc).map (fun d => d.parameters.length) = some 2 by decide +kernel) (gx_recv (ci := 8) hK hP rfl f_46) rfl rfl d_Mo_count_7) (gx_cw (z := 0) hts kc_Mo_done kN_Mo rfl rfl ⟨Nat.le_of_ble_eq_true rfl, Nat.le_of_ble_eq_true rfl⟩) hb hml gx_blind (gx_pre hz hP hK hD hY hS hAz [Value.ref A46, Value.int 0, Value.int 0]) rfl hl.1 (lv_room (Nat.le_of_ble_eq_true rfl)) d_Mo_count_7 ⟨Nat.le_of_ble_eq_true rfl, Nat.le_of_ble_eq_true rfl⟩ (fun v3 st3 t3 L3 h0_3 hW_3 hQ_3 hL_3 => ?_) (fun v3 st3 t3 L3 h0_3 hW_3 hQ_3 hL_3 => ?_)
      · obtain ⟨ws4, hp, hP9, -, hD9, hS9⟩ := gx_back h0_3 hW_3 hQ_3 hL_3 hD hS hA
        clear hQ_3 h0_3 hL_3 hW_3 hP hD hS
        have hP := hP9
        have hD := hD9
        have hS := hS9
        clear hP9 hD9 hS9
        rcases hp with ⟨hv9, e_ws4, f_46_ws4⟩
        cases hv9
        have f_46_ws4 : ws4[46]? = some ((A46, Sum.inr (8, [Value.int 0, Value.int 0, Value.ref A47, Value.ref A48, Value.ref A49, Value.int 0, Value.ref A50, Value.ref A51, Value.ref A52, Value.ref A53, Value.int 0, Value.int 0, Value.int 0, Value.int (-1), Value.int 0, Value.ref A54, Value.ref A62, Value.ref A70, Value.int 0, Value.int 0, Value.int 0, Value.ref A78, Value.ref A79, Value.int 0, Value.int 16, Value.int 4, u0, Value.ref A80, Value.ref A81, Value.ref A82, Value.int 0, Value.ref A83, Value.int 0, Value.int 0, Value.int 0])) : Nat × va_E) := f_46_ws4
        replace hU : gx_g ws ws4 0 [46] := hU.call e_ws4 (by simp; first | done | omega)
        refine W.eq (g2 := F0 m 10 ls [Value.int 0]) rfl ?_
        generalize t3.heap = H at hP hS ⊢
        generalize locs ++ L3 = locs at hS ⊢
        exact gx_ret (W.iret (v := 0) hx hb hr (gx_post hP hK hD hS (by rw [← hPQ]; exact Or.inl ⟨rfl, hU, f_46_ws4, g1_0⟩)) hS.2.2 d_Mo_count_10)
      · obtain ⟨E9, ws5, ce, hp, hce, hP9, -, hD9, hS9⟩ := gx_backT h0_3 hW_3 hQ_3 hL_3 hD hS hA
        clear hQ_3 h0_3 hL_3 hW_3 hP hD hS
        have hP := hP9
        have hD := hD9
        have hS := hS9
        clear hP9 hD9 hS9
        rcases hp with ⟨hv9, e_ws5, f_46_ws5⟩
        cases hv9
    · cases hv9
      rw [e_ws2] at hP hD
      refine W.eq (g2 := F0 m 6 ls [Value.int 0, Value.ref A46]) rfl ?_
      generalize t1.heap = H at hP hS ⊢
      generalize [] ++ L1 = locs at hS ⊢
      refine lv_iconst (v := 0) hx hb d_Mo_count_6 (by decide) ?_
      refine gx_call (ig := .invokevirtual 148) (c_Mo_done_v23 l htr D tys z _ ws A46 A47 A48 A49 A50 A51 A52 A53 A54 A62 A70 A78 A79 (u0) A80 A81 A82 A83 f_46) (gx_invV (As := [Value.int 0, Value.int 0]) (rest := []) hx hb hown hts km_Mo_148 kI_Mo_done kV_Mo_done kc_Mo_done (by decide) (show (parseMethodDescriptor y_Mo_done.desc).map (fun d => d.parameters.length) = some 2 by decide +kernel) (gx_recv (ci := 8) hK hP rfl f_46) rfl rfl d_Mo_count_7) (gx_cw (z := 0) hts kc_Mo_done kN_Mo rfl rfl ⟨Nat.le_of_ble_eq_true rfl, Nat.le_of_ble_eq_true rfl⟩) hb hml gx_blind (gx_pre hz hP hK hD hY hS hAz [Value.ref A46, Value.int 0, Value.int 0]) rfl hl.1 (lv_room (Nat.le_of_ble_eq_true rfl)) d_Mo_count_7 ⟨Nat.le_of_ble_eq_true rfl, Nat.le_of_ble_eq_true rfl⟩ (fun v6 st6 t6 L6 h0_6 hW_6 hQ_6 hL_6 => ?_) (fun v6 st6 t6 L6 h0_6 hW_6 hQ_6 hL_6 => ?_)
      · obtain ⟨ws7, hp, hP9, -, hD9, hS9⟩ := gx_back h0_6 hW_6 hQ_6 hL_6 hD hS hA
        clear hQ_6 h0_6 hL_6 hW_6 hP hD hS
        have hP := hP9
        have hD := hD9
        have hS := hS9
        clear hP9 hD9 hS9
        rcases hp with ⟨hv9, e_ws7, f_46_ws7⟩
        cases hv9
        have f_46_ws7 : ws7[46]? = some ((A46, Sum.inr (8, [Value.int 0, Value.int 0, Value.ref A47, Value.ref A48, Value.ref A49, Value.int 0, Value.ref A50, Value.ref A51, Value.ref A52, Value.ref A53, Value.int 0, Value.int 0, Value.int 0, Value.int (-1), Value.int 0, Value.ref A54, Value.ref A62, Value.ref A70, Value.int 0, Value.int 0, Value.int 0, Value.ref A78, Value.ref A79, Value.int 0, Value.int 16, Value.int 4, u0, Value.ref A80, Value.ref A81, Value.ref A82, Value.int 0, Value.ref A83, Value.int 0, Value.int 0, Value.int 0])) : Nat × va_E) := f_46_ws7
        replace hU : gx_g ws ws7 0 [46] := hU.call e_ws7 (by simp; first | done | omega)
        refine W.eq (g2 := F0 m 10 ls [Value.int 0]) rfl ?_
        generalize t6.heap = H at hP hS ⊢
        generalize locs ++ L6 = locs at hS ⊢
        exact gx_ret (W.iret (v := 0) hx hb hr (gx_post hP hK hD hS (by rw [← hPQ]; exact Or.inr (Or.inl ⟨rfl, hU, f_46_ws7, g1_0, g1_1⟩))) hS.2.2 d_Mo_count_10)
      · obtain ⟨E9, ws8, ce, hp, hce, hP9, -, hD9, hS9⟩ := gx_backT h0_6 hW_6 hQ_6 hL_6 hD hS hA
        clear hQ_6 h0_6 hL_6 hW_6 hP hD hS
        have hP := hP9
        have hD := hD9
        have hS := hS9
        clear hP9 hD9 hS9
        rcases hp with ⟨hv9, e_ws8, f_46_ws8⟩
        cases hv9
    · cases hv9
      rw [e_ws2] at hP hD
      refine W.eq (g2 := F0 m 6 ls [Value.int 0, Value.ref A46]) rfl ?_
      generalize t1.heap = H at hP hS ⊢
      generalize [] ++ L1 = locs at hS ⊢
      refine lv_iconst (v := 0) hx hb d_Mo_count_6 (by decide) ?_
      refine gx_call (ig := .invokevirtual 148) (c_Mo_done_v23 l htr D tys z _ ws A46 A47 A48 A49 A50 A51 A52 A53 A54 A62 A70 A78 A79 (u0) A80 A81 A82 A83 f_46) (gx_invV (As := [Value.int 0, Value.int 0]) (rest := []) hx hb hown hts km_Mo_148 kI_Mo_done kV_Mo_done kc_Mo_done (by decide) (show (parseMethodDescriptor y_Mo_done.desc).map (fun d => d.parameters.length) = some 2 by decide +kernel) (gx_recv (ci := 8) hK hP rfl f_46) rfl rfl d_Mo_count_7) (gx_cw (z := 0) hts kc_Mo_done kN_Mo rfl rfl ⟨Nat.le_of_ble_eq_true rfl, Nat.le_of_ble_eq_true rfl⟩) hb hml gx_blind (gx_pre hz hP hK hD hY hS hAz [Value.ref A46, Value.int 0, Value.int 0]) rfl hl.1 (lv_room (Nat.le_of_ble_eq_true rfl)) d_Mo_count_7 ⟨Nat.le_of_ble_eq_true rfl, Nat.le_of_ble_eq_true rfl⟩ (fun v9 st9 t9 L9 h0_9 hW_9 hQ_9 hL_9 => ?_) (fun v9 st9 t9 L9 h0_9 hW_9 hQ_9 hL_9 => ?_)
      · obtain ⟨ws10, hp, hP9, -, hD9, hS9⟩ := gx_back h0_9 hW_9 hQ_9 hL_9 hD hS hA
        clear hQ_9 h0_9 hL_9 hW_9 hP hD hS
        have hP := hP9
        have hD := hD9
        have hS := hS9
        clear hP9 hD9 hS9
        rcases hp with ⟨hv9, e_ws10, f_46_ws10⟩
        cases hv9
        have f_46_ws10 : ws10[46]? = some ((A46, Sum.inr (8, [Value.int 0, Value.int 0, Value.ref A47, Value.ref A48, Value.ref A49, Value.int 0, Value.ref A50, Value.ref A51, Value.ref A52, Value.ref A53, Value.int 0, Value.int 0, Value.int 0, Value.int (-1), Value.int 0, Value.ref A54, Value.ref A62, Value.ref A70, Value.int 0, Value.int 0, Value.int 0, Value.ref A78, Value.ref A79, Value.int 0, Value.int 16, Value.int 4, u0, Value.ref A80, Value.ref A81, Value.ref A82, Value.int 0, Value.ref A83, Value.int 0, Value.int 0, Value.int 0])) : Nat × va_E) := f_46_ws10
        replace hU : gx_g ws ws10 0 [46] := hU.call e_ws10 (by simp; first | done | omega)
        refine W.eq (g2 := F0 m 10 ls [Value.int 0]) rfl ?_
        generalize t9.heap = H at hP hS ⊢
        generalize locs ++ L9 = locs at hS ⊢
        exact gx_ret (W.iret (v := 0) hx hb hr (gx_post hP hK hD hS (by rw [← hPQ]; exact Or.inr (Or.inr (Or.inl ⟨rfl, hU, f_46_ws10, g1_0, g1_1, g1_2⟩)))) hS.2.2 d_Mo_count_10)
      · obtain ⟨E9, ws11, ce, hp, hce, hP9, -, hD9, hS9⟩ := gx_backT h0_9 hW_9 hQ_9 hL_9 hD hS hA
        clear hQ_9 h0_9 hL_9 hW_9 hP hD hS
        have hP := hP9
        have hD := hD9
        have hS := hS9
        clear hP9 hD9 hS9
        rcases hp with ⟨hv9, e_ws11, f_46_ws11⟩
        cases hv9
    · cases hv9
      rw [e_ws2] at hP hD
      refine W.eq (g2 := F0 m 6 ls [Value.int 0, Value.ref A46]) rfl ?_
      generalize t1.heap = H at hP hS ⊢
      generalize [] ++ L1 = locs at hS ⊢
      refine lv_iconst (v := 0) hx hb d_Mo_count_6 (by decide) ?_
      refine gx_call (ig := .invokevirtual 148) (c_Mo_done_v23 l htr D tys z _ ws A46 A47 A48 A49 A50 A51 A52 A53 A54 A62 A70 A78 A79 (u0) A80 A81 A82 A83 f_46) (gx_invV (As := [Value.int 0, Value.int 0]) (rest := []) hx hb hown hts km_Mo_148 kI_Mo_done kV_Mo_done kc_Mo_done (by decide) (show (parseMethodDescriptor y_Mo_done.desc).map (fun d => d.parameters.length) = some 2 by decide +kernel) (gx_recv (ci := 8) hK hP rfl f_46) rfl rfl d_Mo_count_7) (gx_cw (z := 0) hts kc_Mo_done kN_Mo rfl rfl ⟨Nat.le_of_ble_eq_true rfl, Nat.le_of_ble_eq_true rfl⟩) hb hml gx_blind (gx_pre hz hP hK hD hY hS hAz [Value.ref A46, Value.int 0, Value.int 0]) rfl hl.1 (lv_room (Nat.le_of_ble_eq_true rfl)) d_Mo_count_7 ⟨Nat.le_of_ble_eq_true rfl, Nat.le_of_ble_eq_true rfl⟩ (fun v12 st12 t12 L12 h0_12 hW_12 hQ_12 hL_12 => ?_) (fun v12 st12 t12 L12 h0_12 hW_12 hQ_12 hL_12 => ?_)
      · obtain ⟨ws13, hp, hP9, -, hD9, hS9⟩ := gx_back h0_12 hW_12 hQ_12 hL_12 hD hS hA
        clear hQ_12 h0_12 hL_12 hW_12 hP hD hS
        have hP := hP9
        have hD := hD9
        have hS := hS9
        clear hP9 hD9 hS9
        rcases hp with ⟨hv9, e_ws13, f_46_ws13⟩
        cases hv9
        have f_46_ws13 : ws13[46]? = some ((A46, Sum.inr (8, [Value.int 0, Value.int 0, Value.ref A47, Value.ref A48, Value.ref A49, Value.int 0, Value.ref A50, Value.ref A51, Value.ref A52, Value.ref A53, Value.int 0, Value.int 0, Value.int 0, Value.int (-1), Value.int 0, Value.ref A54, Value.ref A62, Value.ref A70, Value.int 0, Value.int 0, Value.int 0, Value.ref A78, Value.ref A79, Value.int 0, Value.int 16, Value.int 4, u0, Value.ref A80, Value.ref A81, Value.ref A82, Value.int 0, Value.ref A83, Value.int 0, Value.int 0, Value.int 0])) : Nat × va_E) := f_46_ws13
        replace hU : gx_g ws ws13 0 [46] := hU.call e_ws13 (by simp; first | done | omega)
        refine W.eq (g2 := F0 m 10 ls [Value.int 0]) rfl ?_
        generalize t12.heap = H at hP hS ⊢
        generalize locs ++ L12 = locs at hS ⊢
        exact gx_ret (W.iret (v := 0) hx hb hr (gx_post hP hK hD hS (by rw [← hPQ]; exact Or.inr (Or.inr (Or.inr (Or.inl ⟨rfl, hU, f_46_ws13, g1_0, g1_1, g1_2, g1_3⟩))))) hS.2.2 d_Mo_count_10)
      · obtain ⟨E9, ws14, ce, hp, hce, hP9, -, hD9, hS9⟩ := gx_backT h0_12 hW_12 hQ_12 hL_12 hD hS hA
        clear hQ_12 h0_12 hL_12 hW_12 hP hD hS
        have hP := hP9
        have hD := hD9
        have hS := hS9
        clear hP9 hD9 hS9
        rcases hp with ⟨hv9, e_ws14, f_46_ws14⟩
        cases hv9
    · cases hv9
      rw [e_ws2] at hP hD
      refine W.eq (g2 := F0 m 6 ls [Value.int 0, Value.ref A46]) rfl ?_
      generalize t1.heap = H at hP hS ⊢
      generalize [] ++ L1 = locs at hS ⊢
      refine lv_iconst (v := 0) hx hb d_Mo_count_6 (by decide) ?_
      refine gx_call (ig := .invokevirtual 148) (c_Mo_done_v23 l htr D tys z _ ws A46 A47 A48 A49 A50 A51 A52 A53 A54 A62 A70 A78 A79 (u0) A80 A81 A82 A83 f_46) (gx_invV (As := [Value.int 0, Value.int 0]) (rest := []) hx hb hown hts km_Mo_148 kI_Mo_done kV_Mo_done kc_Mo_done (by decide) (show (parseMethodDescriptor y_Mo_done.desc).map (fun d => d.parameters.length) = some 2 by decide +kernel) (gx_recv (ci := 8) hK hP rfl f_46) rfl rfl d_Mo_count_7) (gx_cw (z := 0) hts kc_Mo_done kN_Mo rfl rfl ⟨Nat.le_of_ble_eq_true rfl, Nat.le_of_ble_eq_true rfl⟩) hb hml gx_blind (gx_pre hz hP hK hD hY hS hAz [Value.ref A46, Value.int 0, Value.int 0]) rfl hl.1 (lv_room (Nat.le_of_ble_eq_true rfl)) d_Mo_count_7 ⟨Nat.le_of_ble_eq_true rfl, Nat.le_of_ble_eq_true rfl⟩ (fun v15 st15 t15 L15 h0_15 hW_15 hQ_15 hL_15 => ?_) (fun v15 st15 t15 L15 h0_15 hW_15 hQ_15 hL_15 => ?_)
      · obtain ⟨ws16, hp, hP9, -, hD9, hS9⟩ := gx_back h0_15 hW_15 hQ_15 hL_15 hD hS hA
        clear hQ_15 h0_15 hL_15 hW_15 hP hD hS
        have hP := hP9
        have hD := hD9
        have hS := hS9
        clear hP9 hD9 hS9
        rcases hp with ⟨hv9, e_ws16, f_46_ws16⟩
        cases hv9
        have f_46_ws16 : ws16[46]? = some ((A46, Sum.inr (8, [Value.int 0, Value.int 0, Value.ref A47, Value.ref A48, Value.ref A49, Value.int 0, Value.ref A50, Value.ref A51, Value.ref A52, Value.ref A53, Value.int 0, Value.int 0, Value.int 0, Value.int (-1), Value.int 0, Value.ref A54, Value.ref A62, Value.ref A70, Value.int 0, Value.int 0, Value.int 0, Value.ref A78, Value.ref A79, Value.int 0, Value.int 16, Value.int 4, u0, Value.ref A80, Value.ref A81, Value.ref A82, Value.int 0, Value.ref A83, Value.int 0, Value.int 0, Value.int 0])) : Nat × va_E) := f_46_ws16
        replace hU : gx_g ws ws16 0 [46] := hU.call e_ws16 (by simp; first | done | omega)
        refine W.eq (g2 := F0 m 10 ls [Value.int 0]) rfl ?_
        generalize t15.heap = H at hP hS ⊢
        generalize locs ++ L15 = locs at hS ⊢
        exact gx_ret (W.iret (v := 0) hx hb hr (gx_post hP hK hD hS (by rw [← hPQ]; exact Or.inr (Or.inr (Or.inr (Or.inr (Or.inl ⟨rfl, hU, f_46_ws16, g1_0, g1_1, g1_2, g1_3, g1_4⟩)))))) hS.2.2 d_Mo_count_10)
      · obtain ⟨E9, ws17, ce, hp, hce, hP9, -, hD9, hS9⟩ := gx_backT h0_15 hW_15 hQ_15 hL_15 hD hS hA
        clear hQ_15 h0_15 hL_15 hW_15 hP hD hS
        have hP := hP9
        have hD := hD9
        have hS := hS9
        clear hP9 hD9 hS9
        rcases hp with ⟨hv9, e_ws17, f_46_ws17⟩
        cases hv9
    · cases hv9
      rw [e_ws2] at hP hD
      refine W.eq (g2 := F0 m 6 ls [Value.int 0, Value.ref A46]) rfl ?_
      generalize t1.heap = H at hP hS ⊢
      generalize [] ++ L1 = locs at hS ⊢
      refine lv_iconst (v := 0) hx hb d_Mo_count_6 (by decide) ?_
      refine gx_call (ig := .invokevirtual 148) (c_Mo_done_v23 l htr D tys z _ ws A46 A47 A48 A49 A50 A51 A52 A53 A54 A62 A70 A78 A79 (u0) A80 A81 A82 A83 f_46) (gx_invV (As := [Value.int 0, Value.int 0]) (rest := []) hx hb hown hts km_Mo_148 kI_Mo_done kV_Mo_done kc_Mo_done (by decide) (show (parseMethodDescriptor y_Mo_done.desc).map (fun d => d.parameters.length) = some 2 by decide +kernel) (gx_recv (ci := 8) hK hP rfl f_46) rfl rfl d_Mo_count_7) (gx_cw (z := 0) hts kc_Mo_done kN_Mo rfl rfl ⟨Nat.le_of_ble_eq_true rfl, Nat.le_of_ble_eq_true rfl⟩) hb hml gx_blind (gx_pre hz hP hK hD hY hS hAz [Value.ref A46, Value.int 0, Value.int 0]) rfl hl.1 (lv_room (Nat.le_of_ble_eq_true rfl)) d_Mo_count_7 ⟨Nat.le_of_ble_eq_true rfl, Nat.le_of_ble_eq_true rfl⟩ (fun v18 st18 t18 L18 h0_18 hW_18 hQ_18 hL_18 => ?_) (fun v18 st18 t18 L18 h0_18 hW_18 hQ_18 hL_18 => ?_)
      · obtain ⟨ws19, hp, hP9, -, hD9, hS9⟩ := gx_back h0_18 hW_18 hQ_18 hL_18 hD hS hA
        clear hQ_18 h0_18 hL_18 hW_18 hP hD hS
        have hP := hP9
        have hD := hD9
        have hS := hS9
        clear hP9 hD9 hS9
        rcases hp with ⟨hv9, e_ws19, f_46_ws19⟩
        cases hv9
        have f_46_ws19 : ws19[46]? = some ((A46, Sum.inr (8, [Value.int 0, Value.int 0, Value.ref A47, Value.ref A48, Value.ref A49, Value.int 0, Value.ref A50, Value.ref A51, Value.ref A52, Value.ref A53, Value.int 0, Value.int 0, Value.int 0, Value.int (-1), Value.int 0, Value.ref A54, Value.ref A62, Value.ref A70, Value.int 0, Value.int 0, Value.int 0, Value.ref A78, Value.ref A79, Value.int 0, Value.int 16, Value.int 4, u0, Value.ref A80, Value.ref A81, Value.ref A82, Value.int 0, Value.ref A83, Value.int 0, Value.int 0, Value.int 0])) : Nat × va_E) := f_46_ws19
        replace hU : gx_g ws ws19 0 [46] := hU.call e_ws19 (by simp; first | done | omega)
        refine W.eq (g2 := F0 m 10 ls [Value.int 0]) rfl ?_
        generalize t18.heap = H at hP hS ⊢
        generalize locs ++ L18 = locs at hS ⊢
        exact gx_ret (W.iret (v := 0) hx hb hr (gx_post hP hK hD hS (by rw [← hPQ]; exact Or.inr (Or.inr (Or.inr (Or.inr (Or.inr (Or.inl ⟨rfl, hU, f_46_ws19, g1_0, g1_1, g1_2, g1_3, g1_4, g1_5⟩))))))) hS.2.2 d_Mo_count_10)
      · obtain ⟨E9, ws20, ce, hp, hce, hP9, -, hD9, hS9⟩ := gx_backT h0_18 hW_18 hQ_18 hL_18 hD hS hA
        clear hQ_18 h0_18 hL_18 hW_18 hP hD hS
        have hP := hP9
        have hD := hD9
        have hS := hS9
        clear hP9 hD9 hS9
        rcases hp with ⟨hv9, e_ws20, f_46_ws20⟩
        cases hv9
    · cases hv9
      rw [e_ws2] at hP hD
      refine W.eq (g2 := F0 m 6 ls [Value.int 0, Value.ref A46]) rfl ?_
      generalize t1.heap = H at hP hS ⊢
      generalize [] ++ L1 = locs at hS ⊢
      refine lv_iconst (v := 0) hx hb d_Mo_count_6 (by decide) ?_
      refine gx_call (ig := .invokevirtual 148) (c_Mo_done_v23 l htr D tys z _ ws A46 A47 A48 A49 A50 A51 A52 A53 A54 A62 A70 A78 A79 (u0) A80 A81 A82 A83 f_46) (gx_invV (As := [Value.int 0, Value.int 0]) (rest := []) hx hb hown hts km_Mo_148 kI_Mo_done kV_Mo_done kc_Mo_done (by decide) (show (parseMethodDescriptor y_Mo_done.desc).map (fun d => d.parameters.length) = some 2 by decide +kernel) (gx_recv (ci := 8) hK hP rfl f_46) rfl rfl d_Mo_count_7) (gx_cw (z := 0) hts kc_Mo_done kN_Mo rfl rfl ⟨Nat.le_of_ble_eq_true rfl, Nat.le_of_ble_eq_true rfl⟩) hb hml gx_blind (gx_pre hz hP hK hD hY hS hAz [Value.ref A46, Value.int 0, Value.int 0]) rfl hl.1 (lv_room (Nat.le_of_ble_eq_true rfl)) d_Mo_count_7 ⟨Nat.le_of_ble_eq_true rfl, Nat.le_of_ble_eq_true rfl⟩ (fun v21 st21 t21 L21 h0_21 hW_21 hQ_21 hL_21 => ?_) (fun v21 st21 t21 L21 h0_21 hW_21 hQ_21 hL_21 => ?_)
      · obtain ⟨ws22, hp, hP9, -, hD9, hS9⟩ := gx_back h0_21 hW_21 hQ_21 hL_21 hD hS hA
        clear hQ_21 h0_21 hL_21 hW_21 hP hD hS
        have hP := hP9
        have hD := hD9
        have hS := hS9
        clear hP9 hD9 hS9
        rcases hp with ⟨hv9, e_ws22, f_46_ws22⟩
        cases hv9
        have f_46_ws22 : ws22[46]? = some ((A46, Sum.inr (8, [Value.int 0, Value.int 0, Value.ref A47, Value.ref A48, Value.ref A49, Value.int 0, Value.ref A50, Value.ref A51, Value.ref A52, Value.ref A53, Value.int 0, Value.int 0, Value.int 0, Value.int (-1), Value.int 0, Value.ref A54, Value.ref A62, Value.ref A70, Value.int 0, Value.int 0, Value.int 0, Value.ref A78, Value.ref A79, Value.int 0, Value.int 16, Value.int 4, u0, Value.ref A80, Value.ref A81, Value.ref A82, Value.int 0, Value.ref A83, Value.int 0, Value.int 0, Value.int 0])) : Nat × va_E) := f_46_ws22
        replace hU : gx_g ws ws22 0 [46] := hU.call e_ws22 (by simp; first | done | omega)
        refine W.eq (g2 := F0 m 10 ls [Value.int 0]) rfl ?_
        generalize t21.heap = H at hP hS ⊢
        generalize locs ++ L21 = locs at hS ⊢
        exact gx_ret (W.iret (v := 0) hx hb hr (gx_post hP hK hD hS (by rw [← hPQ]; exact Or.inr (Or.inr (Or.inr (Or.inr (Or.inr (Or.inr (Or.inl ⟨rfl, hU, f_46_ws22, g1_0, g1_1, g1_2, g1_3, g1_4, g1_5, g1_6⟩)))))))) hS.2.2 d_Mo_count_10)
      · obtain ⟨E9, ws23, ce, hp, hce, hP9, -, hD9, hS9⟩ := gx_backT h0_21 hW_21 hQ_21 hL_21 hD hS hA
        clear hQ_21 h0_21 hL_21 hW_21 hP hD hS
        have hP := hP9
        have hD := hD9
        have hS := hS9
        clear hP9 hD9 hS9
        rcases hp with ⟨hv9, e_ws23, f_46_ws23⟩
        cases hv9
    · cases hv9
      rw [e_ws2] at hP hD
      refine W.eq (g2 := F0 m 6 ls [Value.int 0, Value.ref A46]) rfl ?_
      generalize t1.heap = H at hP hS ⊢
      generalize [] ++ L1 = locs at hS ⊢
      refine lv_iconst (v := 0) hx hb d_Mo_count_6 (by decide) ?_
      refine gx_call (ig := .invokevirtual 148) (c_Mo_done_v23 l htr D tys z _ ws A46 A47 A48 A49 A50 A51 A52 A53 A54 A62 A70 A78 A79 (u0) A80 A81 A82 A83 f_46) (gx_invV (As := [Value.int 0, Value.int 0]) (rest := []) hx hb hown hts km_Mo_148 kI_Mo_done kV_Mo_done kc_Mo_done (by decide) (show (parseMethodDescriptor y_Mo_done.desc).map (fun d => d.parameters.length) = some 2 by decide +kernel) (gx_recv (ci := 8) hK hP rfl f_46) rfl rfl d_Mo_count_7) (gx_cw (z := 0) hts kc_Mo_done kN_Mo rfl rfl ⟨Nat.le_of_ble_eq_true rfl, Nat.le_of_ble_eq_true rfl⟩) hb hml gx_blind (gx_pre hz hP hK hD hY hS hAz [Value.ref A46, Value.int 0, Value.int 0]) rfl hl.1 (lv_room (Nat.le_of_ble_eq_true rfl)) d_Mo_count_7 ⟨Nat.le_of_ble_eq_true rfl, Nat.le_of_ble_eq_true rfl⟩ (fun v24 st24 t24 L24 h0_24 hW_24 hQ_24 hL_24 => ?_) (fun v24 st24 t24 L24 h0_24 hW_24 hQ_24 hL_24 => ?_)
      · obtain ⟨ws25, hp, hP9, -, hD9, hS9⟩ := gx_back h0_24 hW_24 hQ_24 hL_24 hD hS hA
        clear hQ_24 h0_24 hL_24 hW_24 hP hD hS
        have hP := hP9
        have hD := hD9
        have hS := hS9
        clear hP9 hD9 hS9
        rcases hp with ⟨hv9, e_ws25, f_46_ws25⟩
        cases hv9
        have f_46_ws25 : ws25[46]? = some ((A46, Sum.inr (8, [Value.int 0, Value.int 0, Value.ref A47, Value.ref A48, Value.ref A49, Value.int 0, Value.ref A50, Value.ref A51, Value.ref A52, Value.ref A53, Value.int 0, Value.int 0, Value.int 0, Value.int (-1), Value.int 0, Value.ref A54, Value.ref A62, Value.ref A70, Value.int 0, Value.int 0, Value.int 0, Value.ref A78, Value.ref A79, Value.int 0, Value.int 16, Value.int 4, u0, Value.ref A80, Value.ref A81, Value.ref A82, Value.int 0, Value.ref A83, Value.int 0, Value.int 0, Value.int 0])) : Nat × va_E) := f_46_ws25
        replace hU : gx_g ws ws25 0 [46] := hU.call e_ws25 (by simp; first | done | omega)
        refine W.eq (g2 := F0 m 10 ls [Value.int 0]) rfl ?_
        generalize t24.heap = H at hP hS ⊢
        generalize locs ++ L24 = locs at hS ⊢
        exact gx_ret (W.iret (v := 0) hx hb hr (gx_post hP hK hD hS (by rw [← hPQ]; exact Or.inr (Or.inr (Or.inr (Or.inr (Or.inr (Or.inr (Or.inr (Or.inl ⟨rfl, hU, f_46_ws25, g1_0, g1_1, g1_2, g1_3, g1_4, g1_5, g1_6, g1_7⟩))))))))) hS.2.2 d_Mo_count_10)
      · obtain ⟨E9, ws26, ce, hp, hce, hP9, -, hD9, hS9⟩ := gx_backT h0_24 hW_24 hQ_24 hL_24 hD hS hA
        clear hQ_24 h0_24 hL_24 hW_24 hP hD hS
        have hP := hP9
        have hD := hD9
        have hS := hS9
        clear hP9 hD9 hS9
        rcases hp with ⟨hv9, e_ws26, f_46_ws26⟩
        cases hv9
    · cases hv9
      rw [e_ws2] at hP hD
      refine W.eq (g2 := F0 m 6 ls [Value.int 0, Value.ref A46]) rfl ?_
      generalize t1.heap = H at hP hS ⊢
      generalize [] ++ L1 = locs at hS ⊢
      refine lv_iconst (v := 0) hx hb d_Mo_count_6 (by decide) ?_
      refine gx_call (ig := .invokevirtual 148) (c_Mo_done_v23 l htr D tys z _ ws A46 A47 A48 A49 A50 A51 A52 A53 A54 A62 A70 A78 A79 (u0) A80 A81 A82 A83 f_46) (gx_invV (As := [Value.int 0, Value.int 0]) (rest := []) hx hb hown hts km_Mo_148 kI_Mo_done kV_Mo_done kc_Mo_done (by decide) (show (parseMethodDescriptor y_Mo_done.desc).map (fun d => d.parameters.length) = some 2 by decide +kernel) (gx_recv (ci := 8) hK hP rfl f_46) rfl rfl d_Mo_count_7) (gx_cw (z := 0) hts kc_Mo_done kN_Mo rfl rfl ⟨Nat.le_of_ble_eq_true rfl, Nat.le_of_ble_eq_true rfl⟩) hb hml gx_blind (gx_pre hz hP hK hD hY hS hAz [Value.ref A46, Value.int 0, Value.int 0]) rfl hl.1 (lv_room (Nat.le_of_ble_eq_true rfl)) d_Mo_count_7 ⟨Nat.le_of_ble_eq_true rfl, Nat.le_of_ble_eq_true rfl⟩ (fun v27 st27 t27 L27 h0_27 hW_27 hQ_27 hL_27 => ?_) (fun v27 st27 t27 L27 h0_27 hW_27 hQ_27 hL_27 => ?_)
      · obtain ⟨ws28, hp, hP9, -, hD9, hS9⟩ := gx_back h0_27 hW_27 hQ_27 hL_27 hD hS hA
        clear hQ_27 h0_27 hL_27 hW_27 hP hD hS
        have hP := hP9
        have hD := hD9
        have hS := hS9
        clear hP9 hD9 hS9
        rcases hp with ⟨hv9, e_ws28, f_46_ws28⟩
        cases hv9
        have f_46_ws28 : ws28[46]? = some ((A46, Sum.inr (8, [Value.int 0, Value.int 0, Value.ref A47, Value.ref A48, Value.ref A49, Value.int 0, Value.ref A50, Value.ref A51, Value.ref A52, Value.ref A53, Value.int 0, Value.int 0, Value.int 0, Value.int (-1), Value.int 0, Value.ref A54, Value.ref A62, Value.ref A70, Value.int 0, Value.int 0, Value.int 0, Value.ref A78, Value.ref A79, Value.int 0, Value.int 16, Value.int 4, u0, Value.ref A80, Value.ref A81, Value.ref A82, Value.int 0, Value.ref A83, Value.int 0, Value.int 0, Value.int 0])) : Nat × va_E) := f_46_ws28
        replace hU : gx_g ws ws28 0 [46] := hU.call e_ws28 (by simp; first | done | omega)
        refine W.eq (g2 := F0 m 10 ls [Value.int 0]) rfl ?_
        generalize t27.heap = H at hP hS ⊢
        generalize locs ++ L27 = locs at hS ⊢
        exact gx_ret (W.iret (v := 0) hx hb hr (gx_post hP hK hD hS (by rw [← hPQ]; exact Or.inr (Or.inr (Or.inr (Or.inr (Or.inr (Or.inr (Or.inr (Or.inr (Or.inl ⟨rfl, hU, f_46_ws28, g1_0, g1_1, g1_2, g1_3, g1_4, g1_5, g1_6, g1_7, g1_8⟩)))))))))) hS.2.2 d_Mo_count_10)
      · obtain ⟨E9, ws29, ce, hp, hce, hP9, -, hD9, hS9⟩ := gx_backT h0_27 hW_27 hQ_27 hL_27 hD hS hA
        clear hQ_27 h0_27 hL_27 hW_27 hP hD hS
        have hP := hP9
        have hD := hD9
        have hS := hS9
        clear hP9 hD9 hS9
        rcases hp with ⟨hv9, e_ws29, f_46_ws29⟩
        cases hv9
    · cases hv9
      rw [e_ws2] at hP hD
      refine W.eq (g2 := F0 m 6 ls [Value.int 0, Value.ref A46]) rfl ?_
      generalize t1.heap = H at hP hS ⊢
      generalize [] ++ L1 = locs at hS ⊢
      refine lv_iconst (v := 0) hx hb d_Mo_count_6 (by decide) ?_
      refine gx_call (ig := .invokevirtual 148) (c_Mo_done_v23 l htr D tys z _ ws A46 A47 A48 A49 A50 A51 A52 A53 A54 A62 A70 A78 A79 (u0) A80 A81 A82 A83 f_46) (gx_invV (As := [Value.int 0, Value.int 0]) (rest := []) hx hb hown hts km_Mo_148 kI_Mo_done kV_Mo_done kc_Mo_done (by decide) (show (parseMethodDescriptor y_Mo_done.desc).map (fun d => d.parameters.length) = some 2 by decide +kernel) (gx_recv (ci := 8) hK hP rfl f_46) rfl rfl d_Mo_count_7) (gx_cw (z := 0) hts kc_Mo_done kN_Mo rfl rfl ⟨Nat.le_of_ble_eq_true rfl, Nat.le_of_ble_eq_true rfl⟩) hb hml gx_blind (gx_pre hz hP hK hD hY hS hAz [Value.ref A46, Value.int 0, Value.int 0]) rfl hl.1 (lv_room (Nat.le_of_ble_eq_true rfl)) d_Mo_count_7 ⟨Nat.le_of_ble_eq_true rfl, Nat.le_of_ble_eq_true rfl⟩ (fun v30 st30 t30 L30 h0_30 hW_30 hQ_30 hL_30 => ?_) (fun v30 st30 t30 L30 h0_30 hW_30 hQ_30 hL_30 => ?_)
      · obtain ⟨ws31, hp, hP9, -, hD9, hS9⟩ := gx_back h0_30 hW_30 hQ_30 hL_30 hD hS hA
        clear hQ_30 h0_30 hL_30 hW_30 hP hD hS
        have hP := hP9
        have hD := hD9
        have hS := hS9
        clear hP9 hD9 hS9
        rcases hp with ⟨hv9, e_ws31, f_46_ws31⟩
        cases hv9
        have f_46_ws31 : ws31[46]? = some ((A46, Sum.inr (8, [Value.int 0, Value.int 0, Value.ref A47, Value.ref A48, Value.ref A49, Value.int 0, Value.ref A50, Value.ref A51, Value.ref A52, Value.ref A53, Value.int 0, Value.int 0, Value.int 0, Value.int (-1), Value.int 0, Value.ref A54, Value.ref A62, Value.ref A70, Value.int 0, Value.int 0, Value.int 0, Value.ref A78, Value.ref A79, Value.int 0, Value.int 16, Value.int 4, u0, Value.ref A80, Value.ref A81, Value.ref A82, Value.int 0, Value.ref A83, Value.int 0, Value.int 0, Value.int 0])) : Nat × va_E) := f_46_ws31
        replace hU : gx_g ws ws31 0 [46] := hU.call e_ws31 (by simp; first | done | omega)
        refine W.eq (g2 := F0 m 10 ls [Value.int 0]) rfl ?_
        generalize t30.heap = H at hP hS ⊢
        generalize locs ++ L30 = locs at hS ⊢
        exact gx_ret (W.iret (v := 0) hx hb hr (gx_post hP hK hD hS (by rw [← hPQ]; exact Or.inr (Or.inr (Or.inr (Or.inr (Or.inr (Or.inr (Or.inr (Or.inr (Or.inr (Or.inl ⟨rfl, hU, f_46_ws31, g1_0, g1_1, g1_2, g1_3, g1_4, g1_5, g1_6, g1_7, g1_8, g1_9⟩))))))))))) hS.2.2 d_Mo_count_10)
      · obtain ⟨E9, ws32, ce, hp, hce, hP9, -, hD9, hS9⟩ := gx_backT h0_30 hW_30 hQ_30 hL_30 hD hS hA
        clear hQ_30 h0_30 hL_30 hW_30 hP hD hS
        have hP := hP9
        have hD := hD9
        have hS := hS9
        clear hP9 hD9 hS9
        rcases hp with ⟨hv9, e_ws32, f_46_ws32⟩
        cases hv9
    · cases hv9
      rw [e_ws2] at hP hD
      refine W.eq (g2 := F0 m 6 ls [Value.int 0, Value.ref A46]) rfl ?_
      generalize t1.heap = H at hP hS ⊢
      generalize [] ++ L1 = locs at hS ⊢
      refine lv_iconst (v := 0) hx hb d_Mo_count_6 (by decide) ?_
      refine gx_call (ig := .invokevirtual 148) (c_Mo_done_v23 l htr D tys z _ ws A46 A47 A48 A49 A50 A51 A52 A53 A54 A62 A70 A78 A79 (u0) A80 A81 A82 A83 f_46) (gx_invV (As := [Value.int 0, Value.int 0]) (rest := []) hx hb hown hts km_Mo_148 kI_Mo_done kV_Mo_done kc_Mo_done (by decide) (show (parseMethodDescriptor y_Mo_done.desc).map (fun d => d.parameters.length) = some 2 by decide +kernel) (gx_recv (ci := 8) hK hP rfl f_46) rfl rfl d_Mo_count_7) (gx_cw (z := 0) hts kc_Mo_done kN_Mo rfl rfl ⟨Nat.le_of_ble_eq_true rfl, Nat.le_of_ble_eq_true rfl⟩) hb hml gx_blind (gx_pre hz hP hK hD hY hS hAz [Value.ref A46, Value.int 0, Value.int 0]) rfl hl.1 (lv_room (Nat.le_of_ble_eq_true rfl)) d_Mo_count_7 ⟨Nat.le_of_ble_eq_true rfl, Nat.le_of_ble_eq_true rfl⟩ (fun v33 st33 t33 L33 h0_33 hW_33 hQ_33 hL_33 => ?_) (fun v33 st33 t33 L33 h0_33 hW_33 hQ_33 hL_33 => ?_)
      · obtain ⟨ws34, hp, hP9, -, hD9, hS9⟩ := gx_back h0_33 hW_33 hQ_33 hL_33 hD hS hA
        clear hQ_33 h0_33 hL_33 hW_33 hP hD hS
        have hP := hP9
        have hD := hD9
        have hS := hS9
        clear hP9 hD9 hS9
        rcases hp with ⟨hv9, e_ws34, f_46_ws34⟩
        cases hv9
        have f_46_ws34 : ws34[46]? = some ((A46, Sum.inr (8, [Value.int 0, Value.int 0, Value.ref A47, Value.ref A48, Value.ref A49, Value.int 0, Value.ref A50, Value.ref A51, Value.ref A52, Value.ref A53, Value.int 0, Value.int 0, Value.int 0, Value.int (-1), Value.int 0, Value.ref A54, Value.ref A62, Value.ref A70, Value.int 0, Value.int 0, Value.int 0, Value.ref A78, Value.ref A79, Value.int 0, Value.int 16, Value.int 4, u0, Value.ref A80, Value.ref A81, Value.ref A82, Value.int 0, Value.ref A83, Value.int 0, Value.int 0, Value.int 0])) : Nat × va_E) := f_46_ws34
        replace hU : gx_g ws ws34 0 [46] := hU.call e_ws34 (by simp; first | done | omega)
        refine W.eq (g2 := F0 m 10 ls [Value.int 0]) rfl ?_
        generalize t33.heap = H at hP hS ⊢
        generalize locs ++ L33 = locs at hS ⊢
        exact gx_ret (W.iret (v := 0) hx hb hr (gx_post hP hK hD hS (by rw [← hPQ]; exact Or.inr (Or.inr (Or.inr (Or.inr (Or.inr (Or.inr (Or.inr (Or.inr (Or.inr (Or.inr (Or.inl ⟨rfl, hU, f_46_ws34, g1_0, g1_1, g1_2, g1_3, g1_4, g1_5, g1_6, g1_7, g1_8, g1_9, g1_10⟩)))))))))))) hS.2.2 d_Mo_count_10)
      · obtain ⟨E9, ws35, ce, hp, hce, hP9, -, hD9, hS9⟩ := gx_backT h0_33 hW_33 hQ_33 hL_33 hD hS hA
        clear hQ_33 h0_33 hL_33 hW_33 hP hD hS
        have hP := hP9
        have hD := hD9
        have hS := hS9
        clear hP9 hD9 hS9
        rcases hp with ⟨hv9, e_ws35, f_46_ws35⟩
        cases hv9
    · cases hv9
      rw [e_ws2] at hP hD
      refine W.eq (g2 := F0 m 6 ls [Value.int 0, Value.ref A46]) rfl ?_
      generalize t1.heap = H at hP hS ⊢
      generalize [] ++ L1 = locs at hS ⊢
      refine lv_iconst (v := 0) hx hb d_Mo_count_6 (by decide) ?_
      refine gx_call (ig := .invokevirtual 148) (c_Mo_done_v23 l htr D tys z _ ws A46 A47 A48 A49 A50 A51 A52 A53 A54 A62 A70 A78 A79 (u0) A80 A81 A82 A83 f_46) (gx_invV (As := [Value.int 0, Value.int 0]) (rest := []) hx hb hown hts km_Mo_148 kI_Mo_done kV_Mo_done kc_Mo_done (by decide) (show (parseMethodDescriptor y_Mo_done.desc).map (fun d => d.parameters.length) = some 2 by decide +kernel) (gx_recv (ci := 8) hK hP rfl f_46) rfl rfl d_Mo_count_7) (gx_cw (z := 0) hts kc_Mo_done kN_Mo rfl rfl ⟨Nat.le_of_ble_eq_true rfl, Nat.le_of_ble_eq_true rfl⟩) hb hml gx_blind (gx_pre hz hP hK hD hY hS hAz [Value.ref A46, Value.int 0, Value.int 0]) rfl hl.1 (lv_room (Nat.le_of_ble_eq_true rfl)) d_Mo_count_7 ⟨Nat.le_of_ble_eq_true rfl, Nat.le_of_ble_eq_true rfl⟩ (fun v36 st36 t36 L36 h0_36 hW_36 hQ_36 hL_36 => ?_) (fun v36 st36 t36 L36 h0_36 hW_36 hQ_36 hL_36 => ?_)
      · obtain ⟨ws37, hp, hP9, -, hD9, hS9⟩ := gx_back h0_36 hW_36 hQ_36 hL_36 hD hS hA
        clear hQ_36 h0_36 hL_36 hW_36 hP hD hS
        have hP := hP9
        have hD := hD9
        have hS := hS9
        clear hP9 hD9 hS9
        rcases hp with ⟨hv9, e_ws37, f_46_ws37⟩
        cases hv9
        have f_46_ws37 : ws37[46]? = some ((A46, Sum.inr (8, [Value.int 0, Value.int 0, Value.ref A47, Value.ref A48, Value.ref A49, Value.int 0, Value.ref A50, Value.ref A51, Value.ref A52, Value.ref A53, Value.int 0, Value.int 0, Value.int 0, Value.int (-1), Value.int 0, Value.ref A54, Value.ref A62, Value.ref A70, Value.int 0, Value.int 0, Value.int 0, Value.ref A78, Value.ref A79, Value.int 0, Value.int 16, Value.int 4, u0, Value.ref A80, Value.ref A81, Value.ref A82, Value.int 0, Value.ref A83, Value.int 0, Value.int 0, Value.int 0])) : Nat × va_E) := f_46_ws37
        replace hU : gx_g ws ws37 0 [46] := hU.call e_ws37 (by simp; first | done | omega)
        refine W.eq (g2 := F0 m 10 ls [Value.int 0]) rfl ?_
        generalize t36.heap = H at hP hS ⊢
        generalize locs ++ L36 = locs at hS ⊢
        exact gx_ret (W.iret (v := 0) hx hb hr (gx_post hP hK hD hS (by rw [← hPQ]; exact Or.inr (Or.inr (Or.inr (Or.inr (Or.inr (Or.inr (Or.inr (Or.inr (Or.inr (Or.inr (Or.inr (Or.inl ⟨rfl, hU, f_46_ws37, g1_0, g1_1, g1_2, g1_3, g1_4, g1_5, g1_6, g1_7, g1_8, g1_9, g1_10, g1_11⟩))))))))))))) hS.2.2 d_Mo_count_10)
      · obtain ⟨E9, ws38, ce, hp, hce, hP9, -, hD9, hS9⟩ := gx_backT h0_36 hW_36 hQ_36 hL_36 hD hS hA
        clear hQ_36 h0_36 hL_36 hW_36 hP hD hS
        have hP := hP9
        have hD := hD9
        have hS := hS9
        clear hP9 hD9 hS9
        rcases hp with ⟨hv9, e_ws38, f_46_ws38⟩
        cases hv9
    · cases hv9
      rw [e_ws2] at hP hD
      refine W.eq (g2 := F0 m 6 ls [Value.int (-1), Value.ref A46]) rfl ?_
      generalize t1.heap = H at hP hS ⊢
      generalize [] ++ L1 = locs at hS ⊢
      refine lv_iconst (v := 0) hx hb d_Mo_count_6 (by decide) ?_
      refine gx_call (ig := .invokevirtual 148) (c_Mo_done_v24 l htr D tys z _ ws A46 A47 A48 A49 A50 A51 A52 A53 A54 A62 A70 A78 A79 (u0) A80 A81 A82 A83 f_46) (gx_invV (As := [Value.int (-1), Value.int 0]) (rest := []) hx hb hown hts km_Mo_148 kI_Mo_done kV_Mo_done kc_Mo_done (by decide) (show (parseMethodDescriptor y_Mo_done.desc).map (fun d => d.parameters.length) = some 2 by decide +kernel) (gx_recv (ci := 8) hK hP rfl f_46) rfl rfl d_Mo_count_7) (gx_cw (z := 0) hts kc_Mo_done kN_Mo rfl rfl ⟨Nat.le_of_ble_eq_true rfl, Nat.le_of_ble_eq_true rfl⟩) hb hml gx_blind (gx_pre hz hP hK hD hY hS hAz [Value.ref A46, Value.int (-1), Value.int 0]) rfl hl.1 (lv_room (Nat.le_of_ble_eq_true rfl)) d_Mo_count_7 ⟨Nat.le_of_ble_eq_true rfl, Nat.le_of_ble_eq_true rfl⟩ (fun v39 st39 t39 L39 h0_39 hW_39 hQ_39 hL_39 => ?_) (fun v39 st39 t39 L39 h0_39 hW_39 hQ_39 hL_39 => ?_)
      · obtain ⟨ws40, hp, hP9, -, hD9, hS9⟩ := gx_back h0_39 hW_39 hQ_39 hL_39 hD hS hA
        clear hQ_39 h0_39 hL_39 hW_39 hP hD hS
        have hP := hP9
        have hD := hD9
        have hS := hS9
        clear hP9 hD9 hS9
        rcases hp with ⟨hv9, e_ws40, f_46_ws40⟩
        cases hv9
        have f_46_ws40 : ws40[46]? = some ((A46, Sum.inr (8, [Value.int 0, Value.int 0, Value.ref A47, Value.ref A48, Value.ref A49, Value.int 0, Value.ref A50, Value.ref A51, Value.ref A52, Value.ref A53, Value.int 0, Value.int 0, Value.int 0, Value.int (-1), Value.int 0, Value.ref A54, Value.ref A62, Value.ref A70, Value.int 0, Value.int 0, Value.int 0, Value.ref A78, Value.ref A79, Value.int 0, Value.int 16, Value.int 4, u0, Value.ref A80, Value.ref A81, Value.ref A82, Value.int 0, Value.ref A83, Value.int 0, Value.int 0, Value.int 0])) : Nat × va_E) := f_46_ws40
        replace hU : gx_g ws ws40 0 [46] := hU.call e_ws40 (by simp; first | done | omega)
        refine W.eq (g2 := F0 m 10 ls [Value.int (-1)]) rfl ?_
        generalize t39.heap = H at hP hS ⊢
        generalize locs ++ L39 = locs at hS ⊢
        exact gx_ret (W.iret (v := (-1)) hx hb hr (gx_post hP hK hD hS (by rw [← hPQ]; exact Or.inr (Or.inr (Or.inr (Or.inr (Or.inr (Or.inr (Or.inr (Or.inr (Or.inr (Or.inr (Or.inr (Or.inr (⟨rfl, hU, f_46_ws40, g1_0, g1_1, g1_2, g1_3, g1_4, g1_5, g1_6, g1_7, g1_8, g1_9, g1_10, g1_11⟩)))))))))))))) hS.2.2 d_Mo_count_10)
      · obtain ⟨E9, ws41, ce, hp, hce, hP9, -, hD9, hS9⟩ := gx_backT h0_39 hW_39 hQ_39 hL_39 hD hS hA
        clear hQ_39 h0_39 hL_39 hW_39 hP hD hS
        have hP := hP9
        have hD := hD9
        have hS := hS9
        clear hP9 hD9 hS9
        rcases hp with ⟨hv9, e_ws41, f_46_ws41⟩
        cases hv9
  · obtain ⟨E9, ws42, ce, hp, hce, hP9, -, hD9, hS9⟩ := gx_backT h0_1 hW_1 hQ_1 hL_1 hD hS hA
    clear hQ_1 h0_1 hL_1 hW_1 hP hD hS
    have hP := hP9
    have hD := hD9
    have hS := hS9
    clear hP9 hD9 hS9
    rcases hp with ⟨hv9, e_ws42, g1_0⟩ | ⟨hv9, e_ws42, g1_0, g1_1⟩ | ⟨hv9, e_ws42, g1_0, g1_1, g1_2⟩ | ⟨hv9, e_ws42, g1_0, g1_1, g1_2, g1_3⟩ | ⟨hv9, e_ws42, g1_0, g1_1, g1_2, g1_3, g1_4⟩ | ⟨hv9, e_ws42, g1_0, g1_1, g1_2, g1_3, g1_4, g1_5⟩ | ⟨hv9, e_ws42, g1_0, g1_1, g1_2, g1_3, g1_4, g1_5, g1_6⟩ | ⟨hv9, e_ws42, g1_0, g1_1, g1_2, g1_3, g1_4, g1_5, g1_6, g1_7⟩ | ⟨hv9, e_ws42, g1_0, g1_1, g1_2, g1_3, g1_4, g1_5, g1_6, g1_7, g1_8⟩ | ⟨hv9, e_ws42, g1_0, g1_1, g1_2, g1_3, g1_4, g1_5, g1_6, g1_7, g1_8, g1_9⟩ | ⟨hv9, e_ws42, g1_0, g1_1, g1_2, g1_3, g1_4, g1_5, g1_6, g1_7, g1_8, g1_9, g1_10⟩ | ⟨hv9, e_ws42, g1_0, g1_1, g1_2, g1_3, g1_4, g1_5, g1_6, g1_7, g1_8, g1_9, g1_10, g1_11⟩ | ⟨hv9, e_ws42, g1_0, g1_1, g1_2, g1_3, g1_4, g1_5, g1_6, g1_7, g1_8, g1_9, g1_10, g1_11⟩
    · cases hv9
    · cases hv9
    · cases hv9
    · cases hv9
    · cases hv9
    · cases hv9
    · cases hv9
    · cases hv9
    · cases hv9
    · cases hv9
    · cases hv9
    · cases hv9
    · cases hv9
