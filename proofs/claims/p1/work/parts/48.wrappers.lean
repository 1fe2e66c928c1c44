/-! CONTRACTS of the law's wrappers around one call on a new object, rows printed by an own text program -/
set_option maxHeartbeats 4000000 in
set_option maxRecDepth 100000 in
theorem c_Lw_add_v1 (l : Launch) (htr : l.stackTraces = false) (D : va_G) (tys : List (ClassId × FieldType)) (z sz : Nat) (ws : va_W) (A0 : Nat) (p0 : Int32) (p1 : Int32) (p2 : Int32) (A116 : Nat) (A1 : Nat) (A5 : Nat) (A8 : Nat) (A20 : Nat) (A25 : Nat) (A12 : Nat) (A16 : Nat) (f_0 : ws[0]? = some ((A0, Sum.inr (0, [Value.ref A1, Value.ref A5, Value.ref A8, Value.ref A20, Value.ref A25, Value.ref A12, Value.ref A16, Value.int 0, Value.int 0, Value.int 0, Value.int 16, Value.int 4, Value.int 0, Value.int 0, Value.int 0, Value.int 0, Value.int 0, Value.int (-1)])) : Nat × va_E)) : gx_Met l y_Lw_add [Cond.codeWith y_Lw_add b_Lw_add 6 (some .int) [(0, 12, 15, 13), (0, 12, 19, 15), (0, 12, 23, 27), (0, 12, 27, 29)]] { frames := 8, cells := 2, slots := 12, locals := 128 } (gx_P z sz D classes tys ws [Value.ref A0, Value.int p0, Value.int p1, Value.int p2, Value.ref A116]) (gx_Q D classes tys (va_A ws sz) (fun r ws' => (r = Sum.inl (some (Value.int 2)) ∧ ws' = ws ∧ ¬ p2 < 1 ∧ p2 ≤ 100) ∨ (r = Sum.inl (some (Value.int 1)) ∧ ws' = ws ∧ p2 < 1) ∨ (r = Sum.inl (some (Value.int 1)) ∧ ws' = ws ∧ ¬ p2 < 1 ∧ ¬ p2 ≤ 100))) 2 12 (va_A ws sz) := by
  refine gx_ofWH (cc := b_Lw_add) (maxL := 6) (ret := (some .int)) (by decide) ?_
  intro p e s m args below meth c s₁ B hml htab hv
  obtain ⟨rfl, hsz, hz, hP, hK, hD0, hY⟩ := hv
  have hx := B.exec
  have hb := B.bytes
  have hr := B.returns
  have hts := hY.hts (#[Value.ref A0, Value.int p0, Value.int p1, Value.int p2, Value.ref A116] : Array Value)
  have hown : s.vm.findClass "CommitLedgerLaw" = some m.cls := findClass_of_methodNamed B.named
  have hlocks := B.notSynchronized
  subst hsz
  have hAz := gx_az hD0 hz
  have hD := hD0.self (sz := s.heap.size)
  have hN := gx_ns hP
  have hA : ∀ q : Nat, s.heap.size ≤ q → va_A ws s.heap.size q := fun q h => Or.inr h
  generalize va_A ws s.heap.size = A at hD hN hA hAz ⊢
  generalize hPQ : (fun (r : Option Value ⊕ String) (ws' : va_W) => (r = Sum.inl (some (Value.int 2)) ∧ ws' = ws ∧ ¬ p2 < 1 ∧ p2 ≤ 100) ∨ (r = Sum.inl (some (Value.int 1)) ∧ ws' = ws ∧ p2 < 1) ∨ (r = Sum.inl (some (Value.int 1)) ∧ ws' = ws ∧ ¬ p2 < 1 ∧ ¬ p2 ≤ 100)) = PQ
  have hS : va_S A s.heap s.heap [] := va_S.rf
  have hU : gx_g ws ws 0 [] := gx_g.rf
  have hl := lv_entry ([Value.ref A0, Value.int p0, Value.int p1, Value.int p2, Value.ref A116]) (n := 6) (Nat.le_of_ble_eq_true rfl)
  rw [lg_entry_eq]
  generalize (lg_sl ([Value.ref A0, Value.int p0, Value.int p1, Value.int p2, Value.ref A116]) ++ List.replicate (6 - (lg_sl ([Value.ref A0, Value.int p0, Value.int p1, Value.int p2, Value.ref A116])).length) Slot.unset).toArray = ls at hl ⊢
  have hl : lv_has ls 6 [(0, Value.ref A0), (1, Value.int p0), (2, Value.int p1), (3, Value.int p2), (4, Value.ref A116)] := hl
  refine lv_aload hx hb d_Lw_add_0 (lv_at hl 4 rfl) ?_
  refine lv_iconst (v := 0) hx hb d_Lw_add_2 (by decide) ?_
  refine lv_aload_n hx hb d_Lw_add_3 rfl (lv_at hl 0 rfl) ?_
  refine lv_iload_n hx hb d_Lw_add_4 rfl (lv_at hl 1 rfl) ?_
  refine lv_iload_n hx hb d_Lw_add_5 rfl (lv_at hl 2 rfl) ?_
  refine lv_iload_n hx hb d_Lw_add_6 rfl (lv_at hl 3 rfl) ?_
  refine gx_call (ig := .invokevirtual 23) (c_Le_add_v1 l htr D tys z _ ws A0 p0 p1 p2 A1 A5 A8 A20 A25 A12 A16 f_0) (gx_invV (As := [Value.int p0, Value.int p1, Value.int p2]) (rest := [Value.int 0, Value.ref A116]) hx hb hown hts km_Lw_23 kI_Le_add kV_Le_add kc_Le_add (by decide) (show (parseMethodDescriptor y_Le_add.desc).map (fun d => d.parameters.length) = some 3 by decide +kernel) (gx_recv (ci := 0) hK hP rfl f_0) rfl rfl d_Lw_add_7) (gx_cw (z := 0) hts kc_Le_add kN_Le rfl rfl ⟨Nat.le_of_ble_eq_true rfl, Nat.le_of_ble_eq_true rfl⟩) hb hml gx_blind (gx_pre hz hP hK hD hY hS hAz [Value.ref A0, Value.int p0, Value.int p1, Value.int p2]) rfl hl.1 (lv_room (Nat.le_of_ble_eq_true rfl)) d_Lw_add_7 ⟨Nat.le_of_ble_eq_true rfl, Nat.le_of_ble_eq_true rfl⟩ (fun v1 st1 t1 L1 h0_1 hW_1 hQ_1 hL_1 => ?_) (fun v1 st1 t1 L1 h0_1 hW_1 hQ_1 hL_1 => ?_)
  · obtain ⟨ws2, hp, hP9, -, hD9, hS9⟩ := gx_back h0_1 hW_1 hQ_1 hL_1 hD hS hA
    clear hQ_1 h0_1 hL_1 hW_1 hP hD hS
    have hP := hP9
    have hD := hD9
    have hS := hS9
    clear hP9 hD9 hS9
    rcases hp with ⟨hv9, e_ws2, g1_0, g1_1⟩ | ⟨hv9, e_ws2, g1_0⟩ | ⟨hv9, e_ws2, g1_0, g1_1⟩
    · cases hv9
    · cases hv9
    · cases hv9
  · obtain ⟨E9, ws3, ce, hp, hce, hP9, -, hD9, hS9⟩ := gx_backT h0_1 hW_1 hQ_1 hL_1 hD hS hA
    clear hQ_1 h0_1 hL_1 hW_1 hP hD hS
    have hP := hP9
    have hD := hD9
    have hS := hS9
    clear hP9 hD9 hS9
    rcases hp with ⟨hv9, e_ws3, g1_0, g1_1⟩ | ⟨hv9, e_ws3, g1_0⟩ | ⟨hv9, e_ws3, g1_0, g1_1⟩
    · cases hv9
      rw [e_ws3] at hP hD
      refine gx_catch (E := "java/lang/IllegalStateException") (hp := 19) hown htab (Or.inr ⟨⟨by show 0 ≤ 7; decide, by show 7 < 12; decide⟩, by decide, "java/lang/IllegalArgumentException", hts _ kk_Lw_13, Or.inr ⟨hts _ kZ_IllegalStateException_IllegalArgumentException, (Or.inr ⟨⟨by show 0 ≤ 7; decide, by show 7 < 12; decide⟩, by decide, "java/lang/IllegalStateException", hts _ kk_Lw_15, Or.inl ⟨rfl, hts _ kB_IllegalStateException⟩⟩)⟩⟩) hce ?_
      clear hce
      refine W.widen (k := 2) (n := 12) (by decide) (by decide) ?_
      generalize t1.heap = H at hP hS ⊢
      generalize [] ++ L1 = locs at hS ⊢
      refine lv_astore (lv' := [(5, Value.ref v1), (0, Value.ref A0), (1, Value.int p0), (2, Value.int p1), (3, Value.int p2), (4, Value.ref A116)]) hx hb d_Lw_add_19 hl (by decide) rfl (fun ls hl => ?_)
      refine lv_iconst (v := 2) hx hb d_Lw_add_21 (by decide) ?_
      exact gx_ret (W.iret (v := 2) hx hb hr (gx_post hP hK hD hS (by rw [← hPQ]; exact Or.inl ⟨rfl, rfl, g1_0, g1_1⟩)) hS.2.2 d_Lw_add_22)
    · cases hv9
      rw [e_ws3] at hP hD
      refine gx_catch (E := "java/lang/IllegalArgumentException") (hp := 15) hown htab (Or.inr ⟨⟨by show 0 ≤ 7; decide, by show 7 < 12; decide⟩, by decide, "java/lang/IllegalArgumentException", hts _ kk_Lw_13, Or.inl ⟨rfl, hts _ kB_IllegalArgumentException⟩⟩) hce ?_
      clear hce
      refine W.widen (k := 2) (n := 12) (by decide) (by decide) ?_
      generalize t1.heap = H at hP hS ⊢
      generalize [] ++ L1 = locs at hS ⊢
      refine lv_astore (lv' := [(5, Value.ref v1), (0, Value.ref A0), (1, Value.int p0), (2, Value.int p1), (3, Value.int p2), (4, Value.ref A116)]) hx hb d_Lw_add_15 hl (by decide) rfl (fun ls hl => ?_)
      refine lv_iconst (v := 1) hx hb d_Lw_add_17 (by decide) ?_
      exact gx_ret (W.iret (v := 1) hx hb hr (gx_post hP hK hD hS (by rw [← hPQ]; exact Or.inr (Or.inl ⟨rfl, rfl, g1_0⟩))) hS.2.2 d_Lw_add_18)
    · cases hv9
      rw [e_ws3] at hP hD
      refine gx_catch (E := "java/lang/IllegalArgumentException") (hp := 15) hown htab (Or.inr ⟨⟨by show 0 ≤ 7; decide, by show 7 < 12; decide⟩, by decide, "java/lang/IllegalArgumentException", hts _ kk_Lw_13, Or.inl ⟨rfl, hts _ kB_IllegalArgumentException⟩⟩) hce ?_
      clear hce
      refine W.widen (k := 2) (n := 12) (by decide) (by decide) ?_
      generalize t1.heap = H at hP hS ⊢
      generalize [] ++ L1 = locs at hS ⊢
      refine lv_astore (lv' := [(5, Value.ref v1), (0, Value.ref A0), (1, Value.int p0), (2, Value.int p1), (3, Value.int p2), (4, Value.ref A116)]) hx hb d_Lw_add_15 hl (by decide) rfl (fun ls hl => ?_)
      refine lv_iconst (v := 1) hx hb d_Lw_add_17 (by decide) ?_
      exact gx_ret (W.iret (v := 1) hx hb hr (gx_post hP hK hD hS (by rw [← hPQ]; exact Or.inr (Or.inr (⟨rfl, rfl, g1_0, g1_1⟩)))) hS.2.2 d_Lw_add_18)

set_option maxHeartbeats 4000000 in
set_option maxRecDepth 100000 in
theorem c_Lw_close_v1 (l : Launch) (htr : l.stackTraces = false) (D : va_G) (tys : List (ClassId × FieldType)) (z sz : Nat) (ws : va_W) (A0 : Nat) (A116 : Nat) (A1 : Nat) (A5 : Nat) (A8 : Nat) (A20 : Nat) (A25 : Nat) (A12 : Nat) (A16 : Nat) (f_0 : ws[0]? = some ((A0, Sum.inr (0, [Value.ref A1, Value.ref A5, Value.ref A8, Value.ref A20, Value.ref A25, Value.ref A12, Value.ref A16, Value.int 0, Value.int 0, Value.int 0, Value.int 16, Value.int 4, Value.int 0, Value.int 0, Value.int 0, Value.int 0, Value.int 0, Value.int (-1)])) : Nat × va_E)) : gx_Met l y_Lw_close [Cond.codeWith y_Lw_close b_Lw_close 3 (some .int) [(0, 8, 11, 15), (0, 8, 14, 29)]] { frames := 8, cells := 1, slots := 6, locals := 123 } (gx_P z sz D classes tys ws [Value.ref A0, Value.ref A116]) (gx_Q D classes tys (va_A ws sz) (fun r ws' => (r = Sum.inl (some (Value.int 1)) ∧ ws' = ws))) 1 6 (va_A ws sz) := by
  refine gx_ofWH (cc := b_Lw_close) (maxL := 3) (ret := (some .int)) (by decide) ?_
  intro p e s m args below meth c s₁ B hml htab hv
  obtain ⟨rfl, hsz, hz, hP, hK, hD0, hY⟩ := hv
  have hx := B.exec
  have hb := B.bytes
  have hr := B.returns
  have hts := hY.hts (#[Value.ref A0, Value.ref A116] : Array Value)
  have hown : s.vm.findClass "CommitLedgerLaw" = some m.cls := findClass_of_methodNamed B.named
  have hlocks := B.notSynchronized
  subst hsz
  have hAz := gx_az hD0 hz
  have hD := hD0.self (sz := s.heap.size)
  have hN := gx_ns hP
  have hA : ∀ q : Nat, s.heap.size ≤ q → va_A ws s.heap.size q := fun q h => Or.inr h
  generalize va_A ws s.heap.size = A at hD hN hA hAz ⊢
  generalize hPQ : (fun (r : Option Value ⊕ String) (ws' : va_W) => (r = Sum.inl (some (Value.int 1)) ∧ ws' = ws)) = PQ
  have hS : va_S A s.heap s.heap [] := va_S.rf
  have hU : gx_g ws ws 0 [] := gx_g.rf
  have hl := lv_entry ([Value.ref A0, Value.ref A116]) (n := 3) (Nat.le_of_ble_eq_true rfl)
  rw [lg_entry_eq]
  generalize (lg_sl ([Value.ref A0, Value.ref A116]) ++ List.replicate (3 - (lg_sl ([Value.ref A0, Value.ref A116])).length) Slot.unset).toArray = ls at hl ⊢
  have hl : lv_has ls 3 [(0, Value.ref A0), (1, Value.ref A116)] := hl
  refine lv_aload_n hx hb d_Lw_close_0 rfl (lv_at hl 1 rfl) ?_
  refine lv_iconst (v := 0) hx hb d_Lw_close_1 (by decide) ?_
  refine lv_aload_n hx hb d_Lw_close_2 rfl (lv_at hl 0 rfl) ?_
  refine gx_call (ig := .invokevirtual 56) (c_Le_close_v1 l htr D tys z _ ws A0 A1 A5 A8 A20 A25 A12 A16 f_0) (gx_invV (As := []) (rest := [Value.int 0, Value.ref A116]) hx hb hown hts km_Lw_56 kI_Le_close kV_Le_close kc_Le_close (by decide) (show (parseMethodDescriptor y_Le_close.desc).map (fun d => d.parameters.length) = some 0 by decide +kernel) (gx_recv (ci := 0) hK hP rfl f_0) rfl rfl d_Lw_close_3) (gx_cw (z := 0) hts kc_Le_close kN_Le rfl rfl ⟨Nat.le_of_ble_eq_true rfl, Nat.le_of_ble_eq_true rfl⟩) hb hml gx_blind (gx_pre hz hP hK hD hY hS hAz [Value.ref A0]) rfl hl.1 (lv_room (Nat.le_of_ble_eq_true rfl)) d_Lw_close_3 ⟨Nat.le_of_ble_eq_true rfl, Nat.le_of_ble_eq_true rfl⟩ (fun v1 st1 t1 L1 h0_1 hW_1 hQ_1 hL_1 => ?_) (fun v1 st1 t1 L1 h0_1 hW_1 hQ_1 hL_1 => ?_)
  · obtain ⟨ws2, hp, hP9, -, hD9, hS9⟩ := gx_back h0_1 hW_1 hQ_1 hL_1 hD hS hA
    clear hQ_1 h0_1 hL_1 hW_1 hP hD hS
    have hP := hP9
    have hD := hD9
    have hS := hS9
    clear hP9 hD9 hS9
    rcases hp with ⟨hv9, e_ws2⟩
    cases hv9
  · obtain ⟨E9, ws3, ce, hp, hce, hP9, -, hD9, hS9⟩ := gx_backT h0_1 hW_1 hQ_1 hL_1 hD hS hA
    clear hQ_1 h0_1 hL_1 hW_1 hP hD hS
    have hP := hP9
    have hD := hD9
    have hS := hS9
    clear hP9 hD9 hS9
    rcases hp with ⟨hv9, e_ws3⟩
    cases hv9
    rw [e_ws3] at hP hD
    refine gx_catch (E := "java/lang/IllegalStateException") (hp := 11) hown htab (Or.inr ⟨⟨by show 0 ≤ 3; decide, by show 3 < 8; decide⟩, by decide, "java/lang/IllegalStateException", hts _ kk_Lw_15, Or.inl ⟨rfl, hts _ kB_IllegalStateException⟩⟩) hce ?_
    clear hce
    refine W.widen (k := 1) (n := 6) (by decide) (by decide) ?_
    generalize t1.heap = H at hP hS ⊢
    generalize [] ++ L1 = locs at hS ⊢
    refine lv_astore_n (lv' := [(2, Value.ref v1), (0, Value.ref A0), (1, Value.ref A116)]) hx hb d_Lw_close_11 rfl hl (by decide) rfl (fun ls hl => ?_)
    refine lv_iconst (v := 1) hx hb d_Lw_close_12 (by decide) ?_
    exact gx_ret (W.iret (v := 1) hx hb hr (gx_post hP hK hD hS (by rw [← hPQ]; exact ⟨rfl, rfl⟩)) hS.2.2 d_Lw_close_13)

set_option maxHeartbeats 4000000 in
set_option maxRecDepth 100000 in
theorem c_Lw_commit_v1 (l : Launch) (htr : l.stackTraces = false) (D : va_G) (tys : List (ClassId × FieldType)) (z sz : Nat) (ws : va_W) (A0 : Nat) (A116 : Nat) (A1 : Nat) (A5 : Nat) (A8 : Nat) (A20 : Nat) (A25 : Nat) (A12 : Nat) (A16 : Nat) (f_0 : ws[0]? = some ((A0, Sum.inr (0, [Value.ref A1, Value.ref A5, Value.ref A8, Value.ref A20, Value.ref A25, Value.ref A12, Value.ref A16, Value.int 0, Value.int 0, Value.int 0, Value.int 16, Value.int 4, Value.int 0, Value.int 0, Value.int 0, Value.int 0, Value.int 0, Value.int (-1)])) : Nat × va_E)) : gx_Met l y_Lw_commit [Cond.codeWith y_Lw_commit b_Lw_commit 3 (some .int) [(0, 8, 11, 15), (0, 8, 14, 29)]] { frames := 8, cells := 1, slots := 6, locals := 122 } (gx_P z sz D classes tys ws [Value.ref A0, Value.ref A116]) (gx_Q D classes tys (va_A ws sz) (fun r ws' => (r = Sum.inl (some (Value.int 1)) ∧ ws' = ws))) 1 6 (va_A ws sz) := by
  refine gx_ofWH (cc := b_Lw_commit) (maxL := 3) (ret := (some .int)) (by decide) ?_
  intro p e s m args below meth c s₁ B hml htab hv
  obtain ⟨rfl, hsz, hz, hP, hK, hD0, hY⟩ := hv
  have hx := B.exec
  have hb := B.bytes
  have hr := B.returns
  have hts := hY.hts (#[Value.ref A0, Value.ref A116] : Array Value)
  have hown : s.vm.findClass "CommitLedgerLaw" = some m.cls := findClass_of_methodNamed B.named
  have hlocks := B.notSynchronized
  subst hsz
  have hAz := gx_az hD0 hz
  have hD := hD0.self (sz := s.heap.size)
  have hN := gx_ns hP
  have hA : ∀ q : Nat, s.heap.size ≤ q → va_A ws s.heap.size q := fun q h => Or.inr h
  generalize va_A ws s.heap.size = A at hD hN hA hAz ⊢
  generalize hPQ : (fun (r : Option Value ⊕ String) (ws' : va_W) => (r = Sum.inl (some (Value.int 1)) ∧ ws' = ws)) = PQ
  have hS : va_S A s.heap s.heap [] := va_S.rf
  have hU : gx_g ws ws 0 [] := gx_g.rf
  have hl := lv_entry ([Value.ref A0, Value.ref A116]) (n := 3) (Nat.le_of_ble_eq_true rfl)
  rw [lg_entry_eq]
  generalize (lg_sl ([Value.ref A0, Value.ref A116]) ++ List.replicate (3 - (lg_sl ([Value.ref A0, Value.ref A116])).length) Slot.unset).toArray = ls at hl ⊢
  have hl : lv_has ls 3 [(0, Value.ref A0), (1, Value.ref A116)] := hl
  refine lv_aload_n hx hb d_Lw_commit_0 rfl (lv_at hl 1 rfl) ?_
  refine lv_iconst (v := 0) hx hb d_Lw_commit_1 (by decide) ?_
  refine lv_aload_n hx hb d_Lw_commit_2 rfl (lv_at hl 0 rfl) ?_
  refine gx_call (ig := .invokevirtual 50) (c_Le_commit_v1 l htr D tys z _ ws A0 A1 A5 A8 A20 A25 A12 A16 f_0) (gx_invV (As := []) (rest := [Value.int 0, Value.ref A116]) hx hb hown hts km_Lw_50 kI_Le_commit kV_Le_commit kc_Le_commit (by decide) (show (parseMethodDescriptor y_Le_commit.desc).map (fun d => d.parameters.length) = some 0 by decide +kernel) (gx_recv (ci := 0) hK hP rfl f_0) rfl rfl d_Lw_commit_3) (gx_cw (z := 0) hts kc_Le_commit kN_Le rfl rfl ⟨Nat.le_of_ble_eq_true rfl, Nat.le_of_ble_eq_true rfl⟩) hb hml gx_blind (gx_pre hz hP hK hD hY hS hAz [Value.ref A0]) rfl hl.1 (lv_room (Nat.le_of_ble_eq_true rfl)) d_Lw_commit_3 ⟨Nat.le_of_ble_eq_true rfl, Nat.le_of_ble_eq_true rfl⟩ (fun v1 st1 t1 L1 h0_1 hW_1 hQ_1 hL_1 => ?_) (fun v1 st1 t1 L1 h0_1 hW_1 hQ_1 hL_1 => ?_)
  · obtain ⟨ws2, hp, hP9, -, hD9, hS9⟩ := gx_back h0_1 hW_1 hQ_1 hL_1 hD hS hA
    clear hQ_1 h0_1 hL_1 hW_1 hP hD hS
    have hP := hP9
    have hD := hD9
    have hS := hS9
    clear hP9 hD9 hS9
    rcases hp with ⟨hv9, e_ws2⟩
    cases hv9
  · obtain ⟨E9, ws3, ce, hp, hce, hP9, -, hD9, hS9⟩ := gx_backT h0_1 hW_1 hQ_1 hL_1 hD hS hA
    clear hQ_1 h0_1 hL_1 hW_1 hP hD hS
    have hP := hP9
    have hD := hD9
    have hS := hS9
    clear hP9 hD9 hS9
    rcases hp with ⟨hv9, e_ws3⟩
    cases hv9
    rw [e_ws3] at hP hD
    refine gx_catch (E := "java/lang/IllegalStateException") (hp := 11) hown htab (Or.inr ⟨⟨by show 0 ≤ 3; decide, by show 3 < 8; decide⟩, by decide, "java/lang/IllegalStateException", hts _ kk_Lw_15, Or.inl ⟨rfl, hts _ kB_IllegalStateException⟩⟩) hce ?_
    clear hce
    refine W.widen (k := 1) (n := 6) (by decide) (by decide) ?_
    generalize t1.heap = H at hP hS ⊢
    generalize [] ++ L1 = locs at hS ⊢
    refine lv_astore_n (lv' := [(2, Value.ref v1), (0, Value.ref A0), (1, Value.ref A116)]) hx hb d_Lw_commit_11 rfl hl (by decide) rfl (fun ls hl => ?_)
    refine lv_iconst (v := 1) hx hb d_Lw_commit_12 (by decide) ?_
    exact gx_ret (W.iret (v := 1) hx hb hr (gx_post hP hK hD hS (by rw [← hPQ]; exact ⟨rfl, rfl⟩)) hS.2.2 d_Lw_commit_13)

set_option maxHeartbeats 4000000 in
set_option maxRecDepth 100000 in
theorem c_Lw_erase_v1 (l : Launch) (htr : l.stackTraces = false) (D : va_G) (tys : List (ClassId × FieldType)) (z sz : Nat) (ws : va_W) (A0 : Nat) (p0 : Int32) (A116 : Nat) (A1 : Nat) (A5 : Nat) (A8 : Nat) (A20 : Nat) (A25 : Nat) (A12 : Nat) (A16 : Nat) (f_0 : ws[0]? = some ((A0, Sum.inr (0, [Value.ref A1, Value.ref A5, Value.ref A8, Value.ref A20, Value.ref A25, Value.ref A12, Value.ref A16, Value.int 0, Value.int 0, Value.int 0, Value.int 16, Value.int 4, Value.int 0, Value.int 0, Value.int 0, Value.int 0, Value.int 0, Value.int (-1)])) : Nat × va_E)) : gx_Met l y_Lw_erase [Cond.codeWith y_Lw_erase b_Lw_erase 4 (some .int) [(0, 9, 12, 15)]] { frames := 8, cells := 1, slots := 6, locals := 125 } (gx_P z sz D classes tys ws [Value.ref A0, Value.int p0, Value.ref A116]) (gx_Q D classes tys (va_A ws sz) (fun r ws' => (r = Sum.inl (some (Value.int 1)) ∧ ws' = ws))) 1 6 (va_A ws sz) := by
  refine gx_ofWH (cc := b_Lw_erase) (maxL := 4) (ret := (some .int)) (by decide) ?_
  intro p e s m args below meth c s₁ B hml htab hv
  obtain ⟨rfl, hsz, hz, hP, hK, hD0, hY⟩ := hv
  have hx := B.exec
  have hb := B.bytes
  have hr := B.returns
  have hts := hY.hts (#[Value.ref A0, Value.int p0, Value.ref A116] : Array Value)
  have hown : s.vm.findClass "CommitLedgerLaw" = some m.cls := findClass_of_methodNamed B.named
  have hlocks := B.notSynchronized
  subst hsz
  have hAz := gx_az hD0 hz
  have hD := hD0.self (sz := s.heap.size)
  have hN := gx_ns hP
  have hA : ∀ q : Nat, s.heap.size ≤ q → va_A ws s.heap.size q := fun q h => Or.inr h
  generalize va_A ws s.heap.size = A at hD hN hA hAz ⊢
  generalize hPQ : (fun (r : Option Value ⊕ String) (ws' : va_W) => (r = Sum.inl (some (Value.int 1)) ∧ ws' = ws)) = PQ
  have hS : va_S A s.heap s.heap [] := va_S.rf
  have hU : gx_g ws ws 0 [] := gx_g.rf
  have hl := lv_entry ([Value.ref A0, Value.int p0, Value.ref A116]) (n := 4) (Nat.le_of_ble_eq_true rfl)
  rw [lg_entry_eq]
  generalize (lg_sl ([Value.ref A0, Value.int p0, Value.ref A116]) ++ List.replicate (4 - (lg_sl ([Value.ref A0, Value.int p0, Value.ref A116])).length) Slot.unset).toArray = ls at hl ⊢
  have hl : lv_has ls 4 [(0, Value.ref A0), (1, Value.int p0), (2, Value.ref A116)] := hl
  refine lv_aload_n hx hb d_Lw_erase_0 rfl (lv_at hl 2 rfl) ?_
  refine lv_iconst (v := 0) hx hb d_Lw_erase_1 (by decide) ?_
  refine lv_aload_n hx hb d_Lw_erase_2 rfl (lv_at hl 0 rfl) ?_
  refine lv_iload_n hx hb d_Lw_erase_3 rfl (lv_at hl 1 rfl) ?_
  refine gx_call (ig := .invokevirtual 31) (c_Le_erase_v1 l htr D tys z _ ws A0 p0 A1 A5 A8 A20 A25 A12 A16 f_0) (gx_invV (As := [Value.int p0]) (rest := [Value.int 0, Value.ref A116]) hx hb hown hts km_Lw_31 kI_Le_erase kV_Le_erase kc_Le_erase (by decide) (show (parseMethodDescriptor y_Le_erase.desc).map (fun d => d.parameters.length) = some 1 by decide +kernel) (gx_recv (ci := 0) hK hP rfl f_0) rfl rfl d_Lw_erase_4) (gx_cw (z := 0) hts kc_Le_erase kN_Le rfl rfl ⟨Nat.le_of_ble_eq_true rfl, Nat.le_of_ble_eq_true rfl⟩) hb hml gx_blind (gx_pre hz hP hK hD hY hS hAz [Value.ref A0, Value.int p0]) rfl hl.1 (lv_room (Nat.le_of_ble_eq_true rfl)) d_Lw_erase_4 ⟨Nat.le_of_ble_eq_true rfl, Nat.le_of_ble_eq_true rfl⟩ (fun v1 st1 t1 L1 h0_1 hW_1 hQ_1 hL_1 => ?_) (fun v1 st1 t1 L1 h0_1 hW_1 hQ_1 hL_1 => ?_)
  · obtain ⟨ws2, hp, hP9, -, hD9, hS9⟩ := gx_back h0_1 hW_1 hQ_1 hL_1 hD hS hA
    clear hQ_1 h0_1 hL_1 hW_1 hP hD hS
    have hP := hP9
    have hD := hD9
    have hS := hS9
    clear hP9 hD9 hS9
    rcases hp with ⟨hv9, e_ws2⟩
    cases hv9
  · obtain ⟨E9, ws3, ce, hp, hce, hP9, -, hD9, hS9⟩ := gx_backT h0_1 hW_1 hQ_1 hL_1 hD hS hA
    clear hQ_1 h0_1 hL_1 hW_1 hP hD hS
    have hP := hP9
    have hD := hD9
    have hS := hS9
    clear hP9 hD9 hS9
    rcases hp with ⟨hv9, e_ws3⟩
    cases hv9
    rw [e_ws3] at hP hD
    refine gx_catch (E := "java/lang/IllegalStateException") (hp := 12) hown htab (Or.inr ⟨⟨by show 0 ≤ 4; decide, by show 4 < 9; decide⟩, by decide, "java/lang/IllegalStateException", hts _ kk_Lw_15, Or.inl ⟨rfl, hts _ kB_IllegalStateException⟩⟩) hce ?_
    clear hce
    refine W.widen (k := 1) (n := 6) (by decide) (by decide) ?_
    generalize t1.heap = H at hP hS ⊢
    generalize [] ++ L1 = locs at hS ⊢
    refine lv_astore_n (lv' := [(3, Value.ref v1), (0, Value.ref A0), (1, Value.int p0), (2, Value.ref A116)]) hx hb d_Lw_erase_12 rfl hl (by decide) rfl (fun ls hl => ?_)
    refine lv_iconst (v := 1) hx hb d_Lw_erase_13 (by decide) ?_
    exact gx_ret (W.iret (v := 1) hx hb hr (gx_post hP hK hD hS (by rw [← hPQ]; exact ⟨rfl, rfl⟩)) hS.2.2 d_Lw_erase_14)

set_option maxHeartbeats 4000000 in
set_option maxRecDepth 100000 in
theorem c_Lw_finish_v1 (l : Launch) (htr : l.stackTraces = false) (D : va_G) (tys : List (ClassId × FieldType)) (z sz : Nat) (ws : va_W) (A0 : Nat) (p0 : Int32) (p1 : Int32) (A116 : Nat) (A1 : Nat) (A5 : Nat) (A8 : Nat) (A20 : Nat) (A25 : Nat) (A12 : Nat) (A16 : Nat) (f_0 : ws[0]? = some ((A0, Sum.inr (0, [Value.ref A1, Value.ref A5, Value.ref A8, Value.ref A20, Value.ref A25, Value.ref A12, Value.ref A16, Value.int 0, Value.int 0, Value.int 0, Value.int 16, Value.int 4, Value.int 0, Value.int 0, Value.int 0, Value.int 0, Value.int 0, Value.int (-1)])) : Nat × va_E)) : gx_Met l y_Lw_finish [Cond.codeWith y_Lw_finish b_Lw_finish 5 (some .int) [(0, 10, 13, 15), (0, 10, 17, 41)]] { frames := 8, cells := 1, slots := 6, locals := 125 } (gx_P z sz D classes tys ws [Value.ref A0, Value.int p0, Value.int p1, Value.ref A116]) (gx_Q D classes tys (va_A ws sz) (fun r ws' => (r = Sum.inl (some (Value.int 1)) ∧ ws' = ws))) 1 6 (va_A ws sz) := by
  refine gx_ofWH (cc := b_Lw_finish) (maxL := 5) (ret := (some .int)) (by decide) ?_
  intro p e s m args below meth c s₁ B hml htab hv
  obtain ⟨rfl, hsz, hz, hP, hK, hD0, hY⟩ := hv
  have hx := B.exec
  have hb := B.bytes
  have hr := B.returns
  have hts := hY.hts (#[Value.ref A0, Value.int p0, Value.int p1, Value.ref A116] : Array Value)
  have hown : s.vm.findClass "CommitLedgerLaw" = some m.cls := findClass_of_methodNamed B.named
  have hlocks := B.notSynchronized
  subst hsz
  have hAz := gx_az hD0 hz
  have hD := hD0.self (sz := s.heap.size)
  have hN := gx_ns hP
  have hA : ∀ q : Nat, s.heap.size ≤ q → va_A ws s.heap.size q := fun q h => Or.inr h
  generalize va_A ws s.heap.size = A at hD hN hA hAz ⊢
  generalize hPQ : (fun (r : Option Value ⊕ String) (ws' : va_W) => (r = Sum.inl (some (Value.int 1)) ∧ ws' = ws)) = PQ
  have hS : va_S A s.heap s.heap [] := va_S.rf
  have hU : gx_g ws ws 0 [] := gx_g.rf
  have hl := lv_entry ([Value.ref A0, Value.int p0, Value.int p1, Value.ref A116]) (n := 5) (Nat.le_of_ble_eq_true rfl)
  rw [lg_entry_eq]
  generalize (lg_sl ([Value.ref A0, Value.int p0, Value.int p1, Value.ref A116]) ++ List.replicate (5 - (lg_sl ([Value.ref A0, Value.int p0, Value.int p1, Value.ref A116])).length) Slot.unset).toArray = ls at hl ⊢
  have hl : lv_has ls 5 [(0, Value.ref A0), (1, Value.int p0), (2, Value.int p1), (3, Value.ref A116)] := hl
  refine lv_aload_n hx hb d_Lw_finish_0 rfl (lv_at hl 3 rfl) ?_
  refine lv_iconst (v := 0) hx hb d_Lw_finish_1 (by decide) ?_
  refine lv_aload_n hx hb d_Lw_finish_2 rfl (lv_at hl 0 rfl) ?_
  refine lv_iload_n hx hb d_Lw_finish_3 rfl (lv_at hl 1 rfl) ?_
  refine lv_iload_n hx hb d_Lw_finish_4 rfl (lv_at hl 2 rfl) ?_
  refine gx_call (ig := .invokevirtual 43) (c_Le_finish_v1 l htr D tys z _ ws A0 p0 p1 A1 A5 A8 A20 A25 A12 A16 f_0) (gx_invV (As := [Value.int p0, Value.int p1]) (rest := [Value.int 0, Value.ref A116]) hx hb hown hts km_Lw_43 kI_Le_finish kV_Le_finish kc_Le_finish (by decide) (show (parseMethodDescriptor y_Le_finish.desc).map (fun d => d.parameters.length) = some 2 by decide +kernel) (gx_recv (ci := 0) hK hP rfl f_0) rfl rfl d_Lw_finish_5) (gx_cw (z := 0) hts kc_Le_finish kN_Le rfl rfl ⟨Nat.le_of_ble_eq_true rfl, Nat.le_of_ble_eq_true rfl⟩) hb hml gx_blind (gx_pre hz hP hK hD hY hS hAz [Value.ref A0, Value.int p0, Value.int p1]) rfl hl.1 (lv_room (Nat.le_of_ble_eq_true rfl)) d_Lw_finish_5 ⟨Nat.le_of_ble_eq_true rfl, Nat.le_of_ble_eq_true rfl⟩ (fun v1 st1 t1 L1 h0_1 hW_1 hQ_1 hL_1 => ?_) (fun v1 st1 t1 L1 h0_1 hW_1 hQ_1 hL_1 => ?_)
  · obtain ⟨ws2, hp, hP9, -, hD9, hS9⟩ := gx_back h0_1 hW_1 hQ_1 hL_1 hD hS hA
    clear hQ_1 h0_1 hL_1 hW_1 hP hD hS
    have hP := hP9
    have hD := hD9
    have hS := hS9
    clear hP9 hD9 hS9
    rcases hp with ⟨hv9, e_ws2⟩
    cases hv9
  · obtain ⟨E9, ws3, ce, hp, hce, hP9, -, hD9, hS9⟩ := gx_backT h0_1 hW_1 hQ_1 hL_1 hD hS hA
    clear hQ_1 h0_1 hL_1 hW_1 hP hD hS
    have hP := hP9
    have hD := hD9
    have hS := hS9
    clear hP9 hD9 hS9
    rcases hp with ⟨hv9, e_ws3⟩
    cases hv9
    rw [e_ws3] at hP hD
    refine gx_catch (E := "java/lang/IllegalStateException") (hp := 13) hown htab (Or.inr ⟨⟨by show 0 ≤ 5; decide, by show 5 < 10; decide⟩, by decide, "java/lang/IllegalStateException", hts _ kk_Lw_15, Or.inl ⟨rfl, hts _ kB_IllegalStateException⟩⟩) hce ?_
    clear hce
    refine W.widen (k := 1) (n := 6) (by decide) (by decide) ?_
    generalize t1.heap = H at hP hS ⊢
    generalize [] ++ L1 = locs at hS ⊢
    refine lv_astore (lv' := [(4, Value.ref v1), (0, Value.ref A0), (1, Value.int p0), (2, Value.int p1), (3, Value.ref A116)]) hx hb d_Lw_finish_13 hl (by decide) rfl (fun ls hl => ?_)
    refine lv_iconst (v := 1) hx hb d_Lw_finish_15 (by decide) ?_
    exact gx_ret (W.iret (v := 1) hx hb hr (gx_post hP hK hD hS (by rw [← hPQ]; exact ⟨rfl, rfl⟩)) hS.2.2 d_Lw_finish_16)

set_option maxHeartbeats 4000000 in
set_option maxRecDepth 100000 in
theorem c_Lw_flush_v1 (l : Launch) (htr : l.stackTraces = false) (D : va_G) (tys : List (ClassId × FieldType)) (z sz : Nat) (ws : va_W) (A0 : Nat) (A116 : Nat) (A1 : Nat) (A5 : Nat) (A8 : Nat) (A20 : Nat) (A25 : Nat) (A12 : Nat) (A16 : Nat) (f_0 : ws[0]? = some ((A0, Sum.inr (0, [Value.ref A1, Value.ref A5, Value.ref A8, Value.ref A20, Value.ref A25, Value.ref A12, Value.ref A16, Value.int 0, Value.int 0, Value.int 0, Value.int 16, Value.int 4, Value.int 0, Value.int 0, Value.int 0, Value.int 0, Value.int 0, Value.int (-1)])) : Nat × va_E)) : gx_Met l y_Lw_flush [Cond.codeWith y_Lw_flush b_Lw_flush 3 (some .int) [(0, 8, 11, 15), (0, 8, 14, 29)]] { frames := 8, cells := 1, slots := 6, locals := 122 } (gx_P z sz D classes tys ws [Value.ref A0, Value.ref A116]) (gx_Q D classes tys (va_A ws sz) (fun r ws' => (r = Sum.inl (some (Value.int 1)) ∧ ws' = ws))) 1 6 (va_A ws sz) := by
  refine gx_ofWH (cc := b_Lw_flush) (maxL := 3) (ret := (some .int)) (by decide) ?_
  intro p e s m args below meth c s₁ B hml htab hv
  obtain ⟨rfl, hsz, hz, hP, hK, hD0, hY⟩ := hv
  have hx := B.exec
  have hb := B.bytes
  have hr := B.returns
  have hts := hY.hts (#[Value.ref A0, Value.ref A116] : Array Value)
  have hown : s.vm.findClass "CommitLedgerLaw" = some m.cls := findClass_of_methodNamed B.named
  have hlocks := B.notSynchronized
  subst hsz
  have hAz := gx_az hD0 hz
  have hD := hD0.self (sz := s.heap.size)
  have hN := gx_ns hP
  have hA : ∀ q : Nat, s.heap.size ≤ q → va_A ws s.heap.size q := fun q h => Or.inr h
  generalize va_A ws s.heap.size = A at hD hN hA hAz ⊢
  generalize hPQ : (fun (r : Option Value ⊕ String) (ws' : va_W) => (r = Sum.inl (some (Value.int 1)) ∧ ws' = ws)) = PQ
  have hS : va_S A s.heap s.heap [] := va_S.rf
  have hU : gx_g ws ws 0 [] := gx_g.rf
  have hl := lv_entry ([Value.ref A0, Value.ref A116]) (n := 3) (Nat.le_of_ble_eq_true rfl)
  rw [lg_entry_eq]
  generalize (lg_sl ([Value.ref A0, Value.ref A116]) ++ List.replicate (3 - (lg_sl ([Value.ref A0, Value.ref A116])).length) Slot.unset).toArray = ls at hl ⊢
  have hl : lv_has ls 3 [(0, Value.ref A0), (1, Value.ref A116)] := hl
  refine lv_aload_n hx hb d_Lw_flush_0 rfl (lv_at hl 1 rfl) ?_
  refine lv_iconst (v := 0) hx hb d_Lw_flush_1 (by decide) ?_
  refine lv_aload_n hx hb d_Lw_flush_2 rfl (lv_at hl 0 rfl) ?_
  refine gx_call (ig := .invokevirtual 34) (c_Le_flush_v1 l htr D tys z _ ws A0 A1 A5 A8 A20 A25 A12 A16 f_0) (gx_invV (As := []) (rest := [Value.int 0, Value.ref A116]) hx hb hown hts km_Lw_34 kI_Le_flush kV_Le_flush kc_Le_flush (by decide) (show (parseMethodDescriptor y_Le_flush.desc).map (fun d => d.parameters.length) = some 0 by decide +kernel) (gx_recv (ci := 0) hK hP rfl f_0) rfl rfl d_Lw_flush_3) (gx_cw (z := 0) hts kc_Le_flush kN_Le rfl rfl ⟨Nat.le_of_ble_eq_true rfl, Nat.le_of_ble_eq_true rfl⟩) hb hml gx_blind (gx_pre hz hP hK hD hY hS hAz [Value.ref A0]) rfl hl.1 (lv_room (Nat.le_of_ble_eq_true rfl)) d_Lw_flush_3 ⟨Nat.le_of_ble_eq_true rfl, Nat.le_of_ble_eq_true rfl⟩ (fun v1 st1 t1 L1 h0_1 hW_1 hQ_1 hL_1 => ?_) (fun v1 st1 t1 L1 h0_1 hW_1 hQ_1 hL_1 => ?_)
  · obtain ⟨ws2, hp, hP9, -, hD9, hS9⟩ := gx_back h0_1 hW_1 hQ_1 hL_1 hD hS hA
    clear hQ_1 h0_1 hL_1 hW_1 hP hD hS
    have hP := hP9
    have hD := hD9
    have hS := hS9
    clear hP9 hD9 hS9
    rcases hp with ⟨hv9, e_ws2⟩
    cases hv9
  · obtain ⟨E9, ws3, ce, hp, hce, hP9, -, hD9, hS9⟩ := gx_backT h0_1 hW_1 hQ_1 hL_1 hD hS hA
    clear hQ_1 h0_1 hL_1 hW_1 hP hD hS
    have hP := hP9
    have hD := hD9
    have hS := hS9
    clear hP9 hD9 hS9
    rcases hp with ⟨hv9, e_ws3⟩
    cases hv9
    rw [e_ws3] at hP hD
    refine gx_catch (E := "java/lang/IllegalStateException") (hp := 11) hown htab (Or.inr ⟨⟨by show 0 ≤ 3; decide, by show 3 < 8; decide⟩, by decide, "java/lang/IllegalStateException", hts _ kk_Lw_15, Or.inl ⟨rfl, hts _ kB_IllegalStateException⟩⟩) hce ?_
    clear hce
    refine W.widen (k := 1) (n := 6) (by decide) (by decide) ?_
    generalize t1.heap = H at hP hS ⊢
    generalize [] ++ L1 = locs at hS ⊢
    refine lv_astore_n (lv' := [(2, Value.ref v1), (0, Value.ref A0), (1, Value.ref A116)]) hx hb d_Lw_flush_11 rfl hl (by decide) rfl (fun ls hl => ?_)
    refine lv_iconst (v := 1) hx hb d_Lw_flush_12 (by decide) ?_
    exact gx_ret (W.iret (v := 1) hx hb hr (gx_post hP hK hD hS (by rw [← hPQ]; exact ⟨rfl, rfl⟩)) hS.2.2 d_Lw_flush_13)

set_option maxHeartbeats 4000000 in
set_option maxRecDepth 100000 in
theorem c_Lw_harm_v1 (l : Launch) (htr : l.stackTraces = false) (D : va_G) (tys : List (ClassId × FieldType)) (z sz : Nat) (ws : va_W) (cR : ClassId) (A0 : Nat) (p0 : Int32) (p1 : Int32) (A1 : Nat) (A5 : Nat) (A8 : Nat) (A20 : Nat) (A25 : Nat) (A12 : Nat) (A16 : Nat) (A6 : Nat) (A7 : Nat) (u0 : Value) (A26 : Nat) (A31 : Nat) (A36 : Nat) (A41 : Nat) (A27 : Nat) (A32 : Nat) (A37 : Nat) (A42 : Nat) (f_0 : ws[0]? = some ((A0, Sum.inr (0, [Value.ref A1, Value.ref A5, Value.ref A8, Value.ref A20, Value.ref A25, Value.ref A12, Value.ref A16, Value.int 0, Value.int 0, Value.int 0, Value.int 16, Value.int 4, Value.int 0, Value.int 0, Value.int 0, Value.int 0, Value.int 0, Value.int (-1)])) : Nat × va_E)) (f_5 : ws[5]? = some ((A5, Sum.inr (2, [Value.ref A6, Value.ref A7, Value.int 0, Value.int 0])) : Nat × va_E)) (f_6 : ws[6]? = some ((A6, Sum.inr (3, [u0, Value.int 0, Value.int 0])) : Nat × va_E)) (f_25 : ws[25]? = some ((A25, Sum.inl (cR, 4, Sum.inr (Sum.inr (Sum.inr (Sum.inr (va_up (va_up (va_up (va_up (fun _ => none) 0 (some A26)) 1 (some A31)) 2 (some A36)) 3 (some A41))))))) : Nat × va_E)) (f_26 : ws[26]? = some ((A26, Sum.inr (6, [Value.ref A27, Value.int 0, Value.int 0])) : Nat × va_E)) (f_31 : ws[31]? = some ((A31, Sum.inr (6, [Value.ref A32, Value.int 0, Value.int 0])) : Nat × va_E)) (f_36 : ws[36]? = some ((A36, Sum.inr (6, [Value.ref A37, Value.int 0, Value.int 0])) : Nat × va_E)) (f_41 : ws[41]? = some ((A41, Sum.inr (6, [Value.ref A42, Value.int 0, Value.int 0])) : Nat × va_E)) (ht4 : tys[4]? = some ((cR, FieldType.object "CommitLedger$Reader") : ClassId × FieldType)) : gx_Met l y_Lw_harm [Cond.codeWith y_Lw_harm b_Lw_harm 4 (some .int) [(0, 6, 9, 13), (0, 6, 12, 15), (0, 6, 15, 41)]] { frames := 7, cells := 1, slots := 6, locals := 105 } (gx_P z sz D classes tys ws [Value.ref A0, Value.int p0, Value.int p1]) (gx_Q D classes tys (va_A ws sz) (fun r ws' => (r = Sum.inl (some (Value.int 1)) ∧ ws' = ws ∧ p0 < 0) ∨ (r = Sum.inl (some (Value.int 3)) ∧ ws' = ws ∧ ¬ p0 < 0 ∧ 0 ≤ p1) ∨ (r = Sum.inl (some (Value.int 1)) ∧ ws' = ws ∧ ¬ p0 < 0 ∧ ¬ 0 ≤ p1))) 1 6 (va_A ws sz) := by
  refine gx_ofWH (cc := b_Lw_harm) (maxL := 4) (ret := (some .int)) (by decide) ?_
  intro p e s m args below meth c s₁ B hml htab hv
  obtain ⟨rfl, hsz, hz, hP, hK, hD0, hY⟩ := hv
  have hx := B.exec
  have hb := B.bytes
  have hr := B.returns
  have hts := hY.hts (#[Value.ref A0, Value.int p0, Value.int p1] : Array Value)
  have hown : s.vm.findClass "CommitLedgerLaw" = some m.cls := findClass_of_methodNamed B.named
  have hlocks := B.notSynchronized
  subst hsz
  have hAz := gx_az hD0 hz
  have hD := hD0.self (sz := s.heap.size)
  have hN := gx_ns hP
  have hA : ∀ q : Nat, s.heap.size ≤ q → va_A ws s.heap.size q := fun q h => Or.inr h
  generalize va_A ws s.heap.size = A at hD hN hA hAz ⊢
  generalize hPQ : (fun (r : Option Value ⊕ String) (ws' : va_W) => (r = Sum.inl (some (Value.int 1)) ∧ ws' = ws ∧ p0 < 0) ∨ (r = Sum.inl (some (Value.int 3)) ∧ ws' = ws ∧ ¬ p0 < 0 ∧ 0 ≤ p1) ∨ (r = Sum.inl (some (Value.int 1)) ∧ ws' = ws ∧ ¬ p0 < 0 ∧ ¬ 0 ≤ p1)) = PQ
  have hS : va_S A s.heap s.heap [] := va_S.rf
  have hU : gx_g ws ws 0 [] := gx_g.rf
  have hl := lv_entry ([Value.ref A0, Value.int p0, Value.int p1]) (n := 4) (Nat.le_of_ble_eq_true rfl)
  rw [lg_entry_eq]
  generalize (lg_sl ([Value.ref A0, Value.int p0, Value.int p1]) ++ List.replicate (4 - (lg_sl ([Value.ref A0, Value.int p0, Value.int p1])).length) Slot.unset).toArray = ls at hl ⊢
  have hl : lv_has ls 4 [(0, Value.ref A0), (1, Value.int p0), (2, Value.int p1)] := hl
  refine lv_aload_n hx hb d_Lw_harm_0 rfl (lv_at hl 0 rfl) ?_
  refine lv_iload_n hx hb d_Lw_harm_1 rfl (lv_at hl 1 rfl) ?_
  refine lv_iload_n hx hb d_Lw_harm_2 rfl (lv_at hl 2 rfl) ?_
  refine gx_call (ig := .invokevirtual 63) (c_Le_harm_v1 l htr D tys z _ ws cR A0 p0 p1 A1 A5 A8 A20 A25 A12 A16 A6 A7 (u0) A26 A31 A36 A41 A27 A32 A37 A42 f_0 f_5 f_6 f_25 f_26 f_31 f_36 f_41 ht4) (gx_invV (As := [Value.int p0, Value.int p1]) (rest := []) hx hb hown hts km_Lw_63 kI_Le_harm kV_Le_harm kc_Le_harm (by decide) (show (parseMethodDescriptor y_Le_harm.desc).map (fun d => d.parameters.length) = some 2 by decide +kernel) (gx_recv (ci := 0) hK hP rfl f_0) rfl rfl d_Lw_harm_3) (gx_cw (z := 0) hts kc_Le_harm kN_Le rfl rfl ⟨Nat.le_of_ble_eq_true rfl, Nat.le_of_ble_eq_true rfl⟩) hb hml gx_blind (gx_pre hz hP hK hD hY hS hAz [Value.ref A0, Value.int p0, Value.int p1]) rfl hl.1 (lv_room (Nat.le_of_ble_eq_true rfl)) d_Lw_harm_3 ⟨Nat.le_of_ble_eq_true rfl, Nat.le_of_ble_eq_true rfl⟩ (fun v1 st1 t1 L1 h0_1 hW_1 hQ_1 hL_1 => ?_) (fun v1 st1 t1 L1 h0_1 hW_1 hQ_1 hL_1 => ?_)
  · obtain ⟨ws2, hp, hP9, -, hD9, hS9⟩ := gx_back h0_1 hW_1 hQ_1 hL_1 hD hS hA
    clear hQ_1 h0_1 hL_1 hW_1 hP hD hS
    have hP := hP9
    have hD := hD9
    have hS := hS9
    clear hP9 hD9 hS9
    rcases hp with ⟨hv9, e_ws2, g1_0⟩ | ⟨hv9, e_ws2, g1_0, g1_1⟩ | ⟨hv9, e_ws2, g1_0, g1_1⟩
    · cases hv9
    · cases hv9
    · cases hv9
  · obtain ⟨E9, ws3, ce, hp, hce, hP9, -, hD9, hS9⟩ := gx_backT h0_1 hW_1 hQ_1 hL_1 hD hS hA
    clear hQ_1 h0_1 hL_1 hW_1 hP hD hS
    have hP := hP9
    have hD := hD9
    have hS := hS9
    clear hP9 hD9 hS9
    rcases hp with ⟨hv9, e_ws3, g1_0⟩ | ⟨hv9, e_ws3, g1_0, g1_1⟩ | ⟨hv9, e_ws3, g1_0, g1_1⟩
    · cases hv9
      rw [e_ws3] at hP hD
      refine gx_catch (E := "java/lang/IllegalArgumentException") (hp := 9) hown htab (Or.inr ⟨⟨by show 0 ≤ 3; decide, by show 3 < 6; decide⟩, by decide, "java/lang/IllegalArgumentException", hts _ kk_Lw_13, Or.inl ⟨rfl, hts _ kB_IllegalArgumentException⟩⟩) hce ?_
      clear hce
      refine W.widen (k := 1) (n := 6) (by decide) (by decide) ?_
      generalize t1.heap = H at hP hS ⊢
      generalize [] ++ L1 = locs at hS ⊢
      refine lv_astore_n (lv' := [(3, Value.ref v1), (0, Value.ref A0), (1, Value.int p0), (2, Value.int p1)]) hx hb d_Lw_harm_9 rfl hl (by decide) rfl (fun ls hl => ?_)
      refine lv_iconst (v := 1) hx hb d_Lw_harm_10 (by decide) ?_
      exact gx_ret (W.iret (v := 1) hx hb hr (gx_post hP hK hD hS (by rw [← hPQ]; exact Or.inl ⟨rfl, rfl, g1_0⟩)) hS.2.2 d_Lw_harm_11)
    · cases hv9
      rw [e_ws3] at hP hD
      refine gx_catch (E := "java/util/NoSuchElementException") (hp := 15) hown htab (Or.inr ⟨⟨by show 0 ≤ 3; decide, by show 3 < 6; decide⟩, by decide, "java/lang/IllegalArgumentException", hts _ kk_Lw_13, Or.inr ⟨hts _ kZ_NoSuchElementException_IllegalArgumentException, (Or.inr ⟨⟨by show 0 ≤ 3; decide, by show 3 < 6; decide⟩, by decide, "java/lang/IllegalStateException", hts _ kk_Lw_15, Or.inr ⟨hts _ kZ_NoSuchElementException_IllegalStateException, (Or.inr ⟨⟨by show 0 ≤ 3; decide, by show 3 < 6; decide⟩, by decide, "java/util/NoSuchElementException", hts _ kk_Lw_41, Or.inl ⟨rfl, hts _ kB_NoSuchElementException⟩⟩)⟩⟩)⟩⟩) hce ?_
      clear hce
      refine W.widen (k := 1) (n := 6) (by decide) (by decide) ?_
      generalize t1.heap = H at hP hS ⊢
      generalize [] ++ L1 = locs at hS ⊢
      refine lv_astore_n (lv' := [(3, Value.ref v1), (0, Value.ref A0), (1, Value.int p0), (2, Value.int p1)]) hx hb d_Lw_harm_15 rfl hl (by decide) rfl (fun ls hl => ?_)
      refine lv_iconst (v := 3) hx hb d_Lw_harm_16 (by decide) ?_
      exact gx_ret (W.iret (v := 3) hx hb hr (gx_post hP hK hD hS (by rw [← hPQ]; exact Or.inr (Or.inl ⟨rfl, rfl, g1_0, g1_1⟩))) hS.2.2 d_Lw_harm_17)
    · cases hv9
      rw [e_ws3] at hP hD
      refine gx_catch (E := "java/lang/IllegalArgumentException") (hp := 9) hown htab (Or.inr ⟨⟨by show 0 ≤ 3; decide, by show 3 < 6; decide⟩, by decide, "java/lang/IllegalArgumentException", hts _ kk_Lw_13, Or.inl ⟨rfl, hts _ kB_IllegalArgumentException⟩⟩) hce ?_
      clear hce
      refine W.widen (k := 1) (n := 6) (by decide) (by decide) ?_
      generalize t1.heap = H at hP hS ⊢
      generalize [] ++ L1 = locs at hS ⊢
      refine lv_astore_n (lv' := [(3, Value.ref v1), (0, Value.ref A0), (1, Value.int p0), (2, Value.int p1)]) hx hb d_Lw_harm_9 rfl hl (by decide) rfl (fun ls hl => ?_)
      refine lv_iconst (v := 1) hx hb d_Lw_harm_10 (by decide) ?_
      exact gx_ret (W.iret (v := 1) hx hb hr (gx_post hP hK hD hS (by rw [← hPQ]; exact Or.inr (Or.inr (⟨rfl, rfl, g1_0, g1_1⟩)))) hS.2.2 d_Lw_harm_11)

set_option maxHeartbeats 4000000 in
set_option maxRecDepth 100000 in
theorem c_Lw_limits_v1 (l : Launch) (htr : l.stackTraces = false) (D : va_G) (tys : List (ClassId × FieldType)) (z sz : Nat) (ws : va_W) (A0 : Nat) (p0 : Int32) (p1 : Int32) (A1 : Nat) (A5 : Nat) (A8 : Nat) (A20 : Nat) (A25 : Nat) (A12 : Nat) (A16 : Nat) (f_0 : ws[0]? = some ((A0, Sum.inr (0, [Value.ref A1, Value.ref A5, Value.ref A8, Value.ref A20, Value.ref A25, Value.ref A12, Value.ref A16, Value.int 0, Value.int 0, Value.int 0, Value.int 16, Value.int 4, Value.int 0, Value.int 0, Value.int 0, Value.int 0, Value.int 0, Value.int (-1)])) : Nat × va_E)) : gx_Met l y_Lw_limits [Cond.codeWith y_Lw_limits b_Lw_limits 4 (some .int) [(0, 6, 9, 13)]] { frames := 8, cells := 2, slots := 12, locals := 126 } (gx_P z sz D classes tys ws [Value.ref A0, Value.int p0, Value.int p1]) (gx_Q D classes tys (va_A ws sz) (fun r ws' => (r = Sum.inl (some (Value.int 0)) ∧ gx_g ws ws' 0 [0] ∧ ws'[0]? = some ((A0, Sum.inr (0, [Value.ref A1, Value.ref A5, Value.ref A8, Value.ref A20, Value.ref A25, Value.ref A12, Value.ref A16, Value.int 0, Value.int 0, Value.int 0, Value.int p0, Value.int p1, Value.int 0, Value.int 0, Value.int 0, Value.int 0, Value.int 0, Value.int (-1)])) : Nat × va_E) ∧ ¬ p0 < 1 ∧ p0 ≤ 10000 ∧ ¬ p1 < 2 ∧ p1 ≤ 64) ∨ (r = Sum.inl (some (Value.int 1)) ∧ gx_g ws ws' 0 [0] ∧ ws'[0]? = some ((A0, Sum.inr (0, [Value.ref A1, Value.ref A5, Value.ref A8, Value.ref A20, Value.ref A25, Value.ref A12, Value.ref A16, Value.int 0, Value.int 0, Value.int 0, Value.int 16, Value.int 4, Value.int 0, Value.int 0, Value.int 0, Value.int 0, Value.int 0, Value.int (-1)])) : Nat × va_E) ∧ p0 < 1) ∨ (r = Sum.inl (some (Value.int 1)) ∧ gx_g ws ws' 0 [0] ∧ ws'[0]? = some ((A0, Sum.inr (0, [Value.ref A1, Value.ref A5, Value.ref A8, Value.ref A20, Value.ref A25, Value.ref A12, Value.ref A16, Value.int 0, Value.int 0, Value.int 0, Value.int 16, Value.int 4, Value.int 0, Value.int 0, Value.int 0, Value.int 0, Value.int 0, Value.int (-1)])) : Nat × va_E) ∧ ¬ p0 < 1 ∧ ¬ p0 ≤ 10000) ∨ (r = Sum.inl (some (Value.int 1)) ∧ gx_g ws ws' 0 [0] ∧ ws'[0]? = some ((A0, Sum.inr (0, [Value.ref A1, Value.ref A5, Value.ref A8, Value.ref A20, Value.ref A25, Value.ref A12, Value.ref A16, Value.int 0, Value.int 0, Value.int 0, Value.int 16, Value.int 4, Value.int 0, Value.int 0, Value.int 0, Value.int 0, Value.int 0, Value.int (-1)])) : Nat × va_E) ∧ ¬ p0 < 1 ∧ p0 ≤ 10000 ∧ p1 < 2) ∨ (r = Sum.inl (some (Value.int 1)) ∧ gx_g ws ws' 0 [0] ∧ ws'[0]? = some ((A0, Sum.inr (0, [Value.ref A1, Value.ref A5, Value.ref A8, Value.ref A20, Value.ref A25, Value.ref A12, Value.ref A16, Value.int 0, Value.int 0, Value.int 0, Value.int 16, Value.int 4, Value.int 0, Value.int 0, Value.int 0, Value.int 0, Value.int 0, Value.int (-1)])) : Nat × va_E) ∧ ¬ p0 < 1 ∧ p0 ≤ 10000 ∧ ¬ p1 < 2 ∧ ¬ p1 ≤ 64))) 2 12 (va_A ws sz) := by
  refine gx_ofWH (cc := b_Lw_limits) (maxL := 4) (ret := (some .int)) (by decide) ?_
  intro p e s m args below meth c s₁ B hml htab hv
  obtain ⟨rfl, hsz, hz, hP, hK, hD0, hY⟩ := hv
  have hx := B.exec
  have hb := B.bytes
  have hr := B.returns
  have hts := hY.hts (#[Value.ref A0, Value.int p0, Value.int p1] : Array Value)
  have hown : s.vm.findClass "CommitLedgerLaw" = some m.cls := findClass_of_methodNamed B.named
  have hlocks := B.notSynchronized
  subst hsz
  have hAz := gx_az hD0 hz
  have hD := hD0.self (sz := s.heap.size)
  have hN := gx_ns hP
  have hA : ∀ q : Nat, s.heap.size ≤ q → va_A ws s.heap.size q := fun q h => Or.inr h
  generalize va_A ws s.heap.size = A at hD hN hA hAz ⊢
  generalize hPQ : (fun (r : Option Value ⊕ String) (ws' : va_W) => (r = Sum.inl (some (Value.int 0)) ∧ gx_g ws ws' 0 [0] ∧ ws'[0]? = some ((A0, Sum.inr (0, [Value.ref A1, Value.ref A5, Value.ref A8, Value.ref A20, Value.ref A25, Value.ref A12, Value.ref A16, Value.int 0, Value.int 0, Value.int 0, Value.int p0, Value.int p1, Value.int 0, Value.int 0, Value.int 0, Value.int 0, Value.int 0, Value.int (-1)])) : Nat × va_E) ∧ ¬ p0 < 1 ∧ p0 ≤ 10000 ∧ ¬ p1 < 2 ∧ p1 ≤ 64) ∨ (r = Sum.inl (some (Value.int 1)) ∧ gx_g ws ws' 0 [0] ∧ ws'[0]? = some ((A0, Sum.inr (0, [Value.ref A1, Value.ref A5, Value.ref A8, Value.ref A20, Value.ref A25, Value.ref A12, Value.ref A16, Value.int 0, Value.int 0, Value.int 0, Value.int 16, Value.int 4, Value.int 0, Value.int 0, Value.int 0, Value.int 0, Value.int 0, Value.int (-1)])) : Nat × va_E) ∧ p0 < 1) ∨ (r = Sum.inl (some (Value.int 1)) ∧ gx_g ws ws' 0 [0] ∧ ws'[0]? = some ((A0, Sum.inr (0, [Value.ref A1, Value.ref A5, Value.ref A8, Value.ref A20, Value.ref A25, Value.ref A12, Value.ref A16, Value.int 0, Value.int 0, Value.int 0, Value.int 16, Value.int 4, Value.int 0, Value.int 0, Value.int 0, Value.int 0, Value.int 0, Value.int (-1)])) : Nat × va_E) ∧ ¬ p0 < 1 ∧ ¬ p0 ≤ 10000) ∨ (r = Sum.inl (some (Value.int 1)) ∧ gx_g ws ws' 0 [0] ∧ ws'[0]? = some ((A0, Sum.inr (0, [Value.ref A1, Value.ref A5, Value.ref A8, Value.ref A20, Value.ref A25, Value.ref A12, Value.ref A16, Value.int 0, Value.int 0, Value.int 0, Value.int 16, Value.int 4, Value.int 0, Value.int 0, Value.int 0, Value.int 0, Value.int 0, Value.int (-1)])) : Nat × va_E) ∧ ¬ p0 < 1 ∧ p0 ≤ 10000 ∧ p1 < 2) ∨ (r = Sum.inl (some (Value.int 1)) ∧ gx_g ws ws' 0 [0] ∧ ws'[0]? = some ((A0, Sum.inr (0, [Value.ref A1, Value.ref A5, Value.ref A8, Value.ref A20, Value.ref A25, Value.ref A12, Value.ref A16, Value.int 0, Value.int 0, Value.int 0, Value.int 16, Value.int 4, Value.int 0, Value.int 0, Value.int 0, Value.int 0, Value.int 0, Value.int (-1)])) : Nat × va_E) ∧ ¬ p0 < 1 ∧ p0 ≤ 10000 ∧ ¬ p1 < 2 ∧ ¬ p1 ≤ 64)) = PQ
  have hS : va_S A s.heap s.heap [] := va_S.rf
  have hU : gx_g ws ws 0 [0] := gx_g.rf
  have hl := lv_entry ([Value.ref A0, Value.int p0, Value.int p1]) (n := 4) (Nat.le_of_ble_eq_true rfl)
  rw [lg_entry_eq]
  generalize (lg_sl ([Value.ref A0, Value.int p0, Value.int p1]) ++ List.replicate (4 - (lg_sl ([Value.ref A0, Value.int p0, Value.int p1])).length) Slot.unset).toArray = ls at hl ⊢
  have hl : lv_has ls 4 [(0, Value.ref A0), (1, Value.int p0), (2, Value.int p1)] := hl
  refine lv_aload_n hx hb d_Lw_limits_0 rfl (lv_at hl 0 rfl) ?_
  refine lv_iload_n hx hb d_Lw_limits_1 rfl (lv_at hl 1 rfl) ?_
  refine lv_iload_n hx hb d_Lw_limits_2 rfl (lv_at hl 2 rfl) ?_
  refine gx_call (ig := .invokevirtual 19) (c_Le_limits l htr D tys z _ ws A0 (Value.ref A1) (Value.ref A5) (Value.ref A8) (Value.ref A20) (Value.ref A25) (Value.ref A12) (Value.ref A16) (Value.int 0) (Value.int 0) (Value.int 0) 16 4 (Value.int 0) (Value.int 0) (Value.int 0) (Value.int 0) (Value.int 0) (Value.int (-1)) p0 p1 f_0) (gx_invV (As := [Value.int p0, Value.int p1]) (rest := []) hx hb hown hts km_Lw_19 kI_Le_limits kV_Le_limits kc_Le_limits (by decide) (show (parseMethodDescriptor y_Le_limits.desc).map (fun d => d.parameters.length) = some 2 by decide +kernel) (gx_recv (ci := 0) hK hP rfl f_0) rfl rfl d_Lw_limits_3) (gx_cw (z := 0) hts kc_Le_limits kN_Le rfl rfl ⟨Nat.le_of_ble_eq_true rfl, Nat.le_of_ble_eq_true rfl⟩) hb hml gx_blind (gx_pre hz hP hK hD hY hS hAz [Value.ref A0, Value.int p0, Value.int p1]) rfl hl.1 (lv_room (Nat.le_of_ble_eq_true rfl)) d_Lw_limits_3 ⟨Nat.le_of_ble_eq_true rfl, Nat.le_of_ble_eq_true rfl⟩ (fun v1 st1 t1 L1 h0_1 hW_1 hQ_1 hL_1 => ?_) (fun v1 st1 t1 L1 h0_1 hW_1 hQ_1 hL_1 => ?_)
  · obtain ⟨ws2, hp, hP9, -, hD9, hS9⟩ := gx_back h0_1 hW_1 hQ_1 hL_1 hD hS hA
    clear hQ_1 h0_1 hL_1 hW_1 hP hD hS
    have hP := hP9
    have hD := hD9
    have hS := hS9
    clear hP9 hD9 hS9
    rcases hp with ⟨hv9, e_ws2, f_0_ws2, g1_0, g1_1, g1_2, g1_3⟩ | ⟨hv9, e_ws2, g1_0⟩ | ⟨hv9, e_ws2, g1_0, g1_1⟩ | ⟨hv9, e_ws2, g1_0, g1_1, g1_2⟩ | ⟨hv9, e_ws2, g1_0, g1_1, g1_2, g1_3⟩
    · cases hv9
      have f_0_ws2 : ws2[0]? = some ((A0, Sum.inr (0, [Value.ref A1, Value.ref A5, Value.ref A8, Value.ref A20, Value.ref A25, Value.ref A12, Value.ref A16, Value.int 0, Value.int 0, Value.int 0, Value.int p0, Value.int p1, Value.int 0, Value.int 0, Value.int 0, Value.int 0, Value.int 0, Value.int (-1)])) : Nat × va_E) := f_0_ws2
      replace hU : gx_g ws ws2 0 [0] := hU.call e_ws2 (by simp; first | done | omega)
      refine W.eq (g2 := F0 m 6 ls []) rfl ?_
      refine W.widen (k := 2) (n := 12) (by decide) (by decide) ?_
      generalize t1.heap = H at hP hS ⊢
      generalize [] ++ L1 = locs at hS ⊢
      refine lv_goto (tgt := 12) hx hb d_Lw_limits_6 (by decide) ?_
      refine lv_iconst (v := 0) hx hb d_Lw_limits_12 (by decide) ?_
      exact gx_ret (W.iret (v := 0) hx hb hr (gx_post hP hK hD hS (by rw [← hPQ]; exact Or.inl ⟨rfl, hU, f_0_ws2, g1_0, g1_1, g1_2, g1_3⟩)) hS.2.2 d_Lw_limits_13)
    · cases hv9
    · cases hv9
    · cases hv9
    · cases hv9
  · obtain ⟨E9, ws3, ce, hp, hce, hP9, -, hD9, hS9⟩ := gx_backT h0_1 hW_1 hQ_1 hL_1 hD hS hA
    clear hQ_1 h0_1 hL_1 hW_1 hP hD hS
    have hP := hP9
    have hD := hD9
    have hS := hS9
    clear hP9 hD9 hS9
    rcases hp with ⟨hv9, e_ws3, f_0_ws3, g1_0, g1_1, g1_2, g1_3⟩ | ⟨hv9, e_ws3, g1_0⟩ | ⟨hv9, e_ws3, g1_0, g1_1⟩ | ⟨hv9, e_ws3, g1_0, g1_1, g1_2⟩ | ⟨hv9, e_ws3, g1_0, g1_1, g1_2, g1_3⟩
    · cases hv9
    · cases hv9
      rw [e_ws3] at hP hD
      refine gx_catch (E := "java/lang/IllegalArgumentException") (hp := 9) hown htab (Or.inr ⟨⟨by show 0 ≤ 3; decide, by show 3 < 6; decide⟩, by decide, "java/lang/IllegalArgumentException", hts _ kk_Lw_13, Or.inl ⟨rfl, hts _ kB_IllegalArgumentException⟩⟩) hce ?_
      clear hce
      refine W.widen (k := 2) (n := 12) (by decide) (by decide) ?_
      generalize t1.heap = H at hP hS ⊢
      generalize [] ++ L1 = locs at hS ⊢
      refine lv_astore_n (lv' := [(3, Value.ref v1), (0, Value.ref A0), (1, Value.int p0), (2, Value.int p1)]) hx hb d_Lw_limits_9 rfl hl (by decide) rfl (fun ls hl => ?_)
      refine lv_iconst (v := 1) hx hb d_Lw_limits_10 (by decide) ?_
      exact gx_ret (W.iret (v := 1) hx hb hr (gx_post hP hK hD hS (by rw [← hPQ]; exact Or.inr (Or.inl ⟨rfl, hU, f_0, g1_0⟩))) hS.2.2 d_Lw_limits_11)
    · cases hv9
      rw [e_ws3] at hP hD
      refine gx_catch (E := "java/lang/IllegalArgumentException") (hp := 9) hown htab (Or.inr ⟨⟨by show 0 ≤ 3; decide, by show 3 < 6; decide⟩, by decide, "java/lang/IllegalArgumentException", hts _ kk_Lw_13, Or.inl ⟨rfl, hts _ kB_IllegalArgumentException⟩⟩) hce ?_
      clear hce
      refine W.widen (k := 2) (n := 12) (by decide) (by decide) ?_
      generalize t1.heap = H at hP hS ⊢
      generalize [] ++ L1 = locs at hS ⊢
      refine lv_astore_n (lv' := [(3, Value.ref v1), (0, Value.ref A0), (1, Value.int p0), (2, Value.int p1)]) hx hb d_Lw_limits_9 rfl hl (by decide) rfl (fun ls hl => ?_)
      refine lv_iconst (v := 1) hx hb d_Lw_limits_10 (by decide) ?_
      exact gx_ret (W.iret (v := 1) hx hb hr (gx_post hP hK hD hS (by rw [← hPQ]; exact Or.inr (Or.inr (Or.inl ⟨rfl, hU, f_0, g1_0, g1_1⟩)))) hS.2.2 d_Lw_limits_11)
    · cases hv9
      rw [e_ws3] at hP hD
      refine gx_catch (E := "java/lang/IllegalArgumentException") (hp := 9) hown htab (Or.inr ⟨⟨by show 0 ≤ 3; decide, by show 3 < 6; decide⟩, by decide, "java/lang/IllegalArgumentException", hts _ kk_Lw_13, Or.inl ⟨rfl, hts _ kB_IllegalArgumentException⟩⟩) hce ?_
      clear hce
      refine W.widen (k := 2) (n := 12) (by decide) (by decide) ?_
      generalize t1.heap = H at hP hS ⊢
      generalize [] ++ L1 = locs at hS ⊢
      refine lv_astore_n (lv' := [(3, Value.ref v1), (0, Value.ref A0), (1, Value.int p0), (2, Value.int p1)]) hx hb d_Lw_limits_9 rfl hl (by decide) rfl (fun ls hl => ?_)
      refine lv_iconst (v := 1) hx hb d_Lw_limits_10 (by decide) ?_
      exact gx_ret (W.iret (v := 1) hx hb hr (gx_post hP hK hD hS (by rw [← hPQ]; exact Or.inr (Or.inr (Or.inr (Or.inl ⟨rfl, hU, f_0, g1_0, g1_1, g1_2⟩))))) hS.2.2 d_Lw_limits_11)
    · cases hv9
      rw [e_ws3] at hP hD
      refine gx_catch (E := "java/lang/IllegalArgumentException") (hp := 9) hown htab (Or.inr ⟨⟨by show 0 ≤ 3; decide, by show 3 < 6; decide⟩, by decide, "java/lang/IllegalArgumentException", hts _ kk_Lw_13, Or.inl ⟨rfl, hts _ kB_IllegalArgumentException⟩⟩) hce ?_
      clear hce
      refine W.widen (k := 2) (n := 12) (by decide) (by decide) ?_
      generalize t1.heap = H at hP hS ⊢
      generalize [] ++ L1 = locs at hS ⊢
      refine lv_astore_n (lv' := [(3, Value.ref v1), (0, Value.ref A0), (1, Value.int p0), (2, Value.int p1)]) hx hb d_Lw_limits_9 rfl hl (by decide) rfl (fun ls hl => ?_)
      refine lv_iconst (v := 1) hx hb d_Lw_limits_10 (by decide) ?_
      exact gx_ret (W.iret (v := 1) hx hb hr (gx_post hP hK hD hS (by rw [← hPQ]; exact Or.inr (Or.inr (Or.inr (Or.inr (⟨rfl, hU, f_0, g1_0, g1_1, g1_2, g1_3⟩)))))) hS.2.2 d_Lw_limits_11)

set_option maxHeartbeats 4000000 in
set_option maxRecDepth 100000 in
theorem c_Lw_many_v1 (l : Launch) (htr : l.stackTraces = false) (D : va_G) (tys : List (ClassId × FieldType)) (z sz : Nat) (ws : va_W) (cR : ClassId) (A0 : Nat) (p0 : Int32) (p1 : Int32) (A116 : Nat) (A1 : Nat) (A5 : Nat) (A8 : Nat) (A20 : Nat) (A25 : Nat) (A12 : Nat) (A16 : Nat) (A26 : Nat) (A31 : Nat) (A36 : Nat) (A41 : Nat) (A27 : Nat) (A32 : Nat) (A37 : Nat) (A42 : Nat) (f_0 : ws[0]? = some ((A0, Sum.inr (0, [Value.ref A1, Value.ref A5, Value.ref A8, Value.ref A20, Value.ref A25, Value.ref A12, Value.ref A16, Value.int 0, Value.int 0, Value.int 0, Value.int 16, Value.int 4, Value.int 0, Value.int 0, Value.int 0, Value.int 0, Value.int 0, Value.int (-1)])) : Nat × va_E)) (f_25 : ws[25]? = some ((A25, Sum.inl (cR, 4, Sum.inr (Sum.inr (Sum.inr (Sum.inr (va_up (va_up (va_up (va_up (fun _ => none) 0 (some A26)) 1 (some A31)) 2 (some A36)) 3 (some A41))))))) : Nat × va_E)) (f_26 : ws[26]? = some ((A26, Sum.inr (6, [Value.ref A27, Value.int 0, Value.int 0])) : Nat × va_E)) (f_31 : ws[31]? = some ((A31, Sum.inr (6, [Value.ref A32, Value.int 0, Value.int 0])) : Nat × va_E)) (f_36 : ws[36]? = some ((A36, Sum.inr (6, [Value.ref A37, Value.int 0, Value.int 0])) : Nat × va_E)) (f_41 : ws[41]? = some ((A41, Sum.inr (6, [Value.ref A42, Value.int 0, Value.int 0])) : Nat × va_E)) (ht4 : tys[4]? = some ((cR, FieldType.object "CommitLedger$Reader") : ClassId × FieldType)) : gx_Met l y_Lw_many [Cond.codeWith y_Lw_many b_Lw_many 5 (some .int) [(0, 10, 13, 41)]] { frames := 8, cells := 1, slots := 6, locals := 129 } (gx_P z sz D classes tys ws [Value.ref A0, Value.int p0, Value.int p1, Value.ref A116]) (gx_Q D classes tys (va_A ws sz) (fun r ws' => (r = Sum.inl (some (Value.int 1)) ∧ ws' = ws))) 1 6 (va_A ws sz) := by
  refine gx_ofWH (cc := b_Lw_many) (maxL := 5) (ret := (some .int)) (by decide) ?_
  intro p e s m args below meth c s₁ B hml htab hv
  obtain ⟨rfl, hsz, hz, hP, hK, hD0, hY⟩ := hv
  have hx := B.exec
  have hb := B.bytes
  have hr := B.returns
  have hts := hY.hts (#[Value.ref A0, Value.int p0, Value.int p1, Value.ref A116] : Array Value)
  have hown : s.vm.findClass "CommitLedgerLaw" = some m.cls := findClass_of_methodNamed B.named
  have hlocks := B.notSynchronized
  subst hsz
  have hAz := gx_az hD0 hz
  have hD := hD0.self (sz := s.heap.size)
  have hN := gx_ns hP
  have hA : ∀ q : Nat, s.heap.size ≤ q → va_A ws s.heap.size q := fun q h => Or.inr h
  generalize va_A ws s.heap.size = A at hD hN hA hAz ⊢
  generalize hPQ : (fun (r : Option Value ⊕ String) (ws' : va_W) => (r = Sum.inl (some (Value.int 1)) ∧ ws' = ws)) = PQ
  have hS : va_S A s.heap s.heap [] := va_S.rf
  have hU : gx_g ws ws 0 [] := gx_g.rf
  have hl := lv_entry ([Value.ref A0, Value.int p0, Value.int p1, Value.ref A116]) (n := 5) (Nat.le_of_ble_eq_true rfl)
  rw [lg_entry_eq]
  generalize (lg_sl ([Value.ref A0, Value.int p0, Value.int p1, Value.ref A116]) ++ List.replicate (5 - (lg_sl ([Value.ref A0, Value.int p0, Value.int p1, Value.ref A116])).length) Slot.unset).toArray = ls at hl ⊢
  have hl : lv_has ls 5 [(0, Value.ref A0), (1, Value.int p0), (2, Value.int p1), (3, Value.ref A116)] := hl
  refine lv_aload_n hx hb d_Lw_many_0 rfl (lv_at hl 3 rfl) ?_
  refine lv_iconst (v := 0) hx hb d_Lw_many_1 (by decide) ?_
  refine lv_aload_n hx hb d_Lw_many_2 rfl (lv_at hl 0 rfl) ?_
  refine lv_iload_n hx hb d_Lw_many_3 rfl (lv_at hl 1 rfl) ?_
  refine lv_iload_n hx hb d_Lw_many_4 rfl (lv_at hl 2 rfl) ?_
  refine gx_call (ig := .invokevirtual 76) (c_Le_many_v1 l htr D tys z _ ws cR A0 p0 p1 A1 A5 A8 A20 A25 A12 A16 A26 A31 A36 A41 A27 A32 A37 A42 f_0 f_25 f_26 f_31 f_36 f_41 ht4) (gx_invV (As := [Value.int p0, Value.int p1]) (rest := [Value.int 0, Value.ref A116]) hx hb hown hts km_Lw_76 kI_Le_many kV_Le_many kc_Le_many (by decide) (show (parseMethodDescriptor y_Le_many.desc).map (fun d => d.parameters.length) = some 2 by decide +kernel) (gx_recv (ci := 0) hK hP rfl f_0) rfl rfl d_Lw_many_5) (gx_cw (z := 0) hts kc_Le_many kN_Le rfl rfl ⟨Nat.le_of_ble_eq_true rfl, Nat.le_of_ble_eq_true rfl⟩) hb hml gx_blind (gx_pre hz hP hK hD hY hS hAz [Value.ref A0, Value.int p0, Value.int p1]) rfl hl.1 (lv_room (Nat.le_of_ble_eq_true rfl)) d_Lw_many_5 ⟨Nat.le_of_ble_eq_true rfl, Nat.le_of_ble_eq_true rfl⟩ (fun v1 st1 t1 L1 h0_1 hW_1 hQ_1 hL_1 => ?_) (fun v1 st1 t1 L1 h0_1 hW_1 hQ_1 hL_1 => ?_)
  · obtain ⟨ws2, hp, hP9, -, hD9, hS9⟩ := gx_back h0_1 hW_1 hQ_1 hL_1 hD hS hA
    clear hQ_1 h0_1 hL_1 hW_1 hP hD hS
    have hP := hP9
    have hD := hD9
    have hS := hS9
    clear hP9 hD9 hS9
    rcases hp with ⟨hv9, e_ws2⟩
    cases hv9
  · obtain ⟨E9, ws3, ce, hp, hce, hP9, -, hD9, hS9⟩ := gx_backT h0_1 hW_1 hQ_1 hL_1 hD hS hA
    clear hQ_1 h0_1 hL_1 hW_1 hP hD hS
    have hP := hP9
    have hD := hD9
    have hS := hS9
    clear hP9 hD9 hS9
    rcases hp with ⟨hv9, e_ws3⟩
    cases hv9
    rw [e_ws3] at hP hD
    refine gx_catch (E := "java/util/NoSuchElementException") (hp := 13) hown htab (Or.inr ⟨⟨by show 0 ≤ 5; decide, by show 5 < 10; decide⟩, by decide, "java/util/NoSuchElementException", hts _ kk_Lw_41, Or.inl ⟨rfl, hts _ kB_NoSuchElementException⟩⟩) hce ?_
    clear hce
    refine W.widen (k := 1) (n := 6) (by decide) (by decide) ?_
    generalize t1.heap = H at hP hS ⊢
    generalize [] ++ L1 = locs at hS ⊢
    refine lv_astore (lv' := [(4, Value.ref v1), (0, Value.ref A0), (1, Value.int p0), (2, Value.int p1), (3, Value.ref A116)]) hx hb d_Lw_many_13 hl (by decide) rfl (fun ls hl => ?_)
    refine lv_iconst (v := 1) hx hb d_Lw_many_15 (by decide) ?_
    exact gx_ret (W.iret (v := 1) hx hb hr (gx_post hP hK hD hS (by rw [← hPQ]; exact ⟨rfl, rfl⟩)) hS.2.2 d_Lw_many_16)

set_option maxHeartbeats 4000000 in
set_option maxRecDepth 100000 in
theorem c_Lw_merge_v1 (l : Launch) (htr : l.stackTraces = false) (D : va_G) (tys : List (ClassId × FieldType)) (z sz : Nat) (ws : va_W) (A0 : Nat) (p0 : Int32) (A116 : Nat) (A1 : Nat) (A5 : Nat) (A8 : Nat) (A20 : Nat) (A25 : Nat) (A12 : Nat) (A16 : Nat) (f_0 : ws[0]? = some ((A0, Sum.inr (0, [Value.ref A1, Value.ref A5, Value.ref A8, Value.ref A20, Value.ref A25, Value.ref A12, Value.ref A16, Value.int 0, Value.int 0, Value.int 0, Value.int 16, Value.int 4, Value.int 0, Value.int 0, Value.int 0, Value.int 0, Value.int 0, Value.int (-1)])) : Nat × va_E)) : gx_Met l y_Lw_merge [Cond.codeWith y_Lw_merge b_Lw_merge 4 (some .int) [(0, 9, 12, 13), (0, 9, 15, 15), (0, 9, 18, 41), (0, 9, 21, 27), (0, 9, 24, 29)]] { frames := 8, cells := 2, slots := 12, locals := 126 } (gx_P z sz D classes tys ws [Value.ref A0, Value.int p0, Value.ref A116]) (gx_Q D classes tys (va_A ws sz) (fun r ws' => (r = Sum.inl (some (Value.int 2)) ∧ ws' = ws ∧ ¬ p0 < 0 ∧ p0 ≤ 1) ∨ (r = Sum.inl (some (Value.int 1)) ∧ ws' = ws ∧ p0 < 0) ∨ (r = Sum.inl (some (Value.int 1)) ∧ ws' = ws ∧ ¬ p0 < 0 ∧ ¬ p0 ≤ 1))) 2 12 (va_A ws sz) := by
  refine gx_ofWH (cc := b_Lw_merge) (maxL := 4) (ret := (some .int)) (by decide) ?_
  intro p e s m args below meth c s₁ B hml htab hv
  obtain ⟨rfl, hsz, hz, hP, hK, hD0, hY⟩ := hv
  have hx := B.exec
  have hb := B.bytes
  have hr := B.returns
  have hts := hY.hts (#[Value.ref A0, Value.int p0, Value.ref A116] : Array Value)
  have hown : s.vm.findClass "CommitLedgerLaw" = some m.cls := findClass_of_methodNamed B.named
  have hlocks := B.notSynchronized
  subst hsz
  have hAz := gx_az hD0 hz
  have hD := hD0.self (sz := s.heap.size)
  have hN := gx_ns hP
  have hA : ∀ q : Nat, s.heap.size ≤ q → va_A ws s.heap.size q := fun q h => Or.inr h
  generalize va_A ws s.heap.size = A at hD hN hA hAz ⊢
  generalize hPQ : (fun (r : Option Value ⊕ String) (ws' : va_W) => (r = Sum.inl (some (Value.int 2)) ∧ ws' = ws ∧ ¬ p0 < 0 ∧ p0 ≤ 1) ∨ (r = Sum.inl (some (Value.int 1)) ∧ ws' = ws ∧ p0 < 0) ∨ (r = Sum.inl (some (Value.int 1)) ∧ ws' = ws ∧ ¬ p0 < 0 ∧ ¬ p0 ≤ 1)) = PQ
  have hS : va_S A s.heap s.heap [] := va_S.rf
  have hU : gx_g ws ws 0 [] := gx_g.rf
  have hl := lv_entry ([Value.ref A0, Value.int p0, Value.ref A116]) (n := 4) (Nat.le_of_ble_eq_true rfl)
  rw [lg_entry_eq]
  generalize (lg_sl ([Value.ref A0, Value.int p0, Value.ref A116]) ++ List.replicate (4 - (lg_sl ([Value.ref A0, Value.int p0, Value.ref A116])).length) Slot.unset).toArray = ls at hl ⊢
  have hl : lv_has ls 4 [(0, Value.ref A0), (1, Value.int p0), (2, Value.ref A116)] := hl
  refine lv_aload_n hx hb d_Lw_merge_0 rfl (lv_at hl 2 rfl) ?_
  refine lv_iconst (v := 0) hx hb d_Lw_merge_1 (by decide) ?_
  refine lv_aload_n hx hb d_Lw_merge_2 rfl (lv_at hl 0 rfl) ?_
  refine lv_iload_n hx hb d_Lw_merge_3 rfl (lv_at hl 1 rfl) ?_
  refine gx_call (ig := .invokevirtual 38) (c_Le_merge_v1 l htr D tys z _ ws A0 p0 A1 A5 A8 A20 A25 A12 A16 f_0) (gx_invV (As := [Value.int p0]) (rest := [Value.int 0, Value.ref A116]) hx hb hown hts km_Lw_38 kI_Le_merge kV_Le_merge kc_Le_merge (by decide) (show (parseMethodDescriptor y_Le_merge.desc).map (fun d => d.parameters.length) = some 1 by decide +kernel) (gx_recv (ci := 0) hK hP rfl f_0) rfl rfl d_Lw_merge_4) (gx_cw (z := 0) hts kc_Le_merge kN_Le rfl rfl ⟨Nat.le_of_ble_eq_true rfl, Nat.le_of_ble_eq_true rfl⟩) hb hml gx_blind (gx_pre hz hP hK hD hY hS hAz [Value.ref A0, Value.int p0]) rfl hl.1 (lv_room (Nat.le_of_ble_eq_true rfl)) d_Lw_merge_4 ⟨Nat.le_of_ble_eq_true rfl, Nat.le_of_ble_eq_true rfl⟩ (fun v1 st1 t1 L1 h0_1 hW_1 hQ_1 hL_1 => ?_) (fun v1 st1 t1 L1 h0_1 hW_1 hQ_1 hL_1 => ?_)
  · obtain ⟨ws2, hp, hP9, -, hD9, hS9⟩ := gx_back h0_1 hW_1 hQ_1 hL_1 hD hS hA
    clear hQ_1 h0_1 hL_1 hW_1 hP hD hS
    have hP := hP9
    have hD := hD9
    have hS := hS9
    clear hP9 hD9 hS9
    rcases hp with ⟨hv9, e_ws2, g1_0, g1_1⟩ | ⟨hv9, e_ws2, g1_0⟩ | ⟨hv9, e_ws2, g1_0, g1_1⟩
    · cases hv9
    · cases hv9
    · cases hv9
  · obtain ⟨E9, ws3, ce, hp, hce, hP9, -, hD9, hS9⟩ := gx_backT h0_1 hW_1 hQ_1 hL_1 hD hS hA
    clear hQ_1 h0_1 hL_1 hW_1 hP hD hS
    have hP := hP9
    have hD := hD9
    have hS := hS9
    clear hP9 hD9 hS9
    rcases hp with ⟨hv9, e_ws3, g1_0, g1_1⟩ | ⟨hv9, e_ws3, g1_0⟩ | ⟨hv9, e_ws3, g1_0, g1_1⟩
    · cases hv9
      rw [e_ws3] at hP hD
      refine gx_catch (E := "java/lang/IllegalStateException") (hp := 15) hown htab (Or.inr ⟨⟨by show 0 ≤ 4; decide, by show 4 < 9; decide⟩, by decide, "java/lang/IllegalArgumentException", hts _ kk_Lw_13, Or.inr ⟨hts _ kZ_IllegalStateException_IllegalArgumentException, (Or.inr ⟨⟨by show 0 ≤ 4; decide, by show 4 < 9; decide⟩, by decide, "java/lang/IllegalStateException", hts _ kk_Lw_15, Or.inl ⟨rfl, hts _ kB_IllegalStateException⟩⟩)⟩⟩) hce ?_
      clear hce
      refine W.widen (k := 2) (n := 12) (by decide) (by decide) ?_
      generalize t1.heap = H at hP hS ⊢
      generalize [] ++ L1 = locs at hS ⊢
      refine lv_astore_n (lv' := [(3, Value.ref v1), (0, Value.ref A0), (1, Value.int p0), (2, Value.ref A116)]) hx hb d_Lw_merge_15 rfl hl (by decide) rfl (fun ls hl => ?_)
      refine lv_iconst (v := 2) hx hb d_Lw_merge_16 (by decide) ?_
      exact gx_ret (W.iret (v := 2) hx hb hr (gx_post hP hK hD hS (by rw [← hPQ]; exact Or.inl ⟨rfl, rfl, g1_0, g1_1⟩)) hS.2.2 d_Lw_merge_17)
    · cases hv9
      rw [e_ws3] at hP hD
      refine gx_catch (E := "java/lang/IllegalArgumentException") (hp := 12) hown htab (Or.inr ⟨⟨by show 0 ≤ 4; decide, by show 4 < 9; decide⟩, by decide, "java/lang/IllegalArgumentException", hts _ kk_Lw_13, Or.inl ⟨rfl, hts _ kB_IllegalArgumentException⟩⟩) hce ?_
      clear hce
      refine W.widen (k := 2) (n := 12) (by decide) (by decide) ?_
      generalize t1.heap = H at hP hS ⊢
      generalize [] ++ L1 = locs at hS ⊢
      refine lv_astore_n (lv' := [(3, Value.ref v1), (0, Value.ref A0), (1, Value.int p0), (2, Value.ref A116)]) hx hb d_Lw_merge_12 rfl hl (by decide) rfl (fun ls hl => ?_)
      refine lv_iconst (v := 1) hx hb d_Lw_merge_13 (by decide) ?_
      exact gx_ret (W.iret (v := 1) hx hb hr (gx_post hP hK hD hS (by rw [← hPQ]; exact Or.inr (Or.inl ⟨rfl, rfl, g1_0⟩))) hS.2.2 d_Lw_merge_14)
    · cases hv9
      rw [e_ws3] at hP hD
      refine gx_catch (E := "java/lang/IllegalArgumentException") (hp := 12) hown htab (Or.inr ⟨⟨by show 0 ≤ 4; decide, by show 4 < 9; decide⟩, by decide, "java/lang/IllegalArgumentException", hts _ kk_Lw_13, Or.inl ⟨rfl, hts _ kB_IllegalArgumentException⟩⟩) hce ?_
      clear hce
      refine W.widen (k := 2) (n := 12) (by decide) (by decide) ?_
      generalize t1.heap = H at hP hS ⊢
      generalize [] ++ L1 = locs at hS ⊢
      refine lv_astore_n (lv' := [(3, Value.ref v1), (0, Value.ref A0), (1, Value.int p0), (2, Value.ref A116)]) hx hb d_Lw_merge_12 rfl hl (by decide) rfl (fun ls hl => ?_)
      refine lv_iconst (v := 1) hx hb d_Lw_merge_13 (by decide) ?_
      exact gx_ret (W.iret (v := 1) hx hb hr (gx_post hP hK hD hS (by rw [← hPQ]; exact Or.inr (Or.inr (⟨rfl, rfl, g1_0, g1_1⟩)))) hS.2.2 d_Lw_merge_14)

set_option maxHeartbeats 4000000 in
set_option maxRecDepth 100000 in
theorem c_Lw_open_v1 (l : Launch) (htr : l.stackTraces = false) (D : va_G) (tys : List (ClassId × FieldType)) (z sz : Nat) (ws : va_W) (cZ : ClassId) (cR : ClassId) (cJ : ClassId) (A0 : Nat) (p0 : Int32) (A116 : Nat) (A1 : Nat) (A5 : Nat) (A8 : Nat) (A20 : Nat) (A25 : Nat) (A12 : Nat) (A16 : Nat) (A2 : Nat) (A3 : Nat) (A4 : Nat) (A6 : Nat) (A7 : Nat) (u0 : Value) (A9 : Nat) (A10 : Nat) (A11 : Nat) (A26 : Nat) (A31 : Nat) (A36 : Nat) (A41 : Nat) (A27 : Nat) (A32 : Nat) (A37 : Nat) (A42 : Nat) (fo : Nat → Int64) (f_0 : ws[0]? = some ((A0, Sum.inr (0, [Value.ref A1, Value.ref A5, Value.ref A8, Value.ref A20, Value.ref A25, Value.ref A12, Value.ref A16, Value.int 0, Value.int 0, Value.int 0, Value.int 16, Value.int 4, Value.int 0, Value.int 0, Value.int 0, Value.int 0, Value.int 0, Value.int (-1)])) : Nat × va_E)) (f_1 : ws[1]? = some ((A1, Sum.inr (1, [Value.ref A2, Value.ref A3, Value.ref A4, Value.int 0])) : Nat × va_E)) (f_5 : ws[5]? = some ((A5, Sum.inr (2, [Value.ref A6, Value.ref A7, Value.int 0, Value.int 0])) : Nat × va_E)) (f_6 : ws[6]? = some ((A6, Sum.inr (3, [u0, Value.int 0, Value.int 0])) : Nat × va_E)) (f_8 : ws[8]? = some ((A8, Sum.inr (4, [Value.ref A9, Value.ref A10, Value.ref A11, Value.null, Value.int 0, Value.int 0])) : Nat × va_E)) (f_11 : ws[11]? = some ((A11, Sum.inl (cZ, 4096, Sum.inl (fun _ => 0))) : Nat × va_E)) (f_25 : ws[25]? = some ((A25, Sum.inl (cR, 4, Sum.inr (Sum.inr (Sum.inr (Sum.inr (va_up (va_up (va_up (va_up (fun _ => none) 0 (some A26)) 1 (some A31)) 2 (some A36)) 3 (some A41))))))) : Nat × va_E)) (f_26 : ws[26]? = some ((A26, Sum.inr (6, [Value.ref A27, Value.int 0, Value.int 0])) : Nat × va_E)) (f_31 : ws[31]? = some ((A31, Sum.inr (6, [Value.ref A32, Value.int 0, Value.int 0])) : Nat × va_E)) (f_36 : ws[36]? = some ((A36, Sum.inr (6, [Value.ref A37, Value.int 0, Value.int 0])) : Nat × va_E)) (f_41 : ws[41]? = some ((A41, Sum.inr (6, [Value.ref A42, Value.int 0, Value.int 0])) : Nat × va_E)) (f_116 : ws[116]? = some ((A116, Sum.inl (cJ, 1, Sum.inr (Sum.inl fo))) : Nat × va_E)) (ht1 : tys[1]? = some ((cZ, FieldType.boolean) : ClassId × FieldType)) (ht4 : tys[4]? = some ((cR, FieldType.object "CommitLedger$Reader") : ClassId × FieldType)) (ht6 : tys[6]? = some ((cJ, FieldType.long) : ClassId × FieldType)) : gx_Met l y_Lw_open [Cond.codeWith y_Lw_open b_Lw_open 4 (some .int) [(0, 9, 12, 13), (0, 9, 15, 15), (0, 9, 18, 17)]] { frames := 8, cells := 1, slots := 6, locals := 125 } (gx_P z sz D classes tys ws [Value.ref A0, Value.int p0, Value.ref A116]) (gx_Q D classes tys (va_A ws sz) (fun r ws' => (∃ F90 : Nat → Int32, r = Sum.inl (some (Value.int 0)) ∧ gx_g ws ws' 0 [0, 5, 8, 11, 116] ∧ ws'[0]? = some ((A0, Sum.inr (0, [Value.ref A1, Value.ref A5, Value.ref A8, Value.ref A20, Value.ref A25, Value.ref A12, Value.ref A16, Value.int 1, Value.int 0, Value.int 0, Value.int 16, Value.int 4, Value.int 0, Value.int 0, Value.int 0, Value.int 0, Value.int 0, Value.int (-1)])) : Nat × va_E) ∧ ws'[5]? = some ((A5, Sum.inr (2, [Value.ref A6, Value.ref A7, Value.int 0, Value.int 0])) : Nat × va_E) ∧ ws'[8]? = some ((A8, Sum.inr (4, [Value.ref A9, Value.ref A10, Value.ref A11, Value.null, Value.int 0, Value.int 0])) : Nat × va_E) ∧ ws'[11]? = some ((A11, Sum.inl (cZ, 4096, Sum.inl F90)) : Nat × va_E) ∧ ws'[116]? = some ((A116, Sum.inl (cJ, 1, Sum.inr (Sum.inl (vp_updL fo 0 ((0 : Int32).toInt64))))) : Nat × va_E) ∧ ¬ p0 < 0 ∧ p0 ≤ 1 ∧ ¬ p0 = 0 ∧ ∀ j : Nat, j < 4096 → F90 j = 0) ∨ (∃ F90 : Nat → Int32, r = Sum.inl (some (Value.int 0)) ∧ gx_g ws ws' 0 [0, 5, 8, 11, 116] ∧ ws'[0]? = some ((A0, Sum.inr (0, [Value.ref A1, Value.ref A5, Value.ref A8, Value.ref A20, Value.ref A25, Value.ref A12, Value.ref A16, Value.int 1, Value.int 0, Value.int 0, Value.int 16, Value.int 4, Value.int 0, Value.int 0, Value.int 0, Value.int 0, Value.int 0, Value.int (-1)])) : Nat × va_E) ∧ ws'[5]? = some ((A5, Sum.inr (2, [Value.ref A6, Value.ref A7, Value.int 0, Value.int 0])) : Nat × va_E) ∧ ws'[8]? = some ((A8, Sum.inr (4, [Value.ref A9, Value.ref A10, Value.ref A11, Value.null, Value.int 0, Value.int 0])) : Nat × va_E) ∧ ws'[11]? = some ((A11, Sum.inl (cZ, 4096, Sum.inl F90)) : Nat × va_E) ∧ ws'[116]? = some ((A116, Sum.inl (cJ, 1, Sum.inr (Sum.inl (vp_updL fo 0 ((0 : Int32).toInt64))))) : Nat × va_E) ∧ ¬ p0 < 0 ∧ p0 ≤ 1 ∧ p0 = 0 ∧ ∀ j : Nat, j < 4096 → F90 j = 0) ∨ (r = Sum.inl (some (Value.int 1)) ∧ gx_g ws ws' 0 [0, 5, 8, 11, 116] ∧ ws'[0]? = some ((A0, Sum.inr (0, [Value.ref A1, Value.ref A5, Value.ref A8, Value.ref A20, Value.ref A25, Value.ref A12, Value.ref A16, Value.int 0, Value.int 0, Value.int 0, Value.int 16, Value.int 4, Value.int 0, Value.int 0, Value.int 0, Value.int 0, Value.int 0, Value.int (-1)])) : Nat × va_E) ∧ ws'[5]? = some ((A5, Sum.inr (2, [Value.ref A6, Value.ref A7, Value.int 0, Value.int 0])) : Nat × va_E) ∧ ws'[8]? = some ((A8, Sum.inr (4, [Value.ref A9, Value.ref A10, Value.ref A11, Value.null, Value.int 0, Value.int 0])) : Nat × va_E) ∧ ws'[11]? = some ((A11, Sum.inl (cZ, 4096, Sum.inl (fun _ => 0))) : Nat × va_E) ∧ ws'[116]? = some ((A116, Sum.inl (cJ, 1, Sum.inr (Sum.inl fo))) : Nat × va_E) ∧ p0 < 0) ∨ (r = Sum.inl (some (Value.int 1)) ∧ gx_g ws ws' 0 [0, 5, 8, 11, 116] ∧ ws'[0]? = some ((A0, Sum.inr (0, [Value.ref A1, Value.ref A5, Value.ref A8, Value.ref A20, Value.ref A25, Value.ref A12, Value.ref A16, Value.int 0, Value.int 0, Value.int 0, Value.int 16, Value.int 4, Value.int 0, Value.int 0, Value.int 0, Value.int 0, Value.int 0, Value.int (-1)])) : Nat × va_E) ∧ ws'[5]? = some ((A5, Sum.inr (2, [Value.ref A6, Value.ref A7, Value.int 0, Value.int 0])) : Nat × va_E) ∧ ws'[8]? = some ((A8, Sum.inr (4, [Value.ref A9, Value.ref A10, Value.ref A11, Value.null, Value.int 0, Value.int 0])) : Nat × va_E) ∧ ws'[11]? = some ((A11, Sum.inl (cZ, 4096, Sum.inl (fun _ => 0))) : Nat × va_E) ∧ ws'[116]? = some ((A116, Sum.inl (cJ, 1, Sum.inr (Sum.inl fo))) : Nat × va_E) ∧ ¬ p0 < 0 ∧ ¬ p0 ≤ 1))) 1 6 (va_A ws sz) := by
  refine gx_ofWH (cc := b_Lw_open) (maxL := 4) (ret := (some .int)) (by decide) ?_
  intro p e s m args below meth c s₁ B hml htab hv
  obtain ⟨rfl, hsz, hz, hP, hK, hD0, hY⟩ := hv
  have hx := B.exec
  have hb := B.bytes
  have hr := B.returns
  have hts := hY.hts (#[Value.ref A0, Value.int p0, Value.ref A116] : Array Value)
  have hown : s.vm.findClass "CommitLedgerLaw" = some m.cls := findClass_of_methodNamed B.named
  have hlocks := B.notSynchronized
  subst hsz
  have hAz := gx_az hD0 hz
  have hD := hD0.self (sz := s.heap.size)
  have hN := gx_ns hP
  have hA : ∀ q : Nat, s.heap.size ≤ q → va_A ws s.heap.size q := fun q h => Or.inr h
  generalize va_A ws s.heap.size = A at hD hN hA hAz ⊢
  generalize hPQ : (fun (r : Option Value ⊕ String) (ws' : va_W) => (∃ F90 : Nat → Int32, r = Sum.inl (some (Value.int 0)) ∧ gx_g ws ws' 0 [0, 5, 8, 11, 116] ∧ ws'[0]? = some ((A0, Sum.inr (0, [Value.ref A1, Value.ref A5, Value.ref A8, Value.ref A20, Value.ref A25, Value.ref A12, Value.ref A16, Value.int 1, Value.int 0, Value.int 0, Value.int 16, Value.int 4, Value.int 0, Value.int 0, Value.int 0, Value.int 0, Value.int 0, Value.int (-1)])) : Nat × va_E) ∧ ws'[5]? = some ((A5, Sum.inr (2, [Value.ref A6, Value.ref A7, Value.int 0, Value.int 0])) : Nat × va_E) ∧ ws'[8]? = some ((A8, Sum.inr (4, [Value.ref A9, Value.ref A10, Value.ref A11, Value.null, Value.int 0, Value.int 0])) : Nat × va_E) ∧ ws'[11]? = some ((A11, Sum.inl (cZ, 4096, Sum.inl F90)) : Nat × va_E) ∧ ws'[116]? = some ((A116, Sum.inl (cJ, 1, Sum.inr (Sum.inl (vp_updL fo 0 ((0 : Int32).toInt64))))) : Nat × va_E) ∧ ¬ p0 < 0 ∧ p0 ≤ 1 ∧ ¬ p0 = 0 ∧ ∀ j : Nat, j < 4096 → F90 j = 0) ∨ (∃ F90 : Nat → Int32, r = Sum.inl (some (Value.int 0)) ∧ gx_g ws ws' 0 [0, 5, 8, 11, 116] ∧ ws'[0]? = some ((A0, Sum.inr (0, [Value.ref A1, Value.ref A5, Value.ref A8, Value.ref A20, Value.ref A25, Value.ref A12, Value.ref A16, Value.int 1, Value.int 0, Value.int 0, Value.int 16, Value.int 4, Value.int 0, Value.int 0, Value.int 0, Value.int 0, Value.int 0, Value.int (-1)])) : Nat × va_E) ∧ ws'[5]? = some ((A5, Sum.inr (2, [Value.ref A6, Value.ref A7, Value.int 0, Value.int 0])) : Nat × va_E) ∧ ws'[8]? = some ((A8, Sum.inr (4, [Value.ref A9, Value.ref A10, Value.ref A11, Value.null, Value.int 0, Value.int 0])) : Nat × va_E) ∧ ws'[11]? = some ((A11, Sum.inl (cZ, 4096, Sum.inl F90)) : Nat × va_E) ∧ ws'[116]? = some ((A116, Sum.inl (cJ, 1, Sum.inr (Sum.inl (vp_updL fo 0 ((0 : Int32).toInt64))))) : Nat × va_E) ∧ ¬ p0 < 0 ∧ p0 ≤ 1 ∧ p0 = 0 ∧ ∀ j : Nat, j < 4096 → F90 j = 0) ∨ (r = Sum.inl (some (Value.int 1)) ∧ gx_g ws ws' 0 [0, 5, 8, 11, 116] ∧ ws'[0]? = some ((A0, Sum.inr (0, [Value.ref A1, Value.ref A5, Value.ref A8, Value.ref A20, Value.ref A25, Value.ref A12, Value.ref A16, Value.int 0, Value.int 0, Value.int 0, Value.int 16, Value.int 4, Value.int 0, Value.int 0, Value.int 0, Value.int 0, Value.int 0, Value.int (-1)])) : Nat × va_E) ∧ ws'[5]? = some ((A5, Sum.inr (2, [Value.ref A6, Value.ref A7, Value.int 0, Value.int 0])) : Nat × va_E) ∧ ws'[8]? = some ((A8, Sum.inr (4, [Value.ref A9, Value.ref A10, Value.ref A11, Value.null, Value.int 0, Value.int 0])) : Nat × va_E) ∧ ws'[11]? = some ((A11, Sum.inl (cZ, 4096, Sum.inl (fun _ => 0))) : Nat × va_E) ∧ ws'[116]? = some ((A116, Sum.inl (cJ, 1, Sum.inr (Sum.inl fo))) : Nat × va_E) ∧ p0 < 0) ∨ (r = Sum.inl (some (Value.int 1)) ∧ gx_g ws ws' 0 [0, 5, 8, 11, 116] ∧ ws'[0]? = some ((A0, Sum.inr (0, [Value.ref A1, Value.ref A5, Value.ref A8, Value.ref A20, Value.ref A25, Value.ref A12, Value.ref A16, Value.int 0, Value.int 0, Value.int 0, Value.int 16, Value.int 4, Value.int 0, Value.int 0, Value.int 0, Value.int 0, Value.int 0, Value.int (-1)])) : Nat × va_E) ∧ ws'[5]? = some ((A5, Sum.inr (2, [Value.ref A6, Value.ref A7, Value.int 0, Value.int 0])) : Nat × va_E) ∧ ws'[8]? = some ((A8, Sum.inr (4, [Value.ref A9, Value.ref A10, Value.ref A11, Value.null, Value.int 0, Value.int 0])) : Nat × va_E) ∧ ws'[11]? = some ((A11, Sum.inl (cZ, 4096, Sum.inl (fun _ => 0))) : Nat × va_E) ∧ ws'[116]? = some ((A116, Sum.inl (cJ, 1, Sum.inr (Sum.inl fo))) : Nat × va_E) ∧ ¬ p0 < 0 ∧ ¬ p0 ≤ 1)) = PQ
  have hS : va_S A s.heap s.heap [] := va_S.rf
  have hU : gx_g ws ws 0 [0, 5, 8, 11, 116] := gx_g.rf
  have hl := lv_entry ([Value.ref A0, Value.int p0, Value.ref A116]) (n := 4) (Nat.le_of_ble_eq_true rfl)
  rw [lg_entry_eq]
  generalize (lg_sl ([Value.ref A0, Value.int p0, Value.ref A116]) ++ List.replicate (4 - (lg_sl ([Value.ref A0, Value.int p0, Value.ref A116])).length) Slot.unset).toArray = ls at hl ⊢
  have hl : lv_has ls 4 [(0, Value.ref A0), (1, Value.int p0), (2, Value.ref A116)] := hl
  refine lv_aload_n hx hb d_Lw_open_0 rfl (lv_at hl 2 rfl) ?_
  refine lv_iconst (v := 0) hx hb d_Lw_open_1 (by decide) ?_
  refine lv_aload_n hx hb d_Lw_open_2 rfl (lv_at hl 0 rfl) ?_
  refine lv_iload_n hx hb d_Lw_open_3 rfl (lv_at hl 1 rfl) ?_
  refine gx_call (ig := .invokevirtual 7) (c_Le_open_v1 l htr D tys z _ ws cZ cR A0 p0 A1 A5 A8 A20 A25 A12 A16 A2 A3 A4 A6 A7 (u0) A9 A10 A11 A26 A31 A36 A41 A27 A32 A37 A42 f_0 f_1 f_5 f_6 f_8 f_11 f_25 f_26 f_31 f_36 f_41 ht1 ht4) (gx_invV (As := [Value.int p0]) (rest := [Value.int 0, Value.ref A116]) hx hb hown hts km_Lw_7 kI_Le_open kV_Le_open kc_Le_open (by decide) (show (parseMethodDescriptor y_Le_open.desc).map (fun d => d.parameters.length) = some 1 by decide +kernel) (gx_recv (ci := 0) hK hP rfl f_0) rfl rfl d_Lw_open_4) (gx_cw (z := 0) hts kc_Le_open kN_Le rfl rfl ⟨Nat.le_of_ble_eq_true rfl, Nat.le_of_ble_eq_true rfl⟩) hb hml gx_blind (gx_pre hz hP hK hD hY hS hAz [Value.ref A0, Value.int p0]) rfl hl.1 (lv_room (Nat.le_of_ble_eq_true rfl)) d_Lw_open_4 ⟨Nat.le_of_ble_eq_true rfl, Nat.le_of_ble_eq_true rfl⟩ (fun v1 st1 t1 L1 h0_1 hW_1 hQ_1 hL_1 => ?_) (fun v1 st1 t1 L1 h0_1 hW_1 hQ_1 hL_1 => ?_)
  · obtain ⟨ws2, hp, hP9, -, hD9, hS9⟩ := gx_back h0_1 hW_1 hQ_1 hL_1 hD hS hA
    clear hQ_1 h0_1 hL_1 hW_1 hP hD hS
    have hP := hP9
    have hD := hD9
    have hS := hS9
    clear hP9 hD9 hS9
    rcases hp with ⟨F3, hv9, e_ws2, f_0_ws2, f_5_ws2, f_8_ws2, f_11_ws2, g1_0, g1_1, g1_2, g1_3⟩ | ⟨F4, hv9, e_ws2, f_0_ws2, f_5_ws2, f_8_ws2, f_11_ws2, g1_0, g1_1, g1_2, g1_3⟩ | ⟨hv9, e_ws2, f_0_ws2, f_5_ws2, f_8_ws2, f_11_ws2, g1_0⟩ | ⟨hv9, e_ws2, f_0_ws2, f_5_ws2, f_8_ws2, f_11_ws2, g1_0, g1_1⟩
    · cases hv9
      have f_0_ws2 : ws2[0]? = some ((A0, Sum.inr (0, [Value.ref A1, Value.ref A5, Value.ref A8, Value.ref A20, Value.ref A25, Value.ref A12, Value.ref A16, Value.int 1, Value.int 0, Value.int 0, Value.int 16, Value.int 4, Value.int 0, Value.int 0, Value.int 0, Value.int 0, Value.int 0, Value.int (-1)])) : Nat × va_E) := f_0_ws2
      have f_5_ws2 : ws2[5]? = some ((A5, Sum.inr (2, [Value.ref A6, Value.ref A7, Value.int 0, Value.int 0])) : Nat × va_E) := f_5_ws2
      have f_8_ws2 : ws2[8]? = some ((A8, Sum.inr (4, [Value.ref A9, Value.ref A10, Value.ref A11, Value.null, Value.int 0, Value.int 0])) : Nat × va_E) := f_8_ws2
      have f_11_ws2 : ws2[11]? = some ((A11, Sum.inl (cZ, 4096, Sum.inl F3)) : Nat × va_E) := f_11_ws2
      replace hU : gx_g ws ws2 0 [0, 5, 8, 11, 116] := hU.call e_ws2 (by simp; first | done | omega)
      refine W.eq (g2 := F0 m 7 ls [Value.int 0, Value.int 0, Value.ref A116]) rfl ?_
      refine W.widen (k := 1) (n := 6) (by decide) (by decide) ?_
      generalize t1.heap = H at hP hS ⊢
      generalize [] ++ L1 = locs at hS ⊢
      refine lv_i2l (v := (0 : Int32).toInt64) hx hb d_Lw_open_7 rfl ?_
      have f_116_ws2 : ws2[116]? = some ((A116, Sum.inl (cJ, 1, Sum.inr (Sum.inl fo))) : Nat × va_E) := e_ws2.at (by first | decide | (simp; done) | (simp; omega)) f_116
      clear f_116
      refine gx_last (D := D) (j := 0) hx hb hK hP hD hS 116 6 f_116_ws2 ht6 (gx_inl (by decide)) (by decide) d_Lw_open_8 (fun H locs hP9 hD9 hS9 => ?_)
      obtain ⟨ws5, e_ws5⟩ : ∃ x : va_W, x = ws2.set 116 ((A116, Sum.inl (cJ, 1, Sum.inr (Sum.inl (vp_updL fo 0 ((0 : Int32).toInt64))))) : Nat × va_E) := ⟨_, rfl⟩
      replace hP : va_P D classes ws5 H := by rw [e_ws5]; exact hP9
      replace hD : va_D A ws5 := by rw [e_ws5]; exact hD9
      replace hS := hS9
      clear hP9 hD9 hS9
      have f_116_ws5 : ws5[116]? = some ((A116, Sum.inl (cJ, 1, Sum.inr (Sum.inl (vp_updL fo 0 ((0 : Int32).toInt64))))) : Nat × va_E) := by rw [e_ws5]; exact gs_self f_116_ws2
      replace hU : gx_g ws ws5 0 [0, 5, 8, 11, 116] := by rw [e_ws5]; exact hU.put (Or.inl (by simp))
      refine lv_goto (tgt := 21) hx hb d_Lw_open_9 (by decide) ?_
      refine lv_iconst (v := 0) hx hb d_Lw_open_21 (by decide) ?_
      have f_0_ws5 : ws5[0]? = some ((A0, Sum.inr (0, [Value.ref A1, Value.ref A5, Value.ref A8, Value.ref A20, Value.ref A25, Value.ref A12, Value.ref A16, Value.int 1, Value.int 0, Value.int 0, Value.int 16, Value.int 4, Value.int 0, Value.int 0, Value.int 0, Value.int 0, Value.int 0, Value.int (-1)])) : Nat × va_E) := by rw [e_ws5]; exact gs_ne (by decide) f_0_ws2
      clear f_0_ws2
      have f_5_ws5 : ws5[5]? = some ((A5, Sum.inr (2, [Value.ref A6, Value.ref A7, Value.int 0, Value.int 0])) : Nat × va_E) := by rw [e_ws5]; exact gs_ne (by decide) f_5_ws2
      clear f_5_ws2
      have f_8_ws5 : ws5[8]? = some ((A8, Sum.inr (4, [Value.ref A9, Value.ref A10, Value.ref A11, Value.null, Value.int 0, Value.int 0])) : Nat × va_E) := by rw [e_ws5]; exact gs_ne (by decide) f_8_ws2
      clear f_8_ws2
      have f_11_ws5 : ws5[11]? = some ((A11, Sum.inl (cZ, 4096, Sum.inl F3)) : Nat × va_E) := by rw [e_ws5]; exact gs_ne (by decide) f_11_ws2
      clear f_11_ws2
      exact gx_ret (W.iret (v := 0) hx hb hr (gx_post hP hK hD hS (by rw [← hPQ]; exact Or.inl ⟨F3, rfl, hU, f_0_ws5, f_5_ws5, f_8_ws5, f_11_ws5, f_116_ws5, g1_0, g1_1, g1_2, g1_3⟩)) hS.2.2 d_Lw_open_22)
    · cases hv9
      have f_0_ws2 : ws2[0]? = some ((A0, Sum.inr (0, [Value.ref A1, Value.ref A5, Value.ref A8, Value.ref A20, Value.ref A25, Value.ref A12, Value.ref A16, Value.int 1, Value.int 0, Value.int 0, Value.int 16, Value.int 4, Value.int 0, Value.int 0, Value.int 0, Value.int 0, Value.int 0, Value.int (-1)])) : Nat × va_E) := f_0_ws2
      have f_5_ws2 : ws2[5]? = some ((A5, Sum.inr (2, [Value.ref A6, Value.ref A7, Value.int 0, Value.int 0])) : Nat × va_E) := f_5_ws2
      have f_8_ws2 : ws2[8]? = some ((A8, Sum.inr (4, [Value.ref A9, Value.ref A10, Value.ref A11, Value.null, Value.int 0, Value.int 0])) : Nat × va_E) := f_8_ws2
      have f_11_ws2 : ws2[11]? = some ((A11, Sum.inl (cZ, 4096, Sum.inl F4)) : Nat × va_E) := f_11_ws2
      replace hU : gx_g ws ws2 0 [0, 5, 8, 11, 116] := hU.call e_ws2 (by simp; first | done | omega)
      refine W.eq (g2 := F0 m 7 ls [Value.int 0, Value.int 0, Value.ref A116]) rfl ?_
      refine W.widen (k := 1) (n := 6) (by decide) (by decide) ?_
      generalize t1.heap = H at hP hS ⊢
      generalize [] ++ L1 = locs at hS ⊢
      refine lv_i2l (v := (0 : Int32).toInt64) hx hb d_Lw_open_7 rfl ?_
      have f_116_ws2 : ws2[116]? = some ((A116, Sum.inl (cJ, 1, Sum.inr (Sum.inl fo))) : Nat × va_E) := e_ws2.at (by first | decide | (simp; done) | (simp; omega)) f_116
      clear f_116
      refine gx_last (D := D) (j := 0) hx hb hK hP hD hS 116 6 f_116_ws2 ht6 (gx_inl (by decide)) (by decide) d_Lw_open_8 (fun H locs hP9 hD9 hS9 => ?_)
      obtain ⟨ws6, e_ws6⟩ : ∃ x : va_W, x = ws2.set 116 ((A116, Sum.inl (cJ, 1, Sum.inr (Sum.inl (vp_updL fo 0 ((0 : Int32).toInt64))))) : Nat × va_E) := ⟨_, rfl⟩
      replace hP : va_P D classes ws6 H := by rw [e_ws6]; exact hP9
      replace hD : va_D A ws6 := by rw [e_ws6]; exact hD9
      replace hS := hS9
      clear hP9 hD9 hS9
      have f_116_ws6 : ws6[116]? = some ((A116, Sum.inl (cJ, 1, Sum.inr (Sum.inl (vp_updL fo 0 ((0 : Int32).toInt64))))) : Nat × va_E) := by rw [e_ws6]; exact gs_self f_116_ws2
      replace hU : gx_g ws ws6 0 [0, 5, 8, 11, 116] := by rw [e_ws6]; exact hU.put (Or.inl (by simp))
      refine lv_goto (tgt := 21) hx hb d_Lw_open_9 (by decide) ?_
      refine lv_iconst (v := 0) hx hb d_Lw_open_21 (by decide) ?_
      have f_0_ws6 : ws6[0]? = some ((A0, Sum.inr (0, [Value.ref A1, Value.ref A5, Value.ref A8, Value.ref A20, Value.ref A25, Value.ref A12, Value.ref A16, Value.int 1, Value.int 0, Value.int 0, Value.int 16, Value.int 4, Value.int 0, Value.int 0, Value.int 0, Value.int 0, Value.int 0, Value.int (-1)])) : Nat × va_E) := by rw [e_ws6]; exact gs_ne (by decide) f_0_ws2
      clear f_0_ws2
      have f_5_ws6 : ws6[5]? = some ((A5, Sum.inr (2, [Value.ref A6, Value.ref A7, Value.int 0, Value.int 0])) : Nat × va_E) := by rw [e_ws6]; exact gs_ne (by decide) f_5_ws2
      clear f_5_ws2
      have f_8_ws6 : ws6[8]? = some ((A8, Sum.inr (4, [Value.ref A9, Value.ref A10, Value.ref A11, Value.null, Value.int 0, Value.int 0])) : Nat × va_E) := by rw [e_ws6]; exact gs_ne (by decide) f_8_ws2
      clear f_8_ws2
      have f_11_ws6 : ws6[11]? = some ((A11, Sum.inl (cZ, 4096, Sum.inl F4)) : Nat × va_E) := by rw [e_ws6]; exact gs_ne (by decide) f_11_ws2
      clear f_11_ws2
      exact gx_ret (W.iret (v := 0) hx hb hr (gx_post hP hK hD hS (by rw [← hPQ]; exact Or.inr (Or.inl ⟨F4, rfl, hU, f_0_ws6, f_5_ws6, f_8_ws6, f_11_ws6, f_116_ws6, g1_0, g1_1, g1_2, g1_3⟩))) hS.2.2 d_Lw_open_22)
    · cases hv9
    · cases hv9
  · obtain ⟨E9, ws7, ce, hp, hce, hP9, -, hD9, hS9⟩ := gx_backT h0_1 hW_1 hQ_1 hL_1 hD hS hA
    clear hQ_1 h0_1 hL_1 hW_1 hP hD hS
    have hP := hP9
    have hD := hD9
    have hS := hS9
    clear hP9 hD9 hS9
    rcases hp with ⟨F8, hv9, e_ws7, f_0_ws7, f_5_ws7, f_8_ws7, f_11_ws7, g1_0, g1_1, g1_2, g1_3⟩ | ⟨F9, hv9, e_ws7, f_0_ws7, f_5_ws7, f_8_ws7, f_11_ws7, g1_0, g1_1, g1_2, g1_3⟩ | ⟨hv9, e_ws7, f_0_ws7, f_5_ws7, f_8_ws7, f_11_ws7, g1_0⟩ | ⟨hv9, e_ws7, f_0_ws7, f_5_ws7, f_8_ws7, f_11_ws7, g1_0, g1_1⟩
    · cases hv9
    · cases hv9
    · cases hv9
      have f_0_ws7 : ws7[0]? = some ((A0, Sum.inr (0, [Value.ref A1, Value.ref A5, Value.ref A8, Value.ref A20, Value.ref A25, Value.ref A12, Value.ref A16, Value.int 0, Value.int 0, Value.int 0, Value.int 16, Value.int 4, Value.int 0, Value.int 0, Value.int 0, Value.int 0, Value.int 0, Value.int (-1)])) : Nat × va_E) := f_0_ws7
      have f_5_ws7 : ws7[5]? = some ((A5, Sum.inr (2, [Value.ref A6, Value.ref A7, Value.int 0, Value.int 0])) : Nat × va_E) := f_5_ws7
      have f_8_ws7 : ws7[8]? = some ((A8, Sum.inr (4, [Value.ref A9, Value.ref A10, Value.ref A11, Value.null, Value.int 0, Value.int 0])) : Nat × va_E) := f_8_ws7
      have f_11_ws7 : ws7[11]? = some ((A11, Sum.inl (cZ, 4096, Sum.inl (fun _ => 0))) : Nat × va_E) := f_11_ws7
      replace hU : gx_g ws ws7 0 [0, 5, 8, 11, 116] := hU.call e_ws7 (by simp; first | done | omega)
      refine gx_catch (E := "java/lang/IllegalArgumentException") (hp := 12) hown htab (Or.inr ⟨⟨by show 0 ≤ 4; decide, by show 4 < 9; decide⟩, by decide, "java/lang/IllegalArgumentException", hts _ kk_Lw_13, Or.inl ⟨rfl, hts _ kB_IllegalArgumentException⟩⟩) hce ?_
      clear hce
      refine W.widen (k := 1) (n := 6) (by decide) (by decide) ?_
      generalize t1.heap = H at hP hS ⊢
      generalize [] ++ L1 = locs at hS ⊢
      refine lv_astore_n (lv' := [(3, Value.ref v1), (0, Value.ref A0), (1, Value.int p0), (2, Value.ref A116)]) hx hb d_Lw_open_12 rfl hl (by decide) rfl (fun ls hl => ?_)
      refine lv_iconst (v := 1) hx hb d_Lw_open_13 (by decide) ?_
      have f_116_ws7 : ws7[116]? = some ((A116, Sum.inl (cJ, 1, Sum.inr (Sum.inl fo))) : Nat × va_E) := e_ws7.at (by first | decide | (simp; done) | (simp; omega)) f_116
      clear f_116
      exact gx_ret (W.iret (v := 1) hx hb hr (gx_post hP hK hD hS (by rw [← hPQ]; exact Or.inr (Or.inr (Or.inl ⟨rfl, hU, f_0_ws7, f_5_ws7, f_8_ws7, f_11_ws7, f_116_ws7, g1_0⟩)))) hS.2.2 d_Lw_open_14)
    · cases hv9
      have f_0_ws7 : ws7[0]? = some ((A0, Sum.inr (0, [Value.ref A1, Value.ref A5, Value.ref A8, Value.ref A20, Value.ref A25, Value.ref A12, Value.ref A16, Value.int 0, Value.int 0, Value.int 0, Value.int 16, Value.int 4, Value.int 0, Value.int 0, Value.int 0, Value.int 0, Value.int 0, Value.int (-1)])) : Nat × va_E) := f_0_ws7
      have f_5_ws7 : ws7[5]? = some ((A5, Sum.inr (2, [Value.ref A6, Value.ref A7, Value.int 0, Value.int 0])) : Nat × va_E) := f_5_ws7
      have f_8_ws7 : ws7[8]? = some ((A8, Sum.inr (4, [Value.ref A9, Value.ref A10, Value.ref A11, Value.null, Value.int 0, Value.int 0])) : Nat × va_E) := f_8_ws7
      have f_11_ws7 : ws7[11]? = some ((A11, Sum.inl (cZ, 4096, Sum.inl (fun _ => 0))) : Nat × va_E) := f_11_ws7
      replace hU : gx_g ws ws7 0 [0, 5, 8, 11, 116] := hU.call e_ws7 (by simp; first | done | omega)
      refine gx_catch (E := "java/lang/IllegalArgumentException") (hp := 12) hown htab (Or.inr ⟨⟨by show 0 ≤ 4; decide, by show 4 < 9; decide⟩, by decide, "java/lang/IllegalArgumentException", hts _ kk_Lw_13, Or.inl ⟨rfl, hts _ kB_IllegalArgumentException⟩⟩) hce ?_
      clear hce
      refine W.widen (k := 1) (n := 6) (by decide) (by decide) ?_
      generalize t1.heap = H at hP hS ⊢
      generalize [] ++ L1 = locs at hS ⊢
      refine lv_astore_n (lv' := [(3, Value.ref v1), (0, Value.ref A0), (1, Value.int p0), (2, Value.ref A116)]) hx hb d_Lw_open_12 rfl hl (by decide) rfl (fun ls hl => ?_)
      refine lv_iconst (v := 1) hx hb d_Lw_open_13 (by decide) ?_
      have f_116_ws7 : ws7[116]? = some ((A116, Sum.inl (cJ, 1, Sum.inr (Sum.inl fo))) : Nat × va_E) := e_ws7.at (by first | decide | (simp; done) | (simp; omega)) f_116
      clear f_116
      exact gx_ret (W.iret (v := 1) hx hb hr (gx_post hP hK hD hS (by rw [← hPQ]; exact Or.inr (Or.inr (Or.inr (⟨rfl, hU, f_0_ws7, f_5_ws7, f_8_ws7, f_11_ws7, f_116_ws7, g1_0, g1_1⟩))))) hS.2.2 d_Lw_open_14)

set_option maxHeartbeats 4000000 in
set_option maxRecDepth 100000 in
theorem c_Lw_power_v1 (l : Launch) (htr : l.stackTraces = false) (D : va_G) (tys : List (ClassId × FieldType)) (z sz : Nat) (ws : va_W) (A0 : Nat) (p0 : Int32) (A1 : Nat) (A5 : Nat) (A8 : Nat) (A20 : Nat) (A25 : Nat) (A12 : Nat) (A16 : Nat) (f_0 : ws[0]? = some ((A0, Sum.inr (0, [Value.ref A1, Value.ref A5, Value.ref A8, Value.ref A20, Value.ref A25, Value.ref A12, Value.ref A16, Value.int 0, Value.int 0, Value.int 0, Value.int 16, Value.int 4, Value.int 0, Value.int 0, Value.int 0, Value.int 0, Value.int 0, Value.int (-1)])) : Nat × va_E)) : gx_Met l y_Lw_power [Cond.codeWith y_Lw_power b_Lw_power 3 (some .int) [(0, 5, 8, 13)]] { frames := 8, cells := 1, slots := 6, locals := 125 } (gx_P z sz D classes tys ws [Value.ref A0, Value.int p0]) (gx_Q D classes tys (va_A ws sz) (fun r ws' => (r = Sum.inl (some (Value.int 0)) ∧ gx_g ws ws' 0 [0] ∧ ws'[0]? = some ((A0, Sum.inr (0, [Value.ref A1, Value.ref A5, Value.ref A8, Value.ref A20, Value.ref A25, Value.ref A12, Value.ref A16, Value.int 0, Value.int 0, Value.int 0, Value.int 16, Value.int 4, Value.int 0, Value.int 0, Value.int 0, Value.int 0, Value.int 0, Value.int p0])) : Nat × va_E) ∧ ¬ p0 < (-1) ∧ p0 ≤ 1000000) ∨ (r = Sum.inl (some (Value.int 1)) ∧ gx_g ws ws' 0 [0] ∧ ws'[0]? = some ((A0, Sum.inr (0, [Value.ref A1, Value.ref A5, Value.ref A8, Value.ref A20, Value.ref A25, Value.ref A12, Value.ref A16, Value.int 0, Value.int 0, Value.int 0, Value.int 16, Value.int 4, Value.int 0, Value.int 0, Value.int 0, Value.int 0, Value.int 0, Value.int (-1)])) : Nat × va_E) ∧ p0 < (-1)) ∨ (r = Sum.inl (some (Value.int 1)) ∧ gx_g ws ws' 0 [0] ∧ ws'[0]? = some ((A0, Sum.inr (0, [Value.ref A1, Value.ref A5, Value.ref A8, Value.ref A20, Value.ref A25, Value.ref A12, Value.ref A16, Value.int 0, Value.int 0, Value.int 0, Value.int 16, Value.int 4, Value.int 0, Value.int 0, Value.int 0, Value.int 0, Value.int 0, Value.int (-1)])) : Nat × va_E) ∧ ¬ p0 < (-1) ∧ ¬ p0 ≤ 1000000))) 1 6 (va_A ws sz) := by
  refine gx_ofWH (cc := b_Lw_power) (maxL := 3) (ret := (some .int)) (by decide) ?_
  intro p e s m args below meth c s₁ B hml htab hv
  obtain ⟨rfl, hsz, hz, hP, hK, hD0, hY⟩ := hv
  have hx := B.exec
  have hb := B.bytes
  have hr := B.returns
  have hts := hY.hts (#[Value.ref A0, Value.int p0] : Array Value)
  have hown : s.vm.findClass "CommitLedgerLaw" = some m.cls := findClass_of_methodNamed B.named
  have hlocks := B.notSynchronized
  subst hsz
  have hAz := gx_az hD0 hz
  have hD := hD0.self (sz := s.heap.size)
  have hN := gx_ns hP
  have hA : ∀ q : Nat, s.heap.size ≤ q → va_A ws s.heap.size q := fun q h => Or.inr h
  generalize va_A ws s.heap.size = A at hD hN hA hAz ⊢
  generalize hPQ : (fun (r : Option Value ⊕ String) (ws' : va_W) => (r = Sum.inl (some (Value.int 0)) ∧ gx_g ws ws' 0 [0] ∧ ws'[0]? = some ((A0, Sum.inr (0, [Value.ref A1, Value.ref A5, Value.ref A8, Value.ref A20, Value.ref A25, Value.ref A12, Value.ref A16, Value.int 0, Value.int 0, Value.int 0, Value.int 16, Value.int 4, Value.int 0, Value.int 0, Value.int 0, Value.int 0, Value.int 0, Value.int p0])) : Nat × va_E) ∧ ¬ p0 < (-1) ∧ p0 ≤ 1000000) ∨ (r = Sum.inl (some (Value.int 1)) ∧ gx_g ws ws' 0 [0] ∧ ws'[0]? = some ((A0, Sum.inr (0, [Value.ref A1, Value.ref A5, Value.ref A8, Value.ref A20, Value.ref A25, Value.ref A12, Value.ref A16, Value.int 0, Value.int 0, Value.int 0, Value.int 16, Value.int 4, Value.int 0, Value.int 0, Value.int 0, Value.int 0, Value.int 0, Value.int (-1)])) : Nat × va_E) ∧ p0 < (-1)) ∨ (r = Sum.inl (some (Value.int 1)) ∧ gx_g ws ws' 0 [0] ∧ ws'[0]? = some ((A0, Sum.inr (0, [Value.ref A1, Value.ref A5, Value.ref A8, Value.ref A20, Value.ref A25, Value.ref A12, Value.ref A16, Value.int 0, Value.int 0, Value.int 0, Value.int 16, Value.int 4, Value.int 0, Value.int 0, Value.int 0, Value.int 0, Value.int 0, Value.int (-1)])) : Nat × va_E) ∧ ¬ p0 < (-1) ∧ ¬ p0 ≤ 1000000)) = PQ
  have hS : va_S A s.heap s.heap [] := va_S.rf
  have hU : gx_g ws ws 0 [0] := gx_g.rf
  have hl := lv_entry ([Value.ref A0, Value.int p0]) (n := 3) (Nat.le_of_ble_eq_true rfl)
  rw [lg_entry_eq]
  generalize (lg_sl ([Value.ref A0, Value.int p0]) ++ List.replicate (3 - (lg_sl ([Value.ref A0, Value.int p0])).length) Slot.unset).toArray = ls at hl ⊢
  have hl : lv_has ls 3 [(0, Value.ref A0), (1, Value.int p0)] := hl
  refine lv_aload_n hx hb d_Lw_power_0 rfl (lv_at hl 0 rfl) ?_
  refine lv_iload_n hx hb d_Lw_power_1 rfl (lv_at hl 1 rfl) ?_
  refine gx_call (ig := .invokevirtual 59) (c_Le_power l htr D tys z _ ws A0 (Value.ref A1) (Value.ref A5) (Value.ref A8) (Value.ref A20) (Value.ref A25) (Value.ref A12) (Value.ref A16) (Value.int 0) (Value.int 0) (Value.int 0) (Value.int 16) (Value.int 4) (Value.int 0) (Value.int 0) (Value.int 0) (Value.int 0) (Value.int 0) (-1) p0 f_0) (gx_invV (As := [Value.int p0]) (rest := []) hx hb hown hts km_Lw_59 kI_Le_power kV_Le_power kc_Le_power (by decide) (show (parseMethodDescriptor y_Le_power.desc).map (fun d => d.parameters.length) = some 1 by decide +kernel) (gx_recv (ci := 0) hK hP rfl f_0) rfl rfl d_Lw_power_2) (gx_cw (z := 0) hts kc_Le_power kN_Le rfl rfl ⟨Nat.le_of_ble_eq_true rfl, Nat.le_of_ble_eq_true rfl⟩) hb hml gx_blind (gx_pre hz hP hK hD hY hS hAz [Value.ref A0, Value.int p0]) rfl hl.1 (lv_room (Nat.le_of_ble_eq_true rfl)) d_Lw_power_2 ⟨Nat.le_of_ble_eq_true rfl, Nat.le_of_ble_eq_true rfl⟩ (fun v1 st1 t1 L1 h0_1 hW_1 hQ_1 hL_1 => ?_) (fun v1 st1 t1 L1 h0_1 hW_1 hQ_1 hL_1 => ?_)
  · obtain ⟨ws2, hp, hP9, -, hD9, hS9⟩ := gx_back h0_1 hW_1 hQ_1 hL_1 hD hS hA
    clear hQ_1 h0_1 hL_1 hW_1 hP hD hS
    have hP := hP9
    have hD := hD9
    have hS := hS9
    clear hP9 hD9 hS9
    rcases hp with ⟨hv9, e_ws2, f_0_ws2, g1_0, g1_1⟩ | ⟨hv9, e_ws2, g1_0⟩ | ⟨hv9, e_ws2, g1_0, g1_1⟩
    · cases hv9
      have f_0_ws2 : ws2[0]? = some ((A0, Sum.inr (0, [Value.ref A1, Value.ref A5, Value.ref A8, Value.ref A20, Value.ref A25, Value.ref A12, Value.ref A16, Value.int 0, Value.int 0, Value.int 0, Value.int 16, Value.int 4, Value.int 0, Value.int 0, Value.int 0, Value.int 0, Value.int 0, Value.int p0])) : Nat × va_E) := f_0_ws2
      replace hU : gx_g ws ws2 0 [0] := hU.call e_ws2 (by simp; first | done | omega)
      refine W.eq (g2 := F0 m 5 ls []) rfl ?_
      refine W.widen (k := 1) (n := 6) (by decide) (by decide) ?_
      generalize t1.heap = H at hP hS ⊢
      generalize [] ++ L1 = locs at hS ⊢
      refine lv_goto (tgt := 11) hx hb d_Lw_power_5 (by decide) ?_
      refine lv_iconst (v := 0) hx hb d_Lw_power_11 (by decide) ?_
      exact gx_ret (W.iret (v := 0) hx hb hr (gx_post hP hK hD hS (by rw [← hPQ]; exact Or.inl ⟨rfl, hU, f_0_ws2, g1_0, g1_1⟩)) hS.2.2 d_Lw_power_12)
    · cases hv9
    · cases hv9
  · obtain ⟨E9, ws3, ce, hp, hce, hP9, -, hD9, hS9⟩ := gx_backT h0_1 hW_1 hQ_1 hL_1 hD hS hA
    clear hQ_1 h0_1 hL_1 hW_1 hP hD hS
    have hP := hP9
    have hD := hD9
    have hS := hS9
    clear hP9 hD9 hS9
    rcases hp with ⟨hv9, e_ws3, f_0_ws3, g1_0, g1_1⟩ | ⟨hv9, e_ws3, g1_0⟩ | ⟨hv9, e_ws3, g1_0, g1_1⟩
    · cases hv9
    · cases hv9
      rw [e_ws3] at hP hD
      refine gx_catch (E := "java/lang/IllegalArgumentException") (hp := 8) hown htab (Or.inr ⟨⟨by show 0 ≤ 2; decide, by show 2 < 5; decide⟩, by decide, "java/lang/IllegalArgumentException", hts _ kk_Lw_13, Or.inl ⟨rfl, hts _ kB_IllegalArgumentException⟩⟩) hce ?_
      clear hce
      refine W.widen (k := 1) (n := 6) (by decide) (by decide) ?_
      generalize t1.heap = H at hP hS ⊢
      generalize [] ++ L1 = locs at hS ⊢
      refine lv_astore_n (lv' := [(2, Value.ref v1), (0, Value.ref A0), (1, Value.int p0)]) hx hb d_Lw_power_8 rfl hl (by decide) rfl (fun ls hl => ?_)
      refine lv_iconst (v := 1) hx hb d_Lw_power_9 (by decide) ?_
      exact gx_ret (W.iret (v := 1) hx hb hr (gx_post hP hK hD hS (by rw [← hPQ]; exact Or.inr (Or.inl ⟨rfl, hU, f_0, g1_0⟩))) hS.2.2 d_Lw_power_10)
    · cases hv9
      rw [e_ws3] at hP hD
      refine gx_catch (E := "java/lang/IllegalArgumentException") (hp := 8) hown htab (Or.inr ⟨⟨by show 0 ≤ 2; decide, by show 2 < 5; decide⟩, by decide, "java/lang/IllegalArgumentException", hts _ kk_Lw_13, Or.inl ⟨rfl, hts _ kB_IllegalArgumentException⟩⟩) hce ?_
      clear hce
      refine W.widen (k := 1) (n := 6) (by decide) (by decide) ?_
      generalize t1.heap = H at hP hS ⊢
      generalize [] ++ L1 = locs at hS ⊢
      refine lv_astore_n (lv' := [(2, Value.ref v1), (0, Value.ref A0), (1, Value.int p0)]) hx hb d_Lw_power_8 rfl hl (by decide) rfl (fun ls hl => ?_)
      refine lv_iconst (v := 1) hx hb d_Lw_power_9 (by decide) ?_
      exact gx_ret (W.iret (v := 1) hx hb hr (gx_post hP hK hD hS (by rw [← hPQ]; exact Or.inr (Or.inr (⟨rfl, hU, f_0, g1_0, g1_1⟩)))) hS.2.2 d_Lw_power_10)

set_option maxHeartbeats 4000000 in
set_option maxRecDepth 100000 in
theorem c_Lw_prepare_v1 (l : Launch) (htr : l.stackTraces = false) (D : va_G) (tys : List (ClassId × FieldType)) (z sz : Nat) (ws : va_W) (A0 : Nat) (A116 : Nat) (A1 : Nat) (A5 : Nat) (A8 : Nat) (A20 : Nat) (A25 : Nat) (A12 : Nat) (A16 : Nat) (f_0 : ws[0]? = some ((A0, Sum.inr (0, [Value.ref A1, Value.ref A5, Value.ref A8, Value.ref A20, Value.ref A25, Value.ref A12, Value.ref A16, Value.int 0, Value.int 0, Value.int 0, Value.int 16, Value.int 4, Value.int 0, Value.int 0, Value.int 0, Value.int 0, Value.int 0, Value.int (-1)])) : Nat × va_E)) : gx_Met l y_Lw_prepare [Cond.codeWith y_Lw_prepare b_Lw_prepare 3 (some .int) [(0, 8, 11, 15), (0, 8, 14, 29)]] { frames := 8, cells := 1, slots := 6, locals := 122 } (gx_P z sz D classes tys ws [Value.ref A0, Value.ref A116]) (gx_Q D classes tys (va_A ws sz) (fun r ws' => (r = Sum.inl (some (Value.int 1)) ∧ ws' = ws))) 1 6 (va_A ws sz) := by
  refine gx_ofWH (cc := b_Lw_prepare) (maxL := 3) (ret := (some .int)) (by decide) ?_
  intro p e s m args below meth c s₁ B hml htab hv
  obtain ⟨rfl, hsz, hz, hP, hK, hD0, hY⟩ := hv
  have hx := B.exec
  have hb := B.bytes
  have hr := B.returns
  have hts := hY.hts (#[Value.ref A0, Value.ref A116] : Array Value)
  have hown : s.vm.findClass "CommitLedgerLaw" = some m.cls := findClass_of_methodNamed B.named
  have hlocks := B.notSynchronized
  subst hsz
  have hAz := gx_az hD0 hz
  have hD := hD0.self (sz := s.heap.size)
  have hN := gx_ns hP
  have hA : ∀ q : Nat, s.heap.size ≤ q → va_A ws s.heap.size q := fun q h => Or.inr h
  generalize va_A ws s.heap.size = A at hD hN hA hAz ⊢
  generalize hPQ : (fun (r : Option Value ⊕ String) (ws' : va_W) => (r = Sum.inl (some (Value.int 1)) ∧ ws' = ws)) = PQ
  have hS : va_S A s.heap s.heap [] := va_S.rf
  have hU : gx_g ws ws 0 [] := gx_g.rf
  have hl := lv_entry ([Value.ref A0, Value.ref A116]) (n := 3) (Nat.le_of_ble_eq_true rfl)
  rw [lg_entry_eq]
  generalize (lg_sl ([Value.ref A0, Value.ref A116]) ++ List.replicate (3 - (lg_sl ([Value.ref A0, Value.ref A116])).length) Slot.unset).toArray = ls at hl ⊢
  have hl : lv_has ls 3 [(0, Value.ref A0), (1, Value.ref A116)] := hl
  refine lv_aload_n hx hb d_Lw_prepare_0 rfl (lv_at hl 1 rfl) ?_
  refine lv_iconst (v := 0) hx hb d_Lw_prepare_1 (by decide) ?_
  refine lv_aload_n hx hb d_Lw_prepare_2 rfl (lv_at hl 0 rfl) ?_
  refine gx_call (ig := .invokevirtual 47) (c_Le_prepare_v1 l htr D tys z _ ws A0 A1 A5 A8 A20 A25 A12 A16 f_0) (gx_invV (As := []) (rest := [Value.int 0, Value.ref A116]) hx hb hown hts km_Lw_47 kI_Le_prepare kV_Le_prepare kc_Le_prepare (by decide) (show (parseMethodDescriptor y_Le_prepare.desc).map (fun d => d.parameters.length) = some 0 by decide +kernel) (gx_recv (ci := 0) hK hP rfl f_0) rfl rfl d_Lw_prepare_3) (gx_cw (z := 0) hts kc_Le_prepare kN_Le rfl rfl ⟨Nat.le_of_ble_eq_true rfl, Nat.le_of_ble_eq_true rfl⟩) hb hml gx_blind (gx_pre hz hP hK hD hY hS hAz [Value.ref A0]) rfl hl.1 (lv_room (Nat.le_of_ble_eq_true rfl)) d_Lw_prepare_3 ⟨Nat.le_of_ble_eq_true rfl, Nat.le_of_ble_eq_true rfl⟩ (fun v1 st1 t1 L1 h0_1 hW_1 hQ_1 hL_1 => ?_) (fun v1 st1 t1 L1 h0_1 hW_1 hQ_1 hL_1 => ?_)
  · obtain ⟨ws2, hp, hP9, -, hD9, hS9⟩ := gx_back h0_1 hW_1 hQ_1 hL_1 hD hS hA
    clear hQ_1 h0_1 hL_1 hW_1 hP hD hS
    have hP := hP9
    have hD := hD9
    have hS := hS9
    clear hP9 hD9 hS9
    rcases hp with ⟨hv9, e_ws2⟩
    cases hv9
  · obtain ⟨E9, ws3, ce, hp, hce, hP9, -, hD9, hS9⟩ := gx_backT h0_1 hW_1 hQ_1 hL_1 hD hS hA
    clear hQ_1 h0_1 hL_1 hW_1 hP hD hS
    have hP := hP9
    have hD := hD9
    have hS := hS9
    clear hP9 hD9 hS9
    rcases hp with ⟨hv9, e_ws3⟩
    cases hv9
    rw [e_ws3] at hP hD
    refine gx_catch (E := "java/lang/IllegalStateException") (hp := 11) hown htab (Or.inr ⟨⟨by show 0 ≤ 3; decide, by show 3 < 8; decide⟩, by decide, "java/lang/IllegalStateException", hts _ kk_Lw_15, Or.inl ⟨rfl, hts _ kB_IllegalStateException⟩⟩) hce ?_
    clear hce
    refine W.widen (k := 1) (n := 6) (by decide) (by decide) ?_
    generalize t1.heap = H at hP hS ⊢
    generalize [] ++ L1 = locs at hS ⊢
    refine lv_astore_n (lv' := [(2, Value.ref v1), (0, Value.ref A0), (1, Value.ref A116)]) hx hb d_Lw_prepare_11 rfl hl (by decide) rfl (fun ls hl => ?_)
    refine lv_iconst (v := 1) hx hb d_Lw_prepare_12 (by decide) ?_
    exact gx_ret (W.iret (v := 1) hx hb hr (gx_post hP hK hD hS (by rw [← hPQ]; exact ⟨rfl, rfl⟩)) hS.2.2 d_Lw_prepare_13)

set_option maxHeartbeats 4000000 in
set_option maxRecDepth 100000 in
theorem c_Lw_reader_v1 (l : Launch) (htr : l.stackTraces = false) (D : va_G) (tys : List (ClassId × FieldType)) (z sz : Nat) (ws : va_W) (cR : ClassId) (A0 : Nat) (p0 : Int32) (A116 : Nat) (A1 : Nat) (A5 : Nat) (A8 : Nat) (A20 : Nat) (A25 : Nat) (A12 : Nat) (A16 : Nat) (A26 : Nat) (A31 : Nat) (A36 : Nat) (A41 : Nat) (A27 : Nat) (f_0 : ws[0]? = some ((A0, Sum.inr (0, [Value.ref A1, Value.ref A5, Value.ref A8, Value.ref A20, Value.ref A25, Value.ref A12, Value.ref A16, Value.int 0, Value.int 0, Value.int 0, Value.int 16, Value.int 4, Value.int 0, Value.int 0, Value.int 0, Value.int 0, Value.int 0, Value.int (-1)])) : Nat × va_E)) (f_25 : ws[25]? = some ((A25, Sum.inl (cR, 4, Sum.inr (Sum.inr (Sum.inr (Sum.inr (va_up (va_up (va_up (va_up (fun _ => none) 0 (some A26)) 1 (some A31)) 2 (some A36)) 3 (some A41))))))) : Nat × va_E)) (f_26 : ws[26]? = some ((A26, Sum.inr (6, [Value.ref A27, Value.int 0, Value.int 0])) : Nat × va_E)) (ht4 : tys[4]? = some ((cR, FieldType.object "CommitLedger$Reader") : ClassId × FieldType)) : gx_Met l y_Lw_reader [Cond.codeWith y_Lw_reader b_Lw_reader 4 (some .int) [(0, 9, 12, 13), (0, 9, 15, 15), (0, 9, 18, 41), (0, 9, 21, 17), (0, 9, 24, 27), (0, 9, 27, 29)]] { frames := 8, cells := 2, slots := 12, locals := 126 } (gx_P z sz D classes tys ws [Value.ref A0, Value.int p0, Value.ref A116]) (gx_Q D classes tys (va_A ws sz) (fun r ws' => (r = Sum.inl (some (Value.int 3)) ∧ ws' = ws ∧ ¬ p0 < 0 ∧ p0 ≤ 1 ∧ ¬ p0 = 1) ∨ (r = Sum.inl (some (Value.int 2)) ∧ ws' = ws ∧ ¬ p0 < 0 ∧ p0 ≤ 1 ∧ p0 = 1) ∨ (r = Sum.inl (some (Value.int 1)) ∧ ws' = ws ∧ p0 < 0) ∨ (r = Sum.inl (some (Value.int 1)) ∧ ws' = ws ∧ ¬ p0 < 0 ∧ ¬ p0 ≤ 1))) 2 12 (va_A ws sz) := by
  refine gx_ofWH (cc := b_Lw_reader) (maxL := 4) (ret := (some .int)) (by decide) ?_
  intro p e s m args below meth c s₁ B hml htab hv
  obtain ⟨rfl, hsz, hz, hP, hK, hD0, hY⟩ := hv
  have hx := B.exec
  have hb := B.bytes
  have hr := B.returns
  have hts := hY.hts (#[Value.ref A0, Value.int p0, Value.ref A116] : Array Value)
  have hown : s.vm.findClass "CommitLedgerLaw" = some m.cls := findClass_of_methodNamed B.named
  have hlocks := B.notSynchronized
  subst hsz
  have hAz := gx_az hD0 hz
  have hD := hD0.self (sz := s.heap.size)
  have hN := gx_ns hP
  have hA : ∀ q : Nat, s.heap.size ≤ q → va_A ws s.heap.size q := fun q h => Or.inr h
  generalize va_A ws s.heap.size = A at hD hN hA hAz ⊢
  generalize hPQ : (fun (r : Option Value ⊕ String) (ws' : va_W) => (r = Sum.inl (some (Value.int 3)) ∧ ws' = ws ∧ ¬ p0 < 0 ∧ p0 ≤ 1 ∧ ¬ p0 = 1) ∨ (r = Sum.inl (some (Value.int 2)) ∧ ws' = ws ∧ ¬ p0 < 0 ∧ p0 ≤ 1 ∧ p0 = 1) ∨ (r = Sum.inl (some (Value.int 1)) ∧ ws' = ws ∧ p0 < 0) ∨ (r = Sum.inl (some (Value.int 1)) ∧ ws' = ws ∧ ¬ p0 < 0 ∧ ¬ p0 ≤ 1)) = PQ
  have hS : va_S A s.heap s.heap [] := va_S.rf
  have hU : gx_g ws ws 0 [] := gx_g.rf
  have hl := lv_entry ([Value.ref A0, Value.int p0, Value.ref A116]) (n := 4) (Nat.le_of_ble_eq_true rfl)
  rw [lg_entry_eq]
  generalize (lg_sl ([Value.ref A0, Value.int p0, Value.ref A116]) ++ List.replicate (4 - (lg_sl ([Value.ref A0, Value.int p0, Value.ref A116])).length) Slot.unset).toArray = ls at hl ⊢
  have hl : lv_has ls 4 [(0, Value.ref A0), (1, Value.int p0), (2, Value.ref A116)] := hl
  refine lv_aload_n hx hb d_Lw_reader_0 rfl (lv_at hl 2 rfl) ?_
  refine lv_iconst (v := 0) hx hb d_Lw_reader_1 (by decide) ?_
  refine lv_aload_n hx hb d_Lw_reader_2 rfl (lv_at hl 0 rfl) ?_
  refine lv_iload_n hx hb d_Lw_reader_3 rfl (lv_at hl 1 rfl) ?_
  refine gx_call (ig := .invokevirtual 66) (c_Le_reader_v1 l htr D tys z _ ws cR A0 p0 A1 A5 A8 A20 A25 A12 A16 A26 A31 A36 A41 A27 f_0 f_25 f_26 ht4) (gx_invV (As := [Value.int p0]) (rest := [Value.int 0, Value.ref A116]) hx hb hown hts km_Lw_66 kI_Le_reader kV_Le_reader kc_Le_reader (by decide) (show (parseMethodDescriptor y_Le_reader.desc).map (fun d => d.parameters.length) = some 1 by decide +kernel) (gx_recv (ci := 0) hK hP rfl f_0) rfl rfl d_Lw_reader_4) (gx_cw (z := 0) hts kc_Le_reader kN_Le rfl rfl ⟨Nat.le_of_ble_eq_true rfl, Nat.le_of_ble_eq_true rfl⟩) hb hml gx_blind (gx_pre hz hP hK hD hY hS hAz [Value.ref A0, Value.int p0]) rfl hl.1 (lv_room (Nat.le_of_ble_eq_true rfl)) d_Lw_reader_4 ⟨Nat.le_of_ble_eq_true rfl, Nat.le_of_ble_eq_true rfl⟩ (fun v1 st1 t1 L1 h0_1 hW_1 hQ_1 hL_1 => ?_) (fun v1 st1 t1 L1 h0_1 hW_1 hQ_1 hL_1 => ?_)
  · obtain ⟨ws2, hp, hP9, -, hD9, hS9⟩ := gx_back h0_1 hW_1 hQ_1 hL_1 hD hS hA
    clear hQ_1 h0_1 hL_1 hW_1 hP hD hS
    have hP := hP9
    have hD := hD9
    have hS := hS9
    clear hP9 hD9 hS9
    rcases hp with ⟨hv9, e_ws2, g1_0, g1_1, g1_2⟩ | ⟨hv9, e_ws2, g1_0, g1_1, g1_2⟩ | ⟨hv9, e_ws2, g1_0⟩ | ⟨hv9, e_ws2, g1_0, g1_1⟩
    · cases hv9
    · cases hv9
    · cases hv9
    · cases hv9
  · obtain ⟨E9, ws3, ce, hp, hce, hP9, -, hD9, hS9⟩ := gx_backT h0_1 hW_1 hQ_1 hL_1 hD hS hA
    clear hQ_1 h0_1 hL_1 hW_1 hP hD hS
    have hP := hP9
    have hD := hD9
    have hS := hS9
    clear hP9 hD9 hS9
    rcases hp with ⟨hv9, e_ws3, g1_0, g1_1, g1_2⟩ | ⟨hv9, e_ws3, g1_0, g1_1, g1_2⟩ | ⟨hv9, e_ws3, g1_0⟩ | ⟨hv9, e_ws3, g1_0, g1_1⟩
    · cases hv9
      rw [e_ws3] at hP hD
      refine gx_catch (E := "java/util/NoSuchElementException") (hp := 18) hown htab (Or.inr ⟨⟨by show 0 ≤ 4; decide, by show 4 < 9; decide⟩, by decide, "java/lang/IllegalArgumentException", hts _ kk_Lw_13, Or.inr ⟨hts _ kZ_NoSuchElementException_IllegalArgumentException, (Or.inr ⟨⟨by show 0 ≤ 4; decide, by show 4 < 9; decide⟩, by decide, "java/lang/IllegalStateException", hts _ kk_Lw_15, Or.inr ⟨hts _ kZ_NoSuchElementException_IllegalStateException, (Or.inr ⟨⟨by show 0 ≤ 4; decide, by show 4 < 9; decide⟩, by decide, "java/util/NoSuchElementException", hts _ kk_Lw_41, Or.inl ⟨rfl, hts _ kB_NoSuchElementException⟩⟩)⟩⟩)⟩⟩) hce ?_
      clear hce
      refine W.widen (k := 2) (n := 12) (by decide) (by decide) ?_
      generalize t1.heap = H at hP hS ⊢
      generalize [] ++ L1 = locs at hS ⊢
      refine lv_astore_n (lv' := [(3, Value.ref v1), (0, Value.ref A0), (1, Value.int p0), (2, Value.ref A116)]) hx hb d_Lw_reader_18 rfl hl (by decide) rfl (fun ls hl => ?_)
      refine lv_iconst (v := 3) hx hb d_Lw_reader_19 (by decide) ?_
      exact gx_ret (W.iret (v := 3) hx hb hr (gx_post hP hK hD hS (by rw [← hPQ]; exact Or.inl ⟨rfl, rfl, g1_0, g1_1, g1_2⟩)) hS.2.2 d_Lw_reader_20)
    · cases hv9
      rw [e_ws3] at hP hD
      refine gx_catch (E := "java/lang/IllegalStateException") (hp := 15) hown htab (Or.inr ⟨⟨by show 0 ≤ 4; decide, by show 4 < 9; decide⟩, by decide, "java/lang/IllegalArgumentException", hts _ kk_Lw_13, Or.inr ⟨hts _ kZ_IllegalStateException_IllegalArgumentException, (Or.inr ⟨⟨by show 0 ≤ 4; decide, by show 4 < 9; decide⟩, by decide, "java/lang/IllegalStateException", hts _ kk_Lw_15, Or.inl ⟨rfl, hts _ kB_IllegalStateException⟩⟩)⟩⟩) hce ?_
      clear hce
      refine W.widen (k := 2) (n := 12) (by decide) (by decide) ?_
      generalize t1.heap = H at hP hS ⊢
      generalize [] ++ L1 = locs at hS ⊢
      refine lv_astore_n (lv' := [(3, Value.ref v1), (0, Value.ref A0), (1, Value.int p0), (2, Value.ref A116)]) hx hb d_Lw_reader_15 rfl hl (by decide) rfl (fun ls hl => ?_)
      refine lv_iconst (v := 2) hx hb d_Lw_reader_16 (by decide) ?_
      exact gx_ret (W.iret (v := 2) hx hb hr (gx_post hP hK hD hS (by rw [← hPQ]; exact Or.inr (Or.inl ⟨rfl, rfl, g1_0, g1_1, g1_2⟩))) hS.2.2 d_Lw_reader_17)
    · cases hv9
      rw [e_ws3] at hP hD
      refine gx_catch (E := "java/lang/IllegalArgumentException") (hp := 12) hown htab (Or.inr ⟨⟨by show 0 ≤ 4; decide, by show 4 < 9; decide⟩, by decide, "java/lang/IllegalArgumentException", hts _ kk_Lw_13, Or.inl ⟨rfl, hts _ kB_IllegalArgumentException⟩⟩) hce ?_
      clear hce
      refine W.widen (k := 2) (n := 12) (by decide) (by decide) ?_
      generalize t1.heap = H at hP hS ⊢
      generalize [] ++ L1 = locs at hS ⊢
      refine lv_astore_n (lv' := [(3, Value.ref v1), (0, Value.ref A0), (1, Value.int p0), (2, Value.ref A116)]) hx hb d_Lw_reader_12 rfl hl (by decide) rfl (fun ls hl => ?_)
      refine lv_iconst (v := 1) hx hb d_Lw_reader_13 (by decide) ?_
      exact gx_ret (W.iret (v := 1) hx hb hr (gx_post hP hK hD hS (by rw [← hPQ]; exact Or.inr (Or.inr (Or.inl ⟨rfl, rfl, g1_0⟩)))) hS.2.2 d_Lw_reader_14)
    · cases hv9
      rw [e_ws3] at hP hD
      refine gx_catch (E := "java/lang/IllegalArgumentException") (hp := 12) hown htab (Or.inr ⟨⟨by show 0 ≤ 4; decide, by show 4 < 9; decide⟩, by decide, "java/lang/IllegalArgumentException", hts _ kk_Lw_13, Or.inl ⟨rfl, hts _ kB_IllegalArgumentException⟩⟩) hce ?_
      clear hce
      refine W.widen (k := 2) (n := 12) (by decide) (by decide) ?_
      generalize t1.heap = H at hP hS ⊢
      generalize [] ++ L1 = locs at hS ⊢
      refine lv_astore_n (lv' := [(3, Value.ref v1), (0, Value.ref A0), (1, Value.int p0), (2, Value.ref A116)]) hx hb d_Lw_reader_12 rfl hl (by decide) rfl (fun ls hl => ?_)
      refine lv_iconst (v := 1) hx hb d_Lw_reader_13 (by decide) ?_
      exact gx_ret (W.iret (v := 1) hx hb hr (gx_post hP hK hD hS (by rw [← hPQ]; exact Or.inr (Or.inr (Or.inr (⟨rfl, rfl, g1_0, g1_1⟩))))) hS.2.2 d_Lw_reader_14)

set_option maxHeartbeats 4000000 in
set_option maxRecDepth 100000 in
theorem c_Lw_release_v1 (l : Launch) (htr : l.stackTraces = false) (D : va_G) (tys : List (ClassId × FieldType)) (z sz : Nat) (ws : va_W) (cR : ClassId) (A0 : Nat) (p0 : Int32) (A1 : Nat) (A5 : Nat) (A8 : Nat) (A20 : Nat) (A25 : Nat) (A12 : Nat) (A16 : Nat) (A26 : Nat) (A31 : Nat) (A36 : Nat) (A41 : Nat) (A27 : Nat) (A32 : Nat) (A37 : Nat) (A42 : Nat) (f_0 : ws[0]? = some ((A0, Sum.inr (0, [Value.ref A1, Value.ref A5, Value.ref A8, Value.ref A20, Value.ref A25, Value.ref A12, Value.ref A16, Value.int 0, Value.int 0, Value.int 0, Value.int 16, Value.int 4, Value.int 0, Value.int 0, Value.int 0, Value.int 0, Value.int 0, Value.int (-1)])) : Nat × va_E)) (f_25 : ws[25]? = some ((A25, Sum.inl (cR, 4, Sum.inr (Sum.inr (Sum.inr (Sum.inr (va_up (va_up (va_up (va_up (fun _ => none) 0 (some A26)) 1 (some A31)) 2 (some A36)) 3 (some A41))))))) : Nat × va_E)) (f_26 : ws[26]? = some ((A26, Sum.inr (6, [Value.ref A27, Value.int 0, Value.int 0])) : Nat × va_E)) (f_31 : ws[31]? = some ((A31, Sum.inr (6, [Value.ref A32, Value.int 0, Value.int 0])) : Nat × va_E)) (f_36 : ws[36]? = some ((A36, Sum.inr (6, [Value.ref A37, Value.int 0, Value.int 0])) : Nat × va_E)) (f_41 : ws[41]? = some ((A41, Sum.inr (6, [Value.ref A42, Value.int 0, Value.int 0])) : Nat × va_E)) (ht4 : tys[4]? = some ((cR, FieldType.object "CommitLedger$Reader") : ClassId × FieldType)) : gx_Met l y_Lw_release [Cond.codeWith y_Lw_release b_Lw_release 3 (some .int) [(0, 5, 8, 41)]] { frames := 8, cells := 1, slots := 6, locals := 125 } (gx_P z sz D classes tys ws [Value.ref A0, Value.int p0]) (gx_Q D classes tys (va_A ws sz) (fun r ws' => (r = Sum.inl (some (Value.int 1)) ∧ ws' = ws))) 1 6 (va_A ws sz) := by
  refine gx_ofWH (cc := b_Lw_release) (maxL := 3) (ret := (some .int)) (by decide) ?_
  intro p e s m args below meth c s₁ B hml htab hv
  obtain ⟨rfl, hsz, hz, hP, hK, hD0, hY⟩ := hv
  have hx := B.exec
  have hb := B.bytes
  have hr := B.returns
  have hts := hY.hts (#[Value.ref A0, Value.int p0] : Array Value)
  have hown : s.vm.findClass "CommitLedgerLaw" = some m.cls := findClass_of_methodNamed B.named
  have hlocks := B.notSynchronized
  subst hsz
  have hAz := gx_az hD0 hz
  have hD := hD0.self (sz := s.heap.size)
  have hN := gx_ns hP
  have hA : ∀ q : Nat, s.heap.size ≤ q → va_A ws s.heap.size q := fun q h => Or.inr h
  generalize va_A ws s.heap.size = A at hD hN hA hAz ⊢
  generalize hPQ : (fun (r : Option Value ⊕ String) (ws' : va_W) => (r = Sum.inl (some (Value.int 1)) ∧ ws' = ws)) = PQ
  have hS : va_S A s.heap s.heap [] := va_S.rf
  have hU : gx_g ws ws 0 [] := gx_g.rf
  have hl := lv_entry ([Value.ref A0, Value.int p0]) (n := 3) (Nat.le_of_ble_eq_true rfl)
  rw [lg_entry_eq]
  generalize (lg_sl ([Value.ref A0, Value.int p0]) ++ List.replicate (3 - (lg_sl ([Value.ref A0, Value.int p0])).length) Slot.unset).toArray = ls at hl ⊢
  have hl : lv_has ls 3 [(0, Value.ref A0), (1, Value.int p0)] := hl
  refine lv_aload_n hx hb d_Lw_release_0 rfl (lv_at hl 0 rfl) ?_
  refine lv_iload_n hx hb d_Lw_release_1 rfl (lv_at hl 1 rfl) ?_
  refine gx_call (ig := .invokevirtual 69) (c_Le_release_v1 l htr D tys z _ ws cR A0 p0 A1 A5 A8 A20 A25 A12 A16 A26 A31 A36 A41 A27 A32 A37 A42 f_0 f_25 f_26 f_31 f_36 f_41 ht4) (gx_invV (As := [Value.int p0]) (rest := []) hx hb hown hts km_Lw_69 kI_Le_release kV_Le_release kc_Le_release (by decide) (show (parseMethodDescriptor y_Le_release.desc).map (fun d => d.parameters.length) = some 1 by decide +kernel) (gx_recv (ci := 0) hK hP rfl f_0) rfl rfl d_Lw_release_2) (gx_cw (z := 0) hts kc_Le_release kN_Le rfl rfl ⟨Nat.le_of_ble_eq_true rfl, Nat.le_of_ble_eq_true rfl⟩) hb hml gx_blind (gx_pre hz hP hK hD hY hS hAz [Value.ref A0, Value.int p0]) rfl hl.1 (lv_room (Nat.le_of_ble_eq_true rfl)) d_Lw_release_2 ⟨Nat.le_of_ble_eq_true rfl, Nat.le_of_ble_eq_true rfl⟩ (fun v1 st1 t1 L1 h0_1 hW_1 hQ_1 hL_1 => ?_) (fun v1 st1 t1 L1 h0_1 hW_1 hQ_1 hL_1 => ?_)
  · obtain ⟨ws2, hp, hP9, -, hD9, hS9⟩ := gx_back h0_1 hW_1 hQ_1 hL_1 hD hS hA
    clear hQ_1 h0_1 hL_1 hW_1 hP hD hS
    have hP := hP9
    have hD := hD9
    have hS := hS9
    clear hP9 hD9 hS9
    rcases hp with ⟨hv9, e_ws2⟩
    cases hv9
  · obtain ⟨E9, ws3, ce, hp, hce, hP9, -, hD9, hS9⟩ := gx_backT h0_1 hW_1 hQ_1 hL_1 hD hS hA
    clear hQ_1 h0_1 hL_1 hW_1 hP hD hS
    have hP := hP9
    have hD := hD9
    have hS := hS9
    clear hP9 hD9 hS9
    rcases hp with ⟨hv9, e_ws3⟩
    cases hv9
    rw [e_ws3] at hP hD
    refine gx_catch (E := "java/util/NoSuchElementException") (hp := 8) hown htab (Or.inr ⟨⟨by show 0 ≤ 2; decide, by show 2 < 5; decide⟩, by decide, "java/util/NoSuchElementException", hts _ kk_Lw_41, Or.inl ⟨rfl, hts _ kB_NoSuchElementException⟩⟩) hce ?_
    clear hce
    refine W.widen (k := 1) (n := 6) (by decide) (by decide) ?_
    generalize t1.heap = H at hP hS ⊢
    generalize [] ++ L1 = locs at hS ⊢
    refine lv_astore_n (lv' := [(2, Value.ref v1), (0, Value.ref A0), (1, Value.int p0)]) hx hb d_Lw_release_8 rfl hl (by decide) rfl (fun ls hl => ?_)
    refine lv_iconst (v := 1) hx hb d_Lw_release_9 (by decide) ?_
    exact gx_ret (W.iret (v := 1) hx hb hr (gx_post hP hK hD hS (by rw [← hPQ]; exact ⟨rfl, rfl⟩)) hS.2.2 d_Lw_release_10)

set_option maxHeartbeats 4000000 in
set_option maxRecDepth 100000 in
theorem c_Lw_rollback_v1 (l : Launch) (htr : l.stackTraces = false) (D : va_G) (tys : List (ClassId × FieldType)) (z sz : Nat) (ws : va_W) (A0 : Nat) (A1 : Nat) (A5 : Nat) (A8 : Nat) (A20 : Nat) (A25 : Nat) (A12 : Nat) (A16 : Nat) (f_0 : ws[0]? = some ((A0, Sum.inr (0, [Value.ref A1, Value.ref A5, Value.ref A8, Value.ref A20, Value.ref A25, Value.ref A12, Value.ref A16, Value.int 0, Value.int 0, Value.int 0, Value.int 16, Value.int 4, Value.int 0, Value.int 0, Value.int 0, Value.int 0, Value.int 0, Value.int (-1)])) : Nat × va_E)) : gx_Met l y_Lw_rollback [Cond.codeWith y_Lw_rollback b_Lw_rollback 2 (some .int) [(0, 4, 7, 15)]] { frames := 8, cells := 1, slots := 6, locals := 122 } (gx_P z sz D classes tys ws [Value.ref A0]) (gx_Q D classes tys (va_A ws sz) (fun r ws' => (r = Sum.inl (some (Value.int 1)) ∧ ws' = ws))) 1 6 (va_A ws sz) := by
  refine gx_ofWH (cc := b_Lw_rollback) (maxL := 2) (ret := (some .int)) (by decide) ?_
  intro p e s m args below meth c s₁ B hml htab hv
  obtain ⟨rfl, hsz, hz, hP, hK, hD0, hY⟩ := hv
  have hx := B.exec
  have hb := B.bytes
  have hr := B.returns
  have hts := hY.hts (#[Value.ref A0] : Array Value)
  have hown : s.vm.findClass "CommitLedgerLaw" = some m.cls := findClass_of_methodNamed B.named
  have hlocks := B.notSynchronized
  subst hsz
  have hAz := gx_az hD0 hz
  have hD := hD0.self (sz := s.heap.size)
  have hN := gx_ns hP
  have hA : ∀ q : Nat, s.heap.size ≤ q → va_A ws s.heap.size q := fun q h => Or.inr h
  generalize va_A ws s.heap.size = A at hD hN hA hAz ⊢
  generalize hPQ : (fun (r : Option Value ⊕ String) (ws' : va_W) => (r = Sum.inl (some (Value.int 1)) ∧ ws' = ws)) = PQ
  have hS : va_S A s.heap s.heap [] := va_S.rf
  have hU : gx_g ws ws 0 [] := gx_g.rf
  have hl := lv_entry ([Value.ref A0]) (n := 2) (Nat.le_of_ble_eq_true rfl)
  rw [lg_entry_eq]
  generalize (lg_sl ([Value.ref A0]) ++ List.replicate (2 - (lg_sl ([Value.ref A0])).length) Slot.unset).toArray = ls at hl ⊢
  have hl : lv_has ls 2 [(0, Value.ref A0)] := hl
  refine lv_aload_n hx hb d_Lw_rollback_0 rfl (lv_at hl 0 rfl) ?_
  refine gx_call (ig := .invokevirtual 53) (c_Le_rollback_v1 l htr D tys z _ ws A0 A1 A5 A8 A20 A25 A12 A16 f_0) (gx_invV (As := []) (rest := []) hx hb hown hts km_Lw_53 kI_Le_rollback kV_Le_rollback kc_Le_rollback (by decide) (show (parseMethodDescriptor y_Le_rollback.desc).map (fun d => d.parameters.length) = some 0 by decide +kernel) (gx_recv (ci := 0) hK hP rfl f_0) rfl rfl d_Lw_rollback_1) (gx_cw (z := 0) hts kc_Le_rollback kN_Le rfl rfl ⟨Nat.le_of_ble_eq_true rfl, Nat.le_of_ble_eq_true rfl⟩) hb hml gx_blind (gx_pre hz hP hK hD hY hS hAz [Value.ref A0]) rfl hl.1 (lv_room (Nat.le_of_ble_eq_true rfl)) d_Lw_rollback_1 ⟨Nat.le_of_ble_eq_true rfl, Nat.le_of_ble_eq_true rfl⟩ (fun v1 st1 t1 L1 h0_1 hW_1 hQ_1 hL_1 => ?_) (fun v1 st1 t1 L1 h0_1 hW_1 hQ_1 hL_1 => ?_)
  · obtain ⟨ws2, hp, hP9, -, hD9, hS9⟩ := gx_back h0_1 hW_1 hQ_1 hL_1 hD hS hA
    clear hQ_1 h0_1 hL_1 hW_1 hP hD hS
    have hP := hP9
    have hD := hD9
    have hS := hS9
    clear hP9 hD9 hS9
    rcases hp with ⟨hv9, e_ws2⟩
    cases hv9
  · obtain ⟨E9, ws3, ce, hp, hce, hP9, -, hD9, hS9⟩ := gx_backT h0_1 hW_1 hQ_1 hL_1 hD hS hA
    clear hQ_1 h0_1 hL_1 hW_1 hP hD hS
    have hP := hP9
    have hD := hD9
    have hS := hS9
    clear hP9 hD9 hS9
    rcases hp with ⟨hv9, e_ws3⟩
    cases hv9
    rw [e_ws3] at hP hD
    refine gx_catch (E := "java/lang/IllegalStateException") (hp := 7) hown htab (Or.inr ⟨⟨by show 0 ≤ 1; decide, by show 1 < 4; decide⟩, by decide, "java/lang/IllegalStateException", hts _ kk_Lw_15, Or.inl ⟨rfl, hts _ kB_IllegalStateException⟩⟩) hce ?_
    clear hce
    refine W.widen (k := 1) (n := 6) (by decide) (by decide) ?_
    generalize t1.heap = H at hP hS ⊢
    generalize [] ++ L1 = locs at hS ⊢
    refine lv_astore_n (lv' := [(1, Value.ref v1), (0, Value.ref A0)]) hx hb d_Lw_rollback_7 rfl hl (by decide) rfl (fun ls hl => ?_)
    refine lv_iconst (v := 1) hx hb d_Lw_rollback_8 (by decide) ?_
    exact gx_ret (W.iret (v := 1) hx hb hr (gx_post hP hK hD hS (by rw [← hPQ]; exact ⟨rfl, rfl⟩)) hS.2.2 d_Lw_rollback_9)

set_option maxHeartbeats 4000000 in
set_option maxRecDepth 100000 in
theorem c_Lw_seen_v1 (l : Launch) (htr : l.stackTraces = false) (D : va_G) (tys : List (ClassId × FieldType)) (z sz : Nat) (ws : va_W) (cR : ClassId) (A0 : Nat) (p0 : Int32) (p1 : Int32) (A116 : Nat) (A1 : Nat) (A5 : Nat) (A8 : Nat) (A20 : Nat) (A25 : Nat) (A12 : Nat) (A16 : Nat) (A26 : Nat) (A31 : Nat) (A36 : Nat) (A41 : Nat) (A27 : Nat) (A32 : Nat) (A37 : Nat) (A42 : Nat) (f_0 : ws[0]? = some ((A0, Sum.inr (0, [Value.ref A1, Value.ref A5, Value.ref A8, Value.ref A20, Value.ref A25, Value.ref A12, Value.ref A16, Value.int 0, Value.int 0, Value.int 0, Value.int 16, Value.int 4, Value.int 0, Value.int 0, Value.int 0, Value.int 0, Value.int 0, Value.int (-1)])) : Nat × va_E)) (f_25 : ws[25]? = some ((A25, Sum.inl (cR, 4, Sum.inr (Sum.inr (Sum.inr (Sum.inr (va_up (va_up (va_up (va_up (fun _ => none) 0 (some A26)) 1 (some A31)) 2 (some A36)) 3 (some A41))))))) : Nat × va_E)) (f_26 : ws[26]? = some ((A26, Sum.inr (6, [Value.ref A27, Value.int 0, Value.int 0])) : Nat × va_E)) (f_31 : ws[31]? = some ((A31, Sum.inr (6, [Value.ref A32, Value.int 0, Value.int 0])) : Nat × va_E)) (f_36 : ws[36]? = some ((A36, Sum.inr (6, [Value.ref A37, Value.int 0, Value.int 0])) : Nat × va_E)) (f_41 : ws[41]? = some ((A41, Sum.inr (6, [Value.ref A42, Value.int 0, Value.int 0])) : Nat × va_E)) (ht4 : tys[4]? = some ((cR, FieldType.object "CommitLedger$Reader") : ClassId × FieldType)) : gx_Met l y_Lw_seen [Cond.codeWith y_Lw_seen b_Lw_seen 5 (some .int) [(0, 10, 13, 13), (0, 10, 17, 41)]] { frames := 8, cells := 2, slots := 12, locals := 127 } (gx_P z sz D classes tys ws [Value.ref A0, Value.int p0, Value.int p1, Value.ref A116]) (gx_Q D classes tys (va_A ws sz) (fun r ws' => (r = Sum.inl (some (Value.int 2)) ∧ ws' = ws ∧ ¬ p1 < 0 ∧ p1 ≤ 2) ∨ (r = Sum.inl (some (Value.int 1)) ∧ ws' = ws ∧ p1 < 0) ∨ (r = Sum.inl (some (Value.int 1)) ∧ ws' = ws ∧ ¬ p1 < 0 ∧ ¬ p1 ≤ 2))) 2 12 (va_A ws sz) := by
  refine gx_ofWH (cc := b_Lw_seen) (maxL := 5) (ret := (some .int)) (by decide) ?_
  intro p e s m args below meth c s₁ B hml htab hv
  obtain ⟨rfl, hsz, hz, hP, hK, hD0, hY⟩ := hv
  have hx := B.exec
  have hb := B.bytes
  have hr := B.returns
  have hts := hY.hts (#[Value.ref A0, Value.int p0, Value.int p1, Value.ref A116] : Array Value)
  have hown : s.vm.findClass "CommitLedgerLaw" = some m.cls := findClass_of_methodNamed B.named
  have hlocks := B.notSynchronized
  subst hsz
  have hAz := gx_az hD0 hz
  have hD := hD0.self (sz := s.heap.size)
  have hN := gx_ns hP
  have hA : ∀ q : Nat, s.heap.size ≤ q → va_A ws s.heap.size q := fun q h => Or.inr h
  generalize va_A ws s.heap.size = A at hD hN hA hAz ⊢
  generalize hPQ : (fun (r : Option Value ⊕ String) (ws' : va_W) => (r = Sum.inl (some (Value.int 2)) ∧ ws' = ws ∧ ¬ p1 < 0 ∧ p1 ≤ 2) ∨ (r = Sum.inl (some (Value.int 1)) ∧ ws' = ws ∧ p1 < 0) ∨ (r = Sum.inl (some (Value.int 1)) ∧ ws' = ws ∧ ¬ p1 < 0 ∧ ¬ p1 ≤ 2)) = PQ
  have hS : va_S A s.heap s.heap [] := va_S.rf
  have hU : gx_g ws ws 0 [] := gx_g.rf
  have hl := lv_entry ([Value.ref A0, Value.int p0, Value.int p1, Value.ref A116]) (n := 5) (Nat.le_of_ble_eq_true rfl)
  rw [lg_entry_eq]
  generalize (lg_sl ([Value.ref A0, Value.int p0, Value.int p1, Value.ref A116]) ++ List.replicate (5 - (lg_sl ([Value.ref A0, Value.int p0, Value.int p1, Value.ref A116])).length) Slot.unset).toArray = ls at hl ⊢
  have hl : lv_has ls 5 [(0, Value.ref A0), (1, Value.int p0), (2, Value.int p1), (3, Value.ref A116)] := hl
  refine lv_aload_n hx hb d_Lw_seen_0 rfl (lv_at hl 3 rfl) ?_
  refine lv_iconst (v := 0) hx hb d_Lw_seen_1 (by decide) ?_
  refine lv_aload_n hx hb d_Lw_seen_2 rfl (lv_at hl 0 rfl) ?_
  refine lv_iload_n hx hb d_Lw_seen_3 rfl (lv_at hl 1 rfl) ?_
  refine lv_iload_n hx hb d_Lw_seen_4 rfl (lv_at hl 2 rfl) ?_
  refine gx_call (ig := .invokevirtual 82) (c_Le_seen_v1 l htr D tys z _ ws cR A0 p0 p1 A1 A5 A8 A20 A25 A12 A16 A26 A31 A36 A41 A27 A32 A37 A42 f_0 f_25 f_26 f_31 f_36 f_41 ht4) (gx_invV (As := [Value.int p0, Value.int p1]) (rest := [Value.int 0, Value.ref A116]) hx hb hown hts km_Lw_82 kI_Le_seen kV_Le_seen kc_Le_seen (by decide) (show (parseMethodDescriptor y_Le_seen.desc).map (fun d => d.parameters.length) = some 2 by decide +kernel) (gx_recv (ci := 0) hK hP rfl f_0) rfl rfl d_Lw_seen_5) (gx_cw (z := 0) hts kc_Le_seen kN_Le rfl rfl ⟨Nat.le_of_ble_eq_true rfl, Nat.le_of_ble_eq_true rfl⟩) hb hml gx_blind (gx_pre hz hP hK hD hY hS hAz [Value.ref A0, Value.int p0, Value.int p1]) rfl hl.1 (lv_room (Nat.le_of_ble_eq_true rfl)) d_Lw_seen_5 ⟨Nat.le_of_ble_eq_true rfl, Nat.le_of_ble_eq_true rfl⟩ (fun v1 st1 t1 L1 h0_1 hW_1 hQ_1 hL_1 => ?_) (fun v1 st1 t1 L1 h0_1 hW_1 hQ_1 hL_1 => ?_)
  · obtain ⟨ws2, hp, hP9, -, hD9, hS9⟩ := gx_back h0_1 hW_1 hQ_1 hL_1 hD hS hA
    clear hQ_1 h0_1 hL_1 hW_1 hP hD hS
    have hP := hP9
    have hD := hD9
    have hS := hS9
    clear hP9 hD9 hS9
    rcases hp with ⟨hv9, e_ws2, g1_0, g1_1⟩ | ⟨hv9, e_ws2, g1_0⟩ | ⟨hv9, e_ws2, g1_0, g1_1⟩
    · cases hv9
    · cases hv9
    · cases hv9
  · obtain ⟨E9, ws3, ce, hp, hce, hP9, -, hD9, hS9⟩ := gx_backT h0_1 hW_1 hQ_1 hL_1 hD hS hA
    clear hQ_1 h0_1 hL_1 hW_1 hP hD hS
    have hP := hP9
    have hD := hD9
    have hS := hS9
    clear hP9 hD9 hS9
    rcases hp with ⟨hv9, e_ws3, g1_0, g1_1⟩ | ⟨hv9, e_ws3, g1_0⟩ | ⟨hv9, e_ws3, g1_0, g1_1⟩
    · cases hv9
      rw [e_ws3] at hP hD
      refine gx_catch (E := "java/util/NoSuchElementException") (hp := 17) hown htab (Or.inr ⟨⟨by show 0 ≤ 5; decide, by show 5 < 10; decide⟩, by decide, "java/lang/IllegalArgumentException", hts _ kk_Lw_13, Or.inr ⟨hts _ kZ_NoSuchElementException_IllegalArgumentException, (Or.inr ⟨⟨by show 0 ≤ 5; decide, by show 5 < 10; decide⟩, by decide, "java/util/NoSuchElementException", hts _ kk_Lw_41, Or.inl ⟨rfl, hts _ kB_NoSuchElementException⟩⟩)⟩⟩) hce ?_
      clear hce
      refine W.widen (k := 2) (n := 12) (by decide) (by decide) ?_
      generalize t1.heap = H at hP hS ⊢
      generalize [] ++ L1 = locs at hS ⊢
      refine lv_astore (lv' := [(4, Value.ref v1), (0, Value.ref A0), (1, Value.int p0), (2, Value.int p1), (3, Value.ref A116)]) hx hb d_Lw_seen_17 hl (by decide) rfl (fun ls hl => ?_)
      refine lv_iconst (v := 2) hx hb d_Lw_seen_19 (by decide) ?_
      exact gx_ret (W.iret (v := 2) hx hb hr (gx_post hP hK hD hS (by rw [← hPQ]; exact Or.inl ⟨rfl, rfl, g1_0, g1_1⟩)) hS.2.2 d_Lw_seen_20)
    · cases hv9
      rw [e_ws3] at hP hD
      refine gx_catch (E := "java/lang/IllegalArgumentException") (hp := 13) hown htab (Or.inr ⟨⟨by show 0 ≤ 5; decide, by show 5 < 10; decide⟩, by decide, "java/lang/IllegalArgumentException", hts _ kk_Lw_13, Or.inl ⟨rfl, hts _ kB_IllegalArgumentException⟩⟩) hce ?_
      clear hce
      refine W.widen (k := 2) (n := 12) (by decide) (by decide) ?_
      generalize t1.heap = H at hP hS ⊢
      generalize [] ++ L1 = locs at hS ⊢
      refine lv_astore (lv' := [(4, Value.ref v1), (0, Value.ref A0), (1, Value.int p0), (2, Value.int p1), (3, Value.ref A116)]) hx hb d_Lw_seen_13 hl (by decide) rfl (fun ls hl => ?_)
      refine lv_iconst (v := 1) hx hb d_Lw_seen_15 (by decide) ?_
      exact gx_ret (W.iret (v := 1) hx hb hr (gx_post hP hK hD hS (by rw [← hPQ]; exact Or.inr (Or.inl ⟨rfl, rfl, g1_0⟩))) hS.2.2 d_Lw_seen_16)
    · cases hv9
      rw [e_ws3] at hP hD
      refine gx_catch (E := "java/lang/IllegalArgumentException") (hp := 13) hown htab (Or.inr ⟨⟨by show 0 ≤ 5; decide, by show 5 < 10; decide⟩, by decide, "java/lang/IllegalArgumentException", hts _ kk_Lw_13, Or.inl ⟨rfl, hts _ kB_IllegalArgumentException⟩⟩) hce ?_
      clear hce
      refine W.widen (k := 2) (n := 12) (by decide) (by decide) ?_
      generalize t1.heap = H at hP hS ⊢
      generalize [] ++ L1 = locs at hS ⊢
      refine lv_astore (lv' := [(4, Value.ref v1), (0, Value.ref A0), (1, Value.int p0), (2, Value.int p1), (3, Value.ref A116)]) hx hb d_Lw_seen_13 hl (by decide) rfl (fun ls hl => ?_)
      refine lv_iconst (v := 1) hx hb d_Lw_seen_15 (by decide) ?_
      exact gx_ret (W.iret (v := 1) hx hb hr (gx_post hP hK hD hS (by rw [← hPQ]; exact Or.inr (Or.inr (⟨rfl, rfl, g1_0, g1_1⟩)))) hS.2.2 d_Lw_seen_16)

set_option maxHeartbeats 4000000 in
set_option maxRecDepth 100000 in
theorem c_Lw_segment_v1 (l : Launch) (htr : l.stackTraces = false) (D : va_G) (tys : List (ClassId × FieldType)) (z sz : Nat) (ws : va_W) (A0 : Nat) (p0 : Int32) (p1 : Int32) (A116 : Nat) (A1 : Nat) (A5 : Nat) (A8 : Nat) (A20 : Nat) (A25 : Nat) (A12 : Nat) (A16 : Nat) (f_0 : ws[0]? = some ((A0, Sum.inr (0, [Value.ref A1, Value.ref A5, Value.ref A8, Value.ref A20, Value.ref A25, Value.ref A12, Value.ref A16, Value.int 0, Value.int 0, Value.int 0, Value.int 16, Value.int 4, Value.int 0, Value.int 0, Value.int 0, Value.int 0, Value.int 0, Value.int (-1)])) : Nat × va_E)) : gx_Met l y_Lw_segment [Cond.codeWith y_Lw_segment b_Lw_segment 5 (some .int) [(0, 10, 13, 13), (0, 10, 17, 15), (0, 10, 21, 41)]] { frames := 8, cells := 2, slots := 12, locals := 127 } (gx_P z sz D classes tys ws [Value.ref A0, Value.int p0, Value.int p1, Value.ref A116]) (gx_Q D classes tys (va_A ws sz) (fun r ws' => (r = Sum.inl (some (Value.int 2)) ∧ ws' = ws ∧ ¬ p1 < 0 ∧ p1 ≤ 4) ∨ (r = Sum.inl (some (Value.int 1)) ∧ ws' = ws ∧ p1 < 0) ∨ (r = Sum.inl (some (Value.int 1)) ∧ ws' = ws ∧ ¬ p1 < 0 ∧ ¬ p1 ≤ 4))) 2 12 (va_A ws sz) := by
  refine gx_ofWH (cc := b_Lw_segment) (maxL := 5) (ret := (some .int)) (by decide) ?_
  intro p e s m args below meth c s₁ B hml htab hv
  obtain ⟨rfl, hsz, hz, hP, hK, hD0, hY⟩ := hv
  have hx := B.exec
  have hb := B.bytes
  have hr := B.returns
  have hts := hY.hts (#[Value.ref A0, Value.int p0, Value.int p1, Value.ref A116] : Array Value)
  have hown : s.vm.findClass "CommitLedgerLaw" = some m.cls := findClass_of_methodNamed B.named
  have hlocks := B.notSynchronized
  subst hsz
  have hAz := gx_az hD0 hz
  have hD := hD0.self (sz := s.heap.size)
  have hN := gx_ns hP
  have hA : ∀ q : Nat, s.heap.size ≤ q → va_A ws s.heap.size q := fun q h => Or.inr h
  generalize va_A ws s.heap.size = A at hD hN hA hAz ⊢
  generalize hPQ : (fun (r : Option Value ⊕ String) (ws' : va_W) => (r = Sum.inl (some (Value.int 2)) ∧ ws' = ws ∧ ¬ p1 < 0 ∧ p1 ≤ 4) ∨ (r = Sum.inl (some (Value.int 1)) ∧ ws' = ws ∧ p1 < 0) ∨ (r = Sum.inl (some (Value.int 1)) ∧ ws' = ws ∧ ¬ p1 < 0 ∧ ¬ p1 ≤ 4)) = PQ
  have hS : va_S A s.heap s.heap [] := va_S.rf
  have hU : gx_g ws ws 0 [] := gx_g.rf
  have hl := lv_entry ([Value.ref A0, Value.int p0, Value.int p1, Value.ref A116]) (n := 5) (Nat.le_of_ble_eq_true rfl)
  rw [lg_entry_eq]
  generalize (lg_sl ([Value.ref A0, Value.int p0, Value.int p1, Value.ref A116]) ++ List.replicate (5 - (lg_sl ([Value.ref A0, Value.int p0, Value.int p1, Value.ref A116])).length) Slot.unset).toArray = ls at hl ⊢
  have hl : lv_has ls 5 [(0, Value.ref A0), (1, Value.int p0), (2, Value.int p1), (3, Value.ref A116)] := hl
  refine lv_aload_n hx hb d_Lw_segment_0 rfl (lv_at hl 3 rfl) ?_
  refine lv_iconst (v := 0) hx hb d_Lw_segment_1 (by decide) ?_
  refine lv_aload_n hx hb d_Lw_segment_2 rfl (lv_at hl 0 rfl) ?_
  refine lv_iload_n hx hb d_Lw_segment_3 rfl (lv_at hl 1 rfl) ?_
  refine lv_iload_n hx hb d_Lw_segment_4 rfl (lv_at hl 2 rfl) ?_
  refine gx_call (ig := .invokevirtual 85) (c_Le_segment_v1 l htr D tys z _ ws A0 p0 p1 A1 A5 A8 A20 A25 A12 A16 f_0) (gx_invV (As := [Value.int p0, Value.int p1]) (rest := [Value.int 0, Value.ref A116]) hx hb hown hts km_Lw_85 kI_Le_segment kV_Le_segment kc_Le_segment (by decide) (show (parseMethodDescriptor y_Le_segment.desc).map (fun d => d.parameters.length) = some 2 by decide +kernel) (gx_recv (ci := 0) hK hP rfl f_0) rfl rfl d_Lw_segment_5) (gx_cw (z := 0) hts kc_Le_segment kN_Le rfl rfl ⟨Nat.le_of_ble_eq_true rfl, Nat.le_of_ble_eq_true rfl⟩) hb hml gx_blind (gx_pre hz hP hK hD hY hS hAz [Value.ref A0, Value.int p0, Value.int p1]) rfl hl.1 (lv_room (Nat.le_of_ble_eq_true rfl)) d_Lw_segment_5 ⟨Nat.le_of_ble_eq_true rfl, Nat.le_of_ble_eq_true rfl⟩ (fun v1 st1 t1 L1 h0_1 hW_1 hQ_1 hL_1 => ?_) (fun v1 st1 t1 L1 h0_1 hW_1 hQ_1 hL_1 => ?_)
  · obtain ⟨ws2, hp, hP9, -, hD9, hS9⟩ := gx_back h0_1 hW_1 hQ_1 hL_1 hD hS hA
    clear hQ_1 h0_1 hL_1 hW_1 hP hD hS
    have hP := hP9
    have hD := hD9
    have hS := hS9
    clear hP9 hD9 hS9
    rcases hp with ⟨hv9, e_ws2, g1_0, g1_1⟩ | ⟨hv9, e_ws2, g1_0⟩ | ⟨hv9, e_ws2, g1_0, g1_1⟩
    · cases hv9
    · cases hv9
    · cases hv9
  · obtain ⟨E9, ws3, ce, hp, hce, hP9, -, hD9, hS9⟩ := gx_backT h0_1 hW_1 hQ_1 hL_1 hD hS hA
    clear hQ_1 h0_1 hL_1 hW_1 hP hD hS
    have hP := hP9
    have hD := hD9
    have hS := hS9
    clear hP9 hD9 hS9
    rcases hp with ⟨hv9, e_ws3, g1_0, g1_1⟩ | ⟨hv9, e_ws3, g1_0⟩ | ⟨hv9, e_ws3, g1_0, g1_1⟩
    · cases hv9
      rw [e_ws3] at hP hD
      refine gx_catch (E := "java/lang/IllegalStateException") (hp := 17) hown htab (Or.inr ⟨⟨by show 0 ≤ 5; decide, by show 5 < 10; decide⟩, by decide, "java/lang/IllegalArgumentException", hts _ kk_Lw_13, Or.inr ⟨hts _ kZ_IllegalStateException_IllegalArgumentException, (Or.inr ⟨⟨by show 0 ≤ 5; decide, by show 5 < 10; decide⟩, by decide, "java/lang/IllegalStateException", hts _ kk_Lw_15, Or.inl ⟨rfl, hts _ kB_IllegalStateException⟩⟩)⟩⟩) hce ?_
      clear hce
      refine W.widen (k := 2) (n := 12) (by decide) (by decide) ?_
      generalize t1.heap = H at hP hS ⊢
      generalize [] ++ L1 = locs at hS ⊢
      refine lv_astore (lv' := [(4, Value.ref v1), (0, Value.ref A0), (1, Value.int p0), (2, Value.int p1), (3, Value.ref A116)]) hx hb d_Lw_segment_17 hl (by decide) rfl (fun ls hl => ?_)
      refine lv_iconst (v := 2) hx hb d_Lw_segment_19 (by decide) ?_
      exact gx_ret (W.iret (v := 2) hx hb hr (gx_post hP hK hD hS (by rw [← hPQ]; exact Or.inl ⟨rfl, rfl, g1_0, g1_1⟩)) hS.2.2 d_Lw_segment_20)
    · cases hv9
      rw [e_ws3] at hP hD
      refine gx_catch (E := "java/lang/IllegalArgumentException") (hp := 13) hown htab (Or.inr ⟨⟨by show 0 ≤ 5; decide, by show 5 < 10; decide⟩, by decide, "java/lang/IllegalArgumentException", hts _ kk_Lw_13, Or.inl ⟨rfl, hts _ kB_IllegalArgumentException⟩⟩) hce ?_
      clear hce
      refine W.widen (k := 2) (n := 12) (by decide) (by decide) ?_
      generalize t1.heap = H at hP hS ⊢
      generalize [] ++ L1 = locs at hS ⊢
      refine lv_astore (lv' := [(4, Value.ref v1), (0, Value.ref A0), (1, Value.int p0), (2, Value.int p1), (3, Value.ref A116)]) hx hb d_Lw_segment_13 hl (by decide) rfl (fun ls hl => ?_)
      refine lv_iconst (v := 1) hx hb d_Lw_segment_15 (by decide) ?_
      exact gx_ret (W.iret (v := 1) hx hb hr (gx_post hP hK hD hS (by rw [← hPQ]; exact Or.inr (Or.inl ⟨rfl, rfl, g1_0⟩))) hS.2.2 d_Lw_segment_16)
    · cases hv9
      rw [e_ws3] at hP hD
      refine gx_catch (E := "java/lang/IllegalArgumentException") (hp := 13) hown htab (Or.inr ⟨⟨by show 0 ≤ 5; decide, by show 5 < 10; decide⟩, by decide, "java/lang/IllegalArgumentException", hts _ kk_Lw_13, Or.inl ⟨rfl, hts _ kB_IllegalArgumentException⟩⟩) hce ?_
      clear hce
      refine W.widen (k := 2) (n := 12) (by decide) (by decide) ?_
      generalize t1.heap = H at hP hS ⊢
      generalize [] ++ L1 = locs at hS ⊢
      refine lv_astore (lv' := [(4, Value.ref v1), (0, Value.ref A0), (1, Value.int p0), (2, Value.int p1), (3, Value.ref A116)]) hx hb d_Lw_segment_13 hl (by decide) rfl (fun ls hl => ?_)
      refine lv_iconst (v := 1) hx hb d_Lw_segment_15 (by decide) ?_
      exact gx_ret (W.iret (v := 1) hx hb hr (gx_post hP hK hD hS (by rw [← hPQ]; exact Or.inr (Or.inr (⟨rfl, rfl, g1_0, g1_1⟩)))) hS.2.2 d_Lw_segment_16)

set_option maxHeartbeats 4000000 in
set_option maxRecDepth 100000 in
theorem c_Lw_serial_v1 (l : Launch) (htr : l.stackTraces = false) (D : va_G) (tys : List (ClassId × FieldType)) (z sz : Nat) (ws : va_W) (cR : ClassId) (A0 : Nat) (p0 : Int32) (p1 : Int32) (A116 : Nat) (A1 : Nat) (A5 : Nat) (A8 : Nat) (A20 : Nat) (A25 : Nat) (A12 : Nat) (A16 : Nat) (A26 : Nat) (A31 : Nat) (A36 : Nat) (A41 : Nat) (A27 : Nat) (A32 : Nat) (A37 : Nat) (A42 : Nat) (f_0 : ws[0]? = some ((A0, Sum.inr (0, [Value.ref A1, Value.ref A5, Value.ref A8, Value.ref A20, Value.ref A25, Value.ref A12, Value.ref A16, Value.int 0, Value.int 0, Value.int 0, Value.int 16, Value.int 4, Value.int 0, Value.int 0, Value.int 0, Value.int 0, Value.int 0, Value.int (-1)])) : Nat × va_E)) (f_25 : ws[25]? = some ((A25, Sum.inl (cR, 4, Sum.inr (Sum.inr (Sum.inr (Sum.inr (va_up (va_up (va_up (va_up (fun _ => none) 0 (some A26)) 1 (some A31)) 2 (some A36)) 3 (some A41))))))) : Nat × va_E)) (f_26 : ws[26]? = some ((A26, Sum.inr (6, [Value.ref A27, Value.int 0, Value.int 0])) : Nat × va_E)) (f_31 : ws[31]? = some ((A31, Sum.inr (6, [Value.ref A32, Value.int 0, Value.int 0])) : Nat × va_E)) (f_36 : ws[36]? = some ((A36, Sum.inr (6, [Value.ref A37, Value.int 0, Value.int 0])) : Nat × va_E)) (f_41 : ws[41]? = some ((A41, Sum.inr (6, [Value.ref A42, Value.int 0, Value.int 0])) : Nat × va_E)) (ht4 : tys[4]? = some ((cR, FieldType.object "CommitLedger$Reader") : ClassId × FieldType)) : gx_Met l y_Lw_serial [Cond.codeWith y_Lw_serial b_Lw_serial 5 (some .int) [(0, 10, 13, 41)]] { frames := 8, cells := 1, slots := 6, locals := 129 } (gx_P z sz D classes tys ws [Value.ref A0, Value.int p0, Value.int p1, Value.ref A116]) (gx_Q D classes tys (va_A ws sz) (fun r ws' => (r = Sum.inl (some (Value.int 1)) ∧ ws' = ws))) 1 6 (va_A ws sz) := by
  refine gx_ofWH (cc := b_Lw_serial) (maxL := 5) (ret := (some .int)) (by decide) ?_
  intro p e s m args below meth c s₁ B hml htab hv
  obtain ⟨rfl, hsz, hz, hP, hK, hD0, hY⟩ := hv
  have hx := B.exec
  have hb := B.bytes
  have hr := B.returns
  have hts := hY.hts (#[Value.ref A0, Value.int p0, Value.int p1, Value.ref A116] : Array Value)
  have hown : s.vm.findClass "CommitLedgerLaw" = some m.cls := findClass_of_methodNamed B.named
  have hlocks := B.notSynchronized
  subst hsz
  have hAz := gx_az hD0 hz
  have hD := hD0.self (sz := s.heap.size)
  have hN := gx_ns hP
  have hA : ∀ q : Nat, s.heap.size ≤ q → va_A ws s.heap.size q := fun q h => Or.inr h
  generalize va_A ws s.heap.size = A at hD hN hA hAz ⊢
  generalize hPQ : (fun (r : Option Value ⊕ String) (ws' : va_W) => (r = Sum.inl (some (Value.int 1)) ∧ ws' = ws)) = PQ
  have hS : va_S A s.heap s.heap [] := va_S.rf
  have hU : gx_g ws ws 0 [] := gx_g.rf
  have hl := lv_entry ([Value.ref A0, Value.int p0, Value.int p1, Value.ref A116]) (n := 5) (Nat.le_of_ble_eq_true rfl)
  rw [lg_entry_eq]
  generalize (lg_sl ([Value.ref A0, Value.int p0, Value.int p1, Value.ref A116]) ++ List.replicate (5 - (lg_sl ([Value.ref A0, Value.int p0, Value.int p1, Value.ref A116])).length) Slot.unset).toArray = ls at hl ⊢
  have hl : lv_has ls 5 [(0, Value.ref A0), (1, Value.int p0), (2, Value.int p1), (3, Value.ref A116)] := hl
  refine lv_aload_n hx hb d_Lw_serial_0 rfl (lv_at hl 3 rfl) ?_
  refine lv_iconst (v := 0) hx hb d_Lw_serial_1 (by decide) ?_
  refine lv_aload_n hx hb d_Lw_serial_2 rfl (lv_at hl 0 rfl) ?_
  refine lv_iload_n hx hb d_Lw_serial_3 rfl (lv_at hl 1 rfl) ?_
  refine lv_iload_n hx hb d_Lw_serial_4 rfl (lv_at hl 2 rfl) ?_
  refine gx_call (ig := .invokevirtual 79) (c_Le_serial_v1 l htr D tys z _ ws cR A0 p0 p1 A1 A5 A8 A20 A25 A12 A16 A26 A31 A36 A41 A27 A32 A37 A42 f_0 f_25 f_26 f_31 f_36 f_41 ht4) (gx_invV (As := [Value.int p0, Value.int p1]) (rest := [Value.int 0, Value.ref A116]) hx hb hown hts km_Lw_79 kI_Le_serial kV_Le_serial kc_Le_serial (by decide) (show (parseMethodDescriptor y_Le_serial.desc).map (fun d => d.parameters.length) = some 2 by decide +kernel) (gx_recv (ci := 0) hK hP rfl f_0) rfl rfl d_Lw_serial_5) (gx_cw (z := 0) hts kc_Le_serial kN_Le rfl rfl ⟨Nat.le_of_ble_eq_true rfl, Nat.le_of_ble_eq_true rfl⟩) hb hml gx_blind (gx_pre hz hP hK hD hY hS hAz [Value.ref A0, Value.int p0, Value.int p1]) rfl hl.1 (lv_room (Nat.le_of_ble_eq_true rfl)) d_Lw_serial_5 ⟨Nat.le_of_ble_eq_true rfl, Nat.le_of_ble_eq_true rfl⟩ (fun v1 st1 t1 L1 h0_1 hW_1 hQ_1 hL_1 => ?_) (fun v1 st1 t1 L1 h0_1 hW_1 hQ_1 hL_1 => ?_)
  · obtain ⟨ws2, hp, hP9, -, hD9, hS9⟩ := gx_back h0_1 hW_1 hQ_1 hL_1 hD hS hA
    clear hQ_1 h0_1 hL_1 hW_1 hP hD hS
    have hP := hP9
    have hD := hD9
    have hS := hS9
    clear hP9 hD9 hS9
    rcases hp with ⟨hv9, e_ws2⟩
    cases hv9
  · obtain ⟨E9, ws3, ce, hp, hce, hP9, -, hD9, hS9⟩ := gx_backT h0_1 hW_1 hQ_1 hL_1 hD hS hA
    clear hQ_1 h0_1 hL_1 hW_1 hP hD hS
    have hP := hP9
    have hD := hD9
    have hS := hS9
    clear hP9 hD9 hS9
    rcases hp with ⟨hv9, e_ws3⟩
    cases hv9
    rw [e_ws3] at hP hD
    refine gx_catch (E := "java/util/NoSuchElementException") (hp := 13) hown htab (Or.inr ⟨⟨by show 0 ≤ 5; decide, by show 5 < 10; decide⟩, by decide, "java/util/NoSuchElementException", hts _ kk_Lw_41, Or.inl ⟨rfl, hts _ kB_NoSuchElementException⟩⟩) hce ?_
    clear hce
    refine W.widen (k := 1) (n := 6) (by decide) (by decide) ?_
    generalize t1.heap = H at hP hS ⊢
    generalize [] ++ L1 = locs at hS ⊢
    refine lv_astore (lv' := [(4, Value.ref v1), (0, Value.ref A0), (1, Value.int p0), (2, Value.int p1), (3, Value.ref A116)]) hx hb d_Lw_serial_13 hl (by decide) rfl (fun ls hl => ?_)
    refine lv_iconst (v := 1) hx hb d_Lw_serial_15 (by decide) ?_
    exact gx_ret (W.iret (v := 1) hx hb hr (gx_post hP hK hD hS (by rw [← hPQ]; exact ⟨rfl, rfl⟩)) hS.2.2 d_Lw_serial_16)

set_option maxHeartbeats 4000000 in
set_option maxRecDepth 100000 in
theorem c_Lw_value_v1 (l : Launch) (htr : l.stackTraces = false) (D : va_G) (tys : List (ClassId × FieldType)) (z sz : Nat) (ws : va_W) (cR : ClassId) (A0 : Nat) (p0 : Int32) (p1 : Int32) (A116 : Nat) (A1 : Nat) (A5 : Nat) (A8 : Nat) (A20 : Nat) (A25 : Nat) (A12 : Nat) (A16 : Nat) (A26 : Nat) (A31 : Nat) (A36 : Nat) (A41 : Nat) (A27 : Nat) (A32 : Nat) (A37 : Nat) (A42 : Nat) (f_0 : ws[0]? = some ((A0, Sum.inr (0, [Value.ref A1, Value.ref A5, Value.ref A8, Value.ref A20, Value.ref A25, Value.ref A12, Value.ref A16, Value.int 0, Value.int 0, Value.int 0, Value.int 16, Value.int 4, Value.int 0, Value.int 0, Value.int 0, Value.int 0, Value.int 0, Value.int (-1)])) : Nat × va_E)) (f_25 : ws[25]? = some ((A25, Sum.inl (cR, 4, Sum.inr (Sum.inr (Sum.inr (Sum.inr (va_up (va_up (va_up (va_up (fun _ => none) 0 (some A26)) 1 (some A31)) 2 (some A36)) 3 (some A41))))))) : Nat × va_E)) (f_26 : ws[26]? = some ((A26, Sum.inr (6, [Value.ref A27, Value.int 0, Value.int 0])) : Nat × va_E)) (f_31 : ws[31]? = some ((A31, Sum.inr (6, [Value.ref A32, Value.int 0, Value.int 0])) : Nat × va_E)) (f_36 : ws[36]? = some ((A36, Sum.inr (6, [Value.ref A37, Value.int 0, Value.int 0])) : Nat × va_E)) (f_41 : ws[41]? = some ((A41, Sum.inr (6, [Value.ref A42, Value.int 0, Value.int 0])) : Nat × va_E)) (ht4 : tys[4]? = some ((cR, FieldType.object "CommitLedger$Reader") : ClassId × FieldType)) : gx_Met l y_Lw_value [Cond.codeWith y_Lw_value b_Lw_value 5 (some .int) [(0, 10, 13, 41)]] { frames := 8, cells := 1, slots := 6, locals := 128 } (gx_P z sz D classes tys ws [Value.ref A0, Value.int p0, Value.int p1, Value.ref A116]) (gx_Q D classes tys (va_A ws sz) (fun r ws' => (r = Sum.inl (some (Value.int 1)) ∧ ws' = ws))) 1 6 (va_A ws sz) := by
  refine gx_ofWH (cc := b_Lw_value) (maxL := 5) (ret := (some .int)) (by decide) ?_
  intro p e s m args below meth c s₁ B hml htab hv
  obtain ⟨rfl, hsz, hz, hP, hK, hD0, hY⟩ := hv
  have hx := B.exec
  have hb := B.bytes
  have hr := B.returns
  have hts := hY.hts (#[Value.ref A0, Value.int p0, Value.int p1, Value.ref A116] : Array Value)
  have hown : s.vm.findClass "CommitLedgerLaw" = some m.cls := findClass_of_methodNamed B.named
  have hlocks := B.notSynchronized
  subst hsz
  have hAz := gx_az hD0 hz
  have hD := hD0.self (sz := s.heap.size)
  have hN := gx_ns hP
  have hA : ∀ q : Nat, s.heap.size ≤ q → va_A ws s.heap.size q := fun q h => Or.inr h
  generalize va_A ws s.heap.size = A at hD hN hA hAz ⊢
  generalize hPQ : (fun (r : Option Value ⊕ String) (ws' : va_W) => (r = Sum.inl (some (Value.int 1)) ∧ ws' = ws)) = PQ
  have hS : va_S A s.heap s.heap [] := va_S.rf
  have hU : gx_g ws ws 0 [] := gx_g.rf
  have hl := lv_entry ([Value.ref A0, Value.int p0, Value.int p1, Value.ref A116]) (n := 5) (Nat.le_of_ble_eq_true rfl)
  rw [lg_entry_eq]
  generalize (lg_sl ([Value.ref A0, Value.int p0, Value.int p1, Value.ref A116]) ++ List.replicate (5 - (lg_sl ([Value.ref A0, Value.int p0, Value.int p1, Value.ref A116])).length) Slot.unset).toArray = ls at hl ⊢
  have hl : lv_has ls 5 [(0, Value.ref A0), (1, Value.int p0), (2, Value.int p1), (3, Value.ref A116)] := hl
  refine lv_aload_n hx hb d_Lw_value_0 rfl (lv_at hl 3 rfl) ?_
  refine lv_iconst (v := 0) hx hb d_Lw_value_1 (by decide) ?_
  refine lv_aload_n hx hb d_Lw_value_2 rfl (lv_at hl 0 rfl) ?_
  refine lv_iload_n hx hb d_Lw_value_3 rfl (lv_at hl 1 rfl) ?_
  refine lv_iload_n hx hb d_Lw_value_4 rfl (lv_at hl 2 rfl) ?_
  refine gx_call (ig := .invokevirtual 72) (c_Le_value_v1 l htr D tys z _ ws cR A0 p0 p1 A1 A5 A8 A20 A25 A12 A16 A26 A31 A36 A41 A27 A32 A37 A42 f_0 f_25 f_26 f_31 f_36 f_41 ht4) (gx_invV (As := [Value.int p0, Value.int p1]) (rest := [Value.int 0, Value.ref A116]) hx hb hown hts km_Lw_72 kI_Le_value kV_Le_value kc_Le_value (by decide) (show (parseMethodDescriptor y_Le_value.desc).map (fun d => d.parameters.length) = some 2 by decide +kernel) (gx_recv (ci := 0) hK hP rfl f_0) rfl rfl d_Lw_value_5) (gx_cw (z := 0) hts kc_Le_value kN_Le rfl rfl ⟨Nat.le_of_ble_eq_true rfl, Nat.le_of_ble_eq_true rfl⟩) hb hml gx_blind (gx_pre hz hP hK hD hY hS hAz [Value.ref A0, Value.int p0, Value.int p1]) rfl hl.1 (lv_room (Nat.le_of_ble_eq_true rfl)) d_Lw_value_5 ⟨Nat.le_of_ble_eq_true rfl, Nat.le_of_ble_eq_true rfl⟩ (fun v1 st1 t1 L1 h0_1 hW_1 hQ_1 hL_1 => ?_) (fun v1 st1 t1 L1 h0_1 hW_1 hQ_1 hL_1 => ?_)
  · obtain ⟨ws2, hp, hP9, -, hD9, hS9⟩ := gx_back h0_1 hW_1 hQ_1 hL_1 hD hS hA
    clear hQ_1 h0_1 hL_1 hW_1 hP hD hS
    have hP := hP9
    have hD := hD9
    have hS := hS9
    clear hP9 hD9 hS9
    rcases hp with ⟨hv9, e_ws2⟩
    cases hv9
  · obtain ⟨E9, ws3, ce, hp, hce, hP9, -, hD9, hS9⟩ := gx_backT h0_1 hW_1 hQ_1 hL_1 hD hS hA
    clear hQ_1 h0_1 hL_1 hW_1 hP hD hS
    have hP := hP9
    have hD := hD9
    have hS := hS9
    clear hP9 hD9 hS9
    rcases hp with ⟨hv9, e_ws3⟩
    cases hv9
    rw [e_ws3] at hP hD
    refine gx_catch (E := "java/util/NoSuchElementException") (hp := 13) hown htab (Or.inr ⟨⟨by show 0 ≤ 5; decide, by show 5 < 10; decide⟩, by decide, "java/util/NoSuchElementException", hts _ kk_Lw_41, Or.inl ⟨rfl, hts _ kB_NoSuchElementException⟩⟩) hce ?_
    clear hce
    refine W.widen (k := 1) (n := 6) (by decide) (by decide) ?_
    generalize t1.heap = H at hP hS ⊢
    generalize [] ++ L1 = locs at hS ⊢
    refine lv_astore (lv' := [(4, Value.ref v1), (0, Value.ref A0), (1, Value.int p0), (2, Value.int p1), (3, Value.ref A116)]) hx hb d_Lw_value_13 hl (by decide) rfl (fun ls hl => ?_)
    refine lv_iconst (v := 1) hx hb d_Lw_value_15 (by decide) ?_
    exact gx_ret (W.iret (v := 1) hx hb hr (gx_post hP hK hD hS (by rw [← hPQ]; exact ⟨rfl, rfl⟩)) hS.2.2 d_Lw_value_16)
