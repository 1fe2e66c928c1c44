/-! THE CLASS over maps: buffered, addEntry, readers, allCanBeMerged; rows printed by own text programs -/
set_option maxHeartbeats 4000000 in
set_option maxRecDepth 100000 in
theorem k_Le_buffered (l : Launch) (htr : l.stackTraces = false) (D : va_G) (tys : List (ClassId × FieldType)) (z sz : Nat) (ws : va_W) (h : gm_M) (hM : gm_S h ws) (cI : ClassId) (q0 : Nat) (q1 : Nat) (q5 : Nat) (q8 : Nat) (q20 : Nat) (q25 : Nat) (ec : Value) (ep : Value) (l7 : Int32) (l8 : Int32) (l10 : Int32) (l11 : Int32) (l12 : Int32) (l13 : Int32) (l14 : Int32) (l15 : Int32) (l16 : Int32) (l17 : Int32) (q2 : Nat) (q3 : Nat) (q4 : Nat) (ad : Nat) (f2 : Nat → Int32) (f3 : Nat → Int32) (f4 : Nat → Int32) (bs : Nat) (f_0 : h 0 = some ((q0, Sum.inr (0, [Value.ref q1, Value.ref q5, Value.ref q8, Value.ref q20, Value.ref q25, ec, ep, Value.int l7, Value.int l8, Value.int (nI bs), Value.int l10, Value.int l11, Value.int l12, Value.int l13, Value.int l14, Value.int l15, Value.int l16, Value.int l17])) : Nat × va_E)) (f_1 : h 1 = some ((q1, Sum.inr (1, [Value.ref q2, Value.ref q3, Value.ref q4, Value.int (nI ad)])) : Nat × va_E)) (f_2 : h 2 = some ((q2, Sum.inl (cI, 4096, Sum.inl f2)) : Nat × va_E)) (f_3 : h 3 = some ((q3, Sum.inl (cI, 4096, Sum.inl f3)) : Nat × va_E)) (f_4 : h 4 = some ((q4, Sum.inl (cI, 4096, Sum.inl f4)) : Nat × va_E)) (ht0 : tys[0]? = some ((cI, FieldType.int) : ClassId × FieldType)) (hbs : bs ≤ ad) : gx_Met l y_Le_buffered [Cond.code y_Le_buffered b_Le_buffered 1 (some .int)] { frames := 1, cells := 0, slots := 0, locals := 12 } (gx_P z sz D classes tys ws [Value.ref q0]) (gx_Q D classes tys (va_A ws sz) (gm_p (fun r h' => (r = Sum.inl (some (Value.int (nI (ad - bs)))) ∧ h' = h)))) 0 0 (va_A ws sz) := by
  refine gx_ofW (cc := b_Le_buffered) (maxL := 1) (ret := (some .int)) (by decide) rfl ?_
  intro p e s m args below meth c s₁ B hml hv
  obtain ⟨rfl, hsz, hz, hP, hK, hD0, hY⟩ := hv
  have hx := B.exec
  have hb := B.bytes
  have hr := B.returns
  have hts := hY.hts (#[Value.ref q0] : Array Value)
  have hown : s.vm.findClass "CommitLedger" = some m.cls := findClass_of_methodNamed B.named
  have hlocks := B.notSynchronized
  have hne : c.exceptionTable.isEmpty = true := B.noHandlers (atoms_spec (ws := [Cond.code y_Le_buffered b_Le_buffered 1 (some .int)]) B.pre _ List.mem_cons_self)
  subst hsz
  have hAz := gx_az hD0 hz
  have hD := hD0.self (sz := s.heap.size)
  have hN := gx_ns hP
  have hA : ∀ q : Nat, s.heap.size ≤ q → va_A ws s.heap.size q := fun q h => Or.inr h
  generalize va_A ws s.heap.size = A at hD hN hA hAz ⊢
  generalize hPQ : (fun (r : Option Value ⊕ String) (h' : gm_M) => (r = Sum.inl (some (Value.int (nI (ad - bs)))) ∧ h' = h)) = PQ
  have Z : gz D A s.heap h s.heap [] := ⟨ws, hM, hP, hD, va_S.rf⟩
  clear hP hD hM hD0
  have hU : gm_g h h [] := gm_g.rf
  have hl := lv_entry ([Value.ref q0]) (n := 1) (Nat.le_of_ble_eq_true rfl)
  rw [lg_entry_eq]
  generalize (lg_sl ([Value.ref q0]) ++ List.replicate (1 - (lg_sl ([Value.ref q0])).length) Slot.unset).toArray = ls at hl ⊢
  have hl : lv_has ls 1 [(0, Value.ref q0)] := hl
  refine lv_aload_n hx hb d_Le_buffered_0 rfl (lv_at hl 0 rfl) ?_
  refine gz_get (ci := 0) (v := Value.ref q1) (C := "CommitLedger") (T := F_Le) (N := 18) hx hb hts i_Le hown hK Z f_0 rfl 0 (by decide) kf_Le_10 rfl d_Le_buffered_1 ?_
  refine gz_get (ci := 1) (v := Value.int (nI ad)) (C := "CommitLedger$Entries") (T := F_En) (N := 4) hx hb hts i_En hown hK Z f_1 rfl 3 (by decide) kf_Le_94 rfl d_Le_buffered_4 ?_
  refine lv_aload_n hx hb d_Le_buffered_7 rfl (lv_at hl 0 rfl) ?_
  refine gz_get (ci := 0) (v := Value.int (nI bs)) (C := "CommitLedger") (T := F_Le) (N := 18) hx hb hts i_Le hown hK Z f_0 rfl 9 (by decide) kf_Le_97 rfl d_Le_buffered_8 ?_
  refine lv_isub hx hb d_Le_buffered_11 ?_
  refine gx_topi (y := nI (ad - bs)) (pk_sub (a := ad) (b := bs) (hbs)) ?_
  exact gz_iret (v := nI (ad - bs)) hx hb hr hlocks hK Z (by decide) (by decide) (by rw [← hPQ]; exact ⟨rfl, rfl⟩) d_Le_buffered_12

set_option maxHeartbeats 4000000 in
set_option maxRecDepth 100000 in
theorem k_Le_addEntry (l : Launch) (htr : l.stackTraces = false) (D : va_G) (tys : List (ClassId × FieldType)) (z sz : Nat) (ws : va_W) (h : gm_M) (hM : gm_S h ws) (cI : ClassId) (cZ : ClassId) (cF : ClassId) (q0 : Nat) (q1 : Nat) (q5 : Nat) (q8 : Nat) (q20 : Nat) (q25 : Nat) (ec : Value) (ep : Value) (l7 : Int32) (l8 : Int32) (l9 : Int32) (l10 : Int32) (l11 : Int32) (l12 : Int32) (l13 : Int32) (l14 : Int32) (l15 : Int32) (l16 : Int32) (l17 : Int32) (q2 : Nat) (q3 : Nat) (q4 : Nat) (ad : Nat) (f2 : Nat → Int32) (f3 : Nat → Int32) (f4 : Nat → Int32) (q9 : Nat) (q10 : Nat) (q11 : Nat) (u : Nat) (e0 : Value) (x5 : Int32) (g1 : Nat → Option Nat) (g2 : Nat → Option Nat) (f : Nat → Int32) (p1 : Int32) (p2 : Int32) (f_0 : h 0 = some ((q0, Sum.inr (0, [Value.ref q1, Value.ref q5, Value.ref q8, Value.ref q20, Value.ref q25, ec, ep, Value.int l7, Value.int l8, Value.int l9, Value.int l10, Value.int l11, Value.int l12, Value.int l13, Value.int l14, Value.int l15, Value.int l16, Value.int l17])) : Nat × va_E)) (f_1 : h 1 = some ((q1, Sum.inr (1, [Value.ref q2, Value.ref q3, Value.ref q4, Value.int (nI ad)])) : Nat × va_E)) (f_2 : h 2 = some ((q2, Sum.inl (cI, 4096, Sum.inl f2)) : Nat × va_E)) (f_3 : h 3 = some ((q3, Sum.inl (cI, 4096, Sum.inl f3)) : Nat × va_E)) (f_4 : h 4 = some ((q4, Sum.inl (cI, 4096, Sum.inl f4)) : Nat × va_E)) (f_8 : h 8 = some ((q8, Sum.inr (4, [Value.ref q9, Value.ref q10, Value.ref q11, e0, Value.int (nI u), Value.int x5])) : Nat × va_E)) (f_9 : h 9 = some ((q9, Sum.inl (cF, 4096, Sum.inr (Sum.inr (Sum.inr (Sum.inr g1))))) : Nat × va_E)) (f_10 : h 10 = some ((q10, Sum.inl (cF, 4096, Sum.inr (Sum.inr (Sum.inr (Sum.inr g2))))) : Nat × va_E)) (f_11 : h 11 = some ((q11, Sum.inl (cZ, 4096, Sum.inl f)) : Nat × va_E)) (ht0 : tys[0]? = some ((cI, FieldType.int) : ClassId × FieldType)) (ht1 : tys[1]? = some ((cZ, FieldType.boolean) : ClassId × FieldType)) (ht2 : tys[2]? = some ((cF, FieldType.object "CommitLedger$LedgerFile") : ClassId × FieldType)) (had : ad < 4096) : gx_Met l y_Le_addEntry [Cond.code y_Le_addEntry b_Le_addEntry 3 none] { frames := 2, cells := 0, slots := 0, locals := 35 } (gx_P z sz D classes tys ws [Value.ref q0, Value.int p1, Value.int p2]) (gx_Q D classes tys (va_A ws sz) (gm_p (fun r h' => (r = Sum.inl none ∧ gm_g h h' [1, 2, 3, 4, 8, 9, 10, 11] ∧ h' 1 = some ((q1, Sum.inr (1, [Value.ref q2, Value.ref q3, Value.ref q4, Value.int (nI (ad + 1))])) : Nat × va_E) ∧ h' 2 = some ((q2, Sum.inl (cI, 4096, Sum.inl (upd f2 ad p1))) : Nat × va_E) ∧ h' 3 = some ((q3, Sum.inl (cI, 4096, Sum.inl (upd f3 ad p2))) : Nat × va_E) ∧ h' 4 = some ((q4, Sum.inl (cI, 4096, Sum.inl (upd f4 ad (x5 + 1)))) : Nat × va_E) ∧ h' 8 = some ((q8, Sum.inr (4, [Value.ref q9, Value.ref q10, Value.ref q11, e0, Value.int (nI u), Value.int (x5 + 1)])) : Nat × va_E) ∧ h' 9 = some ((q9, Sum.inl (cF, 4096, Sum.inr (Sum.inr (Sum.inr (Sum.inr g1))))) : Nat × va_E) ∧ h' 10 = some ((q10, Sum.inl (cF, 4096, Sum.inr (Sum.inr (Sum.inr (Sum.inr g2))))) : Nat × va_E) ∧ h' 11 = some ((q11, Sum.inl (cZ, 4096, Sum.inl (upd f ad 1))) : Nat × va_E))))) 0 0 (va_A ws sz) := by
  refine gx_ofW (cc := b_Le_addEntry) (maxL := 3) (ret := none) (by decide) rfl ?_
  intro p e s m args below meth c s₁ B hml hv
  obtain ⟨rfl, hsz, hz, hP, hK, hD0, hY⟩ := hv
  have hx := B.exec
  have hb := B.bytes
  have hr := B.returns
  have hts := hY.hts (#[Value.ref q0, Value.int p1, Value.int p2] : Array Value)
  have hown : s.vm.findClass "CommitLedger" = some m.cls := findClass_of_methodNamed B.named
  have hlocks := B.notSynchronized
  have hne : c.exceptionTable.isEmpty = true := B.noHandlers (atoms_spec (ws := [Cond.code y_Le_addEntry b_Le_addEntry 3 none]) B.pre _ List.mem_cons_self)
  subst hsz
  have hAz := gx_az hD0 hz
  have hD := hD0.self (sz := s.heap.size)
  have hN := gx_ns hP
  have hA : ∀ q : Nat, s.heap.size ≤ q → va_A ws s.heap.size q := fun q h => Or.inr h
  generalize va_A ws s.heap.size = A at hD hN hA hAz ⊢
  generalize hPQ : (fun (r : Option Value ⊕ String) (h' : gm_M) => (r = Sum.inl none ∧ gm_g h h' [1, 2, 3, 4, 8, 9, 10, 11] ∧ h' 1 = some ((q1, Sum.inr (1, [Value.ref q2, Value.ref q3, Value.ref q4, Value.int (nI (ad + 1))])) : Nat × va_E) ∧ h' 2 = some ((q2, Sum.inl (cI, 4096, Sum.inl (upd f2 ad p1))) : Nat × va_E) ∧ h' 3 = some ((q3, Sum.inl (cI, 4096, Sum.inl (upd f3 ad p2))) : Nat × va_E) ∧ h' 4 = some ((q4, Sum.inl (cI, 4096, Sum.inl (upd f4 ad (x5 + 1)))) : Nat × va_E) ∧ h' 8 = some ((q8, Sum.inr (4, [Value.ref q9, Value.ref q10, Value.ref q11, e0, Value.int (nI u), Value.int (x5 + 1)])) : Nat × va_E) ∧ h' 9 = some ((q9, Sum.inl (cF, 4096, Sum.inr (Sum.inr (Sum.inr (Sum.inr g1))))) : Nat × va_E) ∧ h' 10 = some ((q10, Sum.inl (cF, 4096, Sum.inr (Sum.inr (Sum.inr (Sum.inr g2))))) : Nat × va_E) ∧ h' 11 = some ((q11, Sum.inl (cZ, 4096, Sum.inl (upd f ad 1))) : Nat × va_E))) = PQ
  have Z : gz D A s.heap h s.heap [] := ⟨ws, hM, hP, hD, va_S.rf⟩
  clear hP hD hM hD0
  have hU : gm_g h h [1, 2, 3, 4, 8, 9, 10, 11] := gm_g.rf
  have hl := lv_entry ([Value.ref q0, Value.int p1, Value.int p2]) (n := 3) (Nat.le_of_ble_eq_true rfl)
  rw [lg_entry_eq]
  generalize (lg_sl ([Value.ref q0, Value.int p1, Value.int p2]) ++ List.replicate (3 - (lg_sl ([Value.ref q0, Value.int p1, Value.int p2])).length) Slot.unset).toArray = ls at hl ⊢
  have hl : lv_has ls 3 [(0, Value.ref q0), (1, Value.int p1), (2, Value.int p2)] := hl
  refine lv_aload_n hx hb d_Le_addEntry_0 rfl (lv_at hl 0 rfl) ?_
  refine gz_get (ci := 0) (v := Value.ref q1) (C := "CommitLedger") (T := F_Le) (N := 18) hx hb hts i_Le hown hK Z f_0 rfl 0 (by decide) kf_Le_10 rfl d_Le_addEntry_1 ?_
  refine gz_get (ci := 1) (v := Value.int (nI ad)) (C := "CommitLedger$Entries") (T := F_En) (N := 4) hx hb hts i_En hown hK Z f_1 rfl 3 (by decide) kf_Le_94 rfl d_Le_addEntry_4 ?_
  refine lv_sipush (v := 4096) hx hb d_Le_addEntry_7 (by decide) ?_
  refine lv_icmp_ge (tgt := 58) hx hb d_Le_addEntry_10 (by decide) (fun c9 => absurd c9 (show ¬ nI 4096 ≤ nI ad from nI_ge had (by decide))) (fun _ => ?_)
  refine lv_aload_n hx hb d_Le_addEntry_13 rfl (lv_at hl 0 rfl) ?_
  refine gz_get (ci := 0) (v := Value.ref q8) (C := "CommitLedger") (T := F_Le) (N := 18) hx hb hts i_Le hown hK Z f_0 rfl 2 (by decide) kf_Le_26 rfl d_Le_addEntry_14 ?_
  refine lv_dup hx hb d_Le_addEntry_17 rfl ?_
  refine gz_get (ci := 4) (v := Value.int x5) (C := "CommitLedger$View") (T := F_Vi) (N := 6) hx hb hts i_Vi hown hK Z f_8 rfl 5 (by decide) kf_Le_131 rfl d_Le_addEntry_18 ?_
  refine lv_iconst (v := 1) hx hb d_Le_addEntry_21 (by decide) ?_
  refine lv_iadd hx hb d_Le_addEntry_22 ?_
  refine gz_put (ci := 4) (v := Value.int (x5 + 1)) (ty := .int) (C := "CommitLedger$View") (T := F_Vi) (N := 6) hx hb hts i_Vi t_Vi_ok n_Vi hown hK Z f_8 rfl 5 (by decide) kf_Le_131 rfl (by decide +kernel) rfl rfl (Nat.le_of_ble_eq_true rfl) d_Le_addEntry_23 (fun H locs Z => ?_)
  obtain ⟨h2, e_h2⟩ : ∃ z9 : gm_M, z9 = gm_up h 8 ((q8, Sum.inr (4, [Value.ref q9, Value.ref q10, Value.ref q11, e0, Value.int (nI u), Value.int (x5 + 1)])) : Nat × va_E) := ⟨_, rfl⟩
  replace Z : gz D A s.heap h2 H locs := by rw [e_h2]; exact Z
  have f_8_h2 : h2 8 = some ((q8, Sum.inr (4, [Value.ref q9, Value.ref q10, Value.ref q11, e0, Value.int (nI u), Value.int (x5 + 1)])) : Nat × va_E) := by rw [e_h2]; exact gm_self
  replace hU : gm_g h h2 [1, 2, 3, 4, 8, 9, 10, 11] := by rw [e_h2]; exact hU.put (by simp)
  refine lv_aload_n hx hb d_Le_addEntry_26 rfl (lv_at hl 0 rfl) ?_
  have f_0_h2 : h2 0 = some ((q0, Sum.inr (0, [Value.ref q1, Value.ref q5, Value.ref q8, Value.ref q20, Value.ref q25, ec, ep, Value.int l7, Value.int l8, Value.int l9, Value.int l10, Value.int l11, Value.int l12, Value.int l13, Value.int l14, Value.int l15, Value.int l16, Value.int l17])) : Nat × va_E) := by rw [e_h2]; exact gm_at f_0 (by decide)
  refine gz_get (ci := 0) (v := Value.ref q8) (C := "CommitLedger") (T := F_Le) (N := 18) hx hb hts i_Le hown hK Z f_0_h2 rfl 2 (by decide) kf_Le_26 rfl d_Le_addEntry_27 ?_
  refine gz_get (ci := 4) (v := Value.ref q11) (C := "CommitLedger$View") (T := F_Vi) (N := 6) hx hb hts i_Vi hown hK Z f_8_h2 rfl 2 (by decide) kf_Le_134 rfl d_Le_addEntry_30 ?_
  refine lv_aload_n hx hb d_Le_addEntry_33 rfl (lv_at hl 0 rfl) ?_
  refine gz_get (ci := 0) (v := Value.ref q1) (C := "CommitLedger") (T := F_Le) (N := 18) hx hb hts i_Le hown hK Z f_0_h2 rfl 0 (by decide) kf_Le_10 rfl d_Le_addEntry_34 ?_
  have f_1_h2 : h2 1 = some ((q1, Sum.inr (1, [Value.ref q2, Value.ref q3, Value.ref q4, Value.int (nI ad)])) : Nat × va_E) := by rw [e_h2]; exact gm_at f_1 (by decide)
  refine gz_get (ci := 1) (v := Value.int (nI ad)) (C := "CommitLedger$Entries") (T := F_En) (N := 4) hx hb hts i_En hown hK Z f_1_h2 rfl 3 (by decide) kf_Le_94 rfl d_Le_addEntry_37 ?_
  refine lv_iconst (v := 1) hx hb d_Le_addEntry_40 (by decide) ?_
  have f_11_h2 : h2 11 = some ((q11, Sum.inl (cZ, 4096, Sum.inl f)) : Nat × va_E) := by rw [e_h2]; exact gm_at f_11 (by decide)
  refine gz_zast (j := ad) hx hb hK Z 1 f_11_h2 ht1 (had) (rfl) (by decide) d_Le_addEntry_41 (fun H locs Z => ?_)
  obtain ⟨h3, e_h3⟩ : ∃ z9 : gm_M, z9 = gm_up h2 11 ((q11, Sum.inl (cZ, 4096, Sum.inl (upd f ad 1))) : Nat × va_E) := ⟨_, rfl⟩
  replace Z : gz D A s.heap h3 H locs := by rw [e_h3]; exact Z
  have f_11_h3 : h3 11 = some ((q11, Sum.inl (cZ, 4096, Sum.inl (upd f ad 1))) : Nat × va_E) := by rw [e_h3]; exact gm_self
  replace hU : gm_g h h3 [1, 2, 3, 4, 8, 9, 10, 11] := by rw [e_h3]; exact hU.put (by simp)
  refine lv_aload_n hx hb d_Le_addEntry_42 rfl (lv_at hl 0 rfl) ?_
  have f_0_h3 : h3 0 = some ((q0, Sum.inr (0, [Value.ref q1, Value.ref q5, Value.ref q8, Value.ref q20, Value.ref q25, ec, ep, Value.int l7, Value.int l8, Value.int l9, Value.int l10, Value.int l11, Value.int l12, Value.int l13, Value.int l14, Value.int l15, Value.int l16, Value.int l17])) : Nat × va_E) := by rw [e_h3]; exact gm_at f_0_h2 (by decide)
  refine gz_get (ci := 0) (v := Value.ref q1) (C := "CommitLedger") (T := F_Le) (N := 18) hx hb hts i_Le hown hK Z f_0_h3 rfl 0 (by decide) kf_Le_10 rfl d_Le_addEntry_43 ?_
  refine lv_iload_n hx hb d_Le_addEntry_46 rfl (lv_at hl 1 rfl) ?_
  refine lv_iload_n hx hb d_Le_addEntry_47 rfl (lv_at hl 2 rfl) ?_
  refine lv_aload_n hx hb d_Le_addEntry_48 rfl (lv_at hl 0 rfl) ?_
  refine gz_get (ci := 0) (v := Value.ref q8) (C := "CommitLedger") (T := F_Le) (N := 18) hx hb hts i_Le hown hK Z f_0_h3 rfl 2 (by decide) kf_Le_26 rfl d_Le_addEntry_49 ?_
  have f_8_h3 : h3 8 = some ((q8, Sum.inr (4, [Value.ref q9, Value.ref q10, Value.ref q11, e0, Value.int (nI u), Value.int (x5 + 1)])) : Nat × va_E) := by rw [e_h3]; exact gm_at f_8_h2 (by decide)
  refine gz_get (ci := 4) (v := Value.int (x5 + 1)) (C := "CommitLedger$View") (T := F_Vi) (N := 6) hx hb hts i_Vi hown hK Z f_8_h3 rfl 5 (by decide) kf_Le_131 rfl d_Le_addEntry_52 ?_
  have f_1_h3 : h3 1 = some ((q1, Sum.inr (1, [Value.ref q2, Value.ref q3, Value.ref q4, Value.int (nI ad)])) : Nat × va_E) := by rw [e_h3]; exact gm_at f_1_h2 (by decide)
  have f_2_h2 : h2 2 = some ((q2, Sum.inl (cI, 4096, Sum.inl f2)) : Nat × va_E) := by rw [e_h2]; exact gm_at f_2 (by decide)
  have f_2_h3 : h3 2 = some ((q2, Sum.inl (cI, 4096, Sum.inl f2)) : Nat × va_E) := by rw [e_h3]; exact gm_at f_2_h2 (by decide)
  have f_3_h2 : h2 3 = some ((q3, Sum.inl (cI, 4096, Sum.inl f3)) : Nat × va_E) := by rw [e_h2]; exact gm_at f_3 (by decide)
  have f_3_h3 : h3 3 = some ((q3, Sum.inl (cI, 4096, Sum.inl f3)) : Nat × va_E) := by rw [e_h3]; exact gm_at f_3_h2 (by decide)
  have f_4_h2 : h2 4 = some ((q4, Sum.inl (cI, 4096, Sum.inl f4)) : Nat × va_E) := by rw [e_h2]; exact gm_at f_4 (by decide)
  have f_4_h3 : h3 4 = some ((q4, Sum.inl (cI, 4096, Sum.inl f4)) : Nat × va_E) := by rw [e_h3]; exact gm_at f_4_h2 (by decide)
  refine gz_call (ig := .invokevirtual 308) (av := [Value.ref q1, Value.int p1, Value.int p2, Value.int (x5 + 1)]) Z (fun ws hM => k_En_append l htr D tys z _ ws h3 hM cI q1 q2 q3 q4 ad f2 f3 f4 p1 p2 (x5 + 1) f_1_h3 f_2_h3 f_3_h3 f_4_h3 ht0 had) (gx_invV (As := [Value.int p1, Value.int p2, Value.int (x5 + 1)]) (rest := []) hx hb hown hts km_Le_308 kI_En_append kV_En_append kc_En_append (by decide) (show (parseMethodDescriptor y_En_append.desc).map (fun d => d.parameters.length) = some 3 by decide +kernel) (gz_recv (ci := 1) hK Z rfl f_1_h3) rfl rfl d_Le_addEntry_55) (gx_cw (z := 0) hts kc_En_append kN_En rfl rfl ⟨Nat.le_of_ble_eq_true rfl, Nat.le_of_ble_eq_true rfl⟩) hb hml hz hK hY hAz hA hl.1 (lv_room (Nat.le_of_ble_eq_true rfl)) d_Le_addEntry_55 ⟨Nat.le_of_ble_eq_true rfl, Nat.le_of_ble_eq_true rfl⟩ (fun v4 h5 H locs hp Z => ?_) (fun x4 E9 ce h5 H locs hp hce Z => ?_)
  · rcases hp with ⟨hv9, e_h5, f_1_h5, f_2_h5, f_3_h5, f_4_h5⟩
    cases hv9
    have f_1_h5 : h5 1 = some ((q1, Sum.inr (1, [Value.ref q2, Value.ref q3, Value.ref q4, Value.int (nI (ad + 1))])) : Nat × va_E) := f_1_h5
    have f_2_h5 : h5 2 = some ((q2, Sum.inl (cI, 4096, Sum.inl (upd f2 ad p1))) : Nat × va_E) := f_2_h5
    have f_3_h5 : h5 3 = some ((q3, Sum.inl (cI, 4096, Sum.inl (upd f3 ad p2))) : Nat × va_E) := f_3_h5
    have f_4_h5 : h5 4 = some ((q4, Sum.inl (cI, 4096, Sum.inl (upd f4 ad (x5 + 1)))) : Nat × va_E) := f_4_h5
    replace hU : gm_g h h5 [1, 2, 3, 4, 8, 9, 10, 11] := hU.call e_h5 (by first | decide | (simp; done) | (simp; omega))
    refine W.eq (g2 := F0 m 58 ls []) rfl ?_
    have f_8_h5 : h5 8 = some ((q8, Sum.inr (4, [Value.ref q9, Value.ref q10, Value.ref q11, e0, Value.int (nI u), Value.int (x5 + 1)])) : Nat × va_E) := e_h5.at f_8_h3 (by first | decide | (simp; done) | (simp; omega))
    have f_9_h2 : h2 9 = some ((q9, Sum.inl (cF, 4096, Sum.inr (Sum.inr (Sum.inr (Sum.inr g1))))) : Nat × va_E) := by rw [e_h2]; exact gm_at f_9 (by decide)
    have f_9_h3 : h3 9 = some ((q9, Sum.inl (cF, 4096, Sum.inr (Sum.inr (Sum.inr (Sum.inr g1))))) : Nat × va_E) := by rw [e_h3]; exact gm_at f_9_h2 (by decide)
    have f_9_h5 : h5 9 = some ((q9, Sum.inl (cF, 4096, Sum.inr (Sum.inr (Sum.inr (Sum.inr g1))))) : Nat × va_E) := e_h5.at f_9_h3 (by first | decide | (simp; done) | (simp; omega))
    have f_10_h2 : h2 10 = some ((q10, Sum.inl (cF, 4096, Sum.inr (Sum.inr (Sum.inr (Sum.inr g2))))) : Nat × va_E) := by rw [e_h2]; exact gm_at f_10 (by decide)
    have f_10_h3 : h3 10 = some ((q10, Sum.inl (cF, 4096, Sum.inr (Sum.inr (Sum.inr (Sum.inr g2))))) : Nat × va_E) := by rw [e_h3]; exact gm_at f_10_h2 (by decide)
    have f_10_h5 : h5 10 = some ((q10, Sum.inl (cF, 4096, Sum.inr (Sum.inr (Sum.inr (Sum.inr g2))))) : Nat × va_E) := e_h5.at f_10_h3 (by first | decide | (simp; done) | (simp; omega))
    have f_11_h5 : h5 11 = some ((q11, Sum.inl (cZ, 4096, Sum.inl (upd f ad 1))) : Nat × va_E) := e_h5.at f_11_h3 (by first | decide | (simp; done) | (simp; omega))
    exact gz_vret hx hb hr hlocks hK Z (by decide) (by decide) (by rw [← hPQ]; exact ⟨rfl, hU, f_1_h5, f_2_h5, f_3_h5, f_4_h5, f_8_h5, f_9_h5, f_10_h5, f_11_h5⟩) d_Le_addEntry_58
  · rcases hp with ⟨hv9, e_h5, f_1_h5, f_2_h5, f_3_h5, f_4_h5⟩
    cases hv9

set_option maxHeartbeats 4000000 in
set_option maxRecDepth 100000 in
theorem k_Le_requireReader (l : Launch) (htr : l.stackTraces = false) (D : va_G) (tys : List (ClassId × FieldType)) (z sz : Nat) (ws : va_W) (h : gm_M) (hM : gm_S h ws) (cR : ClassId) (q0 : Nat) (q1 : Nat) (q5 : Nat) (q8 : Nat) (q20 : Nat) (q25 : Nat) (ec : Value) (ep : Value) (l7 : Int32) (l8 : Int32) (l9 : Int32) (l10 : Int32) (l11 : Int32) (l12 : Int32) (l13 : Int32) (l14 : Int32) (l15 : Int32) (l16 : Int32) (l17 : Int32) (q26 : Nat) (q27 : Nat) (q31 : Nat) (q32 : Nat) (q36 : Nat) (q37 : Nat) (q41 : Nat) (q42 : Nat) (rn26 : Int32) (ro26 : Int32) (rn31 : Int32) (ro31 : Int32) (rn36 : Int32) (ro36 : Int32) (rn41 : Int32) (ro41 : Int32) (p1 : Int32) (f_0 : h 0 = some ((q0, Sum.inr (0, [Value.ref q1, Value.ref q5, Value.ref q8, Value.ref q20, Value.ref q25, ec, ep, Value.int l7, Value.int l8, Value.int l9, Value.int l10, Value.int l11, Value.int l12, Value.int l13, Value.int l14, Value.int l15, Value.int l16, Value.int l17])) : Nat × va_E)) (f_25 : h 25 = some ((q25, Sum.inl (cR, 4, Sum.inr (Sum.inr (Sum.inr (Sum.inr (va_up (va_up (va_up (va_up (fun _ => none) 0 (some q26)) 1 (some q31)) 2 (some q36)) 3 (some q41))))))) : Nat × va_E)) (f_26 : h 26 = some ((q26, Sum.inr (6, [Value.ref q27, Value.int rn26, Value.int ro26])) : Nat × va_E)) (f_31 : h 31 = some ((q31, Sum.inr (6, [Value.ref q32, Value.int rn31, Value.int ro31])) : Nat × va_E)) (f_36 : h 36 = some ((q36, Sum.inr (6, [Value.ref q37, Value.int rn36, Value.int ro36])) : Nat × va_E)) (f_41 : h 41 = some ((q41, Sum.inr (6, [Value.ref q42, Value.int rn41, Value.int ro41])) : Nat × va_E)) (ht4 : tys[4]? = some ((cR, FieldType.object "CommitLedger$Reader") : ClassId × FieldType)) : gx_Met l y_Le_requireReader [Cond.code y_Le_requireReader b_Le_requireReader 3 (some (.object "CommitLedger$Reader"))] { frames := 6, cells := 1, slots := 6, locals := 82 } (gx_P z sz D classes tys ws [Value.ref q0, Value.int p1]) (gx_Q D classes tys (va_A ws sz) (gm_p (fun r h' => (r = Sum.inr "java/util/NoSuchElementException" ∧ h' = h ∧ (ro26 = 0) ∧ (ro31 = 0) ∧ (ro36 = 0) ∧ (ro41 = 0)) ∨ (r = Sum.inr "java/util/NoSuchElementException" ∧ h' = h ∧ (ro26 = 0) ∧ (ro31 = 0) ∧ (ro36 = 0) ∧ (¬ ro41 = 0) ∧ (¬ rn41 = p1)) ∨ (r = Sum.inl (some (Value.ref q41)) ∧ h' = h ∧ (ro26 = 0) ∧ (ro31 = 0) ∧ (ro36 = 0) ∧ (¬ ro41 = 0) ∧ (rn41 = p1)) ∨ (r = Sum.inr "java/util/NoSuchElementException" ∧ h' = h ∧ (ro26 = 0) ∧ (ro31 = 0) ∧ (¬ ro36 = 0) ∧ (¬ rn36 = p1) ∧ (ro41 = 0)) ∨ (r = Sum.inr "java/util/NoSuchElementException" ∧ h' = h ∧ (ro26 = 0) ∧ (ro31 = 0) ∧ (¬ ro36 = 0) ∧ (¬ rn36 = p1) ∧ (¬ ro41 = 0) ∧ (¬ rn41 = p1)) ∨ (r = Sum.inl (some (Value.ref q41)) ∧ h' = h ∧ (ro26 = 0) ∧ (ro31 = 0) ∧ (¬ ro36 = 0) ∧ (¬ rn36 = p1) ∧ (¬ ro41 = 0) ∧ (rn41 = p1)) ∨ (r = Sum.inl (some (Value.ref q36)) ∧ h' = h ∧ (ro26 = 0) ∧ (ro31 = 0) ∧ (¬ ro36 = 0) ∧ (rn36 = p1)) ∨ (r = Sum.inr "java/util/NoSuchElementException" ∧ h' = h ∧ (ro26 = 0) ∧ (¬ ro31 = 0) ∧ (¬ rn31 = p1) ∧ (ro36 = 0) ∧ (ro41 = 0)) ∨ (r = Sum.inr "java/util/NoSuchElementException" ∧ h' = h ∧ (ro26 = 0) ∧ (¬ ro31 = 0) ∧ (¬ rn31 = p1) ∧ (ro36 = 0) ∧ (¬ ro41 = 0) ∧ (¬ rn41 = p1)) ∨ (r = Sum.inl (some (Value.ref q41)) ∧ h' = h ∧ (ro26 = 0) ∧ (¬ ro31 = 0) ∧ (¬ rn31 = p1) ∧ (ro36 = 0) ∧ (¬ ro41 = 0) ∧ (rn41 = p1)) ∨ (r = Sum.inr "java/util/NoSuchElementException" ∧ h' = h ∧ (ro26 = 0) ∧ (¬ ro31 = 0) ∧ (¬ rn31 = p1) ∧ (¬ ro36 = 0) ∧ (¬ rn36 = p1) ∧ (ro41 = 0)) ∨ (r = Sum.inr "java/util/NoSuchElementException" ∧ h' = h ∧ (ro26 = 0) ∧ (¬ ro31 = 0) ∧ (¬ rn31 = p1) ∧ (¬ ro36 = 0) ∧ (¬ rn36 = p1) ∧ (¬ ro41 = 0) ∧ (¬ rn41 = p1)) ∨ (r = Sum.inl (some (Value.ref q41)) ∧ h' = h ∧ (ro26 = 0) ∧ (¬ ro31 = 0) ∧ (¬ rn31 = p1) ∧ (¬ ro36 = 0) ∧ (¬ rn36 = p1) ∧ (¬ ro41 = 0) ∧ (rn41 = p1)) ∨ (r = Sum.inl (some (Value.ref q36)) ∧ h' = h ∧ (ro26 = 0) ∧ (¬ ro31 = 0) ∧ (¬ rn31 = p1) ∧ (¬ ro36 = 0) ∧ (rn36 = p1)) ∨ (r = Sum.inl (some (Value.ref q31)) ∧ h' = h ∧ (ro26 = 0) ∧ (¬ ro31 = 0) ∧ (rn31 = p1)) ∨ (r = Sum.inr "java/util/NoSuchElementException" ∧ h' = h ∧ (¬ ro26 = 0) ∧ (¬ rn26 = p1) ∧ (ro31 = 0) ∧ (ro36 = 0) ∧ (ro41 = 0)) ∨ (r = Sum.inr "java/util/NoSuchElementException" ∧ h' = h ∧ (¬ ro26 = 0) ∧ (¬ rn26 = p1) ∧ (ro31 = 0) ∧ (ro36 = 0) ∧ (¬ ro41 = 0) ∧ (¬ rn41 = p1)) ∨ (r = Sum.inl (some (Value.ref q41)) ∧ h' = h ∧ (¬ ro26 = 0) ∧ (¬ rn26 = p1) ∧ (ro31 = 0) ∧ (ro36 = 0) ∧ (¬ ro41 = 0) ∧ (rn41 = p1)) ∨ (r = Sum.inr "java/util/NoSuchElementException" ∧ h' = h ∧ (¬ ro26 = 0) ∧ (¬ rn26 = p1) ∧ (ro31 = 0) ∧ (¬ ro36 = 0) ∧ (¬ rn36 = p1) ∧ (ro41 = 0)) ∨ (r = Sum.inr "java/util/NoSuchElementException" ∧ h' = h ∧ (¬ ro26 = 0) ∧ (¬ rn26 = p1) ∧ (ro31 = 0) ∧ (¬ ro36 = 0) ∧ (¬ rn36 = p1) ∧ (¬ ro41 = 0) ∧ (¬ rn41 = p1)) ∨ (r = Sum.inl (some (Value.ref q41)) ∧ h' = h ∧ (¬ ro26 = 0) ∧ (¬ rn26 = p1) ∧ (ro31 = 0) ∧ (¬ ro36 = 0) ∧ (¬ rn36 = p1) ∧ (¬ ro41 = 0) ∧ (rn41 = p1)) ∨ (r = Sum.inl (some (Value.ref q36)) ∧ h' = h ∧ (¬ ro26 = 0) ∧ (¬ rn26 = p1) ∧ (ro31 = 0) ∧ (¬ ro36 = 0) ∧ (rn36 = p1)) ∨ (r = Sum.inr "java/util/NoSuchElementException" ∧ h' = h ∧ (¬ ro26 = 0) ∧ (¬ rn26 = p1) ∧ (¬ ro31 = 0) ∧ (¬ rn31 = p1) ∧ (ro36 = 0) ∧ (ro41 = 0)) ∨ (r = Sum.inr "java/util/NoSuchElementException" ∧ h' = h ∧ (¬ ro26 = 0) ∧ (¬ rn26 = p1) ∧ (¬ ro31 = 0) ∧ (¬ rn31 = p1) ∧ (ro36 = 0) ∧ (¬ ro41 = 0) ∧ (¬ rn41 = p1)) ∨ (r = Sum.inl (some (Value.ref q41)) ∧ h' = h ∧ (¬ ro26 = 0) ∧ (¬ rn26 = p1) ∧ (¬ ro31 = 0) ∧ (¬ rn31 = p1) ∧ (ro36 = 0) ∧ (¬ ro41 = 0) ∧ (rn41 = p1)) ∨ (r = Sum.inr "java/util/NoSuchElementException" ∧ h' = h ∧ (¬ ro26 = 0) ∧ (¬ rn26 = p1) ∧ (¬ ro31 = 0) ∧ (¬ rn31 = p1) ∧ (¬ ro36 = 0) ∧ (¬ rn36 = p1) ∧ (ro41 = 0)) ∨ (r = Sum.inr "java/util/NoSuchElementException" ∧ h' = h ∧ (¬ ro26 = 0) ∧ (¬ rn26 = p1) ∧ (¬ ro31 = 0) ∧ (¬ rn31 = p1) ∧ (¬ ro36 = 0) ∧ (¬ rn36 = p1) ∧ (¬ ro41 = 0) ∧ (¬ rn41 = p1)) ∨ (r = Sum.inl (some (Value.ref q41)) ∧ h' = h ∧ (¬ ro26 = 0) ∧ (¬ rn26 = p1) ∧ (¬ ro31 = 0) ∧ (¬ rn31 = p1) ∧ (¬ ro36 = 0) ∧ (¬ rn36 = p1) ∧ (¬ ro41 = 0) ∧ (rn41 = p1)) ∨ (r = Sum.inl (some (Value.ref q36)) ∧ h' = h ∧ (¬ ro26 = 0) ∧ (¬ rn26 = p1) ∧ (¬ ro31 = 0) ∧ (¬ rn31 = p1) ∧ (¬ ro36 = 0) ∧ (rn36 = p1)) ∨ (r = Sum.inl (some (Value.ref q31)) ∧ h' = h ∧ (¬ ro26 = 0) ∧ (¬ rn26 = p1) ∧ (¬ ro31 = 0) ∧ (rn31 = p1)) ∨ (r = Sum.inl (some (Value.ref q26)) ∧ h' = h ∧ (¬ ro26 = 0) ∧ (rn26 = p1))))) 1 6 (va_A ws sz) := by
  refine gx_ofW (cc := b_Le_requireReader) (maxL := 3) (ret := (some (.object "CommitLedger$Reader"))) (by decide) rfl ?_
  intro p e s m args below meth c s₁ B hml hv
  obtain ⟨rfl, hsz, hz, hP, hK, hD0, hY⟩ := hv
  have hx := B.exec
  have hb := B.bytes
  have hr := B.returns
  have hts := hY.hts (#[Value.ref q0, Value.int p1] : Array Value)
  have hown : s.vm.findClass "CommitLedger" = some m.cls := findClass_of_methodNamed B.named
  have hlocks := B.notSynchronized
  have hne : c.exceptionTable.isEmpty = true := B.noHandlers (atoms_spec (ws := [Cond.code y_Le_requireReader b_Le_requireReader 3 (some (.object "CommitLedger$Reader"))]) B.pre _ List.mem_cons_self)
  subst hsz
  have hAz := gx_az hD0 hz
  have hD := hD0.self (sz := s.heap.size)
  have hN := gx_ns hP
  have hA : ∀ q : Nat, s.heap.size ≤ q → va_A ws s.heap.size q := fun q h => Or.inr h
  generalize va_A ws s.heap.size = A at hD hN hA hAz ⊢
  generalize hPQ : (fun (r : Option Value ⊕ String) (h' : gm_M) => (r = Sum.inr "java/util/NoSuchElementException" ∧ h' = h ∧ (ro26 = 0) ∧ (ro31 = 0) ∧ (ro36 = 0) ∧ (ro41 = 0)) ∨ (r = Sum.inr "java/util/NoSuchElementException" ∧ h' = h ∧ (ro26 = 0) ∧ (ro31 = 0) ∧ (ro36 = 0) ∧ (¬ ro41 = 0) ∧ (¬ rn41 = p1)) ∨ (r = Sum.inl (some (Value.ref q41)) ∧ h' = h ∧ (ro26 = 0) ∧ (ro31 = 0) ∧ (ro36 = 0) ∧ (¬ ro41 = 0) ∧ (rn41 = p1)) ∨ (r = Sum.inr "java/util/NoSuchElementException" ∧ h' = h ∧ (ro26 = 0) ∧ (ro31 = 0) ∧ (¬ ro36 = 0) ∧ (¬ rn36 = p1) ∧ (ro41 = 0)) ∨ (r = Sum.inr "java/util/NoSuchElementException" ∧ h' = h ∧ (ro26 = 0) ∧ (ro31 = 0) ∧ (¬ ro36 = 0) ∧ (¬ rn36 = p1) ∧ (¬ ro41 = 0) ∧ (¬ rn41 = p1)) ∨ (r = Sum.inl (some (Value.ref q41)) ∧ h' = h ∧ (ro26 = 0) ∧ (ro31 = 0) ∧ (¬ ro36 = 0) ∧ (¬ rn36 = p1) ∧ (¬ ro41 = 0) ∧ (rn41 = p1)) ∨ (r = Sum.inl (some (Value.ref q36)) ∧ h' = h ∧ (ro26 = 0) ∧ (ro31 = 0) ∧ (¬ ro36 = 0) ∧ (rn36 = p1)) ∨ (r = Sum.inr "java/util/NoSuchElementException" ∧ h' = h ∧ (ro26 = 0) ∧ (¬ ro31 = 0) ∧ (¬ rn31 = p1) ∧ (ro36 = 0) ∧ (ro41 = 0)) ∨ (r = Sum.inr "java/util/NoSuchElementException" ∧ h' = h ∧ (ro26 = 0) ∧ (¬ ro31 = 0) ∧ (¬ rn31 = p1) ∧ (ro36 = 0) ∧ (¬ ro41 = 0) ∧ (¬ rn41 = p1)) ∨ (r = Sum.inl (some (Value.ref q41)) ∧ h' = h ∧ (ro26 = 0) ∧ (¬ ro31 = 0) ∧ (¬ rn31 = p1) ∧ (ro36 = 0) ∧ (¬ ro41 = 0) ∧ (rn41 = p1)) ∨ (r = Sum.inr "java/util/NoSuchElementException" ∧ h' = h ∧ (ro26 = 0) ∧ (¬ ro31 = 0) ∧ (¬ rn31 = p1) ∧ (¬ ro36 = 0) ∧ (¬ rn36 = p1) ∧ (ro41 = 0)) ∨ (r = Sum.inr "java/util/NoSuchElementException" ∧ h' = h ∧ (ro26 = 0) ∧ (¬ ro31 = 0) ∧ (¬ rn31 = p1) ∧ (¬ ro36 = 0) ∧ (¬ rn36 = p1) ∧ (¬ ro41 = 0) ∧ (¬ rn41 = p1)) ∨ (r = Sum.inl (some (Value.ref q41)) ∧ h' = h ∧ (ro26 = 0) ∧ (¬ ro31 = 0) ∧ (¬ rn31 = p1) ∧ (¬ ro36 = 0) ∧ (¬ rn36 = p1) ∧ (¬ ro41 = 0) ∧ (rn41 = p1)) ∨ (r = Sum.inl (some (Value.ref q36)) ∧ h' = h ∧ (ro26 = 0) ∧ (¬ ro31 = 0) ∧ (¬ rn31 = p1) ∧ (¬ ro36 = 0) ∧ (rn36 = p1)) ∨ (r = Sum.inl (some (Value.ref q31)) ∧ h' = h ∧ (ro26 = 0) ∧ (¬ ro31 = 0) ∧ (rn31 = p1)) ∨ (r = Sum.inr "java/util/NoSuchElementException" ∧ h' = h ∧ (¬ ro26 = 0) ∧ (¬ rn26 = p1) ∧ (ro31 = 0) ∧ (ro36 = 0) ∧ (ro41 = 0)) ∨ (r = Sum.inr "java/util/NoSuchElementException" ∧ h' = h ∧ (¬ ro26 = 0) ∧ (¬ rn26 = p1) ∧ (ro31 = 0) ∧ (ro36 = 0) ∧ (¬ ro41 = 0) ∧ (¬ rn41 = p1)) ∨ (r = Sum.inl (some (Value.ref q41)) ∧ h' = h ∧ (¬ ro26 = 0) ∧ (¬ rn26 = p1) ∧ (ro31 = 0) ∧ (ro36 = 0) ∧ (¬ ro41 = 0) ∧ (rn41 = p1)) ∨ (r = Sum.inr "java/util/NoSuchElementException" ∧ h' = h ∧ (¬ ro26 = 0) ∧ (¬ rn26 = p1) ∧ (ro31 = 0) ∧ (¬ ro36 = 0) ∧ (¬ rn36 = p1) ∧ (ro41 = 0)) ∨ (r = Sum.inr "java/util/NoSuchElementException" ∧ h' = h ∧ (¬ ro26 = 0) ∧ (¬ rn26 = p1) ∧ (ro31 = 0) ∧ (¬ ro36 = 0) ∧ (¬ rn36 = p1) ∧ (¬ ro41 = 0) ∧ (¬ rn41 = p1)) ∨ (r = Sum.inl (some (Value.ref q41)) ∧ h' = h ∧ (¬ ro26 = 0) ∧ (¬ rn26 = p1) ∧ (ro31 = 0) ∧ (¬ ro36 = 0) ∧ (¬ rn36 = p1) ∧ (¬ ro41 = 0) ∧ (rn41 = p1)) ∨ (r = Sum.inl (some (Value.ref q36)) ∧ h' = h ∧ (¬ ro26 = 0) ∧ (¬ rn26 = p1) ∧ (ro31 = 0) ∧ (¬ ro36 = 0) ∧ (rn36 = p1)) ∨ (r = Sum.inr "java/util/NoSuchElementException" ∧ h' = h ∧ (¬ ro26 = 0) ∧ (¬ rn26 = p1) ∧ (¬ ro31 = 0) ∧ (¬ rn31 = p1) ∧ (ro36 = 0) ∧ (ro41 = 0)) ∨ (r = Sum.inr "java/util/NoSuchElementException" ∧ h' = h ∧ (¬ ro26 = 0) ∧ (¬ rn26 = p1) ∧ (¬ ro31 = 0) ∧ (¬ rn31 = p1) ∧ (ro36 = 0) ∧ (¬ ro41 = 0) ∧ (¬ rn41 = p1)) ∨ (r = Sum.inl (some (Value.ref q41)) ∧ h' = h ∧ (¬ ro26 = 0) ∧ (¬ rn26 = p1) ∧ (¬ ro31 = 0) ∧ (¬ rn31 = p1) ∧ (ro36 = 0) ∧ (¬ ro41 = 0) ∧ (rn41 = p1)) ∨ (r = Sum.inr "java/util/NoSuchElementException" ∧ h' = h ∧ (¬ ro26 = 0) ∧ (¬ rn26 = p1) ∧ (¬ ro31 = 0) ∧ (¬ rn31 = p1) ∧ (¬ ro36 = 0) ∧ (¬ rn36 = p1) ∧ (ro41 = 0)) ∨ (r = Sum.inr "java/util/NoSuchElementException" ∧ h' = h ∧ (¬ ro26 = 0) ∧ (¬ rn26 = p1) ∧ (¬ ro31 = 0) ∧ (¬ rn31 = p1) ∧ (¬ ro36 = 0) ∧ (¬ rn36 = p1) ∧ (¬ ro41 = 0) ∧ (¬ rn41 = p1)) ∨ (r = Sum.inl (some (Value.ref q41)) ∧ h' = h ∧ (¬ ro26 = 0) ∧ (¬ rn26 = p1) ∧ (¬ ro31 = 0) ∧ (¬ rn31 = p1) ∧ (¬ ro36 = 0) ∧ (¬ rn36 = p1) ∧ (¬ ro41 = 0) ∧ (rn41 = p1)) ∨ (r = Sum.inl (some (Value.ref q36)) ∧ h' = h ∧ (¬ ro26 = 0) ∧ (¬ rn26 = p1) ∧ (¬ ro31 = 0) ∧ (¬ rn31 = p1) ∧ (¬ ro36 = 0) ∧ (rn36 = p1)) ∨ (r = Sum.inl (some (Value.ref q31)) ∧ h' = h ∧ (¬ ro26 = 0) ∧ (¬ rn26 = p1) ∧ (¬ ro31 = 0) ∧ (rn31 = p1)) ∨ (r = Sum.inl (some (Value.ref q26)) ∧ h' = h ∧ (¬ ro26 = 0) ∧ (rn26 = p1))) = PQ
  have Z : gz D A s.heap h s.heap [] := ⟨ws, hM, hP, hD, va_S.rf⟩
  clear hP hD hM hD0
  have hU : gm_g h h [] := gm_g.rf
  have hl := lv_entry ([Value.ref q0, Value.int p1]) (n := 3) (Nat.le_of_ble_eq_true rfl)
  rw [lg_entry_eq]
  generalize (lg_sl ([Value.ref q0, Value.int p1]) ++ List.replicate (3 - (lg_sl ([Value.ref q0, Value.int p1])).length) Slot.unset).toArray = ls at hl ⊢
  have hl : lv_has ls 3 [(0, Value.ref q0), (1, Value.int p1)] := hl
  refine lv_iconst (v := 0) hx hb d_Le_requireReader_0 (by decide) ?_
  refine lv_istore_n (lv' := [(2, Value.int 0), (0, Value.ref q0), (1, Value.int p1)]) hx hb d_Le_requireReader_1 rfl hl (by decide) rfl (fun ls hl => ?_)
  refine lv_iload_n hx hb d_Le_requireReader_2 rfl (lv_at hl 0 rfl) ?_
  refine lv_iconst (v := 4) hx hb d_Le_requireReader_3 (by decide) ?_
  refine lv_icmp_ge (tgt := 45) hx hb d_Le_requireReader_4 (by decide) (fun c9 => absurd c9 (by decide)) (fun _ => ?_)
  refine lv_aload_n hx hb d_Le_requireReader_7 rfl (lv_at hl 1 rfl) ?_
  refine gz_get (ci := 0) (v := Value.ref q25) (C := "CommitLedger") (T := F_Le) (N := 18) hx hb hts i_Le hown hK Z f_0 rfl 4 (by decide) kf_Le_45 rfl d_Le_requireReader_8 ?_
  refine lv_iload_n hx hb d_Le_requireReader_11 rfl (lv_at hl 0 rfl) ?_
  refine gz_aald (v := Value.ref q26) (j := 0) hx hb hK Z 4 f_25 ht4 (by decide) (by decide) (by decide) (rfl) d_Le_requireReader_12 ?_
  refine gz_get (ci := 6) (v := Value.int ro26) (C := "CommitLedger$Reader") (T := F_Re) (N := 3) hx hb hts i_Re hown hK Z f_26 rfl 2 (by decide) kf_Le_230 rfl d_Le_requireReader_13 ?_
  refine lv_if_eq (tgt := 39) hx hb d_Le_requireReader_16 (by decide) (fun c16_1 => ?_) (fun c16_1 => ?_)
  · refine lv_iinc (v := 1) (lv' := [(2, Value.int 1), (0, Value.ref q0), (1, Value.int p1)]) hx hb d_Le_requireReader_39 hl (k := 0) rfl (by decide) (by decide) rfl (fun ls hl => ?_)
    refine lv_goto (tgt := 2) hx hb d_Le_requireReader_42 (by decide) ?_
    refine lv_iload_n hx hb d_Le_requireReader_2 rfl (lv_at hl 0 rfl) ?_
    refine lv_iconst (v := 4) hx hb d_Le_requireReader_3 (by decide) ?_
    refine lv_icmp_ge (tgt := 45) hx hb d_Le_requireReader_4 (by decide) (fun c9 => absurd c9 (by decide)) (fun _ => ?_)
    refine lv_aload_n hx hb d_Le_requireReader_7 rfl (lv_at hl 1 rfl) ?_
    refine gz_get (ci := 0) (v := Value.ref q25) (C := "CommitLedger") (T := F_Le) (N := 18) hx hb hts i_Le hown hK Z f_0 rfl 4 (by decide) kf_Le_45 rfl d_Le_requireReader_8 ?_
    refine lv_iload_n hx hb d_Le_requireReader_11 rfl (lv_at hl 0 rfl) ?_
    refine gz_aald (v := Value.ref q31) (j := 1) hx hb hK Z 4 f_25 ht4 (by decide) (by decide) (by decide) (rfl) d_Le_requireReader_12 ?_
    refine gz_get (ci := 6) (v := Value.int ro31) (C := "CommitLedger$Reader") (T := F_Re) (N := 3) hx hb hts i_Re hown hK Z f_31 rfl 2 (by decide) kf_Le_230 rfl d_Le_requireReader_13 ?_
    refine lv_if_eq (tgt := 39) hx hb d_Le_requireReader_16 (by decide) (fun c16_2 => ?_) (fun c16_2 => ?_)
    · refine lv_iinc (v := 2) (lv' := [(2, Value.int 2), (0, Value.ref q0), (1, Value.int p1)]) hx hb d_Le_requireReader_39 hl (k := 0) rfl (by decide) (by decide) rfl (fun ls hl => ?_)
      refine lv_goto (tgt := 2) hx hb d_Le_requireReader_42 (by decide) ?_
      refine lv_iload_n hx hb d_Le_requireReader_2 rfl (lv_at hl 0 rfl) ?_
      refine lv_iconst (v := 4) hx hb d_Le_requireReader_3 (by decide) ?_
      refine lv_icmp_ge (tgt := 45) hx hb d_Le_requireReader_4 (by decide) (fun c9 => absurd c9 (by decide)) (fun _ => ?_)
      refine lv_aload_n hx hb d_Le_requireReader_7 rfl (lv_at hl 1 rfl) ?_
      refine gz_get (ci := 0) (v := Value.ref q25) (C := "CommitLedger") (T := F_Le) (N := 18) hx hb hts i_Le hown hK Z f_0 rfl 4 (by decide) kf_Le_45 rfl d_Le_requireReader_8 ?_
      refine lv_iload_n hx hb d_Le_requireReader_11 rfl (lv_at hl 0 rfl) ?_
      refine gz_aald (v := Value.ref q36) (j := 2) hx hb hK Z 4 f_25 ht4 (by decide) (by decide) (by decide) (rfl) d_Le_requireReader_12 ?_
      refine gz_get (ci := 6) (v := Value.int ro36) (C := "CommitLedger$Reader") (T := F_Re) (N := 3) hx hb hts i_Re hown hK Z f_36 rfl 2 (by decide) kf_Le_230 rfl d_Le_requireReader_13 ?_
      refine lv_if_eq (tgt := 39) hx hb d_Le_requireReader_16 (by decide) (fun c16_3 => ?_) (fun c16_3 => ?_)
      · refine lv_iinc (v := 3) (lv' := [(2, Value.int 3), (0, Value.ref q0), (1, Value.int p1)]) hx hb d_Le_requireReader_39 hl (k := 0) rfl (by decide) (by decide) rfl (fun ls hl => ?_)
        refine lv_goto (tgt := 2) hx hb d_Le_requireReader_42 (by decide) ?_
        refine lv_iload_n hx hb d_Le_requireReader_2 rfl (lv_at hl 0 rfl) ?_
        refine lv_iconst (v := 4) hx hb d_Le_requireReader_3 (by decide) ?_
        refine lv_icmp_ge (tgt := 45) hx hb d_Le_requireReader_4 (by decide) (fun c9 => absurd c9 (by decide)) (fun _ => ?_)
        refine lv_aload_n hx hb d_Le_requireReader_7 rfl (lv_at hl 1 rfl) ?_
        refine gz_get (ci := 0) (v := Value.ref q25) (C := "CommitLedger") (T := F_Le) (N := 18) hx hb hts i_Le hown hK Z f_0 rfl 4 (by decide) kf_Le_45 rfl d_Le_requireReader_8 ?_
        refine lv_iload_n hx hb d_Le_requireReader_11 rfl (lv_at hl 0 rfl) ?_
        refine gz_aald (v := Value.ref q41) (j := 3) hx hb hK Z 4 f_25 ht4 (by decide) (by decide) (by decide) (rfl) d_Le_requireReader_12 ?_
        refine gz_get (ci := 6) (v := Value.int ro41) (C := "CommitLedger$Reader") (T := F_Re) (N := 3) hx hb hts i_Re hown hK Z f_41 rfl 2 (by decide) kf_Le_230 rfl d_Le_requireReader_13 ?_
        refine lv_if_eq (tgt := 39) hx hb d_Le_requireReader_16 (by decide) (fun c16_4 => ?_) (fun c16_4 => ?_)
        · refine lv_iinc (v := 4) (lv' := [(2, Value.int 4), (0, Value.ref q0), (1, Value.int p1)]) hx hb d_Le_requireReader_39 hl (k := 0) rfl (by decide) (by decide) rfl (fun ls hl => ?_)
          refine lv_goto (tgt := 2) hx hb d_Le_requireReader_42 (by decide) ?_
          refine lv_iload_n hx hb d_Le_requireReader_2 rfl (lv_at hl 0 rfl) ?_
          refine lv_iconst (v := 4) hx hb d_Le_requireReader_3 (by decide) ?_
          refine lv_icmp_ge (tgt := 45) hx hb d_Le_requireReader_4 (by decide) (fun _ => ?_) (fun c9 => absurd (by decide) c9)
          obtain ⟨ws9, hM9, hP9, hD9, hS9⟩ := Z
          exact gx_thrw (D := D) (cl := classes) (tys := tys) (ws := ws9) (i1 := 13) (b1 := prog_31_method_4_code) hx hb htr (hml.trans hl.1.symm) hown hts hne hlocks hP9 hK hD9 hS9 hA hN kk_Le_150 kX_NoSuchElementException kN_NoSuchElementException ks_Le_295 kT_Le_154 (by decide) (by decide +kernel) (by decide +kernel) (by decide +kernel) (by decide +kernel) d_Le_requireReader_45 d_Le_requireReader_48 d_Le_requireReader_49 d_Le_requireReader_52 d_Le_requireReader_55 (Nat.le_of_ble_eq_true rfl) (Nat.le_of_ble_eq_true rfl) (Nat.le_of_ble_eq_true rfl) (Nat.le_of_ble_eq_true rfl) (by decide) (by decide) ⟨h, hM9, by rw [← hPQ]; exact Or.inl ⟨rfl, rfl, c16_1, c16_2, c16_3, c16_4⟩⟩
        · refine lv_aload_n hx hb d_Le_requireReader_19 rfl (lv_at hl 1 rfl) ?_
          refine gz_get (ci := 0) (v := Value.ref q25) (C := "CommitLedger") (T := F_Le) (N := 18) hx hb hts i_Le hown hK Z f_0 rfl 4 (by decide) kf_Le_45 rfl d_Le_requireReader_20 ?_
          refine lv_iload_n hx hb d_Le_requireReader_23 rfl (lv_at hl 0 rfl) ?_
          refine gz_aald (v := Value.ref q41) (j := 3) hx hb hK Z 4 f_25 ht4 (by decide) (by decide) (by decide) (rfl) d_Le_requireReader_24 ?_
          refine gz_get (ci := 6) (v := Value.int rn41) (C := "CommitLedger$Reader") (T := F_Re) (N := 3) hx hb hts i_Re hown hK Z f_41 rfl 1 (by decide) kf_Le_292 rfl d_Le_requireReader_25 ?_
          refine lv_iload_n hx hb d_Le_requireReader_28 rfl (lv_at hl 2 rfl) ?_
          refine lv_icmp_ne (tgt := 39) hx hb d_Le_requireReader_29 (by decide) (fun c29_5 => ?_) (fun c29_5 => ?_)
          · refine lv_iinc (v := 4) (lv' := [(2, Value.int 4), (0, Value.ref q0), (1, Value.int p1)]) hx hb d_Le_requireReader_39 hl (k := 0) rfl (by decide) (by decide) rfl (fun ls hl => ?_)
            refine lv_goto (tgt := 2) hx hb d_Le_requireReader_42 (by decide) ?_
            refine lv_iload_n hx hb d_Le_requireReader_2 rfl (lv_at hl 0 rfl) ?_
            refine lv_iconst (v := 4) hx hb d_Le_requireReader_3 (by decide) ?_
            refine lv_icmp_ge (tgt := 45) hx hb d_Le_requireReader_4 (by decide) (fun _ => ?_) (fun c9 => absurd (by decide) c9)
            obtain ⟨ws9, hM9, hP9, hD9, hS9⟩ := Z
            exact gx_thrw (D := D) (cl := classes) (tys := tys) (ws := ws9) (i1 := 13) (b1 := prog_31_method_4_code) hx hb htr (hml.trans hl.1.symm) hown hts hne hlocks hP9 hK hD9 hS9 hA hN kk_Le_150 kX_NoSuchElementException kN_NoSuchElementException ks_Le_295 kT_Le_154 (by decide) (by decide +kernel) (by decide +kernel) (by decide +kernel) (by decide +kernel) d_Le_requireReader_45 d_Le_requireReader_48 d_Le_requireReader_49 d_Le_requireReader_52 d_Le_requireReader_55 (Nat.le_of_ble_eq_true rfl) (Nat.le_of_ble_eq_true rfl) (Nat.le_of_ble_eq_true rfl) (Nat.le_of_ble_eq_true rfl) (by decide) (by decide) ⟨h, hM9, by rw [← hPQ]; exact Or.inr (Or.inl ⟨rfl, rfl, c16_1, c16_2, c16_3, c16_4, c29_5⟩)⟩
          · refine lv_aload_n hx hb d_Le_requireReader_32 rfl (lv_at hl 1 rfl) ?_
            refine gz_get (ci := 0) (v := Value.ref q25) (C := "CommitLedger") (T := F_Le) (N := 18) hx hb hts i_Le hown hK Z f_0 rfl 4 (by decide) kf_Le_45 rfl d_Le_requireReader_33 ?_
            refine lv_iload_n hx hb d_Le_requireReader_36 rfl (lv_at hl 0 rfl) ?_
            refine gz_aald (v := Value.ref q41) (j := 3) hx hb hK Z 4 f_25 ht4 (by decide) (by decide) (by decide) (rfl) d_Le_requireReader_37 ?_
            obtain ⟨ws9, hM9, hP9, hD9, hS9⟩ := Z
            refine W.widen (k := 1) (n := 6) (by decide) (by decide) ?_
            exact gx_ret (W.aret (v := Value.ref q41) hx hb hr (Or.inl ⟨_, rfl⟩) (Or.inr ⟨_, rfl⟩) (gx_post hP9 hK hD9 hS9 ⟨h, hM9, by rw [← hPQ]; exact Or.inr (Or.inr (Or.inl ⟨rfl, rfl, c16_1, c16_2, c16_3, c16_4, c29_5⟩))⟩) hS9.2.2 d_Le_requireReader_38)
      · refine lv_aload_n hx hb d_Le_requireReader_19 rfl (lv_at hl 1 rfl) ?_
        refine gz_get (ci := 0) (v := Value.ref q25) (C := "CommitLedger") (T := F_Le) (N := 18) hx hb hts i_Le hown hK Z f_0 rfl 4 (by decide) kf_Le_45 rfl d_Le_requireReader_20 ?_
        refine lv_iload_n hx hb d_Le_requireReader_23 rfl (lv_at hl 0 rfl) ?_
        refine gz_aald (v := Value.ref q36) (j := 2) hx hb hK Z 4 f_25 ht4 (by decide) (by decide) (by decide) (rfl) d_Le_requireReader_24 ?_
        refine gz_get (ci := 6) (v := Value.int rn36) (C := "CommitLedger$Reader") (T := F_Re) (N := 3) hx hb hts i_Re hown hK Z f_36 rfl 1 (by decide) kf_Le_292 rfl d_Le_requireReader_25 ?_
        refine lv_iload_n hx hb d_Le_requireReader_28 rfl (lv_at hl 2 rfl) ?_
        refine lv_icmp_ne (tgt := 39) hx hb d_Le_requireReader_29 (by decide) (fun c29_6 => ?_) (fun c29_6 => ?_)
        · refine lv_iinc (v := 3) (lv' := [(2, Value.int 3), (0, Value.ref q0), (1, Value.int p1)]) hx hb d_Le_requireReader_39 hl (k := 0) rfl (by decide) (by decide) rfl (fun ls hl => ?_)
          refine lv_goto (tgt := 2) hx hb d_Le_requireReader_42 (by decide) ?_
          refine lv_iload_n hx hb d_Le_requireReader_2 rfl (lv_at hl 0 rfl) ?_
          refine lv_iconst (v := 4) hx hb d_Le_requireReader_3 (by decide) ?_
          refine lv_icmp_ge (tgt := 45) hx hb d_Le_requireReader_4 (by decide) (fun c9 => absurd c9 (by decide)) (fun _ => ?_)
          refine lv_aload_n hx hb d_Le_requireReader_7 rfl (lv_at hl 1 rfl) ?_
          refine gz_get (ci := 0) (v := Value.ref q25) (C := "CommitLedger") (T := F_Le) (N := 18) hx hb hts i_Le hown hK Z f_0 rfl 4 (by decide) kf_Le_45 rfl d_Le_requireReader_8 ?_
          refine lv_iload_n hx hb d_Le_requireReader_11 rfl (lv_at hl 0 rfl) ?_
          refine gz_aald (v := Value.ref q41) (j := 3) hx hb hK Z 4 f_25 ht4 (by decide) (by decide) (by decide) (rfl) d_Le_requireReader_12 ?_
          refine gz_get (ci := 6) (v := Value.int ro41) (C := "CommitLedger$Reader") (T := F_Re) (N := 3) hx hb hts i_Re hown hK Z f_41 rfl 2 (by decide) kf_Le_230 rfl d_Le_requireReader_13 ?_
          refine lv_if_eq (tgt := 39) hx hb d_Le_requireReader_16 (by decide) (fun c16_7 => ?_) (fun c16_7 => ?_)
          · refine lv_iinc (v := 4) (lv' := [(2, Value.int 4), (0, Value.ref q0), (1, Value.int p1)]) hx hb d_Le_requireReader_39 hl (k := 0) rfl (by decide) (by decide) rfl (fun ls hl => ?_)
            refine lv_goto (tgt := 2) hx hb d_Le_requireReader_42 (by decide) ?_
            refine lv_iload_n hx hb d_Le_requireReader_2 rfl (lv_at hl 0 rfl) ?_
            refine lv_iconst (v := 4) hx hb d_Le_requireReader_3 (by decide) ?_
            refine lv_icmp_ge (tgt := 45) hx hb d_Le_requireReader_4 (by decide) (fun _ => ?_) (fun c9 => absurd (by decide) c9)
            obtain ⟨ws9, hM9, hP9, hD9, hS9⟩ := Z
            exact gx_thrw (D := D) (cl := classes) (tys := tys) (ws := ws9) (i1 := 13) (b1 := prog_31_method_4_code) hx hb htr (hml.trans hl.1.symm) hown hts hne hlocks hP9 hK hD9 hS9 hA hN kk_Le_150 kX_NoSuchElementException kN_NoSuchElementException ks_Le_295 kT_Le_154 (by decide) (by decide +kernel) (by decide +kernel) (by decide +kernel) (by decide +kernel) d_Le_requireReader_45 d_Le_requireReader_48 d_Le_requireReader_49 d_Le_requireReader_52 d_Le_requireReader_55 (Nat.le_of_ble_eq_true rfl) (Nat.le_of_ble_eq_true rfl) (Nat.le_of_ble_eq_true rfl) (Nat.le_of_ble_eq_true rfl) (by decide) (by decide) ⟨h, hM9, by rw [← hPQ]; exact Or.inr (Or.inr (Or.inr (Or.inl ⟨rfl, rfl, c16_1, c16_2, c16_3, c29_6, c16_7⟩)))⟩
          · refine lv_aload_n hx hb d_Le_requireReader_19 rfl (lv_at hl 1 rfl) ?_
            refine gz_get (ci := 0) (v := Value.ref q25) (C := "CommitLedger") (T := F_Le) (N := 18) hx hb hts i_Le hown hK Z f_0 rfl 4 (by decide) kf_Le_45 rfl d_Le_requireReader_20 ?_
            refine lv_iload_n hx hb d_Le_requireReader_23 rfl (lv_at hl 0 rfl) ?_
            refine gz_aald (v := Value.ref q41) (j := 3) hx hb hK Z 4 f_25 ht4 (by decide) (by decide) (by decide) (rfl) d_Le_requireReader_24 ?_
            refine gz_get (ci := 6) (v := Value.int rn41) (C := "CommitLedger$Reader") (T := F_Re) (N := 3) hx hb hts i_Re hown hK Z f_41 rfl 1 (by decide) kf_Le_292 rfl d_Le_requireReader_25 ?_
            refine lv_iload_n hx hb d_Le_requireReader_28 rfl (lv_at hl 2 rfl) ?_
            refine lv_icmp_ne (tgt := 39) hx hb d_Le_requireReader_29 (by decide) (fun c29_8 => ?_) (fun c29_8 => ?_)
            · refine lv_iinc (v := 4) (lv' := [(2, Value.int 4), (0, Value.ref q0), (1, Value.int p1)]) hx hb d_Le_requireReader_39 hl (k := 0) rfl (by decide) (by decide) rfl (fun ls hl => ?_)
              refine lv_goto (tgt := 2) hx hb d_Le_requireReader_42 (by decide) ?_
              refine lv_iload_n hx hb d_Le_requireReader_2 rfl (lv_at hl 0 rfl) ?_
              refine lv_iconst (v := 4) hx hb d_Le_requireReader_3 (by decide) ?_
              refine lv_icmp_ge (tgt := 45) hx hb d_Le_requireReader_4 (by decide) (fun _ => ?_) (fun c9 => absurd (by decide) c9)
              obtain ⟨ws9, hM9, hP9, hD9, hS9⟩ := Z
              exact gx_thrw (D := D) (cl := classes) (tys := tys) (ws := ws9) (i1 := 13) (b1 := prog_31_method_4_code) hx hb htr (hml.trans hl.1.symm) hown hts hne hlocks hP9 hK hD9 hS9 hA hN kk_Le_150 kX_NoSuchElementException kN_NoSuchElementException ks_Le_295 kT_Le_154 (by decide) (by decide +kernel) (by decide +kernel) (by decide +kernel) (by decide +kernel) d_Le_requireReader_45 d_Le_requireReader_48 d_Le_requireReader_49 d_Le_requireReader_52 d_Le_requireReader_55 (Nat.le_of_ble_eq_true rfl) (Nat.le_of_ble_eq_true rfl) (Nat.le_of_ble_eq_true rfl) (Nat.le_of_ble_eq_true rfl) (by decide) (by decide) ⟨h, hM9, by rw [← hPQ]; exact Or.inr (Or.inr (Or.inr (Or.inr (Or.inl ⟨rfl, rfl, c16_1, c16_2, c16_3, c29_6, c16_7, c29_8⟩))))⟩
            · refine lv_aload_n hx hb d_Le_requireReader_32 rfl (lv_at hl 1 rfl) ?_
              refine gz_get (ci := 0) (v := Value.ref q25) (C := "CommitLedger") (T := F_Le) (N := 18) hx hb hts i_Le hown hK Z f_0 rfl 4 (by decide) kf_Le_45 rfl d_Le_requireReader_33 ?_
              refine lv_iload_n hx hb d_Le_requireReader_36 rfl (lv_at hl 0 rfl) ?_
              refine gz_aald (v := Value.ref q41) (j := 3) hx hb hK Z 4 f_25 ht4 (by decide) (by decide) (by decide) (rfl) d_Le_requireReader_37 ?_
              obtain ⟨ws9, hM9, hP9, hD9, hS9⟩ := Z
              refine W.widen (k := 1) (n := 6) (by decide) (by decide) ?_
              exact gx_ret (W.aret (v := Value.ref q41) hx hb hr (Or.inl ⟨_, rfl⟩) (Or.inr ⟨_, rfl⟩) (gx_post hP9 hK hD9 hS9 ⟨h, hM9, by rw [← hPQ]; exact Or.inr (Or.inr (Or.inr (Or.inr (Or.inr (Or.inl ⟨rfl, rfl, c16_1, c16_2, c16_3, c29_6, c16_7, c29_8⟩)))))⟩) hS9.2.2 d_Le_requireReader_38)
        · refine lv_aload_n hx hb d_Le_requireReader_32 rfl (lv_at hl 1 rfl) ?_
          refine gz_get (ci := 0) (v := Value.ref q25) (C := "CommitLedger") (T := F_Le) (N := 18) hx hb hts i_Le hown hK Z f_0 rfl 4 (by decide) kf_Le_45 rfl d_Le_requireReader_33 ?_
          refine lv_iload_n hx hb d_Le_requireReader_36 rfl (lv_at hl 0 rfl) ?_
          refine gz_aald (v := Value.ref q36) (j := 2) hx hb hK Z 4 f_25 ht4 (by decide) (by decide) (by decide) (rfl) d_Le_requireReader_37 ?_
          obtain ⟨ws9, hM9, hP9, hD9, hS9⟩ := Z
          refine W.widen (k := 1) (n := 6) (by decide) (by decide) ?_
          exact gx_ret (W.aret (v := Value.ref q36) hx hb hr (Or.inl ⟨_, rfl⟩) (Or.inr ⟨_, rfl⟩) (gx_post hP9 hK hD9 hS9 ⟨h, hM9, by rw [← hPQ]; exact Or.inr (Or.inr (Or.inr (Or.inr (Or.inr (Or.inr (Or.inl ⟨rfl, rfl, c16_1, c16_2, c16_3, c29_6⟩))))))⟩) hS9.2.2 d_Le_requireReader_38)
    · refine lv_aload_n hx hb d_Le_requireReader_19 rfl (lv_at hl 1 rfl) ?_
      refine gz_get (ci := 0) (v := Value.ref q25) (C := "CommitLedger") (T := F_Le) (N := 18) hx hb hts i_Le hown hK Z f_0 rfl 4 (by decide) kf_Le_45 rfl d_Le_requireReader_20 ?_
      refine lv_iload_n hx hb d_Le_requireReader_23 rfl (lv_at hl 0 rfl) ?_
      refine gz_aald (v := Value.ref q31) (j := 1) hx hb hK Z 4 f_25 ht4 (by decide) (by decide) (by decide) (rfl) d_Le_requireReader_24 ?_
      refine gz_get (ci := 6) (v := Value.int rn31) (C := "CommitLedger$Reader") (T := F_Re) (N := 3) hx hb hts i_Re hown hK Z f_31 rfl 1 (by decide) kf_Le_292 rfl d_Le_requireReader_25 ?_
      refine lv_iload_n hx hb d_Le_requireReader_28 rfl (lv_at hl 2 rfl) ?_
      refine lv_icmp_ne (tgt := 39) hx hb d_Le_requireReader_29 (by decide) (fun c29_9 => ?_) (fun c29_9 => ?_)
      · refine lv_iinc (v := 2) (lv' := [(2, Value.int 2), (0, Value.ref q0), (1, Value.int p1)]) hx hb d_Le_requireReader_39 hl (k := 0) rfl (by decide) (by decide) rfl (fun ls hl => ?_)
        refine lv_goto (tgt := 2) hx hb d_Le_requireReader_42 (by decide) ?_
        refine lv_iload_n hx hb d_Le_requireReader_2 rfl (lv_at hl 0 rfl) ?_
        refine lv_iconst (v := 4) hx hb d_Le_requireReader_3 (by decide) ?_
        refine lv_icmp_ge (tgt := 45) hx hb d_Le_requireReader_4 (by decide) (fun c9 => absurd c9 (by decide)) (fun _ => ?_)
        refine lv_aload_n hx hb d_Le_requireReader_7 rfl (lv_at hl 1 rfl) ?_
        refine gz_get (ci := 0) (v := Value.ref q25) (C := "CommitLedger") (T := F_Le) (N := 18) hx hb hts i_Le hown hK Z f_0 rfl 4 (by decide) kf_Le_45 rfl d_Le_requireReader_8 ?_
        refine lv_iload_n hx hb d_Le_requireReader_11 rfl (lv_at hl 0 rfl) ?_
        refine gz_aald (v := Value.ref q36) (j := 2) hx hb hK Z 4 f_25 ht4 (by decide) (by decide) (by decide) (rfl) d_Le_requireReader_12 ?_
        refine gz_get (ci := 6) (v := Value.int ro36) (C := "CommitLedger$Reader") (T := F_Re) (N := 3) hx hb hts i_Re hown hK Z f_36 rfl 2 (by decide) kf_Le_230 rfl d_Le_requireReader_13 ?_
        refine lv_if_eq (tgt := 39) hx hb d_Le_requireReader_16 (by decide) (fun c16_10 => ?_) (fun c16_10 => ?_)
        · refine lv_iinc (v := 3) (lv' := [(2, Value.int 3), (0, Value.ref q0), (1, Value.int p1)]) hx hb d_Le_requireReader_39 hl (k := 0) rfl (by decide) (by decide) rfl (fun ls hl => ?_)
          refine lv_goto (tgt := 2) hx hb d_Le_requireReader_42 (by decide) ?_
          refine lv_iload_n hx hb d_Le_requireReader_2 rfl (lv_at hl 0 rfl) ?_
          refine lv_iconst (v := 4) hx hb d_Le_requireReader_3 (by decide) ?_
          refine lv_icmp_ge (tgt := 45) hx hb d_Le_requireReader_4 (by decide) (fun c9 => absurd c9 (by decide)) (fun _ => ?_)
          refine lv_aload_n hx hb d_Le_requireReader_7 rfl (lv_at hl 1 rfl) ?_
          refine gz_get (ci := 0) (v := Value.ref q25) (C := "CommitLedger") (T := F_Le) (N := 18) hx hb hts i_Le hown hK Z f_0 rfl 4 (by decide) kf_Le_45 rfl d_Le_requireReader_8 ?_
          refine lv_iload_n hx hb d_Le_requireReader_11 rfl (lv_at hl 0 rfl) ?_
          refine gz_aald (v := Value.ref q41) (j := 3) hx hb hK Z 4 f_25 ht4 (by decide) (by decide) (by decide) (rfl) d_Le_requireReader_12 ?_
          refine gz_get (ci := 6) (v := Value.int ro41) (C := "CommitLedger$Reader") (T := F_Re) (N := 3) hx hb hts i_Re hown hK Z f_41 rfl 2 (by decide) kf_Le_230 rfl d_Le_requireReader_13 ?_
          refine lv_if_eq (tgt := 39) hx hb d_Le_requireReader_16 (by decide) (fun c16_11 => ?_) (fun c16_11 => ?_)
          · refine lv_iinc (v := 4) (lv' := [(2, Value.int 4), (0, Value.ref q0), (1, Value.int p1)]) hx hb d_Le_requireReader_39 hl (k := 0) rfl (by decide) (by decide) rfl (fun ls hl => ?_)
            refine lv_goto (tgt := 2) hx hb d_Le_requireReader_42 (by decide) ?_
            refine lv_iload_n hx hb d_Le_requireReader_2 rfl (lv_at hl 0 rfl) ?_
            refine lv_iconst (v := 4) hx hb d_Le_requireReader_3 (by decide) ?_
            refine lv_icmp_ge (tgt := 45) hx hb d_Le_requireReader_4 (by decide) (fun _ => ?_) (fun c9 => absurd (by decide) c9)
            obtain ⟨ws9, hM9, hP9, hD9, hS9⟩ := Z
            exact gx_thrw (D := D) (cl := classes) (tys := tys) (ws := ws9) (i1 := 13) (b1 := prog_31_method_4_code) hx hb htr (hml.trans hl.1.symm) hown hts hne hlocks hP9 hK hD9 hS9 hA hN kk_Le_150 kX_NoSuchElementException kN_NoSuchElementException ks_Le_295 kT_Le_154 (by decide) (by decide +kernel) (by decide +kernel) (by decide +kernel) (by decide +kernel) d_Le_requireReader_45 d_Le_requireReader_48 d_Le_requireReader_49 d_Le_requireReader_52 d_Le_requireReader_55 (Nat.le_of_ble_eq_true rfl) (Nat.le_of_ble_eq_true rfl) (Nat.le_of_ble_eq_true rfl) (Nat.le_of_ble_eq_true rfl) (by decide) (by decide) ⟨h, hM9, by rw [← hPQ]; exact Or.inr (Or.inr (Or.inr (Or.inr (Or.inr (Or.inr (Or.inr (Or.inl ⟨rfl, rfl, c16_1, c16_2, c29_9, c16_10, c16_11⟩)))))))⟩
          · refine lv_aload_n hx hb d_Le_requireReader_19 rfl (lv_at hl 1 rfl) ?_
            refine gz_get (ci := 0) (v := Value.ref q25) (C := "CommitLedger") (T := F_Le) (N := 18) hx hb hts i_Le hown hK Z f_0 rfl 4 (by decide) kf_Le_45 rfl d_Le_requireReader_20 ?_
            refine lv_iload_n hx hb d_Le_requireReader_23 rfl (lv_at hl 0 rfl) ?_
            refine gz_aald (v := Value.ref q41) (j := 3) hx hb hK Z 4 f_25 ht4 (by decide) (by decide) (by decide) (rfl) d_Le_requireReader_24 ?_
            refine gz_get (ci := 6) (v := Value.int rn41) (C := "CommitLedger$Reader") (T := F_Re) (N := 3) hx hb hts i_Re hown hK Z f_41 rfl 1 (by decide) kf_Le_292 rfl d_Le_requireReader_25 ?_
            refine lv_iload_n hx hb d_Le_requireReader_28 rfl (lv_at hl 2 rfl) ?_
            refine lv_icmp_ne (tgt := 39) hx hb d_Le_requireReader_29 (by decide) (fun c29_12 => ?_) (fun c29_12 => ?_)
            · refine lv_iinc (v := 4) (lv' := [(2, Value.int 4), (0, Value.ref q0), (1, Value.int p1)]) hx hb d_Le_requireReader_39 hl (k := 0) rfl (by decide) (by decide) rfl (fun ls hl => ?_)
              refine lv_goto (tgt := 2) hx hb d_Le_requireReader_42 (by decide) ?_
              refine lv_iload_n hx hb d_Le_requireReader_2 rfl (lv_at hl 0 rfl) ?_
              refine lv_iconst (v := 4) hx hb d_Le_requireReader_3 (by decide) ?_
              refine lv_icmp_ge (tgt := 45) hx hb d_Le_requireReader_4 (by decide) (fun _ => ?_) (fun c9 => absurd (by decide) c9)
              obtain ⟨ws9, hM9, hP9, hD9, hS9⟩ := Z
              exact gx_thrw (D := D) (cl := classes) (tys := tys) (ws := ws9) (i1 := 13) (b1 := prog_31_method_4_code) hx hb htr (hml.trans hl.1.symm) hown hts hne hlocks hP9 hK hD9 hS9 hA hN kk_Le_150 kX_NoSuchElementException kN_NoSuchElementException ks_Le_295 kT_Le_154 (by decide) (by decide +kernel) (by decide +kernel) (by decide +kernel) (by decide +kernel) d_Le_requireReader_45 d_Le_requireReader_48 d_Le_requireReader_49 d_Le_requireReader_52 d_Le_requireReader_55 (Nat.le_of_ble_eq_true rfl) (Nat.le_of_ble_eq_true rfl) (Nat.le_of_ble_eq_true rfl) (Nat.le_of_ble_eq_true rfl) (by decide) (by decide) ⟨h, hM9, by rw [← hPQ]; exact Or.inr (Or.inr (Or.inr (Or.inr (Or.inr (Or.inr (Or.inr (Or.inr (Or.inl ⟨rfl, rfl, c16_1, c16_2, c29_9, c16_10, c16_11, c29_12⟩))))))))⟩
            · refine lv_aload_n hx hb d_Le_requireReader_32 rfl (lv_at hl 1 rfl) ?_
              refine gz_get (ci := 0) (v := Value.ref q25) (C := "CommitLedger") (T := F_Le) (N := 18) hx hb hts i_Le hown hK Z f_0 rfl 4 (by decide) kf_Le_45 rfl d_Le_requireReader_33 ?_
              refine lv_iload_n hx hb d_Le_requireReader_36 rfl (lv_at hl 0 rfl) ?_
              refine gz_aald (v := Value.ref q41) (j := 3) hx hb hK Z 4 f_25 ht4 (by decide) (by decide) (by decide) (rfl) d_Le_requireReader_37 ?_
              obtain ⟨ws9, hM9, hP9, hD9, hS9⟩ := Z
              refine W.widen (k := 1) (n := 6) (by decide) (by decide) ?_
              exact gx_ret (W.aret (v := Value.ref q41) hx hb hr (Or.inl ⟨_, rfl⟩) (Or.inr ⟨_, rfl⟩) (gx_post hP9 hK hD9 hS9 ⟨h, hM9, by rw [← hPQ]; exact Or.inr (Or.inr (Or.inr (Or.inr (Or.inr (Or.inr (Or.inr (Or.inr (Or.inr (Or.inl ⟨rfl, rfl, c16_1, c16_2, c29_9, c16_10, c16_11, c29_12⟩)))))))))⟩) hS9.2.2 d_Le_requireReader_38)
        · refine lv_aload_n hx hb d_Le_requireReader_19 rfl (lv_at hl 1 rfl) ?_
          refine gz_get (ci := 0) (v := Value.ref q25) (C := "CommitLedger") (T := F_Le) (N := 18) hx hb hts i_Le hown hK Z f_0 rfl 4 (by decide) kf_Le_45 rfl d_Le_requireReader_20 ?_
          refine lv_iload_n hx hb d_Le_requireReader_23 rfl (lv_at hl 0 rfl) ?_
          refine gz_aald (v := Value.ref q36) (j := 2) hx hb hK Z 4 f_25 ht4 (by decide) (by decide) (by decide) (rfl) d_Le_requireReader_24 ?_
          refine gz_get (ci := 6) (v := Value.int rn36) (C := "CommitLedger$Reader") (T := F_Re) (N := 3) hx hb hts i_Re hown hK Z f_36 rfl 1 (by decide) kf_Le_292 rfl d_Le_requireReader_25 ?_
          refine lv_iload_n hx hb d_Le_requireReader_28 rfl (lv_at hl 2 rfl) ?_
          refine lv_icmp_ne (tgt := 39) hx hb d_Le_requireReader_29 (by decide) (fun c29_13 => ?_) (fun c29_13 => ?_)
          · refine lv_iinc (v := 3) (lv' := [(2, Value.int 3), (0, Value.ref q0), (1, Value.int p1)]) hx hb d_Le_requireReader_39 hl (k := 0) rfl (by decide) (by decide) rfl (fun ls hl => ?_)
            refine lv_goto (tgt := 2) hx hb d_Le_requireReader_42 (by decide) ?_
            refine lv_iload_n hx hb d_Le_requireReader_2 rfl (lv_at hl 0 rfl) ?_
            refine lv_iconst (v := 4) hx hb d_Le_requireReader_3 (by decide) ?_
            refine lv_icmp_ge (tgt := 45) hx hb d_Le_requireReader_4 (by decide) (fun c9 => absurd c9 (by decide)) (fun _ => ?_)
            refine lv_aload_n hx hb d_Le_requireReader_7 rfl (lv_at hl 1 rfl) ?_
            refine gz_get (ci := 0) (v := Value.ref q25) (C := "CommitLedger") (T := F_Le) (N := 18) hx hb hts i_Le hown hK Z f_0 rfl 4 (by decide) kf_Le_45 rfl d_Le_requireReader_8 ?_
            refine lv_iload_n hx hb d_Le_requireReader_11 rfl (lv_at hl 0 rfl) ?_
            refine gz_aald (v := Value.ref q41) (j := 3) hx hb hK Z 4 f_25 ht4 (by decide) (by decide) (by decide) (rfl) d_Le_requireReader_12 ?_
            refine gz_get (ci := 6) (v := Value.int ro41) (C := "CommitLedger$Reader") (T := F_Re) (N := 3) hx hb hts i_Re hown hK Z f_41 rfl 2 (by decide) kf_Le_230 rfl d_Le_requireReader_13 ?_
            refine lv_if_eq (tgt := 39) hx hb d_Le_requireReader_16 (by decide) (fun c16_14 => ?_) (fun c16_14 => ?_)
            · refine lv_iinc (v := 4) (lv' := [(2, Value.int 4), (0, Value.ref q0), (1, Value.int p1)]) hx hb d_Le_requireReader_39 hl (k := 0) rfl (by decide) (by decide) rfl (fun ls hl => ?_)
              refine lv_goto (tgt := 2) hx hb d_Le_requireReader_42 (by decide) ?_
              refine lv_iload_n hx hb d_Le_requireReader_2 rfl (lv_at hl 0 rfl) ?_
              refine lv_iconst (v := 4) hx hb d_Le_requireReader_3 (by decide) ?_
              refine lv_icmp_ge (tgt := 45) hx hb d_Le_requireReader_4 (by decide) (fun _ => ?_) (fun c9 => absurd (by decide) c9)
              obtain ⟨ws9, hM9, hP9, hD9, hS9⟩ := Z
              exact gx_thrw (D := D) (cl := classes) (tys := tys) (ws := ws9) (i1 := 13) (b1 := prog_31_method_4_code) hx hb htr (hml.trans hl.1.symm) hown hts hne hlocks hP9 hK hD9 hS9 hA hN kk_Le_150 kX_NoSuchElementException kN_NoSuchElementException ks_Le_295 kT_Le_154 (by decide) (by decide +kernel) (by decide +kernel) (by decide +kernel) (by decide +kernel) d_Le_requireReader_45 d_Le_requireReader_48 d_Le_requireReader_49 d_Le_requireReader_52 d_Le_requireReader_55 (Nat.le_of_ble_eq_true rfl) (Nat.le_of_ble_eq_true rfl) (Nat.le_of_ble_eq_true rfl) (Nat.le_of_ble_eq_true rfl) (by decide) (by decide) ⟨h, hM9, by rw [← hPQ]; exact Or.inr (Or.inr (Or.inr (Or.inr (Or.inr (Or.inr (Or.inr (Or.inr (Or.inr (Or.inr (Or.inl ⟨rfl, rfl, c16_1, c16_2, c29_9, c16_10, c29_13, c16_14⟩))))))))))⟩
            · refine lv_aload_n hx hb d_Le_requireReader_19 rfl (lv_at hl 1 rfl) ?_
              refine gz_get (ci := 0) (v := Value.ref q25) (C := "CommitLedger") (T := F_Le) (N := 18) hx hb hts i_Le hown hK Z f_0 rfl 4 (by decide) kf_Le_45 rfl d_Le_requireReader_20 ?_
              refine lv_iload_n hx hb d_Le_requireReader_23 rfl (lv_at hl 0 rfl) ?_
              refine gz_aald (v := Value.ref q41) (j := 3) hx hb hK Z 4 f_25 ht4 (by decide) (by decide) (by decide) (rfl) d_Le_requireReader_24 ?_
              refine gz_get (ci := 6) (v := Value.int rn41) (C := "CommitLedger$Reader") (T := F_Re) (N := 3) hx hb hts i_Re hown hK Z f_41 rfl 1 (by decide) kf_Le_292 rfl d_Le_requireReader_25 ?_
              refine lv_iload_n hx hb d_Le_requireReader_28 rfl (lv_at hl 2 rfl) ?_
              refine lv_icmp_ne (tgt := 39) hx hb d_Le_requireReader_29 (by decide) (fun c29_15 => ?_) (fun c29_15 => ?_)
              · refine lv_iinc (v := 4) (lv' := [(2, Value.int 4), (0, Value.ref q0), (1, Value.int p1)]) hx hb d_Le_requireReader_39 hl (k := 0) rfl (by decide) (by decide) rfl (fun ls hl => ?_)
                refine lv_goto (tgt := 2) hx hb d_Le_requireReader_42 (by decide) ?_
                refine lv_iload_n hx hb d_Le_requireReader_2 rfl (lv_at hl 0 rfl) ?_
                refine lv_iconst (v := 4) hx hb d_Le_requireReader_3 (by decide) ?_
                refine lv_icmp_ge (tgt := 45) hx hb d_Le_requireReader_4 (by decide) (fun _ => ?_) (fun c9 => absurd (by decide) c9)
                obtain ⟨ws9, hM9, hP9, hD9, hS9⟩ := Z
                exact gx_thrw (D := D) (cl := classes) (tys := tys) (ws := ws9) (i1 := 13) (b1 := prog_31_method_4_code) hx hb htr (hml.trans hl.1.symm) hown hts hne hlocks hP9 hK hD9 hS9 hA hN kk_Le_150 kX_NoSuchElementException kN_NoSuchElementException ks_Le_295 kT_Le_154 (by decide) (by decide +kernel) (by decide +kernel) (by decide +kernel) (by decide +kernel) d_Le_requireReader_45 d_Le_requireReader_48 d_Le_requireReader_49 d_Le_requireReader_52 d_Le_requireReader_55 (Nat.le_of_ble_eq_true rfl) (Nat.le_of_ble_eq_true rfl) (Nat.le_of_ble_eq_true rfl) (Nat.le_of_ble_eq_true rfl) (by decide) (by decide) ⟨h, hM9, by rw [← hPQ]; exact Or.inr (Or.inr (Or.inr (Or.inr (Or.inr (Or.inr (Or.inr (Or.inr (Or.inr (Or.inr (Or.inr (Or.inl ⟨rfl, rfl, c16_1, c16_2, c29_9, c16_10, c29_13, c16_14, c29_15⟩)))))))))))⟩
              · refine lv_aload_n hx hb d_Le_requireReader_32 rfl (lv_at hl 1 rfl) ?_
                refine gz_get (ci := 0) (v := Value.ref q25) (C := "CommitLedger") (T := F_Le) (N := 18) hx hb hts i_Le hown hK Z f_0 rfl 4 (by decide) kf_Le_45 rfl d_Le_requireReader_33 ?_
                refine lv_iload_n hx hb d_Le_requireReader_36 rfl (lv_at hl 0 rfl) ?_
                refine gz_aald (v := Value.ref q41) (j := 3) hx hb hK Z 4 f_25 ht4 (by decide) (by decide) (by decide) (rfl) d_Le_requireReader_37 ?_
                obtain ⟨ws9, hM9, hP9, hD9, hS9⟩ := Z
                refine W.widen (k := 1) (n := 6) (by decide) (by decide) ?_
                exact gx_ret (W.aret (v := Value.ref q41) hx hb hr (Or.inl ⟨_, rfl⟩) (Or.inr ⟨_, rfl⟩) (gx_post hP9 hK hD9 hS9 ⟨h, hM9, by rw [← hPQ]; exact Or.inr (Or.inr (Or.inr (Or.inr (Or.inr (Or.inr (Or.inr (Or.inr (Or.inr (Or.inr (Or.inr (Or.inr (Or.inl ⟨rfl, rfl, c16_1, c16_2, c29_9, c16_10, c29_13, c16_14, c29_15⟩))))))))))))⟩) hS9.2.2 d_Le_requireReader_38)
          · refine lv_aload_n hx hb d_Le_requireReader_32 rfl (lv_at hl 1 rfl) ?_
            refine gz_get (ci := 0) (v := Value.ref q25) (C := "CommitLedger") (T := F_Le) (N := 18) hx hb hts i_Le hown hK Z f_0 rfl 4 (by decide) kf_Le_45 rfl d_Le_requireReader_33 ?_
            refine lv_iload_n hx hb d_Le_requireReader_36 rfl (lv_at hl 0 rfl) ?_
            refine gz_aald (v := Value.ref q36) (j := 2) hx hb hK Z 4 f_25 ht4 (by decide) (by decide) (by decide) (rfl) d_Le_requireReader_37 ?_
            obtain ⟨ws9, hM9, hP9, hD9, hS9⟩ := Z
            refine W.widen (k := 1) (n := 6) (by decide) (by decide) ?_
            exact gx_ret (W.aret (v := Value.ref q36) hx hb hr (Or.inl ⟨_, rfl⟩) (Or.inr ⟨_, rfl⟩) (gx_post hP9 hK hD9 hS9 ⟨h, hM9, by rw [← hPQ]; exact Or.inr (Or.inr (Or.inr (Or.inr (Or.inr (Or.inr (Or.inr (Or.inr (Or.inr (Or.inr (Or.inr (Or.inr (Or.inr (Or.inl ⟨rfl, rfl, c16_1, c16_2, c29_9, c16_10, c29_13⟩)))))))))))))⟩) hS9.2.2 d_Le_requireReader_38)
      · refine lv_aload_n hx hb d_Le_requireReader_32 rfl (lv_at hl 1 rfl) ?_
        refine gz_get (ci := 0) (v := Value.ref q25) (C := "CommitLedger") (T := F_Le) (N := 18) hx hb hts i_Le hown hK Z f_0 rfl 4 (by decide) kf_Le_45 rfl d_Le_requireReader_33 ?_
        refine lv_iload_n hx hb d_Le_requireReader_36 rfl (lv_at hl 0 rfl) ?_
        refine gz_aald (v := Value.ref q31) (j := 1) hx hb hK Z 4 f_25 ht4 (by decide) (by decide) (by decide) (rfl) d_Le_requireReader_37 ?_
        obtain ⟨ws9, hM9, hP9, hD9, hS9⟩ := Z
        refine W.widen (k := 1) (n := 6) (by decide) (by decide) ?_
        exact gx_ret (W.aret (v := Value.ref q31) hx hb hr (Or.inl ⟨_, rfl⟩) (Or.inr ⟨_, rfl⟩) (gx_post hP9 hK hD9 hS9 ⟨h, hM9, by rw [← hPQ]; exact Or.inr (Or.inr (Or.inr (Or.inr (Or.inr (Or.inr (Or.inr (Or.inr (Or.inr (Or.inr (Or.inr (Or.inr (Or.inr (Or.inr (Or.inl ⟨rfl, rfl, c16_1, c16_2, c29_9⟩))))))))))))))⟩) hS9.2.2 d_Le_requireReader_38)
  · refine lv_aload_n hx hb d_Le_requireReader_19 rfl (lv_at hl 1 rfl) ?_
    refine gz_get (ci := 0) (v := Value.ref q25) (C := "CommitLedger") (T := F_Le) (N := 18) hx hb hts i_Le hown hK Z f_0 rfl 4 (by decide) kf_Le_45 rfl d_Le_requireReader_20 ?_
    refine lv_iload_n hx hb d_Le_requireReader_23 rfl (lv_at hl 0 rfl) ?_
    refine gz_aald (v := Value.ref q26) (j := 0) hx hb hK Z 4 f_25 ht4 (by decide) (by decide) (by decide) (rfl) d_Le_requireReader_24 ?_
    refine gz_get (ci := 6) (v := Value.int rn26) (C := "CommitLedger$Reader") (T := F_Re) (N := 3) hx hb hts i_Re hown hK Z f_26 rfl 1 (by decide) kf_Le_292 rfl d_Le_requireReader_25 ?_
    refine lv_iload_n hx hb d_Le_requireReader_28 rfl (lv_at hl 2 rfl) ?_
    refine lv_icmp_ne (tgt := 39) hx hb d_Le_requireReader_29 (by decide) (fun c29_16 => ?_) (fun c29_16 => ?_)
    · refine lv_iinc (v := 1) (lv' := [(2, Value.int 1), (0, Value.ref q0), (1, Value.int p1)]) hx hb d_Le_requireReader_39 hl (k := 0) rfl (by decide) (by decide) rfl (fun ls hl => ?_)
      refine lv_goto (tgt := 2) hx hb d_Le_requireReader_42 (by decide) ?_
      refine lv_iload_n hx hb d_Le_requireReader_2 rfl (lv_at hl 0 rfl) ?_
      refine lv_iconst (v := 4) hx hb d_Le_requireReader_3 (by decide) ?_
      refine lv_icmp_ge (tgt := 45) hx hb d_Le_requireReader_4 (by decide) (fun c9 => absurd c9 (by decide)) (fun _ => ?_)
      refine lv_aload_n hx hb d_Le_requireReader_7 rfl (lv_at hl 1 rfl) ?_
      refine gz_get (ci := 0) (v := Value.ref q25) (C := "CommitLedger") (T := F_Le) (N := 18) hx hb hts i_Le hown hK Z f_0 rfl 4 (by decide) kf_Le_45 rfl d_Le_requireReader_8 ?_
      refine lv_iload_n hx hb d_Le_requireReader_11 rfl (lv_at hl 0 rfl) ?_
      refine gz_aald (v := Value.ref q31) (j := 1) hx hb hK Z 4 f_25 ht4 (by decide) (by decide) (by decide) (rfl) d_Le_requireReader_12 ?_
      refine gz_get (ci := 6) (v := Value.int ro31) (C := "CommitLedger$Reader") (T := F_Re) (N := 3) hx hb hts i_Re hown hK Z f_31 rfl 2 (by decide) kf_Le_230 rfl d_Le_requireReader_13 ?_
      refine lv_if_eq (tgt := 39) hx hb d_Le_requireReader_16 (by decide) (fun c16_17 => ?_) (fun c16_17 => ?_)
      · refine lv_iinc (v := 2) (lv' := [(2, Value.int 2), (0, Value.ref q0), (1, Value.int p1)]) hx hb d_Le_requireReader_39 hl (k := 0) rfl (by decide) (by decide) rfl (fun ls hl => ?_)
        refine lv_goto (tgt := 2) hx hb d_Le_requireReader_42 (by decide) ?_
        refine lv_iload_n hx hb d_Le_requireReader_2 rfl (lv_at hl 0 rfl) ?_
        refine lv_iconst (v := 4) hx hb d_Le_requireReader_3 (by decide) ?_
        refine lv_icmp_ge (tgt := 45) hx hb d_Le_requireReader_4 (by decide) (fun c9 => absurd c9 (by decide)) (fun _ => ?_)
        refine lv_aload_n hx hb d_Le_requireReader_7 rfl (lv_at hl 1 rfl) ?_
        refine gz_get (ci := 0) (v := Value.ref q25) (C := "CommitLedger") (T := F_Le) (N := 18) hx hb hts i_Le hown hK Z f_0 rfl 4 (by decide) kf_Le_45 rfl d_Le_requireReader_8 ?_
        refine lv_iload_n hx hb d_Le_requireReader_11 rfl (lv_at hl 0 rfl) ?_
        refine gz_aald (v := Value.ref q36) (j := 2) hx hb hK Z 4 f_25 ht4 (by decide) (by decide) (by decide) (rfl) d_Le_requireReader_12 ?_
        refine gz_get (ci := 6) (v := Value.int ro36) (C := "CommitLedger$Reader") (T := F_Re) (N := 3) hx hb hts i_Re hown hK Z f_36 rfl 2 (by decide) kf_Le_230 rfl d_Le_requireReader_13 ?_
        refine lv_if_eq (tgt := 39) hx hb d_Le_requireReader_16 (by decide) (fun c16_18 => ?_) (fun c16_18 => ?_)
        · refine lv_iinc (v := 3) (lv' := [(2, Value.int 3), (0, Value.ref q0), (1, Value.int p1)]) hx hb d_Le_requireReader_39 hl (k := 0) rfl (by decide) (by decide) rfl (fun ls hl => ?_)
          refine lv_goto (tgt := 2) hx hb d_Le_requireReader_42 (by decide) ?_
          refine lv_iload_n hx hb d_Le_requireReader_2 rfl (lv_at hl 0 rfl) ?_
          refine lv_iconst (v := 4) hx hb d_Le_requireReader_3 (by decide) ?_
          refine lv_icmp_ge (tgt := 45) hx hb d_Le_requireReader_4 (by decide) (fun c9 => absurd c9 (by decide)) (fun _ => ?_)
          refine lv_aload_n hx hb d_Le_requireReader_7 rfl (lv_at hl 1 rfl) ?_
          refine gz_get (ci := 0) (v := Value.ref q25) (C := "CommitLedger") (T := F_Le) (N := 18) hx hb hts i_Le hown hK Z f_0 rfl 4 (by decide) kf_Le_45 rfl d_Le_requireReader_8 ?_
          refine lv_iload_n hx hb d_Le_requireReader_11 rfl (lv_at hl 0 rfl) ?_
          refine gz_aald (v := Value.ref q41) (j := 3) hx hb hK Z 4 f_25 ht4 (by decide) (by decide) (by decide) (rfl) d_Le_requireReader_12 ?_
          refine gz_get (ci := 6) (v := Value.int ro41) (C := "CommitLedger$Reader") (T := F_Re) (N := 3) hx hb hts i_Re hown hK Z f_41 rfl 2 (by decide) kf_Le_230 rfl d_Le_requireReader_13 ?_
          refine lv_if_eq (tgt := 39) hx hb d_Le_requireReader_16 (by decide) (fun c16_19 => ?_) (fun c16_19 => ?_)
          · refine lv_iinc (v := 4) (lv' := [(2, Value.int 4), (0, Value.ref q0), (1, Value.int p1)]) hx hb d_Le_requireReader_39 hl (k := 0) rfl (by decide) (by decide) rfl (fun ls hl => ?_)
            refine lv_goto (tgt := 2) hx hb d_Le_requireReader_42 (by decide) ?_
            refine lv_iload_n hx hb d_Le_requireReader_2 rfl (lv_at hl 0 rfl) ?_
            refine lv_iconst (v := 4) hx hb d_Le_requireReader_3 (by decide) ?_
            refine lv_icmp_ge (tgt := 45) hx hb d_Le_requireReader_4 (by decide) (fun _ => ?_) (fun c9 => absurd (by decide) c9)
            obtain ⟨ws9, hM9, hP9, hD9, hS9⟩ := Z
            exact gx_thrw (D := D) (cl := classes) (tys := tys) (ws := ws9) (i1 := 13) (b1 := prog_31_method_4_code) hx hb htr (hml.trans hl.1.symm) hown hts hne hlocks hP9 hK hD9 hS9 hA hN kk_Le_150 kX_NoSuchElementException kN_NoSuchElementException ks_Le_295 kT_Le_154 (by decide) (by decide +kernel) (by decide +kernel) (by decide +kernel) (by decide +kernel) d_Le_requireReader_45 d_Le_requireReader_48 d_Le_requireReader_49 d_Le_requireReader_52 d_Le_requireReader_55 (Nat.le_of_ble_eq_true rfl) (Nat.le_of_ble_eq_true rfl) (Nat.le_of_ble_eq_true rfl) (Nat.le_of_ble_eq_true rfl) (by decide) (by decide) ⟨h, hM9, by rw [← hPQ]; exact Or.inr (Or.inr (Or.inr (Or.inr (Or.inr (Or.inr (Or.inr (Or.inr (Or.inr (Or.inr (Or.inr (Or.inr (Or.inr (Or.inr (Or.inr (Or.inl ⟨rfl, rfl, c16_1, c29_16, c16_17, c16_18, c16_19⟩)))))))))))))))⟩
          · refine lv_aload_n hx hb d_Le_requireReader_19 rfl (lv_at hl 1 rfl) ?_
            refine gz_get (ci := 0) (v := Value.ref q25) (C := "CommitLedger") (T := F_Le) (N := 18) hx hb hts i_Le hown hK Z f_0 rfl 4 (by decide) kf_Le_45 rfl d_Le_requireReader_20 ?_
            refine lv_iload_n hx hb d_Le_requireReader_23 rfl (lv_at hl 0 rfl) ?_
            refine gz_aald (v := Value.ref q41) (j := 3) hx hb hK Z 4 f_25 ht4 (by decide) (by decide) (by decide) (rfl) d_Le_requireReader_24 ?_
            refine gz_get (ci := 6) (v := Value.int rn41) (C := "CommitLedger$Reader") (T := F_Re) (N := 3) hx hb hts i_Re hown hK Z f_41 rfl 1 (by decide) kf_Le_292 rfl d_Le_requireReader_25 ?_
            refine lv_iload_n hx hb d_Le_requireReader_28 rfl (lv_at hl 2 rfl) ?_
            refine lv_icmp_ne (tgt := 39) hx hb d_Le_requireReader_29 (by decide) (fun c29_20 => ?_) (fun c29_20 => ?_)
            · refine lv_iinc (v := 4) (lv' := [(2, Value.int 4), (0, Value.ref q0), (1, Value.int p1)]) hx hb d_Le_requireReader_39 hl (k := 0) rfl (by decide) (by decide) rfl (fun ls hl => ?_)
              refine lv_goto (tgt := 2) hx hb d_Le_requireReader_42 (by decide) ?_
              refine lv_iload_n hx hb d_Le_requireReader_2 rfl (lv_at hl 0 rfl) ?_
              refine lv_iconst (v := 4) hx hb d_Le_requireReader_3 (by decide) ?_
              refine lv_icmp_ge (tgt := 45) hx hb d_Le_requireReader_4 (by decide) (fun _ => ?_) (fun c9 => absurd (by decide) c9)
              obtain ⟨ws9, hM9, hP9, hD9, hS9⟩ := Z
              exact gx_thrw (D := D) (cl := classes) (tys := tys) (ws := ws9) (i1 := 13) (b1 := prog_31_method_4_code) hx hb htr (hml.trans hl.1.symm) hown hts hne hlocks hP9 hK hD9 hS9 hA hN kk_Le_150 kX_NoSuchElementException kN_NoSuchElementException ks_Le_295 kT_Le_154 (by decide) (by decide +kernel) (by decide +kernel) (by decide +kernel) (by decide +kernel) d_Le_requireReader_45 d_Le_requireReader_48 d_Le_requireReader_49 d_Le_requireReader_52 d_Le_requireReader_55 (Nat.le_of_ble_eq_true rfl) (Nat.le_of_ble_eq_true rfl) (Nat.le_of_ble_eq_true rfl) (Nat.le_of_ble_eq_true rfl) (by decide) (by decide) ⟨h, hM9, by rw [← hPQ]; exact Or.inr (Or.inr (Or.inr (Or.inr (Or.inr (Or.inr (Or.inr (Or.inr (Or.inr (Or.inr (Or.inr (Or.inr (Or.inr (Or.inr (Or.inr (Or.inr (Or.inl ⟨rfl, rfl, c16_1, c29_16, c16_17, c16_18, c16_19, c29_20⟩))))))))))))))))⟩
            · refine lv_aload_n hx hb d_Le_requireReader_32 rfl (lv_at hl 1 rfl) ?_
              refine gz_get (ci := 0) (v := Value.ref q25) (C := "CommitLedger") (T := F_Le) (N := 18) hx hb hts i_Le hown hK Z f_0 rfl 4 (by decide) kf_Le_45 rfl d_Le_requireReader_33 ?_
              refine lv_iload_n hx hb d_Le_requireReader_36 rfl (lv_at hl 0 rfl) ?_
              refine gz_aald (v := Value.ref q41) (j := 3) hx hb hK Z 4 f_25 ht4 (by decide) (by decide) (by decide) (rfl) d_Le_requireReader_37 ?_
              obtain ⟨ws9, hM9, hP9, hD9, hS9⟩ := Z
              refine W.widen (k := 1) (n := 6) (by decide) (by decide) ?_
              exact gx_ret (W.aret (v := Value.ref q41) hx hb hr (Or.inl ⟨_, rfl⟩) (Or.inr ⟨_, rfl⟩) (gx_post hP9 hK hD9 hS9 ⟨h, hM9, by rw [← hPQ]; exact Or.inr (Or.inr (Or.inr (Or.inr (Or.inr (Or.inr (Or.inr (Or.inr (Or.inr (Or.inr (Or.inr (Or.inr (Or.inr (Or.inr (Or.inr (Or.inr (Or.inr (Or.inl ⟨rfl, rfl, c16_1, c29_16, c16_17, c16_18, c16_19, c29_20⟩)))))))))))))))))⟩) hS9.2.2 d_Le_requireReader_38)
        · refine lv_aload_n hx hb d_Le_requireReader_19 rfl (lv_at hl 1 rfl) ?_
          refine gz_get (ci := 0) (v := Value.ref q25) (C := "CommitLedger") (T := F_Le) (N := 18) hx hb hts i_Le hown hK Z f_0 rfl 4 (by decide) kf_Le_45 rfl d_Le_requireReader_20 ?_
          refine lv_iload_n hx hb d_Le_requireReader_23 rfl (lv_at hl 0 rfl) ?_
          refine gz_aald (v := Value.ref q36) (j := 2) hx hb hK Z 4 f_25 ht4 (by decide) (by decide) (by decide) (rfl) d_Le_requireReader_24 ?_
          refine gz_get (ci := 6) (v := Value.int rn36) (C := "CommitLedger$Reader") (T := F_Re) (N := 3) hx hb hts i_Re hown hK Z f_36 rfl 1 (by decide) kf_Le_292 rfl d_Le_requireReader_25 ?_
          refine lv_iload_n hx hb d_Le_requireReader_28 rfl (lv_at hl 2 rfl) ?_
          refine lv_icmp_ne (tgt := 39) hx hb d_Le_requireReader_29 (by decide) (fun c29_21 => ?_) (fun c29_21 => ?_)
          · refine lv_iinc (v := 3) (lv' := [(2, Value.int 3), (0, Value.ref q0), (1, Value.int p1)]) hx hb d_Le_requireReader_39 hl (k := 0) rfl (by decide) (by decide) rfl (fun ls hl => ?_)
            refine lv_goto (tgt := 2) hx hb d_Le_requireReader_42 (by decide) ?_
            refine lv_iload_n hx hb d_Le_requireReader_2 rfl (lv_at hl 0 rfl) ?_
            refine lv_iconst (v := 4) hx hb d_Le_requireReader_3 (by decide) ?_
            refine lv_icmp_ge (tgt := 45) hx hb d_Le_requireReader_4 (by decide) (fun c9 => absurd c9 (by decide)) (fun _ => ?_)
            refine lv_aload_n hx hb d_Le_requireReader_7 rfl (lv_at hl 1 rfl) ?_
            refine gz_get (ci := 0) (v := Value.ref q25) (C := "CommitLedger") (T := F_Le) (N := 18) hx hb hts i_Le hown hK Z f_0 rfl 4 (by decide) kf_Le_45 rfl d_Le_requireReader_8 ?_
            refine lv_iload_n hx hb d_Le_requireReader_11 rfl (lv_at hl 0 rfl) ?_
            refine gz_aald (v := Value.ref q41) (j := 3) hx hb hK Z 4 f_25 ht4 (by decide) (by decide) (by decide) (rfl) d_Le_requireReader_12 ?_
            refine gz_get (ci := 6) (v := Value.int ro41) (C := "CommitLedger$Reader") (T := F_Re) (N := 3) hx hb hts i_Re hown hK Z f_41 rfl 2 (by decide) kf_Le_230 rfl d_Le_requireReader_13 ?_
            refine lv_if_eq (tgt := 39) hx hb d_Le_requireReader_16 (by decide) (fun c16_22 => ?_) (fun c16_22 => ?_)
            · refine lv_iinc (v := 4) (lv' := [(2, Value.int 4), (0, Value.ref q0), (1, Value.int p1)]) hx hb d_Le_requireReader_39 hl (k := 0) rfl (by decide) (by decide) rfl (fun ls hl => ?_)
              refine lv_goto (tgt := 2) hx hb d_Le_requireReader_42 (by decide) ?_
              refine lv_iload_n hx hb d_Le_requireReader_2 rfl (lv_at hl 0 rfl) ?_
              refine lv_iconst (v := 4) hx hb d_Le_requireReader_3 (by decide) ?_
              refine lv_icmp_ge (tgt := 45) hx hb d_Le_requireReader_4 (by decide) (fun _ => ?_) (fun c9 => absurd (by decide) c9)
              obtain ⟨ws9, hM9, hP9, hD9, hS9⟩ := Z
              exact gx_thrw (D := D) (cl := classes) (tys := tys) (ws := ws9) (i1 := 13) (b1 := prog_31_method_4_code) hx hb htr (hml.trans hl.1.symm) hown hts hne hlocks hP9 hK hD9 hS9 hA hN kk_Le_150 kX_NoSuchElementException kN_NoSuchElementException ks_Le_295 kT_Le_154 (by decide) (by decide +kernel) (by decide +kernel) (by decide +kernel) (by decide +kernel) d_Le_requireReader_45 d_Le_requireReader_48 d_Le_requireReader_49 d_Le_requireReader_52 d_Le_requireReader_55 (Nat.le_of_ble_eq_true rfl) (Nat.le_of_ble_eq_true rfl) (Nat.le_of_ble_eq_true rfl) (Nat.le_of_ble_eq_true rfl) (by decide) (by decide) ⟨h, hM9, by rw [← hPQ]; exact Or.inr (Or.inr (Or.inr (Or.inr (Or.inr (Or.inr (Or.inr (Or.inr (Or.inr (Or.inr (Or.inr (Or.inr (Or.inr (Or.inr (Or.inr (Or.inr (Or.inr (Or.inr (Or.inl ⟨rfl, rfl, c16_1, c29_16, c16_17, c16_18, c29_21, c16_22⟩))))))))))))))))))⟩
            · refine lv_aload_n hx hb d_Le_requireReader_19 rfl (lv_at hl 1 rfl) ?_
              refine gz_get (ci := 0) (v := Value.ref q25) (C := "CommitLedger") (T := F_Le) (N := 18) hx hb hts i_Le hown hK Z f_0 rfl 4 (by decide) kf_Le_45 rfl d_Le_requireReader_20 ?_
              refine lv_iload_n hx hb d_Le_requireReader_23 rfl (lv_at hl 0 rfl) ?_
              refine gz_aald (v := Value.ref q41) (j := 3) hx hb hK Z 4 f_25 ht4 (by decide) (by decide) (by decide) (rfl) d_Le_requireReader_24 ?_
              refine gz_get (ci := 6) (v := Value.int rn41) (C := "CommitLedger$Reader") (T := F_Re) (N := 3) hx hb hts i_Re hown hK Z f_41 rfl 1 (by decide) kf_Le_292 rfl d_Le_requireReader_25 ?_
              refine lv_iload_n hx hb d_Le_requireReader_28 rfl (lv_at hl 2 rfl) ?_
              refine lv_icmp_ne (tgt := 39) hx hb d_Le_requireReader_29 (by decide) (fun c29_23 => ?_) (fun c29_23 => ?_)
              · refine lv_iinc (v := 4) (lv' := [(2, Value.int 4), (0, Value.ref q0), (1, Value.int p1)]) hx hb d_Le_requireReader_39 hl (k := 0) rfl (by decide) (by decide) rfl (fun ls hl => ?_)
                refine lv_goto (tgt := 2) hx hb d_Le_requireReader_42 (by decide) ?_
                refine lv_iload_n hx hb d_Le_requireReader_2 rfl (lv_at hl 0 rfl) ?_
                refine lv_iconst (v := 4) hx hb d_Le_requireReader_3 (by decide) ?_
                refine lv_icmp_ge (tgt := 45) hx hb d_Le_requireReader_4 (by decide) (fun _ => ?_) (fun c9 => absurd (by decide) c9)
                obtain ⟨ws9, hM9, hP9, hD9, hS9⟩ := Z
                exact gx_thrw (D := D) (cl := classes) (tys := tys) (ws := ws9) (i1 := 13) (b1 := prog_31_method_4_code) hx hb htr (hml.trans hl.1.symm) hown hts hne hlocks hP9 hK hD9 hS9 hA hN kk_Le_150 kX_NoSuchElementException kN_NoSuchElementException ks_Le_295 kT_Le_154 (by decide) (by decide +kernel) (by decide +kernel) (by decide +kernel) (by decide +kernel) d_Le_requireReader_45 d_Le_requireReader_48 d_Le_requireReader_49 d_Le_requireReader_52 d_Le_requireReader_55 (Nat.le_of_ble_eq_true rfl) (Nat.le_of_ble_eq_true rfl) (Nat.le_of_ble_eq_true rfl) (Nat.le_of_ble_eq_true rfl) (by decide) (by decide) ⟨h, hM9, by rw [← hPQ]; exact Or.inr (Or.inr (Or.inr (Or.inr (Or.inr (Or.inr (Or.inr (Or.inr (Or.inr (Or.inr (Or.inr (Or.inr (Or.inr (Or.inr (Or.inr (Or.inr (Or.inr (Or.inr (Or.inr (Or.inl ⟨rfl, rfl, c16_1, c29_16, c16_17, c16_18, c29_21, c16_22, c29_23⟩)))))))))))))))))))⟩
              · refine lv_aload_n hx hb d_Le_requireReader_32 rfl (lv_at hl 1 rfl) ?_
                refine gz_get (ci := 0) (v := Value.ref q25) (C := "CommitLedger") (T := F_Le) (N := 18) hx hb hts i_Le hown hK Z f_0 rfl 4 (by decide) kf_Le_45 rfl d_Le_requireReader_33 ?_
                refine lv_iload_n hx hb d_Le_requireReader_36 rfl (lv_at hl 0 rfl) ?_
                refine gz_aald (v := Value.ref q41) (j := 3) hx hb hK Z 4 f_25 ht4 (by decide) (by decide) (by decide) (rfl) d_Le_requireReader_37 ?_
                obtain ⟨ws9, hM9, hP9, hD9, hS9⟩ := Z
                refine W.widen (k := 1) (n := 6) (by decide) (by decide) ?_
                exact gx_ret (W.aret (v := Value.ref q41) hx hb hr (Or.inl ⟨_, rfl⟩) (Or.inr ⟨_, rfl⟩) (gx_post hP9 hK hD9 hS9 ⟨h, hM9, by rw [← hPQ]; exact Or.inr (Or.inr (Or.inr (Or.inr (Or.inr (Or.inr (Or.inr (Or.inr (Or.inr (Or.inr (Or.inr (Or.inr (Or.inr (Or.inr (Or.inr (Or.inr (Or.inr (Or.inr (Or.inr (Or.inr (Or.inl ⟨rfl, rfl, c16_1, c29_16, c16_17, c16_18, c29_21, c16_22, c29_23⟩))))))))))))))))))))⟩) hS9.2.2 d_Le_requireReader_38)
          · refine lv_aload_n hx hb d_Le_requireReader_32 rfl (lv_at hl 1 rfl) ?_
            refine gz_get (ci := 0) (v := Value.ref q25) (C := "CommitLedger") (T := F_Le) (N := 18) hx hb hts i_Le hown hK Z f_0 rfl 4 (by decide) kf_Le_45 rfl d_Le_requireReader_33 ?_
            refine lv_iload_n hx hb d_Le_requireReader_36 rfl (lv_at hl 0 rfl) ?_
            refine gz_aald (v := Value.ref q36) (j := 2) hx hb hK Z 4 f_25 ht4 (by decide) (by decide) (by decide) (rfl) d_Le_requireReader_37 ?_
            obtain ⟨ws9, hM9, hP9, hD9, hS9⟩ := Z
            refine W.widen (k := 1) (n := 6) (by decide) (by decide) ?_
            exact gx_ret (W.aret (v := Value.ref q36) hx hb hr (Or.inl ⟨_, rfl⟩) (Or.inr ⟨_, rfl⟩) (gx_post hP9 hK hD9 hS9 ⟨h, hM9, by rw [← hPQ]; exact Or.inr (Or.inr (Or.inr (Or.inr (Or.inr (Or.inr (Or.inr (Or.inr (Or.inr (Or.inr (Or.inr (Or.inr (Or.inr (Or.inr (Or.inr (Or.inr (Or.inr (Or.inr (Or.inr (Or.inr (Or.inr (Or.inl ⟨rfl, rfl, c16_1, c29_16, c16_17, c16_18, c29_21⟩)))))))))))))))))))))⟩) hS9.2.2 d_Le_requireReader_38)
      · refine lv_aload_n hx hb d_Le_requireReader_19 rfl (lv_at hl 1 rfl) ?_
        refine gz_get (ci := 0) (v := Value.ref q25) (C := "CommitLedger") (T := F_Le) (N := 18) hx hb hts i_Le hown hK Z f_0 rfl 4 (by decide) kf_Le_45 rfl d_Le_requireReader_20 ?_
        refine lv_iload_n hx hb d_Le_requireReader_23 rfl (lv_at hl 0 rfl) ?_
        refine gz_aald (v := Value.ref q31) (j := 1) hx hb hK Z 4 f_25 ht4 (by decide) (by decide) (by decide) (rfl) d_Le_requireReader_24 ?_
        refine gz_get (ci := 6) (v := Value.int rn31) (C := "CommitLedger$Reader") (T := F_Re) (N := 3) hx hb hts i_Re hown hK Z f_31 rfl 1 (by decide) kf_Le_292 rfl d_Le_requireReader_25 ?_
        refine lv_iload_n hx hb d_Le_requireReader_28 rfl (lv_at hl 2 rfl) ?_
        refine lv_icmp_ne (tgt := 39) hx hb d_Le_requireReader_29 (by decide) (fun c29_24 => ?_) (fun c29_24 => ?_)
        · refine lv_iinc (v := 2) (lv' := [(2, Value.int 2), (0, Value.ref q0), (1, Value.int p1)]) hx hb d_Le_requireReader_39 hl (k := 0) rfl (by decide) (by decide) rfl (fun ls hl => ?_)
          refine lv_goto (tgt := 2) hx hb d_Le_requireReader_42 (by decide) ?_
          refine lv_iload_n hx hb d_Le_requireReader_2 rfl (lv_at hl 0 rfl) ?_
          refine lv_iconst (v := 4) hx hb d_Le_requireReader_3 (by decide) ?_
          refine lv_icmp_ge (tgt := 45) hx hb d_Le_requireReader_4 (by decide) (fun c9 => absurd c9 (by decide)) (fun _ => ?_)
          refine lv_aload_n hx hb d_Le_requireReader_7 rfl (lv_at hl 1 rfl) ?_
          refine gz_get (ci := 0) (v := Value.ref q25) (C := "CommitLedger") (T := F_Le) (N := 18) hx hb hts i_Le hown hK Z f_0 rfl 4 (by decide) kf_Le_45 rfl d_Le_requireReader_8 ?_
          refine lv_iload_n hx hb d_Le_requireReader_11 rfl (lv_at hl 0 rfl) ?_
          refine gz_aald (v := Value.ref q36) (j := 2) hx hb hK Z 4 f_25 ht4 (by decide) (by decide) (by decide) (rfl) d_Le_requireReader_12 ?_
          refine gz_get (ci := 6) (v := Value.int ro36) (C := "CommitLedger$Reader") (T := F_Re) (N := 3) hx hb hts i_Re hown hK Z f_36 rfl 2 (by decide) kf_Le_230 rfl d_Le_requireReader_13 ?_
          refine lv_if_eq (tgt := 39) hx hb d_Le_requireReader_16 (by decide) (fun c16_25 => ?_) (fun c16_25 => ?_)
          · refine lv_iinc (v := 3) (lv' := [(2, Value.int 3), (0, Value.ref q0), (1, Value.int p1)]) hx hb d_Le_requireReader_39 hl (k := 0) rfl (by decide) (by decide) rfl (fun ls hl => ?_)
            refine lv_goto (tgt := 2) hx hb d_Le_requireReader_42 (by decide) ?_
            refine lv_iload_n hx hb d_Le_requireReader_2 rfl (lv_at hl 0 rfl) ?_
            refine lv_iconst (v := 4) hx hb d_Le_requireReader_3 (by decide) ?_
            refine lv_icmp_ge (tgt := 45) hx hb d_Le_requireReader_4 (by decide) (fun c9 => absurd c9 (by decide)) (fun _ => ?_)
            refine lv_aload_n hx hb d_Le_requireReader_7 rfl (lv_at hl 1 rfl) ?_
            refine gz_get (ci := 0) (v := Value.ref q25) (C := "CommitLedger") (T := F_Le) (N := 18) hx hb hts i_Le hown hK Z f_0 rfl 4 (by decide) kf_Le_45 rfl d_Le_requireReader_8 ?_
            refine lv_iload_n hx hb d_Le_requireReader_11 rfl (lv_at hl 0 rfl) ?_
            refine gz_aald (v := Value.ref q41) (j := 3) hx hb hK Z 4 f_25 ht4 (by decide) (by decide) (by decide) (rfl) d_Le_requireReader_12 ?_
            refine gz_get (ci := 6) (v := Value.int ro41) (C := "CommitLedger$Reader") (T := F_Re) (N := 3) hx hb hts i_Re hown hK Z f_41 rfl 2 (by decide) kf_Le_230 rfl d_Le_requireReader_13 ?_
            refine lv_if_eq (tgt := 39) hx hb d_Le_requireReader_16 (by decide) (fun c16_26 => ?_) (fun c16_26 => ?_)
            · refine lv_iinc (v := 4) (lv' := [(2, Value.int 4), (0, Value.ref q0), (1, Value.int p1)]) hx hb d_Le_requireReader_39 hl (k := 0) rfl (by decide) (by decide) rfl (fun ls hl => ?_)
              refine lv_goto (tgt := 2) hx hb d_Le_requireReader_42 (by decide) ?_
              refine lv_iload_n hx hb d_Le_requireReader_2 rfl (lv_at hl 0 rfl) ?_
              refine lv_iconst (v := 4) hx hb d_Le_requireReader_3 (by decide) ?_
              refine lv_icmp_ge (tgt := 45) hx hb d_Le_requireReader_4 (by decide) (fun _ => ?_) (fun c9 => absurd (by decide) c9)
              obtain ⟨ws9, hM9, hP9, hD9, hS9⟩ := Z
              exact gx_thrw (D := D) (cl := classes) (tys := tys) (ws := ws9) (i1 := 13) (b1 := prog_31_method_4_code) hx hb htr (hml.trans hl.1.symm) hown hts hne hlocks hP9 hK hD9 hS9 hA hN kk_Le_150 kX_NoSuchElementException kN_NoSuchElementException ks_Le_295 kT_Le_154 (by decide) (by decide +kernel) (by decide +kernel) (by decide +kernel) (by decide +kernel) d_Le_requireReader_45 d_Le_requireReader_48 d_Le_requireReader_49 d_Le_requireReader_52 d_Le_requireReader_55 (Nat.le_of_ble_eq_true rfl) (Nat.le_of_ble_eq_true rfl) (Nat.le_of_ble_eq_true rfl) (Nat.le_of_ble_eq_true rfl) (by decide) (by decide) ⟨h, hM9, by rw [← hPQ]; exact Or.inr (Or.inr (Or.inr (Or.inr (Or.inr (Or.inr (Or.inr (Or.inr (Or.inr (Or.inr (Or.inr (Or.inr (Or.inr (Or.inr (Or.inr (Or.inr (Or.inr (Or.inr (Or.inr (Or.inr (Or.inr (Or.inr (Or.inl ⟨rfl, rfl, c16_1, c29_16, c16_17, c29_24, c16_25, c16_26⟩))))))))))))))))))))))⟩
            · refine lv_aload_n hx hb d_Le_requireReader_19 rfl (lv_at hl 1 rfl) ?_
              refine gz_get (ci := 0) (v := Value.ref q25) (C := "CommitLedger") (T := F_Le) (N := 18) hx hb hts i_Le hown hK Z f_0 rfl 4 (by decide) kf_Le_45 rfl d_Le_requireReader_20 ?_
              refine lv_iload_n hx hb d_Le_requireReader_23 rfl (lv_at hl 0 rfl) ?_
              refine gz_aald (v := Value.ref q41) (j := 3) hx hb hK Z 4 f_25 ht4 (by decide) (by decide) (by decide) (rfl) d_Le_requireReader_24 ?_
              refine gz_get (ci := 6) (v := Value.int rn41) (C := "CommitLedger$Reader") (T := F_Re) (N := 3) hx hb hts i_Re hown hK Z f_41 rfl 1 (by decide) kf_Le_292 rfl d_Le_requireReader_25 ?_
              refine lv_iload_n hx hb d_Le_requireReader_28 rfl (lv_at hl 2 rfl) ?_
              refine lv_icmp_ne (tgt := 39) hx hb d_Le_requireReader_29 (by decide) (fun c29_27 => ?_) (fun c29_27 => ?_)
              · refine lv_iinc (v := 4) (lv' := [(2, Value.int 4), (0, Value.ref q0), (1, Value.int p1)]) hx hb d_Le_requireReader_39 hl (k := 0) rfl (by decide) (by decide) rfl (fun ls hl => ?_)
                refine lv_goto (tgt := 2) hx hb d_Le_requireReader_42 (by decide) ?_
                refine lv_iload_n hx hb d_Le_requireReader_2 rfl (lv_at hl 0 rfl) ?_
                refine lv_iconst (v := 4) hx hb d_Le_requireReader_3 (by decide) ?_
                refine lv_icmp_ge (tgt := 45) hx hb d_Le_requireReader_4 (by decide) (fun _ => ?_) (fun c9 => absurd (by decide) c9)
                obtain ⟨ws9, hM9, hP9, hD9, hS9⟩ := Z
                exact gx_thrw (D := D) (cl := classes) (tys := tys) (ws := ws9) (i1 := 13) (b1 := prog_31_method_4_code) hx hb htr (hml.trans hl.1.symm) hown hts hne hlocks hP9 hK hD9 hS9 hA hN kk_Le_150 kX_NoSuchElementException kN_NoSuchElementException ks_Le_295 kT_Le_154 (by decide) (by decide +kernel) (by decide +kernel) (by decide +kernel) (by decide +kernel) d_Le_requireReader_45 d_Le_requireReader_48 d_Le_requireReader_49 d_Le_requireReader_52 d_Le_requireReader_55 (Nat.le_of_ble_eq_true rfl) (Nat.le_of_ble_eq_true rfl) (Nat.le_of_ble_eq_true rfl) (Nat.le_of_ble_eq_true rfl) (by decide) (by decide) ⟨h, hM9, by rw [← hPQ]; exact Or.inr (Or.inr (Or.inr (Or.inr (Or.inr (Or.inr (Or.inr (Or.inr (Or.inr (Or.inr (Or.inr (Or.inr (Or.inr (Or.inr (Or.inr (Or.inr (Or.inr (Or.inr (Or.inr (Or.inr (Or.inr (Or.inr (Or.inr (Or.inl ⟨rfl, rfl, c16_1, c29_16, c16_17, c29_24, c16_25, c16_26, c29_27⟩)))))))))))))))))))))))⟩
              · refine lv_aload_n hx hb d_Le_requireReader_32 rfl (lv_at hl 1 rfl) ?_
                refine gz_get (ci := 0) (v := Value.ref q25) (C := "CommitLedger") (T := F_Le) (N := 18) hx hb hts i_Le hown hK Z f_0 rfl 4 (by decide) kf_Le_45 rfl d_Le_requireReader_33 ?_
                refine lv_iload_n hx hb d_Le_requireReader_36 rfl (lv_at hl 0 rfl) ?_
                refine gz_aald (v := Value.ref q41) (j := 3) hx hb hK Z 4 f_25 ht4 (by decide) (by decide) (by decide) (rfl) d_Le_requireReader_37 ?_
                obtain ⟨ws9, hM9, hP9, hD9, hS9⟩ := Z
                refine W.widen (k := 1) (n := 6) (by decide) (by decide) ?_
                exact gx_ret (W.aret (v := Value.ref q41) hx hb hr (Or.inl ⟨_, rfl⟩) (Or.inr ⟨_, rfl⟩) (gx_post hP9 hK hD9 hS9 ⟨h, hM9, by rw [← hPQ]; exact Or.inr (Or.inr (Or.inr (Or.inr (Or.inr (Or.inr (Or.inr (Or.inr (Or.inr (Or.inr (Or.inr (Or.inr (Or.inr (Or.inr (Or.inr (Or.inr (Or.inr (Or.inr (Or.inr (Or.inr (Or.inr (Or.inr (Or.inr (Or.inr (Or.inl ⟨rfl, rfl, c16_1, c29_16, c16_17, c29_24, c16_25, c16_26, c29_27⟩))))))))))))))))))))))))⟩) hS9.2.2 d_Le_requireReader_38)
          · refine lv_aload_n hx hb d_Le_requireReader_19 rfl (lv_at hl 1 rfl) ?_
            refine gz_get (ci := 0) (v := Value.ref q25) (C := "CommitLedger") (T := F_Le) (N := 18) hx hb hts i_Le hown hK Z f_0 rfl 4 (by decide) kf_Le_45 rfl d_Le_requireReader_20 ?_
            refine lv_iload_n hx hb d_Le_requireReader_23 rfl (lv_at hl 0 rfl) ?_
            refine gz_aald (v := Value.ref q36) (j := 2) hx hb hK Z 4 f_25 ht4 (by decide) (by decide) (by decide) (rfl) d_Le_requireReader_24 ?_
            refine gz_get (ci := 6) (v := Value.int rn36) (C := "CommitLedger$Reader") (T := F_Re) (N := 3) hx hb hts i_Re hown hK Z f_36 rfl 1 (by decide) kf_Le_292 rfl d_Le_requireReader_25 ?_
            refine lv_iload_n hx hb d_Le_requireReader_28 rfl (lv_at hl 2 rfl) ?_
            refine lv_icmp_ne (tgt := 39) hx hb d_Le_requireReader_29 (by decide) (fun c29_28 => ?_) (fun c29_28 => ?_)
            · refine lv_iinc (v := 3) (lv' := [(2, Value.int 3), (0, Value.ref q0), (1, Value.int p1)]) hx hb d_Le_requireReader_39 hl (k := 0) rfl (by decide) (by decide) rfl (fun ls hl => ?_)
              refine lv_goto (tgt := 2) hx hb d_Le_requireReader_42 (by decide) ?_
              refine lv_iload_n hx hb d_Le_requireReader_2 rfl (lv_at hl 0 rfl) ?_
              refine lv_iconst (v := 4) hx hb d_Le_requireReader_3 (by decide) ?_
              refine lv_icmp_ge (tgt := 45) hx hb d_Le_requireReader_4 (by decide) (fun c9 => absurd c9 (by decide)) (fun _ => ?_)
              refine lv_aload_n hx hb d_Le_requireReader_7 rfl (lv_at hl 1 rfl) ?_
              refine gz_get (ci := 0) (v := Value.ref q25) (C := "CommitLedger") (T := F_Le) (N := 18) hx hb hts i_Le hown hK Z f_0 rfl 4 (by decide) kf_Le_45 rfl d_Le_requireReader_8 ?_
              refine lv_iload_n hx hb d_Le_requireReader_11 rfl (lv_at hl 0 rfl) ?_
              refine gz_aald (v := Value.ref q41) (j := 3) hx hb hK Z 4 f_25 ht4 (by decide) (by decide) (by decide) (rfl) d_Le_requireReader_12 ?_
              refine gz_get (ci := 6) (v := Value.int ro41) (C := "CommitLedger$Reader") (T := F_Re) (N := 3) hx hb hts i_Re hown hK Z f_41 rfl 2 (by decide) kf_Le_230 rfl d_Le_requireReader_13 ?_
              refine lv_if_eq (tgt := 39) hx hb d_Le_requireReader_16 (by decide) (fun c16_29 => ?_) (fun c16_29 => ?_)
              · refine lv_iinc (v := 4) (lv' := [(2, Value.int 4), (0, Value.ref q0), (1, Value.int p1)]) hx hb d_Le_requireReader_39 hl (k := 0) rfl (by decide) (by decide) rfl (fun ls hl => ?_)
                refine lv_goto (tgt := 2) hx hb d_Le_requireReader_42 (by decide) ?_
                refine lv_iload_n hx hb d_Le_requireReader_2 rfl (lv_at hl 0 rfl) ?_
                refine lv_iconst (v := 4) hx hb d_Le_requireReader_3 (by decide) ?_
                refine lv_icmp_ge (tgt := 45) hx hb d_Le_requireReader_4 (by decide) (fun _ => ?_) (fun c9 => absurd (by decide) c9)
                obtain ⟨ws9, hM9, hP9, hD9, hS9⟩ := Z
                exact gx_thrw (D := D) (cl := classes) (tys := tys) (ws := ws9) (i1 := 13) (b1 := prog_31_method_4_code) hx hb htr (hml.trans hl.1.symm) hown hts hne hlocks hP9 hK hD9 hS9 hA hN kk_Le_150 kX_NoSuchElementException kN_NoSuchElementException ks_Le_295 kT_Le_154 (by decide) (by decide +kernel) (by decide +kernel) (by decide +kernel) (by decide +kernel) d_Le_requireReader_45 d_Le_requireReader_48 d_Le_requireReader_49 d_Le_requireReader_52 d_Le_requireReader_55 (Nat.le_of_ble_eq_true rfl) (Nat.le_of_ble_eq_true rfl) (Nat.le_of_ble_eq_true rfl) (Nat.le_of_ble_eq_true rfl) (by decide) (by decide) ⟨h, hM9, by rw [← hPQ]; exact Or.inr (Or.inr (Or.inr (Or.inr (Or.inr (Or.inr (Or.inr (Or.inr (Or.inr (Or.inr (Or.inr (Or.inr (Or.inr (Or.inr (Or.inr (Or.inr (Or.inr (Or.inr (Or.inr (Or.inr (Or.inr (Or.inr (Or.inr (Or.inr (Or.inr (Or.inl ⟨rfl, rfl, c16_1, c29_16, c16_17, c29_24, c16_25, c29_28, c16_29⟩)))))))))))))))))))))))))⟩
              · refine lv_aload_n hx hb d_Le_requireReader_19 rfl (lv_at hl 1 rfl) ?_
                refine gz_get (ci := 0) (v := Value.ref q25) (C := "CommitLedger") (T := F_Le) (N := 18) hx hb hts i_Le hown hK Z f_0 rfl 4 (by decide) kf_Le_45 rfl d_Le_requireReader_20 ?_
                refine lv_iload_n hx hb d_Le_requireReader_23 rfl (lv_at hl 0 rfl) ?_
                refine gz_aald (v := Value.ref q41) (j := 3) hx hb hK Z 4 f_25 ht4 (by decide) (by decide) (by decide) (rfl) d_Le_requireReader_24 ?_
                refine gz_get (ci := 6) (v := Value.int rn41) (C := "CommitLedger$Reader") (T := F_Re) (N := 3) hx hb hts i_Re hown hK Z f_41 rfl 1 (by decide) kf_Le_292 rfl d_Le_requireReader_25 ?_
                refine lv_iload_n hx hb d_Le_requireReader_28 rfl (lv_at hl 2 rfl) ?_
                refine lv_icmp_ne (tgt := 39) hx hb d_Le_requireReader_29 (by decide) (fun c29_30 => ?_) (fun c29_30 => ?_)
                · refine lv_iinc (v := 4) (lv' := [(2, Value.int 4), (0, Value.ref q0), (1, Value.int p1)]) hx hb d_Le_requireReader_39 hl (k := 0) rfl (by decide) (by decide) rfl (fun ls hl => ?_)
                  refine lv_goto (tgt := 2) hx hb d_Le_requireReader_42 (by decide) ?_
                  refine lv_iload_n hx hb d_Le_requireReader_2 rfl (lv_at hl 0 rfl) ?_
                  refine lv_iconst (v := 4) hx hb d_Le_requireReader_3 (by decide) ?_
                  refine lv_icmp_ge (tgt := 45) hx hb d_Le_requireReader_4 (by decide) (fun _ => ?_) (fun c9 => absurd (by decide) c9)
                  obtain ⟨ws9, hM9, hP9, hD9, hS9⟩ := Z
                  exact gx_thrw (D := D) (cl := classes) (tys := tys) (ws := ws9) (i1 := 13) (b1 := prog_31_method_4_code) hx hb htr (hml.trans hl.1.symm) hown hts hne hlocks hP9 hK hD9 hS9 hA hN kk_Le_150 kX_NoSuchElementException kN_NoSuchElementException ks_Le_295 kT_Le_154 (by decide) (by decide +kernel) (by decide +kernel) (by decide +kernel) (by decide +kernel) d_Le_requireReader_45 d_Le_requireReader_48 d_Le_requireReader_49 d_Le_requireReader_52 d_Le_requireReader_55 (Nat.le_of_ble_eq_true rfl) (Nat.le_of_ble_eq_true rfl) (Nat.le_of_ble_eq_true rfl) (Nat.le_of_ble_eq_true rfl) (by decide) (by decide) ⟨h, hM9, by rw [← hPQ]; exact Or.inr (Or.inr (Or.inr (Or.inr (Or.inr (Or.inr (Or.inr (Or.inr (Or.inr (Or.inr (Or.inr (Or.inr (Or.inr (Or.inr (Or.inr (Or.inr (Or.inr (Or.inr (Or.inr (Or.inr (Or.inr (Or.inr (Or.inr (Or.inr (Or.inr (Or.inr (Or.inl ⟨rfl, rfl, c16_1, c29_16, c16_17, c29_24, c16_25, c29_28, c16_29, c29_30⟩))))))))))))))))))))))))))⟩
                · refine lv_aload_n hx hb d_Le_requireReader_32 rfl (lv_at hl 1 rfl) ?_
                  refine gz_get (ci := 0) (v := Value.ref q25) (C := "CommitLedger") (T := F_Le) (N := 18) hx hb hts i_Le hown hK Z f_0 rfl 4 (by decide) kf_Le_45 rfl d_Le_requireReader_33 ?_
                  refine lv_iload_n hx hb d_Le_requireReader_36 rfl (lv_at hl 0 rfl) ?_
                  refine gz_aald (v := Value.ref q41) (j := 3) hx hb hK Z 4 f_25 ht4 (by decide) (by decide) (by decide) (rfl) d_Le_requireReader_37 ?_
                  obtain ⟨ws9, hM9, hP9, hD9, hS9⟩ := Z
                  refine W.widen (k := 1) (n := 6) (by decide) (by decide) ?_
                  exact gx_ret (W.aret (v := Value.ref q41) hx hb hr (Or.inl ⟨_, rfl⟩) (Or.inr ⟨_, rfl⟩) (gx_post hP9 hK hD9 hS9 ⟨h, hM9, by rw [← hPQ]; exact Or.inr (Or.inr (Or.inr (Or.inr (Or.inr (Or.inr (Or.inr (Or.inr (Or.inr (Or.inr (Or.inr (Or.inr (Or.inr (Or.inr (Or.inr (Or.inr (Or.inr (Or.inr (Or.inr (Or.inr (Or.inr (Or.inr (Or.inr (Or.inr (Or.inr (Or.inr (Or.inr (Or.inl ⟨rfl, rfl, c16_1, c29_16, c16_17, c29_24, c16_25, c29_28, c16_29, c29_30⟩)))))))))))))))))))))))))))⟩) hS9.2.2 d_Le_requireReader_38)
            · refine lv_aload_n hx hb d_Le_requireReader_32 rfl (lv_at hl 1 rfl) ?_
              refine gz_get (ci := 0) (v := Value.ref q25) (C := "CommitLedger") (T := F_Le) (N := 18) hx hb hts i_Le hown hK Z f_0 rfl 4 (by decide) kf_Le_45 rfl d_Le_requireReader_33 ?_
              refine lv_iload_n hx hb d_Le_requireReader_36 rfl (lv_at hl 0 rfl) ?_
              refine gz_aald (v := Value.ref q36) (j := 2) hx hb hK Z 4 f_25 ht4 (by decide) (by decide) (by decide) (rfl) d_Le_requireReader_37 ?_
              obtain ⟨ws9, hM9, hP9, hD9, hS9⟩ := Z
              refine W.widen (k := 1) (n := 6) (by decide) (by decide) ?_
              exact gx_ret (W.aret (v := Value.ref q36) hx hb hr (Or.inl ⟨_, rfl⟩) (Or.inr ⟨_, rfl⟩) (gx_post hP9 hK hD9 hS9 ⟨h, hM9, by rw [← hPQ]; exact Or.inr (Or.inr (Or.inr (Or.inr (Or.inr (Or.inr (Or.inr (Or.inr (Or.inr (Or.inr (Or.inr (Or.inr (Or.inr (Or.inr (Or.inr (Or.inr (Or.inr (Or.inr (Or.inr (Or.inr (Or.inr (Or.inr (Or.inr (Or.inr (Or.inr (Or.inr (Or.inr (Or.inr (Or.inl ⟨rfl, rfl, c16_1, c29_16, c16_17, c29_24, c16_25, c29_28⟩))))))))))))))))))))))))))))⟩) hS9.2.2 d_Le_requireReader_38)
        · refine lv_aload_n hx hb d_Le_requireReader_32 rfl (lv_at hl 1 rfl) ?_
          refine gz_get (ci := 0) (v := Value.ref q25) (C := "CommitLedger") (T := F_Le) (N := 18) hx hb hts i_Le hown hK Z f_0 rfl 4 (by decide) kf_Le_45 rfl d_Le_requireReader_33 ?_
          refine lv_iload_n hx hb d_Le_requireReader_36 rfl (lv_at hl 0 rfl) ?_
          refine gz_aald (v := Value.ref q31) (j := 1) hx hb hK Z 4 f_25 ht4 (by decide) (by decide) (by decide) (rfl) d_Le_requireReader_37 ?_
          obtain ⟨ws9, hM9, hP9, hD9, hS9⟩ := Z
          refine W.widen (k := 1) (n := 6) (by decide) (by decide) ?_
          exact gx_ret (W.aret (v := Value.ref q31) hx hb hr (Or.inl ⟨_, rfl⟩) (Or.inr ⟨_, rfl⟩) (gx_post hP9 hK hD9 hS9 ⟨h, hM9, by rw [← hPQ]; exact Or.inr (Or.inr (Or.inr (Or.inr (Or.inr (Or.inr (Or.inr (Or.inr (Or.inr (Or.inr (Or.inr (Or.inr (Or.inr (Or.inr (Or.inr (Or.inr (Or.inr (Or.inr (Or.inr (Or.inr (Or.inr (Or.inr (Or.inr (Or.inr (Or.inr (Or.inr (Or.inr (Or.inr (Or.inr (Or.inl ⟨rfl, rfl, c16_1, c29_16, c16_17, c29_24⟩)))))))))))))))))))))))))))))⟩) hS9.2.2 d_Le_requireReader_38)
    · refine lv_aload_n hx hb d_Le_requireReader_32 rfl (lv_at hl 1 rfl) ?_
      refine gz_get (ci := 0) (v := Value.ref q25) (C := "CommitLedger") (T := F_Le) (N := 18) hx hb hts i_Le hown hK Z f_0 rfl 4 (by decide) kf_Le_45 rfl d_Le_requireReader_33 ?_
      refine lv_iload_n hx hb d_Le_requireReader_36 rfl (lv_at hl 0 rfl) ?_
      refine gz_aald (v := Value.ref q26) (j := 0) hx hb hK Z 4 f_25 ht4 (by decide) (by decide) (by decide) (rfl) d_Le_requireReader_37 ?_
      obtain ⟨ws9, hM9, hP9, hD9, hS9⟩ := Z
      refine W.widen (k := 1) (n := 6) (by decide) (by decide) ?_
      exact gx_ret (W.aret (v := Value.ref q26) hx hb hr (Or.inl ⟨_, rfl⟩) (Or.inr ⟨_, rfl⟩) (gx_post hP9 hK hD9 hS9 ⟨h, hM9, by rw [← hPQ]; exact Or.inr (Or.inr (Or.inr (Or.inr (Or.inr (Or.inr (Or.inr (Or.inr (Or.inr (Or.inr (Or.inr (Or.inr (Or.inr (Or.inr (Or.inr (Or.inr (Or.inr (Or.inr (Or.inr (Or.inr (Or.inr (Or.inr (Or.inr (Or.inr (Or.inr (Or.inr (Or.inr (Or.inr (Or.inr (Or.inr (⟨rfl, rfl, c16_1, c29_16⟩))))))))))))))))))))))))))))))⟩) hS9.2.2 d_Le_requireReader_38)

set_option maxHeartbeats 4000000 in
set_option maxRecDepth 100000 in
theorem k_Le_closedReader (l : Launch) (htr : l.stackTraces = false) (D : va_G) (tys : List (ClassId × FieldType)) (z sz : Nat) (ws : va_W) (h : gm_M) (hM : gm_S h ws) (cR : ClassId) (q0 : Nat) (q1 : Nat) (q5 : Nat) (q8 : Nat) (q20 : Nat) (q25 : Nat) (ec : Value) (ep : Value) (l7 : Int32) (l8 : Int32) (l9 : Int32) (l10 : Int32) (l11 : Int32) (l12 : Int32) (l13 : Int32) (l14 : Int32) (l15 : Int32) (l16 : Int32) (l17 : Int32) (q26 : Nat) (q27 : Nat) (q31 : Nat) (q32 : Nat) (q36 : Nat) (q37 : Nat) (q41 : Nat) (q42 : Nat) (rn26 : Int32) (ro26 : Int32) (rn31 : Int32) (ro31 : Int32) (rn36 : Int32) (ro36 : Int32) (rn41 : Int32) (ro41 : Int32) (f_0 : h 0 = some ((q0, Sum.inr (0, [Value.ref q1, Value.ref q5, Value.ref q8, Value.ref q20, Value.ref q25, ec, ep, Value.int l7, Value.int l8, Value.int l9, Value.int l10, Value.int l11, Value.int l12, Value.int l13, Value.int l14, Value.int l15, Value.int l16, Value.int l17])) : Nat × va_E)) (f_25 : h 25 = some ((q25, Sum.inl (cR, 4, Sum.inr (Sum.inr (Sum.inr (Sum.inr (va_up (va_up (va_up (va_up (fun _ => none) 0 (some q26)) 1 (some q31)) 2 (some q36)) 3 (some q41))))))) : Nat × va_E)) (f_26 : h 26 = some ((q26, Sum.inr (6, [Value.ref q27, Value.int rn26, Value.int ro26])) : Nat × va_E)) (f_31 : h 31 = some ((q31, Sum.inr (6, [Value.ref q32, Value.int rn31, Value.int ro31])) : Nat × va_E)) (f_36 : h 36 = some ((q36, Sum.inr (6, [Value.ref q37, Value.int rn36, Value.int ro36])) : Nat × va_E)) (f_41 : h 41 = some ((q41, Sum.inr (6, [Value.ref q42, Value.int rn41, Value.int ro41])) : Nat × va_E)) (ht4 : tys[4]? = some ((cR, FieldType.object "CommitLedger$Reader") : ClassId × FieldType)) : gx_Met l y_Le_closedReader [Cond.code y_Le_closedReader b_Le_closedReader 2 (some (.object "CommitLedger$Reader"))] { frames := 1, cells := 0, slots := 0, locals := 12 } (gx_P z sz D classes tys ws [Value.ref q0]) (gx_Q D classes tys (va_A ws sz) (gm_p (fun r h' => (r = Sum.inl (some (Value.null)) ∧ h' = h ∧ (¬ ro26 = 0) ∧ (¬ ro31 = 0) ∧ (¬ ro36 = 0) ∧ (¬ ro41 = 0)) ∨ (r = Sum.inl (some (Value.ref q41)) ∧ h' = h ∧ (¬ ro26 = 0) ∧ (¬ ro31 = 0) ∧ (¬ ro36 = 0) ∧ (ro41 = 0)) ∨ (r = Sum.inl (some (Value.ref q36)) ∧ h' = h ∧ (¬ ro26 = 0) ∧ (¬ ro31 = 0) ∧ (ro36 = 0)) ∨ (r = Sum.inl (some (Value.ref q31)) ∧ h' = h ∧ (¬ ro26 = 0) ∧ (ro31 = 0)) ∨ (r = Sum.inl (some (Value.ref q26)) ∧ h' = h ∧ (ro26 = 0))))) 0 0 (va_A ws sz) := by
  refine gx_ofW (cc := b_Le_closedReader) (maxL := 2) (ret := (some (.object "CommitLedger$Reader"))) (by decide) rfl ?_
  intro p e s m args below meth c s₁ B hml hv
  obtain ⟨rfl, hsz, hz, hP, hK, hD0, hY⟩ := hv
  have hx := B.exec
  have hb := B.bytes
  have hr := B.returns
  have hts := hY.hts (#[Value.ref q0] : Array Value)
  have hown : s.vm.findClass "CommitLedger" = some m.cls := findClass_of_methodNamed B.named
  have hlocks := B.notSynchronized
  have hne : c.exceptionTable.isEmpty = true := B.noHandlers (atoms_spec (ws := [Cond.code y_Le_closedReader b_Le_closedReader 2 (some (.object "CommitLedger$Reader"))]) B.pre _ List.mem_cons_self)
  subst hsz
  have hAz := gx_az hD0 hz
  have hD := hD0.self (sz := s.heap.size)
  have hN := gx_ns hP
  have hA : ∀ q : Nat, s.heap.size ≤ q → va_A ws s.heap.size q := fun q h => Or.inr h
  generalize va_A ws s.heap.size = A at hD hN hA hAz ⊢
  generalize hPQ : (fun (r : Option Value ⊕ String) (h' : gm_M) => (r = Sum.inl (some (Value.null)) ∧ h' = h ∧ (¬ ro26 = 0) ∧ (¬ ro31 = 0) ∧ (¬ ro36 = 0) ∧ (¬ ro41 = 0)) ∨ (r = Sum.inl (some (Value.ref q41)) ∧ h' = h ∧ (¬ ro26 = 0) ∧ (¬ ro31 = 0) ∧ (¬ ro36 = 0) ∧ (ro41 = 0)) ∨ (r = Sum.inl (some (Value.ref q36)) ∧ h' = h ∧ (¬ ro26 = 0) ∧ (¬ ro31 = 0) ∧ (ro36 = 0)) ∨ (r = Sum.inl (some (Value.ref q31)) ∧ h' = h ∧ (¬ ro26 = 0) ∧ (ro31 = 0)) ∨ (r = Sum.inl (some (Value.ref q26)) ∧ h' = h ∧ (ro26 = 0))) = PQ
  have Z : gz D A s.heap h s.heap [] := ⟨ws, hM, hP, hD, va_S.rf⟩
  clear hP hD hM hD0
  have hU : gm_g h h [] := gm_g.rf
  have hl := lv_entry ([Value.ref q0]) (n := 2) (Nat.le_of_ble_eq_true rfl)
  rw [lg_entry_eq]
  generalize (lg_sl ([Value.ref q0]) ++ List.replicate (2 - (lg_sl ([Value.ref q0])).length) Slot.unset).toArray = ls at hl ⊢
  have hl : lv_has ls 2 [(0, Value.ref q0)] := hl
  refine lv_iconst (v := 0) hx hb d_Le_closedReader_0 (by decide) ?_
  refine lv_istore_n (lv' := [(1, Value.int 0), (0, Value.ref q0)]) hx hb d_Le_closedReader_1 rfl hl (by decide) rfl (fun ls hl => ?_)
  refine lv_iload_n hx hb d_Le_closedReader_2 rfl (lv_at hl 0 rfl) ?_
  refine lv_iconst (v := 4) hx hb d_Le_closedReader_3 (by decide) ?_
  refine lv_icmp_ge (tgt := 32) hx hb d_Le_closedReader_4 (by decide) (fun c9 => absurd c9 (by decide)) (fun _ => ?_)
  refine lv_aload_n hx hb d_Le_closedReader_7 rfl (lv_at hl 1 rfl) ?_
  refine gz_get (ci := 0) (v := Value.ref q25) (C := "CommitLedger") (T := F_Le) (N := 18) hx hb hts i_Le hown hK Z f_0 rfl 4 (by decide) kf_Le_45 rfl d_Le_closedReader_8 ?_
  refine lv_iload_n hx hb d_Le_closedReader_11 rfl (lv_at hl 0 rfl) ?_
  refine gz_aald (v := Value.ref q26) (j := 0) hx hb hK Z 4 f_25 ht4 (by decide) (by decide) (by decide) (rfl) d_Le_closedReader_12 ?_
  refine gz_get (ci := 6) (v := Value.int ro26) (C := "CommitLedger$Reader") (T := F_Re) (N := 3) hx hb hts i_Re hown hK Z f_26 rfl 2 (by decide) kf_Le_230 rfl d_Le_closedReader_13 ?_
  refine lv_if_ne (tgt := 26) hx hb d_Le_closedReader_16 (by decide) (fun c16_1 => ?_) (fun c16_1 => ?_)
  · refine lv_iinc (v := 1) (lv' := [(1, Value.int 1), (0, Value.ref q0)]) hx hb d_Le_closedReader_26 hl (k := 0) rfl (by decide) (by decide) rfl (fun ls hl => ?_)
    refine lv_goto (tgt := 2) hx hb d_Le_closedReader_29 (by decide) ?_
    refine lv_iload_n hx hb d_Le_closedReader_2 rfl (lv_at hl 0 rfl) ?_
    refine lv_iconst (v := 4) hx hb d_Le_closedReader_3 (by decide) ?_
    refine lv_icmp_ge (tgt := 32) hx hb d_Le_closedReader_4 (by decide) (fun c9 => absurd c9 (by decide)) (fun _ => ?_)
    refine lv_aload_n hx hb d_Le_closedReader_7 rfl (lv_at hl 1 rfl) ?_
    refine gz_get (ci := 0) (v := Value.ref q25) (C := "CommitLedger") (T := F_Le) (N := 18) hx hb hts i_Le hown hK Z f_0 rfl 4 (by decide) kf_Le_45 rfl d_Le_closedReader_8 ?_
    refine lv_iload_n hx hb d_Le_closedReader_11 rfl (lv_at hl 0 rfl) ?_
    refine gz_aald (v := Value.ref q31) (j := 1) hx hb hK Z 4 f_25 ht4 (by decide) (by decide) (by decide) (rfl) d_Le_closedReader_12 ?_
    refine gz_get (ci := 6) (v := Value.int ro31) (C := "CommitLedger$Reader") (T := F_Re) (N := 3) hx hb hts i_Re hown hK Z f_31 rfl 2 (by decide) kf_Le_230 rfl d_Le_closedReader_13 ?_
    refine lv_if_ne (tgt := 26) hx hb d_Le_closedReader_16 (by decide) (fun c16_2 => ?_) (fun c16_2 => ?_)
    · refine lv_iinc (v := 2) (lv' := [(1, Value.int 2), (0, Value.ref q0)]) hx hb d_Le_closedReader_26 hl (k := 0) rfl (by decide) (by decide) rfl (fun ls hl => ?_)
      refine lv_goto (tgt := 2) hx hb d_Le_closedReader_29 (by decide) ?_
      refine lv_iload_n hx hb d_Le_closedReader_2 rfl (lv_at hl 0 rfl) ?_
      refine lv_iconst (v := 4) hx hb d_Le_closedReader_3 (by decide) ?_
      refine lv_icmp_ge (tgt := 32) hx hb d_Le_closedReader_4 (by decide) (fun c9 => absurd c9 (by decide)) (fun _ => ?_)
      refine lv_aload_n hx hb d_Le_closedReader_7 rfl (lv_at hl 1 rfl) ?_
      refine gz_get (ci := 0) (v := Value.ref q25) (C := "CommitLedger") (T := F_Le) (N := 18) hx hb hts i_Le hown hK Z f_0 rfl 4 (by decide) kf_Le_45 rfl d_Le_closedReader_8 ?_
      refine lv_iload_n hx hb d_Le_closedReader_11 rfl (lv_at hl 0 rfl) ?_
      refine gz_aald (v := Value.ref q36) (j := 2) hx hb hK Z 4 f_25 ht4 (by decide) (by decide) (by decide) (rfl) d_Le_closedReader_12 ?_
      refine gz_get (ci := 6) (v := Value.int ro36) (C := "CommitLedger$Reader") (T := F_Re) (N := 3) hx hb hts i_Re hown hK Z f_36 rfl 2 (by decide) kf_Le_230 rfl d_Le_closedReader_13 ?_
      refine lv_if_ne (tgt := 26) hx hb d_Le_closedReader_16 (by decide) (fun c16_3 => ?_) (fun c16_3 => ?_)
      · refine lv_iinc (v := 3) (lv' := [(1, Value.int 3), (0, Value.ref q0)]) hx hb d_Le_closedReader_26 hl (k := 0) rfl (by decide) (by decide) rfl (fun ls hl => ?_)
        refine lv_goto (tgt := 2) hx hb d_Le_closedReader_29 (by decide) ?_
        refine lv_iload_n hx hb d_Le_closedReader_2 rfl (lv_at hl 0 rfl) ?_
        refine lv_iconst (v := 4) hx hb d_Le_closedReader_3 (by decide) ?_
        refine lv_icmp_ge (tgt := 32) hx hb d_Le_closedReader_4 (by decide) (fun c9 => absurd c9 (by decide)) (fun _ => ?_)
        refine lv_aload_n hx hb d_Le_closedReader_7 rfl (lv_at hl 1 rfl) ?_
        refine gz_get (ci := 0) (v := Value.ref q25) (C := "CommitLedger") (T := F_Le) (N := 18) hx hb hts i_Le hown hK Z f_0 rfl 4 (by decide) kf_Le_45 rfl d_Le_closedReader_8 ?_
        refine lv_iload_n hx hb d_Le_closedReader_11 rfl (lv_at hl 0 rfl) ?_
        refine gz_aald (v := Value.ref q41) (j := 3) hx hb hK Z 4 f_25 ht4 (by decide) (by decide) (by decide) (rfl) d_Le_closedReader_12 ?_
        refine gz_get (ci := 6) (v := Value.int ro41) (C := "CommitLedger$Reader") (T := F_Re) (N := 3) hx hb hts i_Re hown hK Z f_41 rfl 2 (by decide) kf_Le_230 rfl d_Le_closedReader_13 ?_
        refine lv_if_ne (tgt := 26) hx hb d_Le_closedReader_16 (by decide) (fun c16_4 => ?_) (fun c16_4 => ?_)
        · refine lv_iinc (v := 4) (lv' := [(1, Value.int 4), (0, Value.ref q0)]) hx hb d_Le_closedReader_26 hl (k := 0) rfl (by decide) (by decide) rfl (fun ls hl => ?_)
          refine lv_goto (tgt := 2) hx hb d_Le_closedReader_29 (by decide) ?_
          refine lv_iload_n hx hb d_Le_closedReader_2 rfl (lv_at hl 0 rfl) ?_
          refine lv_iconst (v := 4) hx hb d_Le_closedReader_3 (by decide) ?_
          refine lv_icmp_ge (tgt := 32) hx hb d_Le_closedReader_4 (by decide) (fun _ => ?_) (fun c9 => absurd (by decide) c9)
          refine lv_null hx hb d_Le_closedReader_32 ?_
          obtain ⟨ws9, hM9, hP9, hD9, hS9⟩ := Z
          exact gx_ret (W.aret (v := Value.null) hx hb hr (Or.inl ⟨_, rfl⟩) (Or.inl rfl) (gx_post hP9 hK hD9 hS9 ⟨h, hM9, by rw [← hPQ]; exact Or.inl ⟨rfl, rfl, c16_1, c16_2, c16_3, c16_4⟩⟩) hS9.2.2 d_Le_closedReader_33)
        · refine lv_aload_n hx hb d_Le_closedReader_19 rfl (lv_at hl 1 rfl) ?_
          refine gz_get (ci := 0) (v := Value.ref q25) (C := "CommitLedger") (T := F_Le) (N := 18) hx hb hts i_Le hown hK Z f_0 rfl 4 (by decide) kf_Le_45 rfl d_Le_closedReader_20 ?_
          refine lv_iload_n hx hb d_Le_closedReader_23 rfl (lv_at hl 0 rfl) ?_
          refine gz_aald (v := Value.ref q41) (j := 3) hx hb hK Z 4 f_25 ht4 (by decide) (by decide) (by decide) (rfl) d_Le_closedReader_24 ?_
          obtain ⟨ws9, hM9, hP9, hD9, hS9⟩ := Z
          exact gx_ret (W.aret (v := Value.ref q41) hx hb hr (Or.inl ⟨_, rfl⟩) (Or.inr ⟨_, rfl⟩) (gx_post hP9 hK hD9 hS9 ⟨h, hM9, by rw [← hPQ]; exact Or.inr (Or.inl ⟨rfl, rfl, c16_1, c16_2, c16_3, c16_4⟩)⟩) hS9.2.2 d_Le_closedReader_25)
      · refine lv_aload_n hx hb d_Le_closedReader_19 rfl (lv_at hl 1 rfl) ?_
        refine gz_get (ci := 0) (v := Value.ref q25) (C := "CommitLedger") (T := F_Le) (N := 18) hx hb hts i_Le hown hK Z f_0 rfl 4 (by decide) kf_Le_45 rfl d_Le_closedReader_20 ?_
        refine lv_iload_n hx hb d_Le_closedReader_23 rfl (lv_at hl 0 rfl) ?_
        refine gz_aald (v := Value.ref q36) (j := 2) hx hb hK Z 4 f_25 ht4 (by decide) (by decide) (by decide) (rfl) d_Le_closedReader_24 ?_
        obtain ⟨ws9, hM9, hP9, hD9, hS9⟩ := Z
        exact gx_ret (W.aret (v := Value.ref q36) hx hb hr (Or.inl ⟨_, rfl⟩) (Or.inr ⟨_, rfl⟩) (gx_post hP9 hK hD9 hS9 ⟨h, hM9, by rw [← hPQ]; exact Or.inr (Or.inr (Or.inl ⟨rfl, rfl, c16_1, c16_2, c16_3⟩))⟩) hS9.2.2 d_Le_closedReader_25)
    · refine lv_aload_n hx hb d_Le_closedReader_19 rfl (lv_at hl 1 rfl) ?_
      refine gz_get (ci := 0) (v := Value.ref q25) (C := "CommitLedger") (T := F_Le) (N := 18) hx hb hts i_Le hown hK Z f_0 rfl 4 (by decide) kf_Le_45 rfl d_Le_closedReader_20 ?_
      refine lv_iload_n hx hb d_Le_closedReader_23 rfl (lv_at hl 0 rfl) ?_
      refine gz_aald (v := Value.ref q31) (j := 1) hx hb hK Z 4 f_25 ht4 (by decide) (by decide) (by decide) (rfl) d_Le_closedReader_24 ?_
      obtain ⟨ws9, hM9, hP9, hD9, hS9⟩ := Z
      exact gx_ret (W.aret (v := Value.ref q31) hx hb hr (Or.inl ⟨_, rfl⟩) (Or.inr ⟨_, rfl⟩) (gx_post hP9 hK hD9 hS9 ⟨h, hM9, by rw [← hPQ]; exact Or.inr (Or.inr (Or.inr (Or.inl ⟨rfl, rfl, c16_1, c16_2⟩)))⟩) hS9.2.2 d_Le_closedReader_25)
  · refine lv_aload_n hx hb d_Le_closedReader_19 rfl (lv_at hl 1 rfl) ?_
    refine gz_get (ci := 0) (v := Value.ref q25) (C := "CommitLedger") (T := F_Le) (N := 18) hx hb hts i_Le hown hK Z f_0 rfl 4 (by decide) kf_Le_45 rfl d_Le_closedReader_20 ?_
    refine lv_iload_n hx hb d_Le_closedReader_23 rfl (lv_at hl 0 rfl) ?_
    refine gz_aald (v := Value.ref q26) (j := 0) hx hb hK Z 4 f_25 ht4 (by decide) (by decide) (by decide) (rfl) d_Le_closedReader_24 ?_
    obtain ⟨ws9, hM9, hP9, hD9, hS9⟩ := Z
    exact gx_ret (W.aret (v := Value.ref q26) hx hb hr (Or.inl ⟨_, rfl⟩) (Or.inr ⟨_, rfl⟩) (gx_post hP9 hK hD9 hS9 ⟨h, hM9, by rw [← hPQ]; exact Or.inr (Or.inr (Or.inr (Or.inr (⟨rfl, rfl, c16_1⟩))))⟩) hS9.2.2 d_Le_closedReader_25)

set_option maxHeartbeats 4000000 in
set_option maxRecDepth 100000 in
theorem k_Le_allCanBeMerged (l : Launch) (htr : l.stackTraces = false) (D : va_G) (tys : List (ClassId × FieldType)) (z sz : Nat) (ws : va_W) (h : gm_M) (hM : gm_S h ws) (cZ : ClassId) (cF : ClassId) (q0 : Nat) (q1 : Nat) (q5 : Nat) (q8 : Nat) (q20 : Nat) (q25 : Nat) (ec : Value) (ep : Value) (l7 : Int32) (l8 : Int32) (l9 : Int32) (l10 : Int32) (l11 : Int32) (l13 : Int32) (l14 : Int32) (l15 : Int32) (l16 : Int32) (l17 : Int32) (q9 : Nat) (q10 : Nat) (q11 : Nat) (u : Nat) (e0 : Value) (x5 : Int32) (g1 : Nat → Option Nat) (g2 : Nat → Option Nat) (f : Nat → Int32) (sj : Nat → Nat) (rr : Nat) (P : Nat → Prop) (F : Nat → Nat → Nat) (f_0 : h 0 = some ((q0, Sum.inr (0, [Value.ref q1, Value.ref q5, Value.ref q8, Value.ref q20, Value.ref q25, ec, ep, Value.int l7, Value.int l8, Value.int l9, Value.int l10, Value.int l11, Value.int (nI rr), Value.int l13, Value.int l14, Value.int l15, Value.int l16, Value.int l17])) : Nat × va_E)) (f_8 : h 8 = some ((q8, Sum.inr (4, [Value.ref q9, Value.ref q10, Value.ref q11, e0, Value.int (nI u), Value.int x5])) : Nat × va_E)) (f_9 : h 9 = some ((q9, Sum.inl (cF, 4096, Sum.inr (Sum.inr (Sum.inr (Sum.inr g1))))) : Nat × va_E)) (f_10 : h 10 = some ((q10, Sum.inl (cF, 4096, Sum.inr (Sum.inr (Sum.inr (Sum.inr g2))))) : Nat × va_E)) (f_11 : h 11 = some ((q11, Sum.inl (cZ, 4096, Sum.inl f)) : Nat × va_E)) (ht1 : tys[1]? = some ((cZ, FieldType.boolean) : ClassId × FieldType)) (ht2 : tys[2]? = some ((cF, FieldType.object "CommitLedger$LedgerFile") : ClassId × FieldType)) (fam : gf_F P F h) (hu : u ≤ 4096) (hsg : ∀ i, i < u → g1 i = some (sj i) ∧ P (sj i)) (hs9 : ∀ x, P x → F x 5 ≤ 4096 ∧ F x 6 ≤ 4096) : gx_Met l y_Le_allCanBeMerged [Cond.code y_Le_allCanBeMerged b_Le_allCanBeMerged 2 (some .boolean)] { frames := 3, cells := 0, slots := 0, locals := 57 } (gx_P z sz D classes tys ws [Value.ref q0]) (gx_Q D classes tys (va_A ws sz) (gm_p (fun r h' => (r = Sum.inl (some (Value.int 0)) ∧ h' = h ∧ (0 < (nI rr))) ∨ (r = Sum.inl (some (Value.int 1)) ∧ h' = h ∧ (¬ 0 < (nI rr)) ∧ (¬ (nI u) = 0) ∧ (1 < (nI u))) ∨ (r = Sum.inl (some (Value.int 0)) ∧ h' = h ∧ (¬ 0 < (nI rr)) ∧ (¬ (nI u) = 0) ∧ (¬ 1 < (nI u)) ∧ ((nI (F (sj 0) 4)) ≤ (nI (gv_n f (F (sj 0) 5) (F (sj 0) 6 - F (sj 0) 5))))) ∨ (r = Sum.inl (some (Value.int 1)) ∧ h' = h ∧ (¬ 0 < (nI rr)) ∧ (¬ (nI u) = 0) ∧ (¬ 1 < (nI u)) ∧ (¬ (nI (F (sj 0) 4)) ≤ (nI (gv_n f (F (sj 0) 5) (F (sj 0) 6 - F (sj 0) 5))))) ∨ (r = Sum.inl (some (Value.int 0)) ∧ h' = h ∧ (¬ 0 < (nI rr)) ∧ ((nI u) = 0))))) 0 0 (va_A ws sz) := by
  refine gx_ofW (cc := b_Le_allCanBeMerged) (maxL := 2) (ret := (some .boolean)) (by decide) rfl ?_
  intro p e s m args below meth c s₁ B hml hv
  obtain ⟨rfl, hsz, hz, hP, hK, hD0, hY⟩ := hv
  have hx := B.exec
  have hb := B.bytes
  have hr := B.returns
  have hts := hY.hts (#[Value.ref q0] : Array Value)
  have hown : s.vm.findClass "CommitLedger" = some m.cls := findClass_of_methodNamed B.named
  have hlocks := B.notSynchronized
  have hne : c.exceptionTable.isEmpty = true := B.noHandlers (atoms_spec (ws := [Cond.code y_Le_allCanBeMerged b_Le_allCanBeMerged 2 (some .boolean)]) B.pre _ List.mem_cons_self)
  subst hsz
  have hAz := gx_az hD0 hz
  have hD := hD0.self (sz := s.heap.size)
  have hN := gx_ns hP
  have hA : ∀ q : Nat, s.heap.size ≤ q → va_A ws s.heap.size q := fun q h => Or.inr h
  generalize va_A ws s.heap.size = A at hD hN hA hAz ⊢
  generalize hPQ : (fun (r : Option Value ⊕ String) (h' : gm_M) => (r = Sum.inl (some (Value.int 0)) ∧ h' = h ∧ (0 < (nI rr))) ∨ (r = Sum.inl (some (Value.int 1)) ∧ h' = h ∧ (¬ 0 < (nI rr)) ∧ (¬ (nI u) = 0) ∧ (1 < (nI u))) ∨ (r = Sum.inl (some (Value.int 0)) ∧ h' = h ∧ (¬ 0 < (nI rr)) ∧ (¬ (nI u) = 0) ∧ (¬ 1 < (nI u)) ∧ ((nI (F (sj 0) 4)) ≤ (nI (gv_n f (F (sj 0) 5) (F (sj 0) 6 - F (sj 0) 5))))) ∨ (r = Sum.inl (some (Value.int 1)) ∧ h' = h ∧ (¬ 0 < (nI rr)) ∧ (¬ (nI u) = 0) ∧ (¬ 1 < (nI u)) ∧ (¬ (nI (F (sj 0) 4)) ≤ (nI (gv_n f (F (sj 0) 5) (F (sj 0) 6 - F (sj 0) 5))))) ∨ (r = Sum.inl (some (Value.int 0)) ∧ h' = h ∧ (¬ 0 < (nI rr)) ∧ ((nI u) = 0))) = PQ
  have Z : gz D A s.heap h s.heap [] := ⟨ws, hM, hP, hD, va_S.rf⟩
  clear hP hD hM hD0
  have hU : gm_g h h [] := gm_g.rf
  have hl := lv_entry ([Value.ref q0]) (n := 2) (Nat.le_of_ble_eq_true rfl)
  rw [lg_entry_eq]
  generalize (lg_sl ([Value.ref q0]) ++ List.replicate (2 - (lg_sl ([Value.ref q0])).length) Slot.unset).toArray = ls at hl ⊢
  have hl : lv_has ls 2 [(0, Value.ref q0)] := hl
  refine lv_aload_n hx hb d_Le_allCanBeMerged_0 rfl (lv_at hl 0 rfl) ?_
  refine gz_get (ci := 0) (v := Value.int (nI rr)) (C := "CommitLedger") (T := F_Le) (N := 18) hx hb hts i_Le hown hK Z f_0 rfl 12 (by decide) kf_Le_142 rfl d_Le_allCanBeMerged_1 ?_
  refine lv_if_gt (tgt := 17) hx hb d_Le_allCanBeMerged_4 (by decide) (fun c4_1 => ?_) (fun c4_1 => ?_)
  · refine lv_iconst (v := 0) hx hb d_Le_allCanBeMerged_17 (by decide) ?_
    exact gz_zret (v := 0) hx hb hr hlocks hK Z (by decide) (by decide) (rfl) (by rw [← hPQ]; exact Or.inl ⟨rfl, rfl, c4_1⟩) d_Le_allCanBeMerged_18
  · refine lv_aload_n hx hb d_Le_allCanBeMerged_7 rfl (lv_at hl 0 rfl) ?_
    refine gz_get (ci := 0) (v := Value.ref q8) (C := "CommitLedger") (T := F_Le) (N := 18) hx hb hts i_Le hown hK Z f_0 rfl 2 (by decide) kf_Le_26 rfl d_Le_allCanBeMerged_8 ?_
    refine gz_get (ci := 4) (v := Value.int (nI u)) (C := "CommitLedger$View") (T := F_Vi) (N := 6) hx hb hts i_Vi hown hK Z f_8 rfl 4 (by decide) kf_Le_109 rfl d_Le_allCanBeMerged_11 ?_
    refine lv_if_ne (tgt := 19) hx hb d_Le_allCanBeMerged_14 (by decide) (fun c14_2 => ?_) (fun c14_2 => ?_)
    · refine lv_aload_n hx hb d_Le_allCanBeMerged_19 rfl (lv_at hl 0 rfl) ?_
      refine gz_get (ci := 0) (v := Value.ref q8) (C := "CommitLedger") (T := F_Le) (N := 18) hx hb hts i_Le hown hK Z f_0 rfl 2 (by decide) kf_Le_26 rfl d_Le_allCanBeMerged_20 ?_
      refine gz_get (ci := 4) (v := Value.ref q9) (C := "CommitLedger$View") (T := F_Vi) (N := 6) hx hb hts i_Vi hown hK Z f_8 rfl 0 (by decide) kf_Le_254 rfl d_Le_allCanBeMerged_23 ?_
      refine lv_iconst (v := 0) hx hb d_Le_allCanBeMerged_26 (by decide) ?_
      refine gz_aald (v := Value.ref (sj 0)) (j := 0) hx hb hK Z 2 f_9 ht2 (by decide) (by decide) (by decide) (by rw [(hsg 0 ((Nat.pos_of_ne_zero (fun e9 => c14_2 (by rw [e9]; rfl))))).1]; rfl) d_Le_allCanBeMerged_27 ?_
      refine lv_astore_n (lv' := [(1, Value.ref (sj 0)), (0, Value.ref q0)]) hx hb d_Le_allCanBeMerged_28 rfl hl (by decide) rfl (fun ls hl => ?_)
      refine lv_aload_n hx hb d_Le_allCanBeMerged_29 rfl (lv_at hl 1 rfl) ?_
      refine gz_get (ci := 0) (v := Value.ref q8) (C := "CommitLedger") (T := F_Le) (N := 18) hx hb hts i_Le hown hK Z f_0 rfl 2 (by decide) kf_Le_26 rfl d_Le_allCanBeMerged_30 ?_
      refine gz_get (ci := 4) (v := Value.int (nI u)) (C := "CommitLedger$View") (T := F_Vi) (N := 6) hx hb hts i_Vi hown hK Z f_8 rfl 4 (by decide) kf_Le_109 rfl d_Le_allCanBeMerged_33 ?_
      refine lv_iconst (v := 1) hx hb d_Le_allCanBeMerged_36 (by decide) ?_
      refine lv_icmp_gt (tgt := 55) hx hb d_Le_allCanBeMerged_37 (by decide) (fun c37_3 => ?_) (fun c37_3 => ?_)
      · refine lv_iconst (v := 1) hx hb d_Le_allCanBeMerged_55 (by decide) ?_
        refine lv_goto (tgt := 60) hx hb d_Le_allCanBeMerged_56 (by decide) ?_
        exact gz_zret (v := 1) hx hb hr hlocks hK Z (by decide) (by decide) (rfl) (by rw [← hPQ]; exact Or.inr (Or.inl ⟨rfl, rfl, c4_1, c14_2, c37_3⟩)) d_Le_allCanBeMerged_60
      · refine lv_aload_n hx hb d_Le_allCanBeMerged_40 rfl (lv_at hl 1 rfl) ?_
        refine gz_get (ci := 0) (v := Value.ref q8) (C := "CommitLedger") (T := F_Le) (N := 18) hx hb hts i_Le hown hK Z f_0 rfl 2 (by decide) kf_Le_26 rfl d_Le_allCanBeMerged_41 ?_
        refine lv_aload_n hx hb d_Le_allCanBeMerged_44 rfl (lv_at hl 0 rfl) ?_
        refine gz_call (ig := .invokevirtual 261) (av := [Value.ref q8, Value.ref (sj 0)]) Z (fun ws hM => k_Vi_liveIn l htr D tys z _ ws h hM cZ cF 8 q8 q9 q10 q11 u (e0) x5 g1 g2 f (sj 0) P F f_8 f_9 f_10 f_11 ht1 ht2 fam (hsg 0 ((Nat.pos_of_ne_zero (fun e9 => c14_2 (by rw [e9]; rfl))))).2 (hs9 (sj 0) (hsg 0 ((Nat.pos_of_ne_zero (fun e9 => c14_2 (by rw [e9]; rfl))))).2).1 (hs9 (sj 0) (hsg 0 ((Nat.pos_of_ne_zero (fun e9 => c14_2 (by rw [e9]; rfl))))).2).2) (gx_invV (As := [Value.ref (sj 0)]) (rest := []) hx hb hown hts km_Le_261 kI_Vi_liveIn kV_Vi_liveIn kc_Vi_liveIn (by decide) (show (parseMethodDescriptor y_Vi_liveIn.desc).map (fun d => d.parameters.length) = some 1 by decide +kernel) (gz_recv (ci := 4) hK Z rfl f_8) rfl rfl d_Le_allCanBeMerged_45) (gx_cw (z := 0) hts kc_Vi_liveIn kN_Vi rfl rfl ⟨Nat.le_of_ble_eq_true rfl, Nat.le_of_ble_eq_true rfl⟩) hb hml hz hK hY hAz hA hl.1 (lv_room (Nat.le_of_ble_eq_true rfl)) d_Le_allCanBeMerged_45 ⟨Nat.le_of_ble_eq_true rfl, Nat.le_of_ble_eq_true rfl⟩ (fun v4 h5 H locs hp Z => ?_) (fun x4 E9 ce h5 H locs hp hce Z => ?_)
        · rcases hp with ⟨hv9, e_h5⟩
          cases hv9
          rw [e_h5] at Z
          refine W.eq (g2 := F0 m 48 ls [Value.int (nI (gv_n f (F (sj 0) 5) (F (sj 0) 6 - F (sj 0) 5)))]) rfl ?_
          refine lv_aload_n hx hb d_Le_allCanBeMerged_48 rfl (lv_at hl 0 rfl) ?_
          refine gz_get (ci := 7) (v := Value.int (nI (F (sj 0) 4))) (C := "CommitLedger$LedgerFile") (T := F_Fi) (N := 7) hx hb hts i_Fi hown hK Z (fam (sj 0) (hsg 0 ((Nat.pos_of_ne_zero (fun e9 => c14_2 (by rw [e9]; rfl))))).2) rfl 4 (by decide) kf_Le_258 rfl d_Le_allCanBeMerged_49 ?_
          refine lv_icmp_ge (tgt := 59) hx hb d_Le_allCanBeMerged_52 (by decide) (fun c52_6 => ?_) (fun c52_6 => ?_)
          · refine lv_iconst (v := 0) hx hb d_Le_allCanBeMerged_59 (by decide) ?_
            exact gz_zret (v := 0) hx hb hr hlocks hK Z (by decide) (by decide) (rfl) (by rw [← hPQ]; exact Or.inr (Or.inr (Or.inl ⟨rfl, rfl, c4_1, c14_2, c37_3, c52_6⟩))) d_Le_allCanBeMerged_60
          · refine lv_iconst (v := 1) hx hb d_Le_allCanBeMerged_55 (by decide) ?_
            refine lv_goto (tgt := 60) hx hb d_Le_allCanBeMerged_56 (by decide) ?_
            exact gz_zret (v := 1) hx hb hr hlocks hK Z (by decide) (by decide) (rfl) (by rw [← hPQ]; exact Or.inr (Or.inr (Or.inr (Or.inl ⟨rfl, rfl, c4_1, c14_2, c37_3, c52_6⟩)))) d_Le_allCanBeMerged_60
        · rcases hp with ⟨hv9, e_h5⟩
          cases hv9
    · refine lv_iconst (v := 0) hx hb d_Le_allCanBeMerged_17 (by decide) ?_
      exact gz_zret (v := 0) hx hb hr hlocks hK Z (by decide) (by decide) (rfl) (by rw [← hPQ]; exact Or.inr (Or.inr (Or.inr (Or.inr (⟨rfl, rfl, c4_1, c14_2⟩))))) d_Le_allCanBeMerged_18
