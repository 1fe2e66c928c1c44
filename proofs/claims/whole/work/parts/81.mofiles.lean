/-! THE REFERENCE'S FILES over maps; rows printed by own text programs, but for the first -/
def gcp {α : Type} (c : Nat → Bool) (g o : Nat → α) : Nat → Nat → α
  | 0 => o
  | k + 1 => if c k = true then va_up (gcp c g o k) (gk c k) (g k) else gcp c g o k
theorem gcp_y {α : Type} {c : Nat → Bool} {g o : Nat → α} {k : Nat} (h : c k = true) : gcp c g o (k + 1) = va_up (gcp c g o k) (gk c k) (g k) := if_pos h
theorem gcp_n {α : Type} {c : Nat → Bool} {g o : Nat → α} {k : Nat} (h : ¬ c k = true) : gcp c g o (k + 1) = gcp c g o k := if_neg h
theorem gcp_at {α : Type} {c : Nat → Bool} {g o : Nat → α} : ∀ (k i : Nat), k ≤ i → gcp c g o k i = o i := by
  intro k
  induction k with
  | zero => intro i _; rfl
  | succ k ih =>
    intro i hi
    by_cases h : c k = true
    · rw [gcp_y h, va_up_ne _ _ (by have := gk_le (c := c) k; omega)]
      exact ih i (by omega)
    · rw [gcp_n h]
      exact ih i (by omega)
theorem upd_va {f : Nat → Int32} {k : Nat} {x : Int32} : upd f k x = va_up f k x := by
  funext i
  by_cases e : i = k
  · rw [e, pk_us, va_up_self]
  · rw [pk_un e, va_up_ne _ _ e]
theorem gcp_z {c : Nat → Bool} {g o : Nat → Int32} {k : Nat} (h : c k = true) (hb : gx_b (g k)) : gcp c g o (k + 1) = upd (gcp c g o k) (gk c k) (vp_nar .boolean (g k)) := by rw [gx_nz hb, upd_va]; exact gcp_y h
/-- the files that are needed -/
def gk_nd (nd : Nat → Int32) (k : Nat) : Bool := decide (¬ nd k = 0)
theorem gk_nd_y {nd : Nat → Int32} {k : Nat} (h : ¬ nd k = 0) : gk_nd nd k = true := decide_eq_true h
theorem gk_nd_n {nd : Nat → Int32} {k : Nat} (h : nd k = 0) : ¬ gk_nd nd k = true := fun e => of_decide_eq_true e h
set_option maxHeartbeats 4000000 in
set_option maxRecDepth 100000 in
theorem k_Mo_keepNeeded (l : Launch) (htr : l.stackTraces = false) (D : va_G) (tys : List (ClassId × FieldType)) (z sz : Nat) (ws : va_W) (h : gm_M) (hM : gm_S h ws) (cI : ClassId) (cZ : ClassId) (q46 : Nat) (q47 : Nat) (q48 : Nat) (q49 : Nat) (q50 : Nat) (q51 : Nat) (q52 : Nat) (q53 : Nat) (q54 : Nat) (q62 : Nat) (q70 : Nat) (q78 : Nat) (q79 : Nat) (q80 : Nat) (q81 : Nat) (q82 : Nat) (q83 : Nat) (um : Value) (m_error : Int32) (m_thrown : Int32) (m_docs : Int32) (m_files : Int32) (m_actions : Int32) (m_power : Int32) (m_lost : Int32) (m_open : Int32) (m_isPrepared : Int32) (m_generation : Int32) (m_buffered : Int32) (m_limit : Int32) (m_factor : Int32) (m_merges : Int32) (m_opened : Int32) (m_chosenMany : Int32) (m_begun : Int32) (fnu : Nat → Nat) (sy : Nat → Int32) (ha : Nat → Int32) (nd : Nat → Int32) (ft : Nat) (f_46 : h 46 = some ((q46, Sum.inr (8, [Value.int m_error, Value.int m_thrown, Value.ref q47, Value.ref q48, Value.ref q49, Value.int m_docs, Value.ref q50, Value.ref q51, Value.ref q52, Value.ref q53, Value.int (nI ft), Value.int m_files, Value.int m_actions, Value.int m_power, Value.int m_lost, Value.ref q54, Value.ref q62, Value.ref q70, Value.int m_open, Value.int m_isPrepared, Value.int m_generation, Value.ref q78, Value.ref q79, Value.int m_buffered, Value.int m_limit, Value.int m_factor, um, Value.ref q80, Value.ref q81, Value.ref q82, Value.int m_merges, Value.ref q83, Value.int m_opened, Value.int m_chosenMany, Value.int m_begun])) : Nat × va_E)) (f_50 : h 50 = some ((q50, Sum.inl (cI, 60000, Sum.inl (gi fnu))) : Nat × va_E)) (f_51 : h 51 = some ((q51, Sum.inl (cZ, 60000, Sum.inl sy)) : Nat × va_E)) (f_52 : h 52 = some ((q52, Sum.inl (cZ, 60000, Sum.inl ha)) : Nat × va_E)) (f_53 : h 53 = some ((q53, Sum.inl (cZ, 60000, Sum.inl nd)) : Nat × va_E)) (ht0 : tys[0]? = some ((cI, FieldType.int) : ClassId × FieldType)) (ht1 : tys[1]? = some ((cZ, FieldType.boolean) : ClassId × FieldType)) (hft : ft ≤ 60000) (hb1 : ∀ i, i < ft → gx_b (sy i)) (hb2 : ∀ i, i < ft → gx_b (ha i)) : gx_Met l y_Mo_keepNeeded [Cond.code y_Mo_keepNeeded b_Mo_keepNeeded 3 none] { frames := 1, cells := 0, slots := 0, locals := 12 } (gx_P z sz D classes tys ws [Value.ref q46]) (gx_Q D classes tys (va_A ws sz) (gm_p (fun r h' => (r = Sum.inl none ∧ gm_g h h' [46, 50, 51, 52] ∧ h' 46 = some ((q46, Sum.inr (8, [Value.int m_error, Value.int m_thrown, Value.ref q47, Value.ref q48, Value.ref q49, Value.int m_docs, Value.ref q50, Value.ref q51, Value.ref q52, Value.ref q53, Value.int (nI (gk (gk_nd nd) ft)), Value.int m_files, Value.int m_actions, Value.int m_power, Value.int m_lost, Value.ref q54, Value.ref q62, Value.ref q70, Value.int m_open, Value.int m_isPrepared, Value.int m_generation, Value.ref q78, Value.ref q79, Value.int m_buffered, Value.int m_limit, Value.int m_factor, um, Value.ref q80, Value.ref q81, Value.ref q82, Value.int m_merges, Value.ref q83, Value.int m_opened, Value.int m_chosenMany, Value.int m_begun])) : Nat × va_E) ∧ h' 50 = some ((q50, Sum.inl (cI, 60000, Sum.inl (gi (gcp (gk_nd nd) fnu fnu ft)))) : Nat × va_E) ∧ h' 51 = some ((q51, Sum.inl (cZ, 60000, Sum.inl (gcp (gk_nd nd) sy sy ft))) : Nat × va_E) ∧ h' 52 = some ((q52, Sum.inl (cZ, 60000, Sum.inl (gcp (gk_nd nd) ha ha ft))) : Nat × va_E))))) 0 0 (va_A ws sz) := by
  refine gx_ofW (cc := b_Mo_keepNeeded) (maxL := 3) (ret := none) (by decide) rfl ?_
  intro p e s m args below meth c s₁ B hml hv
  obtain ⟨rfl, hsz, hz, hP, hK, hD0, hY⟩ := hv
  have hx := B.exec
  have hb := B.bytes
  have hr := B.returns
  have hts := hY.hts (#[Value.ref q46] : Array Value)
  have hown : s.vm.findClass "CommitLedgerModel" = some m.cls := findClass_of_methodNamed B.named
  have hlocks := B.notSynchronized
  have hne : c.exceptionTable.isEmpty = true := B.noHandlers (atoms_spec (ws := [Cond.code y_Mo_keepNeeded b_Mo_keepNeeded 3 none]) B.pre _ List.mem_cons_self)
  subst hsz
  have hAz := gx_az hD0 hz
  have hD := hD0.self (sz := s.heap.size)
  have hN := gx_ns hP
  have hA : ∀ q : Nat, s.heap.size ≤ q → va_A ws s.heap.size q := fun q h => Or.inr h
  generalize va_A ws s.heap.size = A at hD hN hA hAz ⊢
  generalize hPQ : (fun (r : Option Value ⊕ String) (h' : gm_M) => (r = Sum.inl none ∧ gm_g h h' [46, 50, 51, 52] ∧ h' 46 = some ((q46, Sum.inr (8, [Value.int m_error, Value.int m_thrown, Value.ref q47, Value.ref q48, Value.ref q49, Value.int m_docs, Value.ref q50, Value.ref q51, Value.ref q52, Value.ref q53, Value.int (nI (gk (gk_nd nd) ft)), Value.int m_files, Value.int m_actions, Value.int m_power, Value.int m_lost, Value.ref q54, Value.ref q62, Value.ref q70, Value.int m_open, Value.int m_isPrepared, Value.int m_generation, Value.ref q78, Value.ref q79, Value.int m_buffered, Value.int m_limit, Value.int m_factor, um, Value.ref q80, Value.ref q81, Value.ref q82, Value.int m_merges, Value.ref q83, Value.int m_opened, Value.int m_chosenMany, Value.int m_begun])) : Nat × va_E) ∧ h' 50 = some ((q50, Sum.inl (cI, 60000, Sum.inl (gi (gcp (gk_nd nd) fnu fnu ft)))) : Nat × va_E) ∧ h' 51 = some ((q51, Sum.inl (cZ, 60000, Sum.inl (gcp (gk_nd nd) sy sy ft))) : Nat × va_E) ∧ h' 52 = some ((q52, Sum.inl (cZ, 60000, Sum.inl (gcp (gk_nd nd) ha ha ft))) : Nat × va_E))) = PQ
  have Z : gz D A s.heap h s.heap [] := ⟨ws, hM, hP, hD, va_S.rf⟩
  clear hP hD hM hD0
  have hU : gm_g h h [46, 50, 51, 52] := gm_g.rf
  have hl := lv_entry ([Value.ref q46]) (n := 3) (Nat.le_of_ble_eq_true rfl)
  rw [lg_entry_eq]
  generalize (lg_sl ([Value.ref q46]) ++ List.replicate (3 - (lg_sl ([Value.ref q46])).length) Slot.unset).toArray = ls at hl ⊢
  have hl : lv_has ls 3 [(0, Value.ref q46)] := hl
  refine lv_iconst (v := 0) hx hb d_Mo_keepNeeded_0 (by decide) ?_
  refine lv_istore_n (lv' := [(1, Value.int 0), (0, Value.ref q46)]) hx hb d_Mo_keepNeeded_1 rfl hl (by decide) rfl (fun ls hl => ?_)
  refine lv_iconst (v := 0) hx hb d_Mo_keepNeeded_2 (by decide) ?_
  refine lv_istore_n (lv' := [(2, Value.int 0), (1, Value.int 0), (0, Value.ref q46)]) hx hb d_Mo_keepNeeded_3 rfl hl (by decide) rfl (fun ls hl => ?_)
  have hl : lv_has ls 3 [(2, Value.int (nI 0)), (1, Value.int (nI (gk (gk_nd nd) 0))), (0, Value.ref q46)] := hl
  have f_50_n : h 50 = some ((q50, Sum.inl (cI, 60000, Sum.inl (gi (gcp (gk_nd nd) fnu fnu 0)))) : Nat × va_E) := by skip; exact f_50
  have f_51_n : h 51 = some ((q51, Sum.inl (cZ, 60000, Sum.inl (gcp (gk_nd nd) sy sy 0))) : Nat × va_E) := by skip; exact f_51
  have f_52_n : h 52 = some ((q52, Sum.inl (cZ, 60000, Sum.inl (gcp (gk_nd nd) ha ha 0))) : Nat × va_E) := by skip; exact f_52
  refine gz_loop (N := ft) (pc := 4) (fun _ => 0) (fun _ => 0) (fun k h9 ls => gm_g h h9 [46, 50, 51, 52] ∧ h9 46 = some ((q46, Sum.inr (8, [Value.int m_error, Value.int m_thrown, Value.ref q47, Value.ref q48, Value.ref q49, Value.int m_docs, Value.ref q50, Value.ref q51, Value.ref q52, Value.ref q53, Value.int (nI ft), Value.int m_files, Value.int m_actions, Value.int m_power, Value.int m_lost, Value.ref q54, Value.ref q62, Value.ref q70, Value.int m_open, Value.int m_isPrepared, Value.int m_generation, Value.ref q78, Value.ref q79, Value.int m_buffered, Value.int m_limit, Value.int m_factor, um, Value.ref q80, Value.ref q81, Value.ref q82, Value.int m_merges, Value.ref q83, Value.int m_opened, Value.int m_chosenMany, Value.int m_begun])) : Nat × va_E) ∧ h9 50 = some ((q50, Sum.inl (cI, 60000, Sum.inl (gi (gcp (gk_nd nd) fnu fnu k)))) : Nat × va_E) ∧ h9 51 = some ((q51, Sum.inl (cZ, 60000, Sum.inl (gcp (gk_nd nd) sy sy k))) : Nat × va_E) ∧ h9 52 = some ((q52, Sum.inl (cZ, 60000, Sum.inl (gcp (gk_nd nd) ha ha k))) : Nat × va_E) ∧ lv_has ls 3 [(2, Value.int (nI k)), (1, Value.int (nI (gk (gk_nd nd) k))), (0, Value.ref q46)]) (fun k w1 H locs ls hk hI Z ihk => ?_) (fun w1 H locs ls hI Z => ?_) (ft) 0 _ _ _ _ (Nat.zero_add _) ⟨hU, f_46, f_50_n, f_51_n, f_52_n, lv_sub hl [0, 1, 2] rfl⟩ Z
  · obtain ⟨hU, f_46_w1, f_50_w1, f_51_w1, f_52_w1, hl⟩ := hI
    have e_w1 := hU
    refine lv_iload_n hx hb d_Mo_keepNeeded_4 rfl (lv_at hl 0 rfl) ?_
    refine lv_aload_n hx hb d_Mo_keepNeeded_5 rfl (lv_at hl 2 rfl) ?_
    refine gz_get (ci := 8) (v := Value.int (nI ft)) (C := "CommitLedgerModel") (T := F_Mo) (N := 35) hx hb hts i_Mo hown hK Z f_46_w1 rfl 10 (by decide) kf_Mo_93 rfl d_Mo_keepNeeded_6 ?_
    refine lv_icmp_ge (tgt := 69) hx hb d_Mo_keepNeeded_9 (by decide) (fun c9 => absurd c9 (nI_ge hk (by omega))) (fun _ => ?_)
    refine lv_aload_n hx hb d_Mo_keepNeeded_12 rfl (lv_at hl 2 rfl) ?_
    refine gz_get (ci := 8) (v := Value.ref q53) (C := "CommitLedgerModel") (T := F_Mo) (N := 35) hx hb hts i_Mo hown hK Z f_46_w1 rfl 9 (by decide) kf_Mo_30 rfl d_Mo_keepNeeded_13 ?_
    refine lv_iload_n hx hb d_Mo_keepNeeded_16 rfl (lv_at hl 0 rfl) ?_
    have f_53_w1 : w1 53 = some ((q53, Sum.inl (cZ, 60000, Sum.inl nd)) : Nat × va_E) := e_w1.at f_53 (by first | decide | (simp; done) | (simp; omega))
    refine gz_zald (j := k) hx hb hK Z 1 f_53_w1 ht1 ((by omega)) (rfl) (by decide) d_Mo_keepNeeded_17 ?_
    refine lv_if_ne (tgt := 24) hx hb d_Mo_keepNeeded_18 (by decide) (fun c18_3 => ?_) (fun c18_3 => ?_)
    · refine lv_aload_n hx hb d_Mo_keepNeeded_24 rfl (lv_at hl 2 rfl) ?_
      refine gz_get (ci := 8) (v := Value.ref q50) (C := "CommitLedgerModel") (T := F_Mo) (N := 35) hx hb hts i_Mo hown hK Z f_46_w1 rfl 6 (by decide) kf_Mo_20 rfl d_Mo_keepNeeded_25 ?_
      refine lv_iload_n hx hb d_Mo_keepNeeded_28 rfl (lv_at hl 1 rfl) ?_
      refine lv_aload_n hx hb d_Mo_keepNeeded_29 rfl (lv_at hl 2 rfl) ?_
      refine gz_get (ci := 8) (v := Value.ref q50) (C := "CommitLedgerModel") (T := F_Mo) (N := 35) hx hb hts i_Mo hown hK Z f_46_w1 rfl 6 (by decide) kf_Mo_20 rfl d_Mo_keepNeeded_30 ?_
      refine lv_iload_n hx hb d_Mo_keepNeeded_33 rfl (lv_at hl 0 rfl) ?_
      refine gz_iald (j := k) hx hb hK Z 0 f_50_w1 ht0 ((by omega)) (rfl) (by decide) d_Mo_keepNeeded_34 ?_
      refine gx_topi (y := nI ((gcp (gk_nd nd) fnu fnu k) k)) rfl ?_
      refine gx_topi (y := nI (fnu k)) (by rw [gcp_at _ _ (Nat.le_refl _)]) ?_
      refine gz_iast (j := gk (gk_nd nd) k) hx hb hK Z 0 f_50_w1 ht0 ((by have h9 := gk_le (c := (gk_nd nd)) k; omega)) (rfl) (by decide) d_Mo_keepNeeded_35 (fun H locs Z => ?_)
      rw [gi_upc (X := (gcp (gk_nd nd) fnu fnu k)) (j := (gk (gk_nd nd) k)) (t := (fnu k)) (rfl)] at Z
      obtain ⟨h4, e_h4⟩ : ∃ z9 : gm_M, z9 = gm_up w1 50 ((q50, Sum.inl (cI, 60000, Sum.inl (gi (va_up (gcp (gk_nd nd) fnu fnu k) (gk (gk_nd nd) k) (fnu k))))) : Nat × va_E) := ⟨_, rfl⟩
      replace Z : gz D A s.heap h4 H locs := by rw [e_h4]; exact Z
      have f_50_h4 : h4 50 = some ((q50, Sum.inl (cI, 60000, Sum.inl (gi (va_up (gcp (gk_nd nd) fnu fnu k) (gk (gk_nd nd) k) (fnu k))))) : Nat × va_E) := by rw [e_h4]; exact gm_self
      replace hU : gm_g h h4 [46, 50, 51, 52] := by rw [e_h4]; exact hU.put (by simp)
      refine lv_aload_n hx hb d_Mo_keepNeeded_36 rfl (lv_at hl 2 rfl) ?_
      have f_46_h4 : h4 46 = some ((q46, Sum.inr (8, [Value.int m_error, Value.int m_thrown, Value.ref q47, Value.ref q48, Value.ref q49, Value.int m_docs, Value.ref q50, Value.ref q51, Value.ref q52, Value.ref q53, Value.int (nI ft), Value.int m_files, Value.int m_actions, Value.int m_power, Value.int m_lost, Value.ref q54, Value.ref q62, Value.ref q70, Value.int m_open, Value.int m_isPrepared, Value.int m_generation, Value.ref q78, Value.ref q79, Value.int m_buffered, Value.int m_limit, Value.int m_factor, um, Value.ref q80, Value.ref q81, Value.ref q82, Value.int m_merges, Value.ref q83, Value.int m_opened, Value.int m_chosenMany, Value.int m_begun])) : Nat × va_E) := by rw [e_h4]; exact gm_at f_46_w1 (by decide)
      refine gz_get (ci := 8) (v := Value.ref q51) (C := "CommitLedgerModel") (T := F_Mo) (N := 35) hx hb hts i_Mo hown hK Z f_46_h4 rfl 7 (by decide) kf_Mo_23 rfl d_Mo_keepNeeded_37 ?_
      refine lv_iload_n hx hb d_Mo_keepNeeded_40 rfl (lv_at hl 1 rfl) ?_
      refine lv_aload_n hx hb d_Mo_keepNeeded_41 rfl (lv_at hl 2 rfl) ?_
      refine gz_get (ci := 8) (v := Value.ref q51) (C := "CommitLedgerModel") (T := F_Mo) (N := 35) hx hb hts i_Mo hown hK Z f_46_h4 rfl 7 (by decide) kf_Mo_23 rfl d_Mo_keepNeeded_42 ?_
      refine lv_iload_n hx hb d_Mo_keepNeeded_45 rfl (lv_at hl 0 rfl) ?_
      have f_51_h4 : h4 51 = some ((q51, Sum.inl (cZ, 60000, Sum.inl (gcp (gk_nd nd) sy sy k))) : Nat × va_E) := by rw [e_h4]; exact gm_at f_51_w1 (by decide)
      refine gz_zald (j := k) hx hb hK Z 1 f_51_h4 ht1 ((by omega)) (rfl) (by decide) d_Mo_keepNeeded_46 ?_
      refine gx_topi (y := sy k) (by rw [gcp_at _ _ (Nat.le_refl _)]) ?_
      refine gz_zast (j := gk (gk_nd nd) k) hx hb hK Z 1 f_51_h4 ht1 ((by have h9 := gk_le (c := (gk_nd nd)) k; omega)) (rfl) (by decide) d_Mo_keepNeeded_47 (fun H locs Z => ?_)
      obtain ⟨h5, e_h5⟩ : ∃ z9 : gm_M, z9 = gm_up h4 51 ((q51, Sum.inl (cZ, 60000, Sum.inl (upd (gcp (gk_nd nd) sy sy k) (gk (gk_nd nd) k) (vp_nar .boolean (sy k))))) : Nat × va_E) := ⟨_, rfl⟩
      replace Z : gz D A s.heap h5 H locs := by rw [e_h5]; exact Z
      have f_51_h5 : h5 51 = some ((q51, Sum.inl (cZ, 60000, Sum.inl (upd (gcp (gk_nd nd) sy sy k) (gk (gk_nd nd) k) (vp_nar .boolean (sy k))))) : Nat × va_E) := by rw [e_h5]; exact gm_self
      replace hU : gm_g h h5 [46, 50, 51, 52] := by rw [e_h5]; exact hU.put (by simp)
      refine lv_aload_n hx hb d_Mo_keepNeeded_48 rfl (lv_at hl 2 rfl) ?_
      have f_46_h5 : h5 46 = some ((q46, Sum.inr (8, [Value.int m_error, Value.int m_thrown, Value.ref q47, Value.ref q48, Value.ref q49, Value.int m_docs, Value.ref q50, Value.ref q51, Value.ref q52, Value.ref q53, Value.int (nI ft), Value.int m_files, Value.int m_actions, Value.int m_power, Value.int m_lost, Value.ref q54, Value.ref q62, Value.ref q70, Value.int m_open, Value.int m_isPrepared, Value.int m_generation, Value.ref q78, Value.ref q79, Value.int m_buffered, Value.int m_limit, Value.int m_factor, um, Value.ref q80, Value.ref q81, Value.ref q82, Value.int m_merges, Value.ref q83, Value.int m_opened, Value.int m_chosenMany, Value.int m_begun])) : Nat × va_E) := by rw [e_h5]; exact gm_at f_46_h4 (by decide)
      refine gz_get (ci := 8) (v := Value.ref q52) (C := "CommitLedgerModel") (T := F_Mo) (N := 35) hx hb hts i_Mo hown hK Z f_46_h5 rfl 8 (by decide) kf_Mo_27 rfl d_Mo_keepNeeded_49 ?_
      refine lv_iload_n hx hb d_Mo_keepNeeded_52 rfl (lv_at hl 1 rfl) ?_
      refine lv_aload_n hx hb d_Mo_keepNeeded_53 rfl (lv_at hl 2 rfl) ?_
      refine gz_get (ci := 8) (v := Value.ref q52) (C := "CommitLedgerModel") (T := F_Mo) (N := 35) hx hb hts i_Mo hown hK Z f_46_h5 rfl 8 (by decide) kf_Mo_27 rfl d_Mo_keepNeeded_54 ?_
      refine lv_iload_n hx hb d_Mo_keepNeeded_57 rfl (lv_at hl 0 rfl) ?_
      have f_52_h4 : h4 52 = some ((q52, Sum.inl (cZ, 60000, Sum.inl (gcp (gk_nd nd) ha ha k))) : Nat × va_E) := by rw [e_h4]; exact gm_at f_52_w1 (by decide)
      have f_52_h5 : h5 52 = some ((q52, Sum.inl (cZ, 60000, Sum.inl (gcp (gk_nd nd) ha ha k))) : Nat × va_E) := by rw [e_h5]; exact gm_at f_52_h4 (by decide)
      refine gz_zald (j := k) hx hb hK Z 1 f_52_h5 ht1 ((by omega)) (rfl) (by decide) d_Mo_keepNeeded_58 ?_
      refine gx_topi (y := ha k) (by rw [gcp_at _ _ (Nat.le_refl _)]) ?_
      refine gz_zast (j := gk (gk_nd nd) k) hx hb hK Z 1 f_52_h5 ht1 ((by have h9 := gk_le (c := (gk_nd nd)) k; omega)) (rfl) (by decide) d_Mo_keepNeeded_59 (fun H locs Z => ?_)
      obtain ⟨h6, e_h6⟩ : ∃ z9 : gm_M, z9 = gm_up h5 52 ((q52, Sum.inl (cZ, 60000, Sum.inl (upd (gcp (gk_nd nd) ha ha k) (gk (gk_nd nd) k) (vp_nar .boolean (ha k))))) : Nat × va_E) := ⟨_, rfl⟩
      replace Z : gz D A s.heap h6 H locs := by rw [e_h6]; exact Z
      have f_52_h6 : h6 52 = some ((q52, Sum.inl (cZ, 60000, Sum.inl (upd (gcp (gk_nd nd) ha ha k) (gk (gk_nd nd) k) (vp_nar .boolean (ha k))))) : Nat × va_E) := by rw [e_h6]; exact gm_self
      replace hU : gm_g h h6 [46, 50, 51, 52] := by rw [e_h6]; exact hU.put (by simp)
      refine lv_iinc (v := nI ((gk (gk_nd nd) k) + 1)) (lv' := [(1, Value.int (nI ((gk (gk_nd nd) k) + 1))), (2, Value.int (nI k)), (0, Value.ref q46)]) hx hb d_Mo_keepNeeded_60 hl (k := 1) rfl (show nI (gk (gk_nd nd) k) + 1 = nI ((gk (gk_nd nd) k) + 1) from nI_1 _) (by decide) rfl (fun ls hl => ?_)
      refine lv_iinc (v := nI (k + 1)) (lv' := [(2, Value.int (nI (k + 1))), (1, Value.int (nI ((gk (gk_nd nd) k) + 1))), (0, Value.ref q46)]) hx hb d_Mo_keepNeeded_63 hl (k := 1) rfl (show nI k + 1 = nI (k + 1) from nI_1 _) (by decide) rfl (fun ls hl => ?_)
      refine lv_goto (tgt := 4) hx hb d_Mo_keepNeeded_66 (by decide) ?_
      have hkp := gk_nd_y c18_3
      rw [← gk_yes hkp] at hl
      have f_46_h6 : h6 46 = some ((q46, Sum.inr (8, [Value.int m_error, Value.int m_thrown, Value.ref q47, Value.ref q48, Value.ref q49, Value.int m_docs, Value.ref q50, Value.ref q51, Value.ref q52, Value.ref q53, Value.int (nI ft), Value.int m_files, Value.int m_actions, Value.int m_power, Value.int m_lost, Value.ref q54, Value.ref q62, Value.ref q70, Value.int m_open, Value.int m_isPrepared, Value.int m_generation, Value.ref q78, Value.ref q79, Value.int m_buffered, Value.int m_limit, Value.int m_factor, um, Value.ref q80, Value.ref q81, Value.ref q82, Value.int m_merges, Value.ref q83, Value.int m_opened, Value.int m_chosenMany, Value.int m_begun])) : Nat × va_E) := by rw [e_h6]; exact gm_at f_46_h5 (by decide)
      have f_50_h5 : h5 50 = some ((q50, Sum.inl (cI, 60000, Sum.inl (gi (va_up (gcp (gk_nd nd) fnu fnu k) (gk (gk_nd nd) k) (fnu k))))) : Nat × va_E) := by rw [e_h5]; exact gm_at f_50_h4 (by decide)
      have f_50_h6 : h6 50 = some ((q50, Sum.inl (cI, 60000, Sum.inl (gi (va_up (gcp (gk_nd nd) fnu fnu k) (gk (gk_nd nd) k) (fnu k))))) : Nat × va_E) := by rw [e_h6]; exact gm_at f_50_h5 (by decide)
      have f_50_n : h6 50 = some ((q50, Sum.inl (cI, 60000, Sum.inl (gi (gcp (gk_nd nd) fnu fnu (k + 1))))) : Nat × va_E) := by rw [gcp_y hkp]; exact f_50_h6
      have f_51_h6 : h6 51 = some ((q51, Sum.inl (cZ, 60000, Sum.inl (upd (gcp (gk_nd nd) sy sy k) (gk (gk_nd nd) k) (vp_nar .boolean (sy k))))) : Nat × va_E) := by rw [e_h6]; exact gm_at f_51_h5 (by decide)
      have f_51_n : h6 51 = some ((q51, Sum.inl (cZ, 60000, Sum.inl (gcp (gk_nd nd) sy sy (k + 1)))) : Nat × va_E) := by rw [gcp_z hkp (hb1 k hk)]; exact f_51_h6
      have f_52_n : h6 52 = some ((q52, Sum.inl (cZ, 60000, Sum.inl (gcp (gk_nd nd) ha ha (k + 1)))) : Nat × va_E) := by rw [gcp_z hkp (hb2 k hk)]; exact f_52_h6
      exact ihk _ _ _ _ ⟨hU, f_46_h6, f_50_n, f_51_n, f_52_n, lv_sub hl [0, 1, 2] rfl⟩ Z
    · refine lv_goto (tgt := 63) hx hb d_Mo_keepNeeded_21 (by decide) ?_
      refine lv_iinc (v := nI (k + 1)) (lv' := [(2, Value.int (nI (k + 1))), (1, Value.int (nI (gk (gk_nd nd) k))), (0, Value.ref q46)]) hx hb d_Mo_keepNeeded_63 hl (k := 0) rfl (show nI k + 1 = nI (k + 1) from nI_1 _) (by decide) rfl (fun ls hl => ?_)
      refine lv_goto (tgt := 4) hx hb d_Mo_keepNeeded_66 (by decide) ?_
      have hkp := gk_nd_n c18_3
      rw [← gk_no hkp] at hl
      have f_50_n : w1 50 = some ((q50, Sum.inl (cI, 60000, Sum.inl (gi (gcp (gk_nd nd) fnu fnu (k + 1))))) : Nat × va_E) := by rw [gcp_n hkp]; exact f_50_w1
      have f_51_n : w1 51 = some ((q51, Sum.inl (cZ, 60000, Sum.inl (gcp (gk_nd nd) sy sy (k + 1)))) : Nat × va_E) := by rw [gcp_n hkp]; exact f_51_w1
      have f_52_n : w1 52 = some ((q52, Sum.inl (cZ, 60000, Sum.inl (gcp (gk_nd nd) ha ha (k + 1)))) : Nat × va_E) := by rw [gcp_n hkp]; exact f_52_w1
      exact ihk _ _ _ _ ⟨hU, f_46_w1, f_50_n, f_51_n, f_52_n, lv_sub hl [0, 1, 2] rfl⟩ Z
  · obtain ⟨hU, f_46_w1, f_50_w1, f_51_w1, f_52_w1, hl⟩ := hI
    have e_w1 := hU
    refine lv_iload_n hx hb d_Mo_keepNeeded_4 rfl (lv_at hl 0 rfl) ?_
    refine lv_aload_n hx hb d_Mo_keepNeeded_5 rfl (lv_at hl 2 rfl) ?_
    refine gz_get (ci := 8) (v := Value.int (nI ft)) (C := "CommitLedgerModel") (T := F_Mo) (N := 35) hx hb hts i_Mo hown hK Z f_46_w1 rfl 10 (by decide) kf_Mo_93 rfl d_Mo_keepNeeded_6 ?_
    refine lv_icmp_ge (tgt := 69) hx hb d_Mo_keepNeeded_9 (by decide) (fun _ => ?_) (fun c9 => absurd (nI_le (Nat.le_refl _) (by omega)) c9)
    refine lv_aload_n hx hb d_Mo_keepNeeded_69 rfl (lv_at hl 2 rfl) ?_
    refine lv_iload_n hx hb d_Mo_keepNeeded_70 rfl (lv_at hl 1 rfl) ?_
    refine gz_put (ci := 8) (v := Value.int (nI (gk (gk_nd nd) ft))) (ty := .int) (C := "CommitLedgerModel") (T := F_Mo) (N := 35) hx hb hts i_Mo t_Mo_ok n_Mo hown hK Z f_46_w1 rfl 10 (by decide) kf_Mo_93 rfl (by decide +kernel) rfl rfl (Nat.le_of_ble_eq_true rfl) d_Mo_keepNeeded_71 (fun H locs Z => ?_)
    obtain ⟨h8, e_h8⟩ : ∃ z9 : gm_M, z9 = gm_up w1 46 ((q46, Sum.inr (8, [Value.int m_error, Value.int m_thrown, Value.ref q47, Value.ref q48, Value.ref q49, Value.int m_docs, Value.ref q50, Value.ref q51, Value.ref q52, Value.ref q53, Value.int (nI (gk (gk_nd nd) ft)), Value.int m_files, Value.int m_actions, Value.int m_power, Value.int m_lost, Value.ref q54, Value.ref q62, Value.ref q70, Value.int m_open, Value.int m_isPrepared, Value.int m_generation, Value.ref q78, Value.ref q79, Value.int m_buffered, Value.int m_limit, Value.int m_factor, um, Value.ref q80, Value.ref q81, Value.ref q82, Value.int m_merges, Value.ref q83, Value.int m_opened, Value.int m_chosenMany, Value.int m_begun])) : Nat × va_E) := ⟨_, rfl⟩
    replace Z : gz D A s.heap h8 H locs := by rw [e_h8]; exact Z
    have f_46_h8 : h8 46 = some ((q46, Sum.inr (8, [Value.int m_error, Value.int m_thrown, Value.ref q47, Value.ref q48, Value.ref q49, Value.int m_docs, Value.ref q50, Value.ref q51, Value.ref q52, Value.ref q53, Value.int (nI (gk (gk_nd nd) ft)), Value.int m_files, Value.int m_actions, Value.int m_power, Value.int m_lost, Value.ref q54, Value.ref q62, Value.ref q70, Value.int m_open, Value.int m_isPrepared, Value.int m_generation, Value.ref q78, Value.ref q79, Value.int m_buffered, Value.int m_limit, Value.int m_factor, um, Value.ref q80, Value.ref q81, Value.ref q82, Value.int m_merges, Value.ref q83, Value.int m_opened, Value.int m_chosenMany, Value.int m_begun])) : Nat × va_E) := by rw [e_h8]; exact gm_self
    replace hU : gm_g h h8 [46, 50, 51, 52] := by rw [e_h8]; exact hU.put (by simp)
    have f_50_h8 : h8 50 = some ((q50, Sum.inl (cI, 60000, Sum.inl (gi (gcp (gk_nd nd) fnu fnu ft)))) : Nat × va_E) := by rw [e_h8]; exact gm_at f_50_w1 (by decide)
    have f_51_h8 : h8 51 = some ((q51, Sum.inl (cZ, 60000, Sum.inl (gcp (gk_nd nd) sy sy ft))) : Nat × va_E) := by rw [e_h8]; exact gm_at f_51_w1 (by decide)
    have f_52_h8 : h8 52 = some ((q52, Sum.inl (cZ, 60000, Sum.inl (gcp (gk_nd nd) ha ha ft))) : Nat × va_E) := by rw [e_h8]; exact gm_at f_52_w1 (by decide)
    exact gz_vret hx hb hr hlocks hK Z (by decide) (by decide) (by rw [← hPQ]; exact ⟨rfl, hU, f_46_h8, f_50_h8, f_51_h8, f_52_h8⟩) d_Mo_keepNeeded_74

set_option maxHeartbeats 4000000 in
set_option maxRecDepth 100000 in
theorem k_Mo_lose (l : Launch) (htr : l.stackTraces = false) (D : va_G) (tys : List (ClassId × FieldType)) (z sz : Nat) (ws : va_W) (h : gm_M) (hM : gm_S h ws) (cI : ClassId) (cZ : ClassId) (cV : ClassId) (q46 : Nat) (q47 : Nat) (q48 : Nat) (q49 : Nat) (q50 : Nat) (q51 : Nat) (q52 : Nat) (q53 : Nat) (q54 : Nat) (q62 : Nat) (q70 : Nat) (q78 : Nat) (q79 : Nat) (q80 : Nat) (q81 : Nat) (q82 : Nat) (q83 : Nat) (um : Value) (m_error : Int32) (m_thrown : Int32) (m_docs : Int32) (m_files : Int32) (m_actions : Int32) (m_power : Int32) (m_lost : Int32) (m_open : Int32) (m_isPrepared : Int32) (m_generation : Int32) (m_buffered : Int32) (m_limit : Int32) (m_factor : Int32) (m_merges : Int32) (m_opened : Int32) (m_chosenMany : Int32) (m_begun : Int32) (fnu : Nat → Nat) (sy : Nat → Int32) (ha : Nat → Int32) (nd : Nat → Int32) (ft : Nat) (q84 : Nat) (q85 : Nat) (q86 : Nat) (q87 : Nat) (q88 : Nat) (q89 : Nat) (q90 : Nat) (q91 : Nat) (q92 : Nat) (q93 : Nat) (q94 : Nat) (q95 : Nat) (q96 : Nat) (q97 : Nat) (q98 : Nat) (q99 : Nat) (q100 : Nat) (q101 : Nat) (q102 : Nat) (q103 : Nat) (q104 : Nat) (q105 : Nat) (q106 : Nat) (q107 : Nat) (q108 : Nat) (q109 : Nat) (q110 : Nat) (q111 : Nat) (q112 : Nat) (q113 : Nat) (q114 : Nat) (q115 : Nat) (s84 : Int32) (t84 : Int32) (w84 : Int32) (n84 : Int32) (s92 : Int32) (t92 : Int32) (w92 : Int32) (n92 : Int32) (s100 : Int32) (t100 : Int32) (w100 : Int32) (n100 : Int32) (s108 : Int32) (t108 : Int32) (w108 : Int32) (n108 : Int32) (f_46 : h 46 = some ((q46, Sum.inr (8, [Value.int m_error, Value.int m_thrown, Value.ref q47, Value.ref q48, Value.ref q49, Value.int m_docs, Value.ref q50, Value.ref q51, Value.ref q52, Value.ref q53, Value.int (nI ft), Value.int m_files, Value.int m_actions, Value.int m_power, Value.int m_lost, Value.ref q54, Value.ref q62, Value.ref q70, Value.int m_open, Value.int m_isPrepared, Value.int m_generation, Value.ref q78, Value.ref q79, Value.int m_buffered, Value.int m_limit, Value.int m_factor, um, Value.ref q80, Value.ref q81, Value.ref q82, Value.int m_merges, Value.ref q83, Value.int m_opened, Value.int m_chosenMany, Value.int m_begun])) : Nat × va_E)) (f_50 : h 50 = some ((q50, Sum.inl (cI, 60000, Sum.inl (gi fnu))) : Nat × va_E)) (f_51 : h 51 = some ((q51, Sum.inl (cZ, 60000, Sum.inl sy)) : Nat × va_E)) (f_52 : h 52 = some ((q52, Sum.inl (cZ, 60000, Sum.inl ha)) : Nat × va_E)) (f_53 : h 53 = some ((q53, Sum.inl (cZ, 60000, Sum.inl nd)) : Nat × va_E)) (f_83 : h 83 = some ((q83, Sum.inl (cV, 4, Sum.inr (Sum.inr (Sum.inr (Sum.inr (va_up (va_up (va_up (va_up (fun _ => none) 0 (some q84)) 1 (some q92)) 2 (some q100)) 3 (some q108))))))) : Nat × va_E)) (f_84 : h 84 = some ((q84, Sum.inr (9, [Value.ref q85, Value.ref q86, Value.ref q87, Value.ref q88, Value.ref q89, Value.ref q90, Value.ref q91, Value.int s84, Value.int t84, Value.int w84, Value.int n84])) : Nat × va_E)) (f_92 : h 92 = some ((q92, Sum.inr (9, [Value.ref q93, Value.ref q94, Value.ref q95, Value.ref q96, Value.ref q97, Value.ref q98, Value.ref q99, Value.int s92, Value.int t92, Value.int w92, Value.int n92])) : Nat × va_E)) (f_100 : h 100 = some ((q100, Sum.inr (9, [Value.ref q101, Value.ref q102, Value.ref q103, Value.ref q104, Value.ref q105, Value.ref q106, Value.ref q107, Value.int s100, Value.int t100, Value.int w100, Value.int n100])) : Nat × va_E)) (f_108 : h 108 = some ((q108, Sum.inr (9, [Value.ref q109, Value.ref q110, Value.ref q111, Value.ref q112, Value.ref q113, Value.ref q114, Value.ref q115, Value.int s108, Value.int t108, Value.int w108, Value.int n108])) : Nat × va_E)) (ht0 : tys[0]? = some ((cI, FieldType.int) : ClassId × FieldType)) (ht1 : tys[1]? = some ((cZ, FieldType.boolean) : ClassId × FieldType)) (ht5 : tys[5]? = some ((cV, FieldType.object "CommitLedgerModel$Version") : ClassId × FieldType)) (hft : ft ≤ 60000) (hb1 : ∀ i, i < ft → gx_b (sy i)) (hb2 : ∀ i, i < ft → gx_b (ha i)) : gx_Met l y_Mo_lose [Cond.code y_Mo_lose b_Mo_lose 5 none] { frames := 2, cells := 0, slots := 0, locals := 34 } (gx_P z sz D classes tys ws [Value.ref q46]) (gx_Q D classes tys (va_A ws sz) (gm_p (fun r h' => (r = Sum.inl none ∧ gm_g h h' [46, 50, 51, 52, 53, 84, 92, 100, 108] ∧ h' 46 = some ((q46, Sum.inr (8, [Value.int m_error, Value.int m_thrown, Value.ref q47, Value.ref q48, Value.ref q49, Value.int m_docs, Value.ref q50, Value.ref q51, Value.ref q52, Value.ref q53, Value.int (nI (gk (gk_nd (gv_cp ft sy nd)) ft)), Value.int m_files, Value.int m_actions, Value.int (-1), Value.int 1, Value.ref q54, Value.ref q62, Value.ref q70, Value.int 0, Value.int 0, Value.int m_generation, Value.ref q78, Value.ref q79, Value.int m_buffered, Value.int m_limit, Value.int m_factor, um, Value.ref q80, Value.ref q81, Value.ref q82, Value.int 0, Value.ref q83, Value.int m_opened, Value.int m_chosenMany, Value.int m_begun])) : Nat × va_E) ∧ h' 50 = some ((q50, Sum.inl (cI, 60000, Sum.inl (gi (gcp (gk_nd (gv_cp ft sy nd)) fnu fnu ft)))) : Nat × va_E) ∧ h' 51 = some ((q51, Sum.inl (cZ, 60000, Sum.inl (gcp (gk_nd (gv_cp ft sy nd)) sy sy ft))) : Nat × va_E) ∧ h' 52 = some ((q52, Sum.inl (cZ, 60000, Sum.inl (gcp (gk_nd (gv_cp ft sy nd)) ha ha ft))) : Nat × va_E) ∧ h' 53 = some ((q53, Sum.inl (cZ, 60000, Sum.inl (gv_cp ft sy nd))) : Nat × va_E) ∧ h' 84 = some ((q84, Sum.inr (9, [Value.ref q85, Value.ref q86, Value.ref q87, Value.ref q88, Value.ref q89, Value.ref q90, Value.ref q91, Value.int s84, Value.int t84, Value.int w84, Value.int 0])) : Nat × va_E) ∧ h' 92 = some ((q92, Sum.inr (9, [Value.ref q93, Value.ref q94, Value.ref q95, Value.ref q96, Value.ref q97, Value.ref q98, Value.ref q99, Value.int s92, Value.int t92, Value.int w92, Value.int 0])) : Nat × va_E) ∧ h' 100 = some ((q100, Sum.inr (9, [Value.ref q101, Value.ref q102, Value.ref q103, Value.ref q104, Value.ref q105, Value.ref q106, Value.ref q107, Value.int s100, Value.int t100, Value.int w100, Value.int 0])) : Nat × va_E) ∧ h' 108 = some ((q108, Sum.inr (9, [Value.ref q109, Value.ref q110, Value.ref q111, Value.ref q112, Value.ref q113, Value.ref q114, Value.ref q115, Value.int s108, Value.int t108, Value.int w108, Value.int 0])) : Nat × va_E))))) 0 0 (va_A ws sz) := by
  refine gx_ofW (cc := b_Mo_lose) (maxL := 5) (ret := none) (by decide) rfl ?_
  intro p e s m args below meth c s₁ B hml hv
  obtain ⟨rfl, hsz, hz, hP, hK, hD0, hY⟩ := hv
  have hx := B.exec
  have hb := B.bytes
  have hr := B.returns
  have hts := hY.hts (#[Value.ref q46] : Array Value)
  have hown : s.vm.findClass "CommitLedgerModel" = some m.cls := findClass_of_methodNamed B.named
  have hlocks := B.notSynchronized
  have hne : c.exceptionTable.isEmpty = true := B.noHandlers (atoms_spec (ws := [Cond.code y_Mo_lose b_Mo_lose 5 none]) B.pre _ List.mem_cons_self)
  subst hsz
  have hAz := gx_az hD0 hz
  have hD := hD0.self (sz := s.heap.size)
  have hN := gx_ns hP
  have hA : ∀ q : Nat, s.heap.size ≤ q → va_A ws s.heap.size q := fun q h => Or.inr h
  generalize va_A ws s.heap.size = A at hD hN hA hAz ⊢
  generalize hPQ : (fun (r : Option Value ⊕ String) (h' : gm_M) => (r = Sum.inl none ∧ gm_g h h' [46, 50, 51, 52, 53, 84, 92, 100, 108] ∧ h' 46 = some ((q46, Sum.inr (8, [Value.int m_error, Value.int m_thrown, Value.ref q47, Value.ref q48, Value.ref q49, Value.int m_docs, Value.ref q50, Value.ref q51, Value.ref q52, Value.ref q53, Value.int (nI (gk (gk_nd (gv_cp ft sy nd)) ft)), Value.int m_files, Value.int m_actions, Value.int (-1), Value.int 1, Value.ref q54, Value.ref q62, Value.ref q70, Value.int 0, Value.int 0, Value.int m_generation, Value.ref q78, Value.ref q79, Value.int m_buffered, Value.int m_limit, Value.int m_factor, um, Value.ref q80, Value.ref q81, Value.ref q82, Value.int 0, Value.ref q83, Value.int m_opened, Value.int m_chosenMany, Value.int m_begun])) : Nat × va_E) ∧ h' 50 = some ((q50, Sum.inl (cI, 60000, Sum.inl (gi (gcp (gk_nd (gv_cp ft sy nd)) fnu fnu ft)))) : Nat × va_E) ∧ h' 51 = some ((q51, Sum.inl (cZ, 60000, Sum.inl (gcp (gk_nd (gv_cp ft sy nd)) sy sy ft))) : Nat × va_E) ∧ h' 52 = some ((q52, Sum.inl (cZ, 60000, Sum.inl (gcp (gk_nd (gv_cp ft sy nd)) ha ha ft))) : Nat × va_E) ∧ h' 53 = some ((q53, Sum.inl (cZ, 60000, Sum.inl (gv_cp ft sy nd))) : Nat × va_E) ∧ h' 84 = some ((q84, Sum.inr (9, [Value.ref q85, Value.ref q86, Value.ref q87, Value.ref q88, Value.ref q89, Value.ref q90, Value.ref q91, Value.int s84, Value.int t84, Value.int w84, Value.int 0])) : Nat × va_E) ∧ h' 92 = some ((q92, Sum.inr (9, [Value.ref q93, Value.ref q94, Value.ref q95, Value.ref q96, Value.ref q97, Value.ref q98, Value.ref q99, Value.int s92, Value.int t92, Value.int w92, Value.int 0])) : Nat × va_E) ∧ h' 100 = some ((q100, Sum.inr (9, [Value.ref q101, Value.ref q102, Value.ref q103, Value.ref q104, Value.ref q105, Value.ref q106, Value.ref q107, Value.int s100, Value.int t100, Value.int w100, Value.int 0])) : Nat × va_E) ∧ h' 108 = some ((q108, Sum.inr (9, [Value.ref q109, Value.ref q110, Value.ref q111, Value.ref q112, Value.ref q113, Value.ref q114, Value.ref q115, Value.int s108, Value.int t108, Value.int w108, Value.int 0])) : Nat × va_E))) = PQ
  have Z : gz D A s.heap h s.heap [] := ⟨ws, hM, hP, hD, va_S.rf⟩
  clear hP hD hM hD0
  have hU : gm_g h h [46, 50, 51, 52, 53, 84, 92, 100, 108] := gm_g.rf
  have hl := lv_entry ([Value.ref q46]) (n := 5) (Nat.le_of_ble_eq_true rfl)
  rw [lg_entry_eq]
  generalize (lg_sl ([Value.ref q46]) ++ List.replicate (5 - (lg_sl ([Value.ref q46])).length) Slot.unset).toArray = ls at hl ⊢
  have hl : lv_has ls 5 [(0, Value.ref q46)] := hl
  refine lv_iconst (v := 0) hx hb d_Mo_lose_0 (by decide) ?_
  refine lv_istore_n (lv' := [(1, Value.int 0), (0, Value.ref q46)]) hx hb d_Mo_lose_1 rfl hl (by decide) rfl (fun ls hl => ?_)
  have f_53_n : h 53 = some ((q53, Sum.inl (cZ, 60000, Sum.inl (gv_cp 0 sy nd))) : Nat × va_E) := by rw [gv_cp_0]; exact f_53
  refine gz_loop (N := ft) (pc := 2) (fun _ => 0) (fun _ => 0) (fun k h9 ls => gm_g h h9 [46, 50, 51, 52, 53, 84, 92, 100, 108] ∧ h9 46 = some ((q46, Sum.inr (8, [Value.int m_error, Value.int m_thrown, Value.ref q47, Value.ref q48, Value.ref q49, Value.int m_docs, Value.ref q50, Value.ref q51, Value.ref q52, Value.ref q53, Value.int (nI ft), Value.int m_files, Value.int m_actions, Value.int m_power, Value.int m_lost, Value.ref q54, Value.ref q62, Value.ref q70, Value.int m_open, Value.int m_isPrepared, Value.int m_generation, Value.ref q78, Value.ref q79, Value.int m_buffered, Value.int m_limit, Value.int m_factor, um, Value.ref q80, Value.ref q81, Value.ref q82, Value.int m_merges, Value.ref q83, Value.int m_opened, Value.int m_chosenMany, Value.int m_begun])) : Nat × va_E) ∧ h9 50 = some ((q50, Sum.inl (cI, 60000, Sum.inl (gi fnu))) : Nat × va_E) ∧ h9 51 = some ((q51, Sum.inl (cZ, 60000, Sum.inl sy)) : Nat × va_E) ∧ h9 52 = some ((q52, Sum.inl (cZ, 60000, Sum.inl ha)) : Nat × va_E) ∧ h9 53 = some ((q53, Sum.inl (cZ, 60000, Sum.inl (gv_cp k sy nd))) : Nat × va_E) ∧ h9 84 = some ((q84, Sum.inr (9, [Value.ref q85, Value.ref q86, Value.ref q87, Value.ref q88, Value.ref q89, Value.ref q90, Value.ref q91, Value.int s84, Value.int t84, Value.int w84, Value.int n84])) : Nat × va_E) ∧ h9 92 = some ((q92, Sum.inr (9, [Value.ref q93, Value.ref q94, Value.ref q95, Value.ref q96, Value.ref q97, Value.ref q98, Value.ref q99, Value.int s92, Value.int t92, Value.int w92, Value.int n92])) : Nat × va_E) ∧ h9 100 = some ((q100, Sum.inr (9, [Value.ref q101, Value.ref q102, Value.ref q103, Value.ref q104, Value.ref q105, Value.ref q106, Value.ref q107, Value.int s100, Value.int t100, Value.int w100, Value.int n100])) : Nat × va_E) ∧ h9 108 = some ((q108, Sum.inr (9, [Value.ref q109, Value.ref q110, Value.ref q111, Value.ref q112, Value.ref q113, Value.ref q114, Value.ref q115, Value.int s108, Value.int t108, Value.int w108, Value.int n108])) : Nat × va_E) ∧ lv_has ls 5 [(1, Value.int (nI k)), (0, Value.ref q46)]) (fun k w1 H locs ls hk hI Z ihk => ?_) (fun w1 H locs ls hI Z => ?_) (ft) 0 _ _ _ _ (Nat.zero_add _) ⟨hU, f_46, f_50, f_51, f_52, f_53_n, f_84, f_92, f_100, f_108, lv_sub hl [0, 1] rfl⟩ Z
  · obtain ⟨hU, f_46_w1, f_50_w1, f_51_w1, f_52_w1, f_53_w1, f_84_w1, f_92_w1, f_100_w1, f_108_w1, hl⟩ := hI
    have e_w1 := hU
    refine lv_iload_n hx hb d_Mo_lose_2 rfl (lv_at hl 0 rfl) ?_
    refine lv_aload_n hx hb d_Mo_lose_3 rfl (lv_at hl 1 rfl) ?_
    refine gz_get (ci := 8) (v := Value.int (nI ft)) (C := "CommitLedgerModel") (T := F_Mo) (N := 35) hx hb hts i_Mo hown hK Z f_46_w1 rfl 10 (by decide) kf_Mo_93 rfl d_Mo_lose_4 ?_
    refine lv_icmp_ge (tgt := 28) hx hb d_Mo_lose_7 (by decide) (fun c9 => absurd c9 (nI_ge hk (by omega))) (fun _ => ?_)
    refine lv_aload_n hx hb d_Mo_lose_10 rfl (lv_at hl 1 rfl) ?_
    refine gz_get (ci := 8) (v := Value.ref q53) (C := "CommitLedgerModel") (T := F_Mo) (N := 35) hx hb hts i_Mo hown hK Z f_46_w1 rfl 9 (by decide) kf_Mo_30 rfl d_Mo_lose_11 ?_
    refine lv_iload_n hx hb d_Mo_lose_14 rfl (lv_at hl 0 rfl) ?_
    refine lv_aload_n hx hb d_Mo_lose_15 rfl (lv_at hl 1 rfl) ?_
    refine gz_get (ci := 8) (v := Value.ref q51) (C := "CommitLedgerModel") (T := F_Mo) (N := 35) hx hb hts i_Mo hown hK Z f_46_w1 rfl 7 (by decide) kf_Mo_23 rfl d_Mo_lose_16 ?_
    refine lv_iload_n hx hb d_Mo_lose_19 rfl (lv_at hl 0 rfl) ?_
    refine gz_zald (j := k) hx hb hK Z 1 f_51_w1 ht1 ((by omega)) (rfl) (by decide) d_Mo_lose_20 ?_
    refine gz_zast (j := k) hx hb hK Z 1 f_53_w1 ht1 ((by omega)) (rfl) (by decide) d_Mo_lose_21 (fun H locs Z => ?_)
    obtain ⟨h3, e_h3⟩ : ∃ z9 : gm_M, z9 = gm_up w1 53 ((q53, Sum.inl (cZ, 60000, Sum.inl (upd (gv_cp k sy nd) k (vp_nar .boolean (sy k))))) : Nat × va_E) := ⟨_, rfl⟩
    replace Z : gz D A s.heap h3 H locs := by rw [e_h3]; exact Z
    have f_53_h3 : h3 53 = some ((q53, Sum.inl (cZ, 60000, Sum.inl (upd (gv_cp k sy nd) k (vp_nar .boolean (sy k))))) : Nat × va_E) := by rw [e_h3]; exact gm_self
    replace hU : gm_g h h3 [46, 50, 51, 52, 53, 84, 92, 100, 108] := by rw [e_h3]; exact hU.put (by simp)
    refine lv_iinc (v := nI (k + 1)) (lv' := [(1, Value.int (nI (k + 1))), (0, Value.ref q46)]) hx hb d_Mo_lose_22 hl (k := 0) rfl (show nI k + 1 = nI (k + 1) from nI_1 _) (by decide) rfl (fun ls hl => ?_)
    refine lv_goto (tgt := 2) hx hb d_Mo_lose_25 (by decide) ?_
    have f_46_h3 : h3 46 = some ((q46, Sum.inr (8, [Value.int m_error, Value.int m_thrown, Value.ref q47, Value.ref q48, Value.ref q49, Value.int m_docs, Value.ref q50, Value.ref q51, Value.ref q52, Value.ref q53, Value.int (nI ft), Value.int m_files, Value.int m_actions, Value.int m_power, Value.int m_lost, Value.ref q54, Value.ref q62, Value.ref q70, Value.int m_open, Value.int m_isPrepared, Value.int m_generation, Value.ref q78, Value.ref q79, Value.int m_buffered, Value.int m_limit, Value.int m_factor, um, Value.ref q80, Value.ref q81, Value.ref q82, Value.int m_merges, Value.ref q83, Value.int m_opened, Value.int m_chosenMany, Value.int m_begun])) : Nat × va_E) := by rw [e_h3]; exact gm_at f_46_w1 (by decide)
    have f_50_h3 : h3 50 = some ((q50, Sum.inl (cI, 60000, Sum.inl (gi fnu))) : Nat × va_E) := by rw [e_h3]; exact gm_at f_50_w1 (by decide)
    have f_51_h3 : h3 51 = some ((q51, Sum.inl (cZ, 60000, Sum.inl sy)) : Nat × va_E) := by rw [e_h3]; exact gm_at f_51_w1 (by decide)
    have f_52_h3 : h3 52 = some ((q52, Sum.inl (cZ, 60000, Sum.inl ha)) : Nat × va_E) := by rw [e_h3]; exact gm_at f_52_w1 (by decide)
    have f_53_n : h3 53 = some ((q53, Sum.inl (cZ, 60000, Sum.inl (gv_cp (k + 1) sy nd))) : Nat × va_E) := by rw [← gv_cp_sz (hb1 k hk)]; exact f_53_h3
    have f_84_h3 : h3 84 = some ((q84, Sum.inr (9, [Value.ref q85, Value.ref q86, Value.ref q87, Value.ref q88, Value.ref q89, Value.ref q90, Value.ref q91, Value.int s84, Value.int t84, Value.int w84, Value.int n84])) : Nat × va_E) := by rw [e_h3]; exact gm_at f_84_w1 (by decide)
    have f_92_h3 : h3 92 = some ((q92, Sum.inr (9, [Value.ref q93, Value.ref q94, Value.ref q95, Value.ref q96, Value.ref q97, Value.ref q98, Value.ref q99, Value.int s92, Value.int t92, Value.int w92, Value.int n92])) : Nat × va_E) := by rw [e_h3]; exact gm_at f_92_w1 (by decide)
    have f_100_h3 : h3 100 = some ((q100, Sum.inr (9, [Value.ref q101, Value.ref q102, Value.ref q103, Value.ref q104, Value.ref q105, Value.ref q106, Value.ref q107, Value.int s100, Value.int t100, Value.int w100, Value.int n100])) : Nat × va_E) := by rw [e_h3]; exact gm_at f_100_w1 (by decide)
    have f_108_h3 : h3 108 = some ((q108, Sum.inr (9, [Value.ref q109, Value.ref q110, Value.ref q111, Value.ref q112, Value.ref q113, Value.ref q114, Value.ref q115, Value.int s108, Value.int t108, Value.int w108, Value.int n108])) : Nat × va_E) := by rw [e_h3]; exact gm_at f_108_w1 (by decide)
    exact ihk _ _ _ _ ⟨hU, f_46_h3, f_50_h3, f_51_h3, f_52_h3, f_53_n, f_84_h3, f_92_h3, f_100_h3, f_108_h3, lv_sub hl [0, 1] rfl⟩ Z
  · obtain ⟨hU, f_46_w1, f_50_w1, f_51_w1, f_52_w1, f_53_w1, f_84_w1, f_92_w1, f_100_w1, f_108_w1, hl⟩ := hI
    have e_w1 := hU
    refine lv_iload_n hx hb d_Mo_lose_2 rfl (lv_at hl 0 rfl) ?_
    refine lv_aload_n hx hb d_Mo_lose_3 rfl (lv_at hl 1 rfl) ?_
    refine gz_get (ci := 8) (v := Value.int (nI ft)) (C := "CommitLedgerModel") (T := F_Mo) (N := 35) hx hb hts i_Mo hown hK Z f_46_w1 rfl 10 (by decide) kf_Mo_93 rfl d_Mo_lose_4 ?_
    refine lv_icmp_ge (tgt := 28) hx hb d_Mo_lose_7 (by decide) (fun _ => ?_) (fun c9 => absurd (nI_le (Nat.le_refl _) (by omega)) c9)
    refine lv_aload_n hx hb d_Mo_lose_28 rfl (lv_at hl 1 rfl) ?_
    refine gz_call (ig := .invokevirtual 96) (av := [Value.ref q46]) Z (fun ws hM => k_Mo_keepNeeded l htr D tys z _ ws w1 hM cI cZ q46 q47 q48 q49 q50 q51 q52 q53 q54 q62 q70 q78 q79 q80 q81 q82 q83 (um) m_error m_thrown m_docs m_files m_actions m_power m_lost m_open m_isPrepared m_generation m_buffered m_limit m_factor m_merges m_opened m_chosenMany m_begun fnu sy ha (gv_cp ft sy nd) ft f_46_w1 f_50_w1 f_51_w1 f_52_w1 f_53_w1 ht0 ht1 hft hb1 hb2) (gx_invV (As := []) (rest := []) hx hb hown hts km_Mo_96 kI_Mo_keepNeeded kV_Mo_keepNeeded kc_Mo_keepNeeded (by decide) (show (parseMethodDescriptor y_Mo_keepNeeded.desc).map (fun d => d.parameters.length) = some 0 by decide +kernel) (gz_recv (ci := 8) hK Z rfl f_46_w1) rfl rfl d_Mo_lose_29) (gx_cw (z := 0) hts kc_Mo_keepNeeded kN_Mo rfl rfl ⟨Nat.le_of_ble_eq_true rfl, Nat.le_of_ble_eq_true rfl⟩) hb hml hz hK hY hAz hA hl.1 (lv_room (Nat.le_of_ble_eq_true rfl)) d_Mo_lose_29 ⟨Nat.le_of_ble_eq_true rfl, Nat.le_of_ble_eq_true rfl⟩ (fun v5 h6 H locs hp Z => ?_) (fun x5 E9 ce h6 H locs hp hce Z => ?_)
    · rcases hp with ⟨hv9, e_h6, f_46_h6, f_50_h6, f_51_h6, f_52_h6⟩
      cases hv9
      have f_46_h6 : h6 46 = some ((q46, Sum.inr (8, [Value.int m_error, Value.int m_thrown, Value.ref q47, Value.ref q48, Value.ref q49, Value.int m_docs, Value.ref q50, Value.ref q51, Value.ref q52, Value.ref q53, Value.int (nI (gk (gk_nd (gv_cp ft sy nd)) ft)), Value.int m_files, Value.int m_actions, Value.int m_power, Value.int m_lost, Value.ref q54, Value.ref q62, Value.ref q70, Value.int m_open, Value.int m_isPrepared, Value.int m_generation, Value.ref q78, Value.ref q79, Value.int m_buffered, Value.int m_limit, Value.int m_factor, um, Value.ref q80, Value.ref q81, Value.ref q82, Value.int m_merges, Value.ref q83, Value.int m_opened, Value.int m_chosenMany, Value.int m_begun])) : Nat × va_E) := f_46_h6
      have f_50_h6 : h6 50 = some ((q50, Sum.inl (cI, 60000, Sum.inl (gi (gcp (gk_nd (gv_cp ft sy nd)) fnu fnu ft)))) : Nat × va_E) := f_50_h6
      have f_51_h6 : h6 51 = some ((q51, Sum.inl (cZ, 60000, Sum.inl (gcp (gk_nd (gv_cp ft sy nd)) sy sy ft))) : Nat × va_E) := f_51_h6
      have f_52_h6 : h6 52 = some ((q52, Sum.inl (cZ, 60000, Sum.inl (gcp (gk_nd (gv_cp ft sy nd)) ha ha ft))) : Nat × va_E) := f_52_h6
      replace hU : gm_g h h6 [46, 50, 51, 52, 53, 84, 92, 100, 108] := hU.call e_h6 (by first | decide | (simp; done) | (simp; omega))
      refine W.eq (g2 := F0 m 32 ls []) rfl ?_
      refine lv_aload_n hx hb d_Mo_lose_32 rfl (lv_at hl 1 rfl) ?_
      refine lv_iconst (v := 0) hx hb d_Mo_lose_33 (by decide) ?_
      refine gz_put (ci := 8) (v := Value.int 0) (ty := .boolean) (C := "CommitLedgerModel") (T := F_Mo) (N := 35) hx hb hts i_Mo t_Mo_ok n_Mo hown hK Z f_46_h6 rfl 18 (by decide) kf_Mo_99 rfl (by decide +kernel) rfl rfl (Nat.le_of_ble_eq_true rfl) d_Mo_lose_34 (fun H locs Z => ?_)
      obtain ⟨h7, e_h7⟩ : ∃ z9 : gm_M, z9 = gm_up h6 46 ((q46, Sum.inr (8, [Value.int m_error, Value.int m_thrown, Value.ref q47, Value.ref q48, Value.ref q49, Value.int m_docs, Value.ref q50, Value.ref q51, Value.ref q52, Value.ref q53, Value.int (nI (gk (gk_nd (gv_cp ft sy nd)) ft)), Value.int m_files, Value.int m_actions, Value.int m_power, Value.int m_lost, Value.ref q54, Value.ref q62, Value.ref q70, Value.int 0, Value.int m_isPrepared, Value.int m_generation, Value.ref q78, Value.ref q79, Value.int m_buffered, Value.int m_limit, Value.int m_factor, um, Value.ref q80, Value.ref q81, Value.ref q82, Value.int m_merges, Value.ref q83, Value.int m_opened, Value.int m_chosenMany, Value.int m_begun])) : Nat × va_E) := ⟨_, rfl⟩
      replace Z : gz D A s.heap h7 H locs := by rw [e_h7]; exact Z
      have f_46_h7 : h7 46 = some ((q46, Sum.inr (8, [Value.int m_error, Value.int m_thrown, Value.ref q47, Value.ref q48, Value.ref q49, Value.int m_docs, Value.ref q50, Value.ref q51, Value.ref q52, Value.ref q53, Value.int (nI (gk (gk_nd (gv_cp ft sy nd)) ft)), Value.int m_files, Value.int m_actions, Value.int m_power, Value.int m_lost, Value.ref q54, Value.ref q62, Value.ref q70, Value.int 0, Value.int m_isPrepared, Value.int m_generation, Value.ref q78, Value.ref q79, Value.int m_buffered, Value.int m_limit, Value.int m_factor, um, Value.ref q80, Value.ref q81, Value.ref q82, Value.int m_merges, Value.ref q83, Value.int m_opened, Value.int m_chosenMany, Value.int m_begun])) : Nat × va_E) := by rw [e_h7]; exact gm_self
      replace hU : gm_g h h7 [46, 50, 51, 52, 53, 84, 92, 100, 108] := by rw [e_h7]; exact hU.put (by simp)
      refine lv_aload_n hx hb d_Mo_lose_37 rfl (lv_at hl 1 rfl) ?_
      refine gz_get (ci := 8) (v := Value.ref q83) (C := "CommitLedgerModel") (T := F_Mo) (N := 35) hx hb hts i_Mo hown hK Z f_46_h7 rfl 31 (by decide) kf_Mo_76 rfl d_Mo_lose_38 ?_
      refine lv_astore_n (lv' := [(1, Value.ref q83), (0, Value.ref q46)]) hx hb d_Mo_lose_41 rfl hl (by decide) rfl (fun ls hl => ?_)
      refine lv_aload_n hx hb d_Mo_lose_42 rfl (lv_at hl 0 rfl) ?_
      have f_83_w1 : w1 83 = some ((q83, Sum.inl (cV, 4, Sum.inr (Sum.inr (Sum.inr (Sum.inr (va_up (va_up (va_up (va_up (fun _ => none) 0 (some q84)) 1 (some q92)) 2 (some q100)) 3 (some q108))))))) : Nat × va_E) := e_w1.at f_83 (by first | decide | (simp; done) | (simp; omega))
      have f_83_h6 : h6 83 = some ((q83, Sum.inl (cV, 4, Sum.inr (Sum.inr (Sum.inr (Sum.inr (va_up (va_up (va_up (va_up (fun _ => none) 0 (some q84)) 1 (some q92)) 2 (some q100)) 3 (some q108))))))) : Nat × va_E) := e_h6.at f_83_w1 (by first | decide | (simp; done) | (simp; omega))
      have f_83_h7 : h7 83 = some ((q83, Sum.inl (cV, 4, Sum.inr (Sum.inr (Sum.inr (Sum.inr (va_up (va_up (va_up (va_up (fun _ => none) 0 (some q84)) 1 (some q92)) 2 (some q100)) 3 (some q108))))))) : Nat × va_E) := by rw [e_h7]; exact gm_at f_83_h6 (by decide)
      refine gz_alen (v := 4) hx hb hK Z 5 f_83_h7 ht5 rfl d_Mo_lose_43 ?_
      refine lv_istore_n (lv' := [(2, Value.int 4), (1, Value.ref q83), (0, Value.ref q46)]) hx hb d_Mo_lose_44 rfl hl (by decide) rfl (fun ls hl => ?_)
      refine lv_iconst (v := 0) hx hb d_Mo_lose_45 (by decide) ?_
      refine lv_istore_n (lv' := [(3, Value.int 0), (2, Value.int 4), (1, Value.ref q83), (0, Value.ref q46)]) hx hb d_Mo_lose_46 rfl hl (by decide) rfl (fun ls hl => ?_)
      refine lv_iload_n hx hb d_Mo_lose_47 rfl (lv_at hl 0 rfl) ?_
      refine lv_iload_n hx hb d_Mo_lose_48 rfl (lv_at hl 1 rfl) ?_
      refine lv_icmp_ge (tgt := 69) hx hb d_Mo_lose_49 (by decide) (fun c9 => absurd c9 (by decide)) (fun _ => ?_)
      refine lv_aload_n hx hb d_Mo_lose_52 rfl (lv_at hl 2 rfl) ?_
      refine lv_iload_n hx hb d_Mo_lose_53 rfl (lv_at hl 0 rfl) ?_
      refine gz_aald (v := Value.ref q84) (j := 0) hx hb hK Z 5 f_83_h7 ht5 (by decide) (by decide) (by decide) (rfl) d_Mo_lose_54 ?_
      refine lv_astore (lv' := [(4, Value.ref q84), (3, Value.int 0), (2, Value.int 4), (1, Value.ref q83), (0, Value.ref q46)]) hx hb d_Mo_lose_55 hl (by decide) rfl (fun ls hl => ?_)
      refine lv_aload hx hb d_Mo_lose_57 (lv_at hl 0 rfl) ?_
      refine lv_iconst (v := 0) hx hb d_Mo_lose_59 (by decide) ?_
      have f_84_h6 : h6 84 = some ((q84, Sum.inr (9, [Value.ref q85, Value.ref q86, Value.ref q87, Value.ref q88, Value.ref q89, Value.ref q90, Value.ref q91, Value.int s84, Value.int t84, Value.int w84, Value.int n84])) : Nat × va_E) := e_h6.at f_84_w1 (by first | decide | (simp; done) | (simp; omega))
      have f_84_h7 : h7 84 = some ((q84, Sum.inr (9, [Value.ref q85, Value.ref q86, Value.ref q87, Value.ref q88, Value.ref q89, Value.ref q90, Value.ref q91, Value.int s84, Value.int t84, Value.int w84, Value.int n84])) : Nat × va_E) := by rw [e_h7]; exact gm_at f_84_h6 (by decide)
      refine gz_put (ci := 9) (v := Value.int 0) (ty := .int) (C := "CommitLedgerModel$Version") (T := F_Ve) (N := 11) hx hb hts i_Ve t_Ve_ok n_Ve hown hK Z f_84_h7 rfl 10 (by decide) kf_Mo_103 rfl (by decide +kernel) rfl rfl (Nat.le_of_ble_eq_true rfl) d_Mo_lose_60 (fun H locs Z => ?_)
      obtain ⟨h8, e_h8⟩ : ∃ z9 : gm_M, z9 = gm_up h7 84 ((q84, Sum.inr (9, [Value.ref q85, Value.ref q86, Value.ref q87, Value.ref q88, Value.ref q89, Value.ref q90, Value.ref q91, Value.int s84, Value.int t84, Value.int w84, Value.int 0])) : Nat × va_E) := ⟨_, rfl⟩
      replace Z : gz D A s.heap h8 H locs := by rw [e_h8]; exact Z
      have f_84_h8 : h8 84 = some ((q84, Sum.inr (9, [Value.ref q85, Value.ref q86, Value.ref q87, Value.ref q88, Value.ref q89, Value.ref q90, Value.ref q91, Value.int s84, Value.int t84, Value.int w84, Value.int 0])) : Nat × va_E) := by rw [e_h8]; exact gm_self
      replace hU : gm_g h h8 [46, 50, 51, 52, 53, 84, 92, 100, 108] := by rw [e_h8]; exact hU.put (by simp)
      refine lv_iinc (v := 1) (lv' := [(3, Value.int 1), (4, Value.ref q84), (2, Value.int 4), (1, Value.ref q83), (0, Value.ref q46)]) hx hb d_Mo_lose_63 hl (k := 1) rfl (by decide) (by decide) rfl (fun ls hl => ?_)
      refine lv_goto (tgt := 47) hx hb d_Mo_lose_66 (by decide) ?_
      refine lv_iload_n hx hb d_Mo_lose_47 rfl (lv_at hl 0 rfl) ?_
      refine lv_iload_n hx hb d_Mo_lose_48 rfl (lv_at hl 2 rfl) ?_
      refine lv_icmp_ge (tgt := 69) hx hb d_Mo_lose_49 (by decide) (fun c9 => absurd c9 (by decide)) (fun _ => ?_)
      refine lv_aload_n hx hb d_Mo_lose_52 rfl (lv_at hl 3 rfl) ?_
      refine lv_iload_n hx hb d_Mo_lose_53 rfl (lv_at hl 0 rfl) ?_
      have f_83_h8 : h8 83 = some ((q83, Sum.inl (cV, 4, Sum.inr (Sum.inr (Sum.inr (Sum.inr (va_up (va_up (va_up (va_up (fun _ => none) 0 (some q84)) 1 (some q92)) 2 (some q100)) 3 (some q108))))))) : Nat × va_E) := by rw [e_h8]; exact gm_at f_83_h7 (by decide)
      refine gz_aald (v := Value.ref q92) (j := 1) hx hb hK Z 5 f_83_h8 ht5 (by decide) (by decide) (by decide) (rfl) d_Mo_lose_54 ?_
      refine lv_astore (lv' := [(4, Value.ref q92), (3, Value.int 1), (2, Value.int 4), (1, Value.ref q83), (0, Value.ref q46)]) hx hb d_Mo_lose_55 hl (by decide) rfl (fun ls hl => ?_)
      refine lv_aload hx hb d_Mo_lose_57 (lv_at hl 0 rfl) ?_
      refine lv_iconst (v := 0) hx hb d_Mo_lose_59 (by decide) ?_
      have f_92_h6 : h6 92 = some ((q92, Sum.inr (9, [Value.ref q93, Value.ref q94, Value.ref q95, Value.ref q96, Value.ref q97, Value.ref q98, Value.ref q99, Value.int s92, Value.int t92, Value.int w92, Value.int n92])) : Nat × va_E) := e_h6.at f_92_w1 (by first | decide | (simp; done) | (simp; omega))
      have f_92_h7 : h7 92 = some ((q92, Sum.inr (9, [Value.ref q93, Value.ref q94, Value.ref q95, Value.ref q96, Value.ref q97, Value.ref q98, Value.ref q99, Value.int s92, Value.int t92, Value.int w92, Value.int n92])) : Nat × va_E) := by rw [e_h7]; exact gm_at f_92_h6 (by decide)
      have f_92_h8 : h8 92 = some ((q92, Sum.inr (9, [Value.ref q93, Value.ref q94, Value.ref q95, Value.ref q96, Value.ref q97, Value.ref q98, Value.ref q99, Value.int s92, Value.int t92, Value.int w92, Value.int n92])) : Nat × va_E) := by rw [e_h8]; exact gm_at f_92_h7 (by decide)
      refine gz_put (ci := 9) (v := Value.int 0) (ty := .int) (C := "CommitLedgerModel$Version") (T := F_Ve) (N := 11) hx hb hts i_Ve t_Ve_ok n_Ve hown hK Z f_92_h8 rfl 10 (by decide) kf_Mo_103 rfl (by decide +kernel) rfl rfl (Nat.le_of_ble_eq_true rfl) d_Mo_lose_60 (fun H locs Z => ?_)
      obtain ⟨h9, e_h9⟩ : ∃ z9 : gm_M, z9 = gm_up h8 92 ((q92, Sum.inr (9, [Value.ref q93, Value.ref q94, Value.ref q95, Value.ref q96, Value.ref q97, Value.ref q98, Value.ref q99, Value.int s92, Value.int t92, Value.int w92, Value.int 0])) : Nat × va_E) := ⟨_, rfl⟩
      replace Z : gz D A s.heap h9 H locs := by rw [e_h9]; exact Z
      have f_92_h9 : h9 92 = some ((q92, Sum.inr (9, [Value.ref q93, Value.ref q94, Value.ref q95, Value.ref q96, Value.ref q97, Value.ref q98, Value.ref q99, Value.int s92, Value.int t92, Value.int w92, Value.int 0])) : Nat × va_E) := by rw [e_h9]; exact gm_self
      replace hU : gm_g h h9 [46, 50, 51, 52, 53, 84, 92, 100, 108] := by rw [e_h9]; exact hU.put (by simp)
      refine lv_iinc (v := 2) (lv' := [(3, Value.int 2), (4, Value.ref q92), (2, Value.int 4), (1, Value.ref q83), (0, Value.ref q46)]) hx hb d_Mo_lose_63 hl (k := 1) rfl (by decide) (by decide) rfl (fun ls hl => ?_)
      refine lv_goto (tgt := 47) hx hb d_Mo_lose_66 (by decide) ?_
      refine lv_iload_n hx hb d_Mo_lose_47 rfl (lv_at hl 0 rfl) ?_
      refine lv_iload_n hx hb d_Mo_lose_48 rfl (lv_at hl 2 rfl) ?_
      refine lv_icmp_ge (tgt := 69) hx hb d_Mo_lose_49 (by decide) (fun c9 => absurd c9 (by decide)) (fun _ => ?_)
      refine lv_aload_n hx hb d_Mo_lose_52 rfl (lv_at hl 3 rfl) ?_
      refine lv_iload_n hx hb d_Mo_lose_53 rfl (lv_at hl 0 rfl) ?_
      have f_83_h9 : h9 83 = some ((q83, Sum.inl (cV, 4, Sum.inr (Sum.inr (Sum.inr (Sum.inr (va_up (va_up (va_up (va_up (fun _ => none) 0 (some q84)) 1 (some q92)) 2 (some q100)) 3 (some q108))))))) : Nat × va_E) := by rw [e_h9]; exact gm_at f_83_h8 (by decide)
      refine gz_aald (v := Value.ref q100) (j := 2) hx hb hK Z 5 f_83_h9 ht5 (by decide) (by decide) (by decide) (rfl) d_Mo_lose_54 ?_
      refine lv_astore (lv' := [(4, Value.ref q100), (3, Value.int 2), (2, Value.int 4), (1, Value.ref q83), (0, Value.ref q46)]) hx hb d_Mo_lose_55 hl (by decide) rfl (fun ls hl => ?_)
      refine lv_aload hx hb d_Mo_lose_57 (lv_at hl 0 rfl) ?_
      refine lv_iconst (v := 0) hx hb d_Mo_lose_59 (by decide) ?_
      have f_100_h6 : h6 100 = some ((q100, Sum.inr (9, [Value.ref q101, Value.ref q102, Value.ref q103, Value.ref q104, Value.ref q105, Value.ref q106, Value.ref q107, Value.int s100, Value.int t100, Value.int w100, Value.int n100])) : Nat × va_E) := e_h6.at f_100_w1 (by first | decide | (simp; done) | (simp; omega))
      have f_100_h7 : h7 100 = some ((q100, Sum.inr (9, [Value.ref q101, Value.ref q102, Value.ref q103, Value.ref q104, Value.ref q105, Value.ref q106, Value.ref q107, Value.int s100, Value.int t100, Value.int w100, Value.int n100])) : Nat × va_E) := by rw [e_h7]; exact gm_at f_100_h6 (by decide)
      have f_100_h8 : h8 100 = some ((q100, Sum.inr (9, [Value.ref q101, Value.ref q102, Value.ref q103, Value.ref q104, Value.ref q105, Value.ref q106, Value.ref q107, Value.int s100, Value.int t100, Value.int w100, Value.int n100])) : Nat × va_E) := by rw [e_h8]; exact gm_at f_100_h7 (by decide)
      have f_100_h9 : h9 100 = some ((q100, Sum.inr (9, [Value.ref q101, Value.ref q102, Value.ref q103, Value.ref q104, Value.ref q105, Value.ref q106, Value.ref q107, Value.int s100, Value.int t100, Value.int w100, Value.int n100])) : Nat × va_E) := by rw [e_h9]; exact gm_at f_100_h8 (by decide)
      refine gz_put (ci := 9) (v := Value.int 0) (ty := .int) (C := "CommitLedgerModel$Version") (T := F_Ve) (N := 11) hx hb hts i_Ve t_Ve_ok n_Ve hown hK Z f_100_h9 rfl 10 (by decide) kf_Mo_103 rfl (by decide +kernel) rfl rfl (Nat.le_of_ble_eq_true rfl) d_Mo_lose_60 (fun H locs Z => ?_)
      obtain ⟨h10, e_h10⟩ : ∃ z9 : gm_M, z9 = gm_up h9 100 ((q100, Sum.inr (9, [Value.ref q101, Value.ref q102, Value.ref q103, Value.ref q104, Value.ref q105, Value.ref q106, Value.ref q107, Value.int s100, Value.int t100, Value.int w100, Value.int 0])) : Nat × va_E) := ⟨_, rfl⟩
      replace Z : gz D A s.heap h10 H locs := by rw [e_h10]; exact Z
      have f_100_h10 : h10 100 = some ((q100, Sum.inr (9, [Value.ref q101, Value.ref q102, Value.ref q103, Value.ref q104, Value.ref q105, Value.ref q106, Value.ref q107, Value.int s100, Value.int t100, Value.int w100, Value.int 0])) : Nat × va_E) := by rw [e_h10]; exact gm_self
      replace hU : gm_g h h10 [46, 50, 51, 52, 53, 84, 92, 100, 108] := by rw [e_h10]; exact hU.put (by simp)
      refine lv_iinc (v := 3) (lv' := [(3, Value.int 3), (4, Value.ref q100), (2, Value.int 4), (1, Value.ref q83), (0, Value.ref q46)]) hx hb d_Mo_lose_63 hl (k := 1) rfl (by decide) (by decide) rfl (fun ls hl => ?_)
      refine lv_goto (tgt := 47) hx hb d_Mo_lose_66 (by decide) ?_
      refine lv_iload_n hx hb d_Mo_lose_47 rfl (lv_at hl 0 rfl) ?_
      refine lv_iload_n hx hb d_Mo_lose_48 rfl (lv_at hl 2 rfl) ?_
      refine lv_icmp_ge (tgt := 69) hx hb d_Mo_lose_49 (by decide) (fun c9 => absurd c9 (by decide)) (fun _ => ?_)
      refine lv_aload_n hx hb d_Mo_lose_52 rfl (lv_at hl 3 rfl) ?_
      refine lv_iload_n hx hb d_Mo_lose_53 rfl (lv_at hl 0 rfl) ?_
      have f_83_h10 : h10 83 = some ((q83, Sum.inl (cV, 4, Sum.inr (Sum.inr (Sum.inr (Sum.inr (va_up (va_up (va_up (va_up (fun _ => none) 0 (some q84)) 1 (some q92)) 2 (some q100)) 3 (some q108))))))) : Nat × va_E) := by rw [e_h10]; exact gm_at f_83_h9 (by decide)
      refine gz_aald (v := Value.ref q108) (j := 3) hx hb hK Z 5 f_83_h10 ht5 (by decide) (by decide) (by decide) (rfl) d_Mo_lose_54 ?_
      refine lv_astore (lv' := [(4, Value.ref q108), (3, Value.int 3), (2, Value.int 4), (1, Value.ref q83), (0, Value.ref q46)]) hx hb d_Mo_lose_55 hl (by decide) rfl (fun ls hl => ?_)
      refine lv_aload hx hb d_Mo_lose_57 (lv_at hl 0 rfl) ?_
      refine lv_iconst (v := 0) hx hb d_Mo_lose_59 (by decide) ?_
      have f_108_h6 : h6 108 = some ((q108, Sum.inr (9, [Value.ref q109, Value.ref q110, Value.ref q111, Value.ref q112, Value.ref q113, Value.ref q114, Value.ref q115, Value.int s108, Value.int t108, Value.int w108, Value.int n108])) : Nat × va_E) := e_h6.at f_108_w1 (by first | decide | (simp; done) | (simp; omega))
      have f_108_h7 : h7 108 = some ((q108, Sum.inr (9, [Value.ref q109, Value.ref q110, Value.ref q111, Value.ref q112, Value.ref q113, Value.ref q114, Value.ref q115, Value.int s108, Value.int t108, Value.int w108, Value.int n108])) : Nat × va_E) := by rw [e_h7]; exact gm_at f_108_h6 (by decide)
      have f_108_h8 : h8 108 = some ((q108, Sum.inr (9, [Value.ref q109, Value.ref q110, Value.ref q111, Value.ref q112, Value.ref q113, Value.ref q114, Value.ref q115, Value.int s108, Value.int t108, Value.int w108, Value.int n108])) : Nat × va_E) := by rw [e_h8]; exact gm_at f_108_h7 (by decide)
      have f_108_h9 : h9 108 = some ((q108, Sum.inr (9, [Value.ref q109, Value.ref q110, Value.ref q111, Value.ref q112, Value.ref q113, Value.ref q114, Value.ref q115, Value.int s108, Value.int t108, Value.int w108, Value.int n108])) : Nat × va_E) := by rw [e_h9]; exact gm_at f_108_h8 (by decide)
      have f_108_h10 : h10 108 = some ((q108, Sum.inr (9, [Value.ref q109, Value.ref q110, Value.ref q111, Value.ref q112, Value.ref q113, Value.ref q114, Value.ref q115, Value.int s108, Value.int t108, Value.int w108, Value.int n108])) : Nat × va_E) := by rw [e_h10]; exact gm_at f_108_h9 (by decide)
      refine gz_put (ci := 9) (v := Value.int 0) (ty := .int) (C := "CommitLedgerModel$Version") (T := F_Ve) (N := 11) hx hb hts i_Ve t_Ve_ok n_Ve hown hK Z f_108_h10 rfl 10 (by decide) kf_Mo_103 rfl (by decide +kernel) rfl rfl (Nat.le_of_ble_eq_true rfl) d_Mo_lose_60 (fun H locs Z => ?_)
      obtain ⟨h11, e_h11⟩ : ∃ z9 : gm_M, z9 = gm_up h10 108 ((q108, Sum.inr (9, [Value.ref q109, Value.ref q110, Value.ref q111, Value.ref q112, Value.ref q113, Value.ref q114, Value.ref q115, Value.int s108, Value.int t108, Value.int w108, Value.int 0])) : Nat × va_E) := ⟨_, rfl⟩
      replace Z : gz D A s.heap h11 H locs := by rw [e_h11]; exact Z
      have f_108_h11 : h11 108 = some ((q108, Sum.inr (9, [Value.ref q109, Value.ref q110, Value.ref q111, Value.ref q112, Value.ref q113, Value.ref q114, Value.ref q115, Value.int s108, Value.int t108, Value.int w108, Value.int 0])) : Nat × va_E) := by rw [e_h11]; exact gm_self
      replace hU : gm_g h h11 [46, 50, 51, 52, 53, 84, 92, 100, 108] := by rw [e_h11]; exact hU.put (by simp)
      refine lv_iinc (v := 4) (lv' := [(3, Value.int 4), (4, Value.ref q108), (2, Value.int 4), (1, Value.ref q83), (0, Value.ref q46)]) hx hb d_Mo_lose_63 hl (k := 1) rfl (by decide) (by decide) rfl (fun ls hl => ?_)
      refine lv_goto (tgt := 47) hx hb d_Mo_lose_66 (by decide) ?_
      refine lv_iload_n hx hb d_Mo_lose_47 rfl (lv_at hl 0 rfl) ?_
      refine lv_iload_n hx hb d_Mo_lose_48 rfl (lv_at hl 2 rfl) ?_
      refine lv_icmp_ge (tgt := 69) hx hb d_Mo_lose_49 (by decide) (fun _ => ?_) (fun c9 => absurd (by decide) c9)
      refine lv_aload_n hx hb d_Mo_lose_69 rfl (lv_at hl 4 rfl) ?_
      refine lv_iconst (v := 0) hx hb d_Mo_lose_70 (by decide) ?_
      have f_46_h8 : h8 46 = some ((q46, Sum.inr (8, [Value.int m_error, Value.int m_thrown, Value.ref q47, Value.ref q48, Value.ref q49, Value.int m_docs, Value.ref q50, Value.ref q51, Value.ref q52, Value.ref q53, Value.int (nI (gk (gk_nd (gv_cp ft sy nd)) ft)), Value.int m_files, Value.int m_actions, Value.int m_power, Value.int m_lost, Value.ref q54, Value.ref q62, Value.ref q70, Value.int 0, Value.int m_isPrepared, Value.int m_generation, Value.ref q78, Value.ref q79, Value.int m_buffered, Value.int m_limit, Value.int m_factor, um, Value.ref q80, Value.ref q81, Value.ref q82, Value.int m_merges, Value.ref q83, Value.int m_opened, Value.int m_chosenMany, Value.int m_begun])) : Nat × va_E) := by rw [e_h8]; exact gm_at f_46_h7 (by decide)
      have f_46_h9 : h9 46 = some ((q46, Sum.inr (8, [Value.int m_error, Value.int m_thrown, Value.ref q47, Value.ref q48, Value.ref q49, Value.int m_docs, Value.ref q50, Value.ref q51, Value.ref q52, Value.ref q53, Value.int (nI (gk (gk_nd (gv_cp ft sy nd)) ft)), Value.int m_files, Value.int m_actions, Value.int m_power, Value.int m_lost, Value.ref q54, Value.ref q62, Value.ref q70, Value.int 0, Value.int m_isPrepared, Value.int m_generation, Value.ref q78, Value.ref q79, Value.int m_buffered, Value.int m_limit, Value.int m_factor, um, Value.ref q80, Value.ref q81, Value.ref q82, Value.int m_merges, Value.ref q83, Value.int m_opened, Value.int m_chosenMany, Value.int m_begun])) : Nat × va_E) := by rw [e_h9]; exact gm_at f_46_h8 (by decide)
      have f_46_h10 : h10 46 = some ((q46, Sum.inr (8, [Value.int m_error, Value.int m_thrown, Value.ref q47, Value.ref q48, Value.ref q49, Value.int m_docs, Value.ref q50, Value.ref q51, Value.ref q52, Value.ref q53, Value.int (nI (gk (gk_nd (gv_cp ft sy nd)) ft)), Value.int m_files, Value.int m_actions, Value.int m_power, Value.int m_lost, Value.ref q54, Value.ref q62, Value.ref q70, Value.int 0, Value.int m_isPrepared, Value.int m_generation, Value.ref q78, Value.ref q79, Value.int m_buffered, Value.int m_limit, Value.int m_factor, um, Value.ref q80, Value.ref q81, Value.ref q82, Value.int m_merges, Value.ref q83, Value.int m_opened, Value.int m_chosenMany, Value.int m_begun])) : Nat × va_E) := by rw [e_h10]; exact gm_at f_46_h9 (by decide)
      have f_46_h11 : h11 46 = some ((q46, Sum.inr (8, [Value.int m_error, Value.int m_thrown, Value.ref q47, Value.ref q48, Value.ref q49, Value.int m_docs, Value.ref q50, Value.ref q51, Value.ref q52, Value.ref q53, Value.int (nI (gk (gk_nd (gv_cp ft sy nd)) ft)), Value.int m_files, Value.int m_actions, Value.int m_power, Value.int m_lost, Value.ref q54, Value.ref q62, Value.ref q70, Value.int 0, Value.int m_isPrepared, Value.int m_generation, Value.ref q78, Value.ref q79, Value.int m_buffered, Value.int m_limit, Value.int m_factor, um, Value.ref q80, Value.ref q81, Value.ref q82, Value.int m_merges, Value.ref q83, Value.int m_opened, Value.int m_chosenMany, Value.int m_begun])) : Nat × va_E) := by rw [e_h11]; exact gm_at f_46_h10 (by decide)
      refine gz_put (ci := 8) (v := Value.int 0) (ty := .int) (C := "CommitLedgerModel") (T := F_Mo) (N := 35) hx hb hts i_Mo t_Mo_ok n_Mo hown hK Z f_46_h11 rfl 30 (by decide) kf_Mo_106 rfl (by decide +kernel) rfl rfl (Nat.le_of_ble_eq_true rfl) d_Mo_lose_71 (fun H locs Z => ?_)
      obtain ⟨h12, e_h12⟩ : ∃ z9 : gm_M, z9 = gm_up h11 46 ((q46, Sum.inr (8, [Value.int m_error, Value.int m_thrown, Value.ref q47, Value.ref q48, Value.ref q49, Value.int m_docs, Value.ref q50, Value.ref q51, Value.ref q52, Value.ref q53, Value.int (nI (gk (gk_nd (gv_cp ft sy nd)) ft)), Value.int m_files, Value.int m_actions, Value.int m_power, Value.int m_lost, Value.ref q54, Value.ref q62, Value.ref q70, Value.int 0, Value.int m_isPrepared, Value.int m_generation, Value.ref q78, Value.ref q79, Value.int m_buffered, Value.int m_limit, Value.int m_factor, um, Value.ref q80, Value.ref q81, Value.ref q82, Value.int 0, Value.ref q83, Value.int m_opened, Value.int m_chosenMany, Value.int m_begun])) : Nat × va_E) := ⟨_, rfl⟩
      replace Z : gz D A s.heap h12 H locs := by rw [e_h12]; exact Z
      have f_46_h12 : h12 46 = some ((q46, Sum.inr (8, [Value.int m_error, Value.int m_thrown, Value.ref q47, Value.ref q48, Value.ref q49, Value.int m_docs, Value.ref q50, Value.ref q51, Value.ref q52, Value.ref q53, Value.int (nI (gk (gk_nd (gv_cp ft sy nd)) ft)), Value.int m_files, Value.int m_actions, Value.int m_power, Value.int m_lost, Value.ref q54, Value.ref q62, Value.ref q70, Value.int 0, Value.int m_isPrepared, Value.int m_generation, Value.ref q78, Value.ref q79, Value.int m_buffered, Value.int m_limit, Value.int m_factor, um, Value.ref q80, Value.ref q81, Value.ref q82, Value.int 0, Value.ref q83, Value.int m_opened, Value.int m_chosenMany, Value.int m_begun])) : Nat × va_E) := by rw [e_h12]; exact gm_self
      replace hU : gm_g h h12 [46, 50, 51, 52, 53, 84, 92, 100, 108] := by rw [e_h12]; exact hU.put (by simp)
      refine lv_aload_n hx hb d_Mo_lose_74 rfl (lv_at hl 4 rfl) ?_
      refine lv_iconst (v := 0) hx hb d_Mo_lose_75 (by decide) ?_
      refine gz_put (ci := 8) (v := Value.int 0) (ty := .boolean) (C := "CommitLedgerModel") (T := F_Mo) (N := 35) hx hb hts i_Mo t_Mo_ok n_Mo hown hK Z f_46_h12 rfl 19 (by decide) kf_Mo_109 rfl (by decide +kernel) rfl rfl (Nat.le_of_ble_eq_true rfl) d_Mo_lose_76 (fun H locs Z => ?_)
      obtain ⟨h13, e_h13⟩ : ∃ z9 : gm_M, z9 = gm_up h12 46 ((q46, Sum.inr (8, [Value.int m_error, Value.int m_thrown, Value.ref q47, Value.ref q48, Value.ref q49, Value.int m_docs, Value.ref q50, Value.ref q51, Value.ref q52, Value.ref q53, Value.int (nI (gk (gk_nd (gv_cp ft sy nd)) ft)), Value.int m_files, Value.int m_actions, Value.int m_power, Value.int m_lost, Value.ref q54, Value.ref q62, Value.ref q70, Value.int 0, Value.int 0, Value.int m_generation, Value.ref q78, Value.ref q79, Value.int m_buffered, Value.int m_limit, Value.int m_factor, um, Value.ref q80, Value.ref q81, Value.ref q82, Value.int 0, Value.ref q83, Value.int m_opened, Value.int m_chosenMany, Value.int m_begun])) : Nat × va_E) := ⟨_, rfl⟩
      replace Z : gz D A s.heap h13 H locs := by rw [e_h13]; exact Z
      have f_46_h13 : h13 46 = some ((q46, Sum.inr (8, [Value.int m_error, Value.int m_thrown, Value.ref q47, Value.ref q48, Value.ref q49, Value.int m_docs, Value.ref q50, Value.ref q51, Value.ref q52, Value.ref q53, Value.int (nI (gk (gk_nd (gv_cp ft sy nd)) ft)), Value.int m_files, Value.int m_actions, Value.int m_power, Value.int m_lost, Value.ref q54, Value.ref q62, Value.ref q70, Value.int 0, Value.int 0, Value.int m_generation, Value.ref q78, Value.ref q79, Value.int m_buffered, Value.int m_limit, Value.int m_factor, um, Value.ref q80, Value.ref q81, Value.ref q82, Value.int 0, Value.ref q83, Value.int m_opened, Value.int m_chosenMany, Value.int m_begun])) : Nat × va_E) := by rw [e_h13]; exact gm_self
      replace hU : gm_g h h13 [46, 50, 51, 52, 53, 84, 92, 100, 108] := by rw [e_h13]; exact hU.put (by simp)
      refine lv_aload_n hx hb d_Mo_lose_79 rfl (lv_at hl 4 rfl) ?_
      refine lv_iconst (v := (-1)) hx hb d_Mo_lose_80 (by decide) ?_
      refine gz_put (ci := 8) (v := Value.int (-1)) (ty := .int) (C := "CommitLedgerModel") (T := F_Mo) (N := 35) hx hb hts i_Mo t_Mo_ok n_Mo hown hK Z f_46_h13 rfl 13 (by decide) kf_Mo_33 rfl (by decide +kernel) rfl rfl (Nat.le_of_ble_eq_true rfl) d_Mo_lose_81 (fun H locs Z => ?_)
      obtain ⟨h14, e_h14⟩ : ∃ z9 : gm_M, z9 = gm_up h13 46 ((q46, Sum.inr (8, [Value.int m_error, Value.int m_thrown, Value.ref q47, Value.ref q48, Value.ref q49, Value.int m_docs, Value.ref q50, Value.ref q51, Value.ref q52, Value.ref q53, Value.int (nI (gk (gk_nd (gv_cp ft sy nd)) ft)), Value.int m_files, Value.int m_actions, Value.int (-1), Value.int m_lost, Value.ref q54, Value.ref q62, Value.ref q70, Value.int 0, Value.int 0, Value.int m_generation, Value.ref q78, Value.ref q79, Value.int m_buffered, Value.int m_limit, Value.int m_factor, um, Value.ref q80, Value.ref q81, Value.ref q82, Value.int 0, Value.ref q83, Value.int m_opened, Value.int m_chosenMany, Value.int m_begun])) : Nat × va_E) := ⟨_, rfl⟩
      replace Z : gz D A s.heap h14 H locs := by rw [e_h14]; exact Z
      have f_46_h14 : h14 46 = some ((q46, Sum.inr (8, [Value.int m_error, Value.int m_thrown, Value.ref q47, Value.ref q48, Value.ref q49, Value.int m_docs, Value.ref q50, Value.ref q51, Value.ref q52, Value.ref q53, Value.int (nI (gk (gk_nd (gv_cp ft sy nd)) ft)), Value.int m_files, Value.int m_actions, Value.int (-1), Value.int m_lost, Value.ref q54, Value.ref q62, Value.ref q70, Value.int 0, Value.int 0, Value.int m_generation, Value.ref q78, Value.ref q79, Value.int m_buffered, Value.int m_limit, Value.int m_factor, um, Value.ref q80, Value.ref q81, Value.ref q82, Value.int 0, Value.ref q83, Value.int m_opened, Value.int m_chosenMany, Value.int m_begun])) : Nat × va_E) := by rw [e_h14]; exact gm_self
      replace hU : gm_g h h14 [46, 50, 51, 52, 53, 84, 92, 100, 108] := by rw [e_h14]; exact hU.put (by simp)
      refine lv_aload_n hx hb d_Mo_lose_84 rfl (lv_at hl 4 rfl) ?_
      refine lv_iconst (v := 1) hx hb d_Mo_lose_85 (by decide) ?_
      refine gz_put (ci := 8) (v := Value.int 1) (ty := .boolean) (C := "CommitLedgerModel") (T := F_Mo) (N := 35) hx hb hts i_Mo t_Mo_ok n_Mo hown hK Z f_46_h14 rfl 14 (by decide) kf_Mo_112 rfl (by decide +kernel) rfl rfl (Nat.le_of_ble_eq_true rfl) d_Mo_lose_86 (fun H locs Z => ?_)
      obtain ⟨h15, e_h15⟩ : ∃ z9 : gm_M, z9 = gm_up h14 46 ((q46, Sum.inr (8, [Value.int m_error, Value.int m_thrown, Value.ref q47, Value.ref q48, Value.ref q49, Value.int m_docs, Value.ref q50, Value.ref q51, Value.ref q52, Value.ref q53, Value.int (nI (gk (gk_nd (gv_cp ft sy nd)) ft)), Value.int m_files, Value.int m_actions, Value.int (-1), Value.int 1, Value.ref q54, Value.ref q62, Value.ref q70, Value.int 0, Value.int 0, Value.int m_generation, Value.ref q78, Value.ref q79, Value.int m_buffered, Value.int m_limit, Value.int m_factor, um, Value.ref q80, Value.ref q81, Value.ref q82, Value.int 0, Value.ref q83, Value.int m_opened, Value.int m_chosenMany, Value.int m_begun])) : Nat × va_E) := ⟨_, rfl⟩
      replace Z : gz D A s.heap h15 H locs := by rw [e_h15]; exact Z
      have f_46_h15 : h15 46 = some ((q46, Sum.inr (8, [Value.int m_error, Value.int m_thrown, Value.ref q47, Value.ref q48, Value.ref q49, Value.int m_docs, Value.ref q50, Value.ref q51, Value.ref q52, Value.ref q53, Value.int (nI (gk (gk_nd (gv_cp ft sy nd)) ft)), Value.int m_files, Value.int m_actions, Value.int (-1), Value.int 1, Value.ref q54, Value.ref q62, Value.ref q70, Value.int 0, Value.int 0, Value.int m_generation, Value.ref q78, Value.ref q79, Value.int m_buffered, Value.int m_limit, Value.int m_factor, um, Value.ref q80, Value.ref q81, Value.ref q82, Value.int 0, Value.ref q83, Value.int m_opened, Value.int m_chosenMany, Value.int m_begun])) : Nat × va_E) := by rw [e_h15]; exact gm_self
      replace hU : gm_g h h15 [46, 50, 51, 52, 53, 84, 92, 100, 108] := by rw [e_h15]; exact hU.put (by simp)
      have f_50_h7 : h7 50 = some ((q50, Sum.inl (cI, 60000, Sum.inl (gi (gcp (gk_nd (gv_cp ft sy nd)) fnu fnu ft)))) : Nat × va_E) := by rw [e_h7]; exact gm_at f_50_h6 (by decide)
      have f_50_h8 : h8 50 = some ((q50, Sum.inl (cI, 60000, Sum.inl (gi (gcp (gk_nd (gv_cp ft sy nd)) fnu fnu ft)))) : Nat × va_E) := by rw [e_h8]; exact gm_at f_50_h7 (by decide)
      have f_50_h9 : h9 50 = some ((q50, Sum.inl (cI, 60000, Sum.inl (gi (gcp (gk_nd (gv_cp ft sy nd)) fnu fnu ft)))) : Nat × va_E) := by rw [e_h9]; exact gm_at f_50_h8 (by decide)
      have f_50_h10 : h10 50 = some ((q50, Sum.inl (cI, 60000, Sum.inl (gi (gcp (gk_nd (gv_cp ft sy nd)) fnu fnu ft)))) : Nat × va_E) := by rw [e_h10]; exact gm_at f_50_h9 (by decide)
      have f_50_h11 : h11 50 = some ((q50, Sum.inl (cI, 60000, Sum.inl (gi (gcp (gk_nd (gv_cp ft sy nd)) fnu fnu ft)))) : Nat × va_E) := by rw [e_h11]; exact gm_at f_50_h10 (by decide)
      have f_50_h12 : h12 50 = some ((q50, Sum.inl (cI, 60000, Sum.inl (gi (gcp (gk_nd (gv_cp ft sy nd)) fnu fnu ft)))) : Nat × va_E) := by rw [e_h12]; exact gm_at f_50_h11 (by decide)
      have f_50_h13 : h13 50 = some ((q50, Sum.inl (cI, 60000, Sum.inl (gi (gcp (gk_nd (gv_cp ft sy nd)) fnu fnu ft)))) : Nat × va_E) := by rw [e_h13]; exact gm_at f_50_h12 (by decide)
      have f_50_h14 : h14 50 = some ((q50, Sum.inl (cI, 60000, Sum.inl (gi (gcp (gk_nd (gv_cp ft sy nd)) fnu fnu ft)))) : Nat × va_E) := by rw [e_h14]; exact gm_at f_50_h13 (by decide)
      have f_50_h15 : h15 50 = some ((q50, Sum.inl (cI, 60000, Sum.inl (gi (gcp (gk_nd (gv_cp ft sy nd)) fnu fnu ft)))) : Nat × va_E) := by rw [e_h15]; exact gm_at f_50_h14 (by decide)
      have f_51_h7 : h7 51 = some ((q51, Sum.inl (cZ, 60000, Sum.inl (gcp (gk_nd (gv_cp ft sy nd)) sy sy ft))) : Nat × va_E) := by rw [e_h7]; exact gm_at f_51_h6 (by decide)
      have f_51_h8 : h8 51 = some ((q51, Sum.inl (cZ, 60000, Sum.inl (gcp (gk_nd (gv_cp ft sy nd)) sy sy ft))) : Nat × va_E) := by rw [e_h8]; exact gm_at f_51_h7 (by decide)
      have f_51_h9 : h9 51 = some ((q51, Sum.inl (cZ, 60000, Sum.inl (gcp (gk_nd (gv_cp ft sy nd)) sy sy ft))) : Nat × va_E) := by rw [e_h9]; exact gm_at f_51_h8 (by decide)
      have f_51_h10 : h10 51 = some ((q51, Sum.inl (cZ, 60000, Sum.inl (gcp (gk_nd (gv_cp ft sy nd)) sy sy ft))) : Nat × va_E) := by rw [e_h10]; exact gm_at f_51_h9 (by decide)
      have f_51_h11 : h11 51 = some ((q51, Sum.inl (cZ, 60000, Sum.inl (gcp (gk_nd (gv_cp ft sy nd)) sy sy ft))) : Nat × va_E) := by rw [e_h11]; exact gm_at f_51_h10 (by decide)
      have f_51_h12 : h12 51 = some ((q51, Sum.inl (cZ, 60000, Sum.inl (gcp (gk_nd (gv_cp ft sy nd)) sy sy ft))) : Nat × va_E) := by rw [e_h12]; exact gm_at f_51_h11 (by decide)
      have f_51_h13 : h13 51 = some ((q51, Sum.inl (cZ, 60000, Sum.inl (gcp (gk_nd (gv_cp ft sy nd)) sy sy ft))) : Nat × va_E) := by rw [e_h13]; exact gm_at f_51_h12 (by decide)
      have f_51_h14 : h14 51 = some ((q51, Sum.inl (cZ, 60000, Sum.inl (gcp (gk_nd (gv_cp ft sy nd)) sy sy ft))) : Nat × va_E) := by rw [e_h14]; exact gm_at f_51_h13 (by decide)
      have f_51_h15 : h15 51 = some ((q51, Sum.inl (cZ, 60000, Sum.inl (gcp (gk_nd (gv_cp ft sy nd)) sy sy ft))) : Nat × va_E) := by rw [e_h15]; exact gm_at f_51_h14 (by decide)
      have f_52_h7 : h7 52 = some ((q52, Sum.inl (cZ, 60000, Sum.inl (gcp (gk_nd (gv_cp ft sy nd)) ha ha ft))) : Nat × va_E) := by rw [e_h7]; exact gm_at f_52_h6 (by decide)
      have f_52_h8 : h8 52 = some ((q52, Sum.inl (cZ, 60000, Sum.inl (gcp (gk_nd (gv_cp ft sy nd)) ha ha ft))) : Nat × va_E) := by rw [e_h8]; exact gm_at f_52_h7 (by decide)
      have f_52_h9 : h9 52 = some ((q52, Sum.inl (cZ, 60000, Sum.inl (gcp (gk_nd (gv_cp ft sy nd)) ha ha ft))) : Nat × va_E) := by rw [e_h9]; exact gm_at f_52_h8 (by decide)
      have f_52_h10 : h10 52 = some ((q52, Sum.inl (cZ, 60000, Sum.inl (gcp (gk_nd (gv_cp ft sy nd)) ha ha ft))) : Nat × va_E) := by rw [e_h10]; exact gm_at f_52_h9 (by decide)
      have f_52_h11 : h11 52 = some ((q52, Sum.inl (cZ, 60000, Sum.inl (gcp (gk_nd (gv_cp ft sy nd)) ha ha ft))) : Nat × va_E) := by rw [e_h11]; exact gm_at f_52_h10 (by decide)
      have f_52_h12 : h12 52 = some ((q52, Sum.inl (cZ, 60000, Sum.inl (gcp (gk_nd (gv_cp ft sy nd)) ha ha ft))) : Nat × va_E) := by rw [e_h12]; exact gm_at f_52_h11 (by decide)
      have f_52_h13 : h13 52 = some ((q52, Sum.inl (cZ, 60000, Sum.inl (gcp (gk_nd (gv_cp ft sy nd)) ha ha ft))) : Nat × va_E) := by rw [e_h13]; exact gm_at f_52_h12 (by decide)
      have f_52_h14 : h14 52 = some ((q52, Sum.inl (cZ, 60000, Sum.inl (gcp (gk_nd (gv_cp ft sy nd)) ha ha ft))) : Nat × va_E) := by rw [e_h14]; exact gm_at f_52_h13 (by decide)
      have f_52_h15 : h15 52 = some ((q52, Sum.inl (cZ, 60000, Sum.inl (gcp (gk_nd (gv_cp ft sy nd)) ha ha ft))) : Nat × va_E) := by rw [e_h15]; exact gm_at f_52_h14 (by decide)
      have f_53_h6 : h6 53 = some ((q53, Sum.inl (cZ, 60000, Sum.inl (gv_cp ft sy nd))) : Nat × va_E) := e_h6.at f_53_w1 (by first | decide | (simp; done) | (simp; omega))
      have f_53_h7 : h7 53 = some ((q53, Sum.inl (cZ, 60000, Sum.inl (gv_cp ft sy nd))) : Nat × va_E) := by rw [e_h7]; exact gm_at f_53_h6 (by decide)
      have f_53_h8 : h8 53 = some ((q53, Sum.inl (cZ, 60000, Sum.inl (gv_cp ft sy nd))) : Nat × va_E) := by rw [e_h8]; exact gm_at f_53_h7 (by decide)
      have f_53_h9 : h9 53 = some ((q53, Sum.inl (cZ, 60000, Sum.inl (gv_cp ft sy nd))) : Nat × va_E) := by rw [e_h9]; exact gm_at f_53_h8 (by decide)
      have f_53_h10 : h10 53 = some ((q53, Sum.inl (cZ, 60000, Sum.inl (gv_cp ft sy nd))) : Nat × va_E) := by rw [e_h10]; exact gm_at f_53_h9 (by decide)
      have f_53_h11 : h11 53 = some ((q53, Sum.inl (cZ, 60000, Sum.inl (gv_cp ft sy nd))) : Nat × va_E) := by rw [e_h11]; exact gm_at f_53_h10 (by decide)
      have f_53_h12 : h12 53 = some ((q53, Sum.inl (cZ, 60000, Sum.inl (gv_cp ft sy nd))) : Nat × va_E) := by rw [e_h12]; exact gm_at f_53_h11 (by decide)
      have f_53_h13 : h13 53 = some ((q53, Sum.inl (cZ, 60000, Sum.inl (gv_cp ft sy nd))) : Nat × va_E) := by rw [e_h13]; exact gm_at f_53_h12 (by decide)
      have f_53_h14 : h14 53 = some ((q53, Sum.inl (cZ, 60000, Sum.inl (gv_cp ft sy nd))) : Nat × va_E) := by rw [e_h14]; exact gm_at f_53_h13 (by decide)
      have f_53_h15 : h15 53 = some ((q53, Sum.inl (cZ, 60000, Sum.inl (gv_cp ft sy nd))) : Nat × va_E) := by rw [e_h15]; exact gm_at f_53_h14 (by decide)
      have f_84_h9 : h9 84 = some ((q84, Sum.inr (9, [Value.ref q85, Value.ref q86, Value.ref q87, Value.ref q88, Value.ref q89, Value.ref q90, Value.ref q91, Value.int s84, Value.int t84, Value.int w84, Value.int 0])) : Nat × va_E) := by rw [e_h9]; exact gm_at f_84_h8 (by decide)
      have f_84_h10 : h10 84 = some ((q84, Sum.inr (9, [Value.ref q85, Value.ref q86, Value.ref q87, Value.ref q88, Value.ref q89, Value.ref q90, Value.ref q91, Value.int s84, Value.int t84, Value.int w84, Value.int 0])) : Nat × va_E) := by rw [e_h10]; exact gm_at f_84_h9 (by decide)
      have f_84_h11 : h11 84 = some ((q84, Sum.inr (9, [Value.ref q85, Value.ref q86, Value.ref q87, Value.ref q88, Value.ref q89, Value.ref q90, Value.ref q91, Value.int s84, Value.int t84, Value.int w84, Value.int 0])) : Nat × va_E) := by rw [e_h11]; exact gm_at f_84_h10 (by decide)
      have f_84_h12 : h12 84 = some ((q84, Sum.inr (9, [Value.ref q85, Value.ref q86, Value.ref q87, Value.ref q88, Value.ref q89, Value.ref q90, Value.ref q91, Value.int s84, Value.int t84, Value.int w84, Value.int 0])) : Nat × va_E) := by rw [e_h12]; exact gm_at f_84_h11 (by decide)
      have f_84_h13 : h13 84 = some ((q84, Sum.inr (9, [Value.ref q85, Value.ref q86, Value.ref q87, Value.ref q88, Value.ref q89, Value.ref q90, Value.ref q91, Value.int s84, Value.int t84, Value.int w84, Value.int 0])) : Nat × va_E) := by rw [e_h13]; exact gm_at f_84_h12 (by decide)
      have f_84_h14 : h14 84 = some ((q84, Sum.inr (9, [Value.ref q85, Value.ref q86, Value.ref q87, Value.ref q88, Value.ref q89, Value.ref q90, Value.ref q91, Value.int s84, Value.int t84, Value.int w84, Value.int 0])) : Nat × va_E) := by rw [e_h14]; exact gm_at f_84_h13 (by decide)
      have f_84_h15 : h15 84 = some ((q84, Sum.inr (9, [Value.ref q85, Value.ref q86, Value.ref q87, Value.ref q88, Value.ref q89, Value.ref q90, Value.ref q91, Value.int s84, Value.int t84, Value.int w84, Value.int 0])) : Nat × va_E) := by rw [e_h15]; exact gm_at f_84_h14 (by decide)
      have f_92_h10 : h10 92 = some ((q92, Sum.inr (9, [Value.ref q93, Value.ref q94, Value.ref q95, Value.ref q96, Value.ref q97, Value.ref q98, Value.ref q99, Value.int s92, Value.int t92, Value.int w92, Value.int 0])) : Nat × va_E) := by rw [e_h10]; exact gm_at f_92_h9 (by decide)
      have f_92_h11 : h11 92 = some ((q92, Sum.inr (9, [Value.ref q93, Value.ref q94, Value.ref q95, Value.ref q96, Value.ref q97, Value.ref q98, Value.ref q99, Value.int s92, Value.int t92, Value.int w92, Value.int 0])) : Nat × va_E) := by rw [e_h11]; exact gm_at f_92_h10 (by decide)
      have f_92_h12 : h12 92 = some ((q92, Sum.inr (9, [Value.ref q93, Value.ref q94, Value.ref q95, Value.ref q96, Value.ref q97, Value.ref q98, Value.ref q99, Value.int s92, Value.int t92, Value.int w92, Value.int 0])) : Nat × va_E) := by rw [e_h12]; exact gm_at f_92_h11 (by decide)
      have f_92_h13 : h13 92 = some ((q92, Sum.inr (9, [Value.ref q93, Value.ref q94, Value.ref q95, Value.ref q96, Value.ref q97, Value.ref q98, Value.ref q99, Value.int s92, Value.int t92, Value.int w92, Value.int 0])) : Nat × va_E) := by rw [e_h13]; exact gm_at f_92_h12 (by decide)
      have f_92_h14 : h14 92 = some ((q92, Sum.inr (9, [Value.ref q93, Value.ref q94, Value.ref q95, Value.ref q96, Value.ref q97, Value.ref q98, Value.ref q99, Value.int s92, Value.int t92, Value.int w92, Value.int 0])) : Nat × va_E) := by rw [e_h14]; exact gm_at f_92_h13 (by decide)
      have f_92_h15 : h15 92 = some ((q92, Sum.inr (9, [Value.ref q93, Value.ref q94, Value.ref q95, Value.ref q96, Value.ref q97, Value.ref q98, Value.ref q99, Value.int s92, Value.int t92, Value.int w92, Value.int 0])) : Nat × va_E) := by rw [e_h15]; exact gm_at f_92_h14 (by decide)
      have f_100_h11 : h11 100 = some ((q100, Sum.inr (9, [Value.ref q101, Value.ref q102, Value.ref q103, Value.ref q104, Value.ref q105, Value.ref q106, Value.ref q107, Value.int s100, Value.int t100, Value.int w100, Value.int 0])) : Nat × va_E) := by rw [e_h11]; exact gm_at f_100_h10 (by decide)
      have f_100_h12 : h12 100 = some ((q100, Sum.inr (9, [Value.ref q101, Value.ref q102, Value.ref q103, Value.ref q104, Value.ref q105, Value.ref q106, Value.ref q107, Value.int s100, Value.int t100, Value.int w100, Value.int 0])) : Nat × va_E) := by rw [e_h12]; exact gm_at f_100_h11 (by decide)
      have f_100_h13 : h13 100 = some ((q100, Sum.inr (9, [Value.ref q101, Value.ref q102, Value.ref q103, Value.ref q104, Value.ref q105, Value.ref q106, Value.ref q107, Value.int s100, Value.int t100, Value.int w100, Value.int 0])) : Nat × va_E) := by rw [e_h13]; exact gm_at f_100_h12 (by decide)
      have f_100_h14 : h14 100 = some ((q100, Sum.inr (9, [Value.ref q101, Value.ref q102, Value.ref q103, Value.ref q104, Value.ref q105, Value.ref q106, Value.ref q107, Value.int s100, Value.int t100, Value.int w100, Value.int 0])) : Nat × va_E) := by rw [e_h14]; exact gm_at f_100_h13 (by decide)
      have f_100_h15 : h15 100 = some ((q100, Sum.inr (9, [Value.ref q101, Value.ref q102, Value.ref q103, Value.ref q104, Value.ref q105, Value.ref q106, Value.ref q107, Value.int s100, Value.int t100, Value.int w100, Value.int 0])) : Nat × va_E) := by rw [e_h15]; exact gm_at f_100_h14 (by decide)
      have f_108_h12 : h12 108 = some ((q108, Sum.inr (9, [Value.ref q109, Value.ref q110, Value.ref q111, Value.ref q112, Value.ref q113, Value.ref q114, Value.ref q115, Value.int s108, Value.int t108, Value.int w108, Value.int 0])) : Nat × va_E) := by rw [e_h12]; exact gm_at f_108_h11 (by decide)
      have f_108_h13 : h13 108 = some ((q108, Sum.inr (9, [Value.ref q109, Value.ref q110, Value.ref q111, Value.ref q112, Value.ref q113, Value.ref q114, Value.ref q115, Value.int s108, Value.int t108, Value.int w108, Value.int 0])) : Nat × va_E) := by rw [e_h13]; exact gm_at f_108_h12 (by decide)
      have f_108_h14 : h14 108 = some ((q108, Sum.inr (9, [Value.ref q109, Value.ref q110, Value.ref q111, Value.ref q112, Value.ref q113, Value.ref q114, Value.ref q115, Value.int s108, Value.int t108, Value.int w108, Value.int 0])) : Nat × va_E) := by rw [e_h14]; exact gm_at f_108_h13 (by decide)
      have f_108_h15 : h15 108 = some ((q108, Sum.inr (9, [Value.ref q109, Value.ref q110, Value.ref q111, Value.ref q112, Value.ref q113, Value.ref q114, Value.ref q115, Value.int s108, Value.int t108, Value.int w108, Value.int 0])) : Nat × va_E) := by rw [e_h15]; exact gm_at f_108_h14 (by decide)
      exact gz_vret hx hb hr hlocks hK Z (by decide) (by decide) (by rw [← hPQ]; exact ⟨rfl, hU, f_46_h15, f_50_h15, f_51_h15, f_52_h15, f_53_h15, f_84_h15, f_92_h15, f_100_h15, f_108_h15⟩) d_Mo_lose_89
    · rcases hp with ⟨hv9, e_h6, f_46_h6, f_50_h6, f_51_h6, f_52_h6⟩
      cases hv9
