/-! THE REFERENCE over maps: act, write, done and counts; rows printed by own text programs -/
set_option maxHeartbeats 4000000 in
set_option maxRecDepth 100000 in
theorem k_Mo_act (l : Launch) (htr : l.stackTraces = false) (D : va_G) (tys : List (ClassId × FieldType)) (z sz : Nat) (ws : va_W) (h : gm_M) (hM : gm_S h ws) (cI : ClassId) (cZ : ClassId) (cV : ClassId) (q46 : Nat) (q47 : Nat) (q48 : Nat) (q49 : Nat) (q50 : Nat) (q51 : Nat) (q52 : Nat) (q53 : Nat) (q54 : Nat) (q62 : Nat) (q70 : Nat) (q78 : Nat) (q79 : Nat) (q80 : Nat) (q81 : Nat) (q82 : Nat) (q83 : Nat) (um : Value) (m_error : Int32) (m_thrown : Int32) (m_docs : Int32) (m_files : Int32) (m_actions : Int32) (m_power : Int32) (m_lost : Int32) (m_open : Int32) (m_isPrepared : Int32) (m_generation : Int32) (m_buffered : Int32) (m_limit : Int32) (m_factor : Int32) (m_merges : Int32) (m_opened : Int32) (m_chosenMany : Int32) (m_begun : Int32) (fnu : Nat → Nat) (sy : Nat → Int32) (ha : Nat → Int32) (nd : Nat → Int32) (ft : Nat) (q84 : Nat) (q85 : Nat) (q86 : Nat) (q87 : Nat) (q88 : Nat) (q89 : Nat) (q90 : Nat) (q91 : Nat) (q92 : Nat) (q93 : Nat) (q94 : Nat) (q95 : Nat) (q96 : Nat) (q97 : Nat) (q98 : Nat) (q99 : Nat) (q100 : Nat) (q101 : Nat) (q102 : Nat) (q103 : Nat) (q104 : Nat) (q105 : Nat) (q106 : Nat) (q107 : Nat) (q108 : Nat) (q109 : Nat) (q110 : Nat) (q111 : Nat) (q112 : Nat) (q113 : Nat) (q114 : Nat) (q115 : Nat) (s84 : Int32) (t84 : Int32) (w84 : Int32) (n84 : Int32) (s92 : Int32) (t92 : Int32) (w92 : Int32) (n92 : Int32) (s100 : Int32) (t100 : Int32) (w100 : Int32) (n100 : Int32) (s108 : Int32) (t108 : Int32) (w108 : Int32) (n108 : Int32) (f_46 : h 46 = some ((q46, Sum.inr (8, [Value.int m_error, Value.int m_thrown, Value.ref q47, Value.ref q48, Value.ref q49, Value.int m_docs, Value.ref q50, Value.ref q51, Value.ref q52, Value.ref q53, Value.int (nI ft), Value.int m_files, Value.int m_actions, Value.int m_power, Value.int m_lost, Value.ref q54, Value.ref q62, Value.ref q70, Value.int m_open, Value.int m_isPrepared, Value.int m_generation, Value.ref q78, Value.ref q79, Value.int m_buffered, Value.int m_limit, Value.int m_factor, um, Value.ref q80, Value.ref q81, Value.ref q82, Value.int m_merges, Value.ref q83, Value.int m_opened, Value.int m_chosenMany, Value.int m_begun])) : Nat × va_E)) (f_50 : h 50 = some ((q50, Sum.inl (cI, 60000, Sum.inl (gi fnu))) : Nat × va_E)) (f_51 : h 51 = some ((q51, Sum.inl (cZ, 60000, Sum.inl sy)) : Nat × va_E)) (f_52 : h 52 = some ((q52, Sum.inl (cZ, 60000, Sum.inl ha)) : Nat × va_E)) (f_53 : h 53 = some ((q53, Sum.inl (cZ, 60000, Sum.inl nd)) : Nat × va_E)) (f_83 : h 83 = some ((q83, Sum.inl (cV, 4, Sum.inr (Sum.inr (Sum.inr (Sum.inr (va_up (va_up (va_up (va_up (fun _ => none) 0 (some q84)) 1 (some q92)) 2 (some q100)) 3 (some q108))))))) : Nat × va_E)) (f_84 : h 84 = some ((q84, Sum.inr (9, [Value.ref q85, Value.ref q86, Value.ref q87, Value.ref q88, Value.ref q89, Value.ref q90, Value.ref q91, Value.int s84, Value.int t84, Value.int w84, Value.int n84])) : Nat × va_E)) (f_92 : h 92 = some ((q92, Sum.inr (9, [Value.ref q93, Value.ref q94, Value.ref q95, Value.ref q96, Value.ref q97, Value.ref q98, Value.ref q99, Value.int s92, Value.int t92, Value.int w92, Value.int n92])) : Nat × va_E)) (f_100 : h 100 = some ((q100, Sum.inr (9, [Value.ref q101, Value.ref q102, Value.ref q103, Value.ref q104, Value.ref q105, Value.ref q106, Value.ref q107, Value.int s100, Value.int t100, Value.int w100, Value.int n100])) : Nat × va_E)) (f_108 : h 108 = some ((q108, Sum.inr (9, [Value.ref q109, Value.ref q110, Value.ref q111, Value.ref q112, Value.ref q113, Value.ref q114, Value.ref q115, Value.int s108, Value.int t108, Value.int w108, Value.int n108])) : Nat × va_E)) (ht0 : tys[0]? = some ((cI, FieldType.int) : ClassId × FieldType)) (ht1 : tys[1]? = some ((cZ, FieldType.boolean) : ClassId × FieldType)) (ht5 : tys[5]? = some ((cV, FieldType.object "CommitLedgerModel$Version") : ClassId × FieldType)) (hft : ft ≤ 60000) (hb1 : ∀ i, i < ft → gx_b (sy i)) (hb2 : ∀ i, i < ft → gx_b (ha i)) : gx_Met l y_Mo_act [Cond.code y_Mo_act b_Mo_act 1 (some .boolean)] { frames := 3, cells := 0, slots := 0, locals := 58 } (gx_P z sz D classes tys ws [Value.ref q46]) (gx_Q D classes tys (va_A ws sz) (gm_p (fun r h' => (r = Sum.inl (some (Value.int 0)) ∧ gm_g h h' [46, 50, 51, 52, 53, 84, 92, 100, 108] ∧ h' 46 = some ((q46, Sum.inr (8, [Value.int 6, Value.int m_thrown, Value.ref q47, Value.ref q48, Value.ref q49, Value.int m_docs, Value.ref q50, Value.ref q51, Value.ref q52, Value.ref q53, Value.int (nI (gk (gk_nd (gv_cp ft sy nd)) ft)), Value.int m_files, Value.int m_actions, Value.int (-1), Value.int 1, Value.ref q54, Value.ref q62, Value.ref q70, Value.int 0, Value.int 0, Value.int m_generation, Value.ref q78, Value.ref q79, Value.int m_buffered, Value.int m_limit, Value.int m_factor, um, Value.ref q80, Value.ref q81, Value.ref q82, Value.int 0, Value.ref q83, Value.int m_opened, Value.int m_chosenMany, Value.int m_begun])) : Nat × va_E) ∧ h' 50 = some ((q50, Sum.inl (cI, 60000, Sum.inl (gi (gcp (gk_nd (gv_cp ft sy nd)) fnu fnu ft)))) : Nat × va_E) ∧ h' 51 = some ((q51, Sum.inl (cZ, 60000, Sum.inl (gcp (gk_nd (gv_cp ft sy nd)) sy sy ft))) : Nat × va_E) ∧ h' 52 = some ((q52, Sum.inl (cZ, 60000, Sum.inl (gcp (gk_nd (gv_cp ft sy nd)) ha ha ft))) : Nat × va_E) ∧ h' 53 = some ((q53, Sum.inl (cZ, 60000, Sum.inl (gv_cp ft sy nd))) : Nat × va_E) ∧ h' 84 = some ((q84, Sum.inr (9, [Value.ref q85, Value.ref q86, Value.ref q87, Value.ref q88, Value.ref q89, Value.ref q90, Value.ref q91, Value.int s84, Value.int t84, Value.int w84, Value.int 0])) : Nat × va_E) ∧ h' 92 = some ((q92, Sum.inr (9, [Value.ref q93, Value.ref q94, Value.ref q95, Value.ref q96, Value.ref q97, Value.ref q98, Value.ref q99, Value.int s92, Value.int t92, Value.int w92, Value.int 0])) : Nat × va_E) ∧ h' 100 = some ((q100, Sum.inr (9, [Value.ref q101, Value.ref q102, Value.ref q103, Value.ref q104, Value.ref q105, Value.ref q106, Value.ref q107, Value.int s100, Value.int t100, Value.int w100, Value.int 0])) : Nat × va_E) ∧ h' 108 = some ((q108, Sum.inr (9, [Value.ref q109, Value.ref q110, Value.ref q111, Value.ref q112, Value.ref q113, Value.ref q114, Value.ref q115, Value.int s108, Value.int t108, Value.int w108, Value.int 0])) : Nat × va_E) ∧ (m_power = 0)) ∨ (r = Sum.inl (some (Value.int 1)) ∧ gm_g h h' [46, 50, 51, 52, 53, 84, 92, 100, 108] ∧ h' 46 = some ((q46, Sum.inr (8, [Value.int m_error, Value.int m_thrown, Value.ref q47, Value.ref q48, Value.ref q49, Value.int m_docs, Value.ref q50, Value.ref q51, Value.ref q52, Value.ref q53, Value.int (nI ft), Value.int m_files, Value.int (m_actions + 1), Value.int m_power, Value.int m_lost, Value.ref q54, Value.ref q62, Value.ref q70, Value.int m_open, Value.int m_isPrepared, Value.int m_generation, Value.ref q78, Value.ref q79, Value.int m_buffered, Value.int m_limit, Value.int m_factor, um, Value.ref q80, Value.ref q81, Value.ref q82, Value.int m_merges, Value.ref q83, Value.int m_opened, Value.int m_chosenMany, Value.int m_begun])) : Nat × va_E) ∧ h' 50 = some ((q50, Sum.inl (cI, 60000, Sum.inl (gi fnu))) : Nat × va_E) ∧ h' 51 = some ((q51, Sum.inl (cZ, 60000, Sum.inl sy)) : Nat × va_E) ∧ h' 52 = some ((q52, Sum.inl (cZ, 60000, Sum.inl ha)) : Nat × va_E) ∧ h' 53 = some ((q53, Sum.inl (cZ, 60000, Sum.inl nd)) : Nat × va_E) ∧ h' 84 = some ((q84, Sum.inr (9, [Value.ref q85, Value.ref q86, Value.ref q87, Value.ref q88, Value.ref q89, Value.ref q90, Value.ref q91, Value.int s84, Value.int t84, Value.int w84, Value.int n84])) : Nat × va_E) ∧ h' 92 = some ((q92, Sum.inr (9, [Value.ref q93, Value.ref q94, Value.ref q95, Value.ref q96, Value.ref q97, Value.ref q98, Value.ref q99, Value.int s92, Value.int t92, Value.int w92, Value.int n92])) : Nat × va_E) ∧ h' 100 = some ((q100, Sum.inr (9, [Value.ref q101, Value.ref q102, Value.ref q103, Value.ref q104, Value.ref q105, Value.ref q106, Value.ref q107, Value.int s100, Value.int t100, Value.int w100, Value.int n100])) : Nat × va_E) ∧ h' 108 = some ((q108, Sum.inr (9, [Value.ref q109, Value.ref q110, Value.ref q111, Value.ref q112, Value.ref q113, Value.ref q114, Value.ref q115, Value.int s108, Value.int t108, Value.int w108, Value.int n108])) : Nat × va_E) ∧ (¬ m_power = 0) ∧ (m_power ≤ 0)) ∨ (r = Sum.inl (some (Value.int 1)) ∧ gm_g h h' [46, 50, 51, 52, 53, 84, 92, 100, 108] ∧ h' 46 = some ((q46, Sum.inr (8, [Value.int m_error, Value.int m_thrown, Value.ref q47, Value.ref q48, Value.ref q49, Value.int m_docs, Value.ref q50, Value.ref q51, Value.ref q52, Value.ref q53, Value.int (nI ft), Value.int m_files, Value.int (m_actions + 1), Value.int (m_power - 1), Value.int m_lost, Value.ref q54, Value.ref q62, Value.ref q70, Value.int m_open, Value.int m_isPrepared, Value.int m_generation, Value.ref q78, Value.ref q79, Value.int m_buffered, Value.int m_limit, Value.int m_factor, um, Value.ref q80, Value.ref q81, Value.ref q82, Value.int m_merges, Value.ref q83, Value.int m_opened, Value.int m_chosenMany, Value.int m_begun])) : Nat × va_E) ∧ h' 50 = some ((q50, Sum.inl (cI, 60000, Sum.inl (gi fnu))) : Nat × va_E) ∧ h' 51 = some ((q51, Sum.inl (cZ, 60000, Sum.inl sy)) : Nat × va_E) ∧ h' 52 = some ((q52, Sum.inl (cZ, 60000, Sum.inl ha)) : Nat × va_E) ∧ h' 53 = some ((q53, Sum.inl (cZ, 60000, Sum.inl nd)) : Nat × va_E) ∧ h' 84 = some ((q84, Sum.inr (9, [Value.ref q85, Value.ref q86, Value.ref q87, Value.ref q88, Value.ref q89, Value.ref q90, Value.ref q91, Value.int s84, Value.int t84, Value.int w84, Value.int n84])) : Nat × va_E) ∧ h' 92 = some ((q92, Sum.inr (9, [Value.ref q93, Value.ref q94, Value.ref q95, Value.ref q96, Value.ref q97, Value.ref q98, Value.ref q99, Value.int s92, Value.int t92, Value.int w92, Value.int n92])) : Nat × va_E) ∧ h' 100 = some ((q100, Sum.inr (9, [Value.ref q101, Value.ref q102, Value.ref q103, Value.ref q104, Value.ref q105, Value.ref q106, Value.ref q107, Value.int s100, Value.int t100, Value.int w100, Value.int n100])) : Nat × va_E) ∧ h' 108 = some ((q108, Sum.inr (9, [Value.ref q109, Value.ref q110, Value.ref q111, Value.ref q112, Value.ref q113, Value.ref q114, Value.ref q115, Value.int s108, Value.int t108, Value.int w108, Value.int n108])) : Nat × va_E) ∧ (¬ m_power = 0) ∧ (¬ m_power ≤ 0))))) 0 0 (va_A ws sz) := by
  refine gx_ofW (cc := b_Mo_act) (maxL := 1) (ret := (some .boolean)) (by decide) rfl ?_
  intro p e s m args below meth c s₁ B hml hv
  obtain ⟨rfl, hsz, hz, hP, hK, hD0, hY⟩ := hv
  have hx := B.exec
  have hb := B.bytes
  have hr := B.returns
  have hts := hY.hts (#[Value.ref q46] : Array Value)
  have hown : s.vm.findClass "CommitLedgerModel" = some m.cls := findClass_of_methodNamed B.named
  have hlocks := B.notSynchronized
  have hne : c.exceptionTable.isEmpty = true := B.noHandlers (atoms_spec (ws := [Cond.code y_Mo_act b_Mo_act 1 (some .boolean)]) B.pre _ List.mem_cons_self)
  subst hsz
  have hAz := gx_az hD0 hz
  have hD := hD0.self (sz := s.heap.size)
  have hN := gx_ns hP
  have hA : ∀ q : Nat, s.heap.size ≤ q → va_A ws s.heap.size q := fun q h => Or.inr h
  generalize va_A ws s.heap.size = A at hD hN hA hAz ⊢
  generalize hPQ : (fun (r : Option Value ⊕ String) (h' : gm_M) => (r = Sum.inl (some (Value.int 0)) ∧ gm_g h h' [46, 50, 51, 52, 53, 84, 92, 100, 108] ∧ h' 46 = some ((q46, Sum.inr (8, [Value.int 6, Value.int m_thrown, Value.ref q47, Value.ref q48, Value.ref q49, Value.int m_docs, Value.ref q50, Value.ref q51, Value.ref q52, Value.ref q53, Value.int (nI (gk (gk_nd (gv_cp ft sy nd)) ft)), Value.int m_files, Value.int m_actions, Value.int (-1), Value.int 1, Value.ref q54, Value.ref q62, Value.ref q70, Value.int 0, Value.int 0, Value.int m_generation, Value.ref q78, Value.ref q79, Value.int m_buffered, Value.int m_limit, Value.int m_factor, um, Value.ref q80, Value.ref q81, Value.ref q82, Value.int 0, Value.ref q83, Value.int m_opened, Value.int m_chosenMany, Value.int m_begun])) : Nat × va_E) ∧ h' 50 = some ((q50, Sum.inl (cI, 60000, Sum.inl (gi (gcp (gk_nd (gv_cp ft sy nd)) fnu fnu ft)))) : Nat × va_E) ∧ h' 51 = some ((q51, Sum.inl (cZ, 60000, Sum.inl (gcp (gk_nd (gv_cp ft sy nd)) sy sy ft))) : Nat × va_E) ∧ h' 52 = some ((q52, Sum.inl (cZ, 60000, Sum.inl (gcp (gk_nd (gv_cp ft sy nd)) ha ha ft))) : Nat × va_E) ∧ h' 53 = some ((q53, Sum.inl (cZ, 60000, Sum.inl (gv_cp ft sy nd))) : Nat × va_E) ∧ h' 84 = some ((q84, Sum.inr (9, [Value.ref q85, Value.ref q86, Value.ref q87, Value.ref q88, Value.ref q89, Value.ref q90, Value.ref q91, Value.int s84, Value.int t84, Value.int w84, Value.int 0])) : Nat × va_E) ∧ h' 92 = some ((q92, Sum.inr (9, [Value.ref q93, Value.ref q94, Value.ref q95, Value.ref q96, Value.ref q97, Value.ref q98, Value.ref q99, Value.int s92, Value.int t92, Value.int w92, Value.int 0])) : Nat × va_E) ∧ h' 100 = some ((q100, Sum.inr (9, [Value.ref q101, Value.ref q102, Value.ref q103, Value.ref q104, Value.ref q105, Value.ref q106, Value.ref q107, Value.int s100, Value.int t100, Value.int w100, Value.int 0])) : Nat × va_E) ∧ h' 108 = some ((q108, Sum.inr (9, [Value.ref q109, Value.ref q110, Value.ref q111, Value.ref q112, Value.ref q113, Value.ref q114, Value.ref q115, Value.int s108, Value.int t108, Value.int w108, Value.int 0])) : Nat × va_E) ∧ (m_power = 0)) ∨ (r = Sum.inl (some (Value.int 1)) ∧ gm_g h h' [46, 50, 51, 52, 53, 84, 92, 100, 108] ∧ h' 46 = some ((q46, Sum.inr (8, [Value.int m_error, Value.int m_thrown, Value.ref q47, Value.ref q48, Value.ref q49, Value.int m_docs, Value.ref q50, Value.ref q51, Value.ref q52, Value.ref q53, Value.int (nI ft), Value.int m_files, Value.int (m_actions + 1), Value.int m_power, Value.int m_lost, Value.ref q54, Value.ref q62, Value.ref q70, Value.int m_open, Value.int m_isPrepared, Value.int m_generation, Value.ref q78, Value.ref q79, Value.int m_buffered, Value.int m_limit, Value.int m_factor, um, Value.ref q80, Value.ref q81, Value.ref q82, Value.int m_merges, Value.ref q83, Value.int m_opened, Value.int m_chosenMany, Value.int m_begun])) : Nat × va_E) ∧ h' 50 = some ((q50, Sum.inl (cI, 60000, Sum.inl (gi fnu))) : Nat × va_E) ∧ h' 51 = some ((q51, Sum.inl (cZ, 60000, Sum.inl sy)) : Nat × va_E) ∧ h' 52 = some ((q52, Sum.inl (cZ, 60000, Sum.inl ha)) : Nat × va_E) ∧ h' 53 = some ((q53, Sum.inl (cZ, 60000, Sum.inl nd)) : Nat × va_E) ∧ h' 84 = some ((q84, Sum.inr (9, [Value.ref q85, Value.ref q86, Value.ref q87, Value.ref q88, Value.ref q89, Value.ref q90, Value.ref q91, Value.int s84, Value.int t84, Value.int w84, Value.int n84])) : Nat × va_E) ∧ h' 92 = some ((q92, Sum.inr (9, [Value.ref q93, Value.ref q94, Value.ref q95, Value.ref q96, Value.ref q97, Value.ref q98, Value.ref q99, Value.int s92, Value.int t92, Value.int w92, Value.int n92])) : Nat × va_E) ∧ h' 100 = some ((q100, Sum.inr (9, [Value.ref q101, Value.ref q102, Value.ref q103, Value.ref q104, Value.ref q105, Value.ref q106, Value.ref q107, Value.int s100, Value.int t100, Value.int w100, Value.int n100])) : Nat × va_E) ∧ h' 108 = some ((q108, Sum.inr (9, [Value.ref q109, Value.ref q110, Value.ref q111, Value.ref q112, Value.ref q113, Value.ref q114, Value.ref q115, Value.int s108, Value.int t108, Value.int w108, Value.int n108])) : Nat × va_E) ∧ (¬ m_power = 0) ∧ (m_power ≤ 0)) ∨ (r = Sum.inl (some (Value.int 1)) ∧ gm_g h h' [46, 50, 51, 52, 53, 84, 92, 100, 108] ∧ h' 46 = some ((q46, Sum.inr (8, [Value.int m_error, Value.int m_thrown, Value.ref q47, Value.ref q48, Value.ref q49, Value.int m_docs, Value.ref q50, Value.ref q51, Value.ref q52, Value.ref q53, Value.int (nI ft), Value.int m_files, Value.int (m_actions + 1), Value.int (m_power - 1), Value.int m_lost, Value.ref q54, Value.ref q62, Value.ref q70, Value.int m_open, Value.int m_isPrepared, Value.int m_generation, Value.ref q78, Value.ref q79, Value.int m_buffered, Value.int m_limit, Value.int m_factor, um, Value.ref q80, Value.ref q81, Value.ref q82, Value.int m_merges, Value.ref q83, Value.int m_opened, Value.int m_chosenMany, Value.int m_begun])) : Nat × va_E) ∧ h' 50 = some ((q50, Sum.inl (cI, 60000, Sum.inl (gi fnu))) : Nat × va_E) ∧ h' 51 = some ((q51, Sum.inl (cZ, 60000, Sum.inl sy)) : Nat × va_E) ∧ h' 52 = some ((q52, Sum.inl (cZ, 60000, Sum.inl ha)) : Nat × va_E) ∧ h' 53 = some ((q53, Sum.inl (cZ, 60000, Sum.inl nd)) : Nat × va_E) ∧ h' 84 = some ((q84, Sum.inr (9, [Value.ref q85, Value.ref q86, Value.ref q87, Value.ref q88, Value.ref q89, Value.ref q90, Value.ref q91, Value.int s84, Value.int t84, Value.int w84, Value.int n84])) : Nat × va_E) ∧ h' 92 = some ((q92, Sum.inr (9, [Value.ref q93, Value.ref q94, Value.ref q95, Value.ref q96, Value.ref q97, Value.ref q98, Value.ref q99, Value.int s92, Value.int t92, Value.int w92, Value.int n92])) : Nat × va_E) ∧ h' 100 = some ((q100, Sum.inr (9, [Value.ref q101, Value.ref q102, Value.ref q103, Value.ref q104, Value.ref q105, Value.ref q106, Value.ref q107, Value.int s100, Value.int t100, Value.int w100, Value.int n100])) : Nat × va_E) ∧ h' 108 = some ((q108, Sum.inr (9, [Value.ref q109, Value.ref q110, Value.ref q111, Value.ref q112, Value.ref q113, Value.ref q114, Value.ref q115, Value.int s108, Value.int t108, Value.int w108, Value.int n108])) : Nat × va_E) ∧ (¬ m_power = 0) ∧ (¬ m_power ≤ 0))) = PQ
  have Z : gz D A s.heap h s.heap [] := ⟨ws, hM, hP, hD, va_S.rf⟩
  clear hP hD hM hD0
  have hU : gm_g h h [46, 50, 51, 52, 53, 84, 92, 100, 108] := gm_g.rf
  have hl := lv_entry ([Value.ref q46]) (n := 1) (Nat.le_of_ble_eq_true rfl)
  rw [lg_entry_eq]
  generalize (lg_sl ([Value.ref q46]) ++ List.replicate (1 - (lg_sl ([Value.ref q46])).length) Slot.unset).toArray = ls at hl ⊢
  have hl : lv_has ls 1 [(0, Value.ref q46)] := hl
  refine lv_aload_n hx hb d_Mo_act_0 rfl (lv_at hl 0 rfl) ?_
  refine gz_get (ci := 8) (v := Value.int m_power) (C := "CommitLedgerModel") (T := F_Mo) (N := 35) hx hb hts i_Mo hown hK Z f_46 rfl 13 (by decide) kf_Mo_33 rfl d_Mo_act_1 ?_
  refine lv_if_ne (tgt := 19) hx hb d_Mo_act_4 (by decide) (fun c4_1 => ?_) (fun c4_1 => ?_)
  · refine lv_aload_n hx hb d_Mo_act_19 rfl (lv_at hl 0 rfl) ?_
    refine gz_get (ci := 8) (v := Value.int m_power) (C := "CommitLedgerModel") (T := F_Mo) (N := 35) hx hb hts i_Mo hown hK Z f_46 rfl 13 (by decide) kf_Mo_33 rfl d_Mo_act_20 ?_
    refine lv_if_le (tgt := 36) hx hb d_Mo_act_23 (by decide) (fun c23_2 => ?_) (fun c23_2 => ?_)
    · refine lv_aload_n hx hb d_Mo_act_36 rfl (lv_at hl 0 rfl) ?_
      refine lv_dup hx hb d_Mo_act_37 rfl ?_
      refine gz_get (ci := 8) (v := Value.int m_actions) (C := "CommitLedgerModel") (T := F_Mo) (N := 35) hx hb hts i_Mo hown hK Z f_46 rfl 12 (by decide) kf_Mo_90 rfl d_Mo_act_38 ?_
      refine lv_iconst (v := 1) hx hb d_Mo_act_41 (by decide) ?_
      refine lv_iadd hx hb d_Mo_act_42 ?_
      refine gz_put (ci := 8) (v := Value.int (m_actions + 1)) (ty := .int) (C := "CommitLedgerModel") (T := F_Mo) (N := 35) hx hb hts i_Mo t_Mo_ok n_Mo hown hK Z f_46 rfl 12 (by decide) kf_Mo_90 rfl (by decide +kernel) rfl rfl (Nat.le_of_ble_eq_true rfl) d_Mo_act_43 (fun H locs Z => ?_)
      obtain ⟨h3, e_h3⟩ : ∃ z9 : gm_M, z9 = gm_up h 46 ((q46, Sum.inr (8, [Value.int m_error, Value.int m_thrown, Value.ref q47, Value.ref q48, Value.ref q49, Value.int m_docs, Value.ref q50, Value.ref q51, Value.ref q52, Value.ref q53, Value.int (nI ft), Value.int m_files, Value.int (m_actions + 1), Value.int m_power, Value.int m_lost, Value.ref q54, Value.ref q62, Value.ref q70, Value.int m_open, Value.int m_isPrepared, Value.int m_generation, Value.ref q78, Value.ref q79, Value.int m_buffered, Value.int m_limit, Value.int m_factor, um, Value.ref q80, Value.ref q81, Value.ref q82, Value.int m_merges, Value.ref q83, Value.int m_opened, Value.int m_chosenMany, Value.int m_begun])) : Nat × va_E) := ⟨_, rfl⟩
      replace Z : gz D A s.heap h3 H locs := by rw [e_h3]; exact Z
      have f_46_h3 : h3 46 = some ((q46, Sum.inr (8, [Value.int m_error, Value.int m_thrown, Value.ref q47, Value.ref q48, Value.ref q49, Value.int m_docs, Value.ref q50, Value.ref q51, Value.ref q52, Value.ref q53, Value.int (nI ft), Value.int m_files, Value.int (m_actions + 1), Value.int m_power, Value.int m_lost, Value.ref q54, Value.ref q62, Value.ref q70, Value.int m_open, Value.int m_isPrepared, Value.int m_generation, Value.ref q78, Value.ref q79, Value.int m_buffered, Value.int m_limit, Value.int m_factor, um, Value.ref q80, Value.ref q81, Value.ref q82, Value.int m_merges, Value.ref q83, Value.int m_opened, Value.int m_chosenMany, Value.int m_begun])) : Nat × va_E) := by rw [e_h3]; exact gm_self
      replace hU : gm_g h h3 [46, 50, 51, 52, 53, 84, 92, 100, 108] := by rw [e_h3]; exact hU.put (by simp)
      refine lv_iconst (v := 1) hx hb d_Mo_act_46 (by decide) ?_
      have f_50_h3 : h3 50 = some ((q50, Sum.inl (cI, 60000, Sum.inl (gi fnu))) : Nat × va_E) := by rw [e_h3]; exact gm_at f_50 (by decide)
      have f_51_h3 : h3 51 = some ((q51, Sum.inl (cZ, 60000, Sum.inl sy)) : Nat × va_E) := by rw [e_h3]; exact gm_at f_51 (by decide)
      have f_52_h3 : h3 52 = some ((q52, Sum.inl (cZ, 60000, Sum.inl ha)) : Nat × va_E) := by rw [e_h3]; exact gm_at f_52 (by decide)
      have f_53_h3 : h3 53 = some ((q53, Sum.inl (cZ, 60000, Sum.inl nd)) : Nat × va_E) := by rw [e_h3]; exact gm_at f_53 (by decide)
      have f_84_h3 : h3 84 = some ((q84, Sum.inr (9, [Value.ref q85, Value.ref q86, Value.ref q87, Value.ref q88, Value.ref q89, Value.ref q90, Value.ref q91, Value.int s84, Value.int t84, Value.int w84, Value.int n84])) : Nat × va_E) := by rw [e_h3]; exact gm_at f_84 (by decide)
      have f_92_h3 : h3 92 = some ((q92, Sum.inr (9, [Value.ref q93, Value.ref q94, Value.ref q95, Value.ref q96, Value.ref q97, Value.ref q98, Value.ref q99, Value.int s92, Value.int t92, Value.int w92, Value.int n92])) : Nat × va_E) := by rw [e_h3]; exact gm_at f_92 (by decide)
      have f_100_h3 : h3 100 = some ((q100, Sum.inr (9, [Value.ref q101, Value.ref q102, Value.ref q103, Value.ref q104, Value.ref q105, Value.ref q106, Value.ref q107, Value.int s100, Value.int t100, Value.int w100, Value.int n100])) : Nat × va_E) := by rw [e_h3]; exact gm_at f_100 (by decide)
      have f_108_h3 : h3 108 = some ((q108, Sum.inr (9, [Value.ref q109, Value.ref q110, Value.ref q111, Value.ref q112, Value.ref q113, Value.ref q114, Value.ref q115, Value.int s108, Value.int t108, Value.int w108, Value.int n108])) : Nat × va_E) := by rw [e_h3]; exact gm_at f_108 (by decide)
      exact gz_zret (v := 1) hx hb hr hlocks hK Z (by decide) (by decide) (rfl) (by rw [← hPQ]; exact Or.inr (Or.inl ⟨rfl, hU, f_46_h3, f_50_h3, f_51_h3, f_52_h3, f_53_h3, f_84_h3, f_92_h3, f_100_h3, f_108_h3, c4_1, c23_2⟩)) d_Mo_act_47
    · refine lv_aload_n hx hb d_Mo_act_26 rfl (lv_at hl 0 rfl) ?_
      refine lv_dup hx hb d_Mo_act_27 rfl ?_
      refine gz_get (ci := 8) (v := Value.int m_power) (C := "CommitLedgerModel") (T := F_Mo) (N := 35) hx hb hts i_Mo hown hK Z f_46 rfl 13 (by decide) kf_Mo_33 rfl d_Mo_act_28 ?_
      refine lv_iconst (v := 1) hx hb d_Mo_act_31 (by decide) ?_
      refine lv_isub hx hb d_Mo_act_32 ?_
      refine gz_put (ci := 8) (v := Value.int (m_power - 1)) (ty := .int) (C := "CommitLedgerModel") (T := F_Mo) (N := 35) hx hb hts i_Mo t_Mo_ok n_Mo hown hK Z f_46 rfl 13 (by decide) kf_Mo_33 rfl (by decide +kernel) rfl rfl (Nat.le_of_ble_eq_true rfl) d_Mo_act_33 (fun H locs Z => ?_)
      obtain ⟨h4, e_h4⟩ : ∃ z9 : gm_M, z9 = gm_up h 46 ((q46, Sum.inr (8, [Value.int m_error, Value.int m_thrown, Value.ref q47, Value.ref q48, Value.ref q49, Value.int m_docs, Value.ref q50, Value.ref q51, Value.ref q52, Value.ref q53, Value.int (nI ft), Value.int m_files, Value.int m_actions, Value.int (m_power - 1), Value.int m_lost, Value.ref q54, Value.ref q62, Value.ref q70, Value.int m_open, Value.int m_isPrepared, Value.int m_generation, Value.ref q78, Value.ref q79, Value.int m_buffered, Value.int m_limit, Value.int m_factor, um, Value.ref q80, Value.ref q81, Value.ref q82, Value.int m_merges, Value.ref q83, Value.int m_opened, Value.int m_chosenMany, Value.int m_begun])) : Nat × va_E) := ⟨_, rfl⟩
      replace Z : gz D A s.heap h4 H locs := by rw [e_h4]; exact Z
      have f_46_h4 : h4 46 = some ((q46, Sum.inr (8, [Value.int m_error, Value.int m_thrown, Value.ref q47, Value.ref q48, Value.ref q49, Value.int m_docs, Value.ref q50, Value.ref q51, Value.ref q52, Value.ref q53, Value.int (nI ft), Value.int m_files, Value.int m_actions, Value.int (m_power - 1), Value.int m_lost, Value.ref q54, Value.ref q62, Value.ref q70, Value.int m_open, Value.int m_isPrepared, Value.int m_generation, Value.ref q78, Value.ref q79, Value.int m_buffered, Value.int m_limit, Value.int m_factor, um, Value.ref q80, Value.ref q81, Value.ref q82, Value.int m_merges, Value.ref q83, Value.int m_opened, Value.int m_chosenMany, Value.int m_begun])) : Nat × va_E) := by rw [e_h4]; exact gm_self
      replace hU : gm_g h h4 [46, 50, 51, 52, 53, 84, 92, 100, 108] := by rw [e_h4]; exact hU.put (by simp)
      refine lv_aload_n hx hb d_Mo_act_36 rfl (lv_at hl 0 rfl) ?_
      refine lv_dup hx hb d_Mo_act_37 rfl ?_
      refine gz_get (ci := 8) (v := Value.int m_actions) (C := "CommitLedgerModel") (T := F_Mo) (N := 35) hx hb hts i_Mo hown hK Z f_46_h4 rfl 12 (by decide) kf_Mo_90 rfl d_Mo_act_38 ?_
      refine lv_iconst (v := 1) hx hb d_Mo_act_41 (by decide) ?_
      refine lv_iadd hx hb d_Mo_act_42 ?_
      refine gz_put (ci := 8) (v := Value.int (m_actions + 1)) (ty := .int) (C := "CommitLedgerModel") (T := F_Mo) (N := 35) hx hb hts i_Mo t_Mo_ok n_Mo hown hK Z f_46_h4 rfl 12 (by decide) kf_Mo_90 rfl (by decide +kernel) rfl rfl (Nat.le_of_ble_eq_true rfl) d_Mo_act_43 (fun H locs Z => ?_)
      obtain ⟨h5, e_h5⟩ : ∃ z9 : gm_M, z9 = gm_up h4 46 ((q46, Sum.inr (8, [Value.int m_error, Value.int m_thrown, Value.ref q47, Value.ref q48, Value.ref q49, Value.int m_docs, Value.ref q50, Value.ref q51, Value.ref q52, Value.ref q53, Value.int (nI ft), Value.int m_files, Value.int (m_actions + 1), Value.int (m_power - 1), Value.int m_lost, Value.ref q54, Value.ref q62, Value.ref q70, Value.int m_open, Value.int m_isPrepared, Value.int m_generation, Value.ref q78, Value.ref q79, Value.int m_buffered, Value.int m_limit, Value.int m_factor, um, Value.ref q80, Value.ref q81, Value.ref q82, Value.int m_merges, Value.ref q83, Value.int m_opened, Value.int m_chosenMany, Value.int m_begun])) : Nat × va_E) := ⟨_, rfl⟩
      replace Z : gz D A s.heap h5 H locs := by rw [e_h5]; exact Z
      have f_46_h5 : h5 46 = some ((q46, Sum.inr (8, [Value.int m_error, Value.int m_thrown, Value.ref q47, Value.ref q48, Value.ref q49, Value.int m_docs, Value.ref q50, Value.ref q51, Value.ref q52, Value.ref q53, Value.int (nI ft), Value.int m_files, Value.int (m_actions + 1), Value.int (m_power - 1), Value.int m_lost, Value.ref q54, Value.ref q62, Value.ref q70, Value.int m_open, Value.int m_isPrepared, Value.int m_generation, Value.ref q78, Value.ref q79, Value.int m_buffered, Value.int m_limit, Value.int m_factor, um, Value.ref q80, Value.ref q81, Value.ref q82, Value.int m_merges, Value.ref q83, Value.int m_opened, Value.int m_chosenMany, Value.int m_begun])) : Nat × va_E) := by rw [e_h5]; exact gm_self
      replace hU : gm_g h h5 [46, 50, 51, 52, 53, 84, 92, 100, 108] := by rw [e_h5]; exact hU.put (by simp)
      refine lv_iconst (v := 1) hx hb d_Mo_act_46 (by decide) ?_
      have f_50_h4 : h4 50 = some ((q50, Sum.inl (cI, 60000, Sum.inl (gi fnu))) : Nat × va_E) := by rw [e_h4]; exact gm_at f_50 (by decide)
      have f_50_h5 : h5 50 = some ((q50, Sum.inl (cI, 60000, Sum.inl (gi fnu))) : Nat × va_E) := by rw [e_h5]; exact gm_at f_50_h4 (by decide)
      have f_51_h4 : h4 51 = some ((q51, Sum.inl (cZ, 60000, Sum.inl sy)) : Nat × va_E) := by rw [e_h4]; exact gm_at f_51 (by decide)
      have f_51_h5 : h5 51 = some ((q51, Sum.inl (cZ, 60000, Sum.inl sy)) : Nat × va_E) := by rw [e_h5]; exact gm_at f_51_h4 (by decide)
      have f_52_h4 : h4 52 = some ((q52, Sum.inl (cZ, 60000, Sum.inl ha)) : Nat × va_E) := by rw [e_h4]; exact gm_at f_52 (by decide)
      have f_52_h5 : h5 52 = some ((q52, Sum.inl (cZ, 60000, Sum.inl ha)) : Nat × va_E) := by rw [e_h5]; exact gm_at f_52_h4 (by decide)
      have f_53_h4 : h4 53 = some ((q53, Sum.inl (cZ, 60000, Sum.inl nd)) : Nat × va_E) := by rw [e_h4]; exact gm_at f_53 (by decide)
      have f_53_h5 : h5 53 = some ((q53, Sum.inl (cZ, 60000, Sum.inl nd)) : Nat × va_E) := by rw [e_h5]; exact gm_at f_53_h4 (by decide)
      have f_84_h4 : h4 84 = some ((q84, Sum.inr (9, [Value.ref q85, Value.ref q86, Value.ref q87, Value.ref q88, Value.ref q89, Value.ref q90, Value.ref q91, Value.int s84, Value.int t84, Value.int w84, Value.int n84])) : Nat × va_E) := by rw [e_h4]; exact gm_at f_84 (by decide)
      have f_84_h5 : h5 84 = some ((q84, Sum.inr (9, [Value.ref q85, Value.ref q86, Value.ref q87, Value.ref q88, Value.ref q89, Value.ref q90, Value.ref q91, Value.int s84, Value.int t84, Value.int w84, Value.int n84])) : Nat × va_E) := by rw [e_h5]; exact gm_at f_84_h4 (by decide)
      have f_92_h4 : h4 92 = some ((q92, Sum.inr (9, [Value.ref q93, Value.ref q94, Value.ref q95, Value.ref q96, Value.ref q97, Value.ref q98, Value.ref q99, Value.int s92, Value.int t92, Value.int w92, Value.int n92])) : Nat × va_E) := by rw [e_h4]; exact gm_at f_92 (by decide)
      have f_92_h5 : h5 92 = some ((q92, Sum.inr (9, [Value.ref q93, Value.ref q94, Value.ref q95, Value.ref q96, Value.ref q97, Value.ref q98, Value.ref q99, Value.int s92, Value.int t92, Value.int w92, Value.int n92])) : Nat × va_E) := by rw [e_h5]; exact gm_at f_92_h4 (by decide)
      have f_100_h4 : h4 100 = some ((q100, Sum.inr (9, [Value.ref q101, Value.ref q102, Value.ref q103, Value.ref q104, Value.ref q105, Value.ref q106, Value.ref q107, Value.int s100, Value.int t100, Value.int w100, Value.int n100])) : Nat × va_E) := by rw [e_h4]; exact gm_at f_100 (by decide)
      have f_100_h5 : h5 100 = some ((q100, Sum.inr (9, [Value.ref q101, Value.ref q102, Value.ref q103, Value.ref q104, Value.ref q105, Value.ref q106, Value.ref q107, Value.int s100, Value.int t100, Value.int w100, Value.int n100])) : Nat × va_E) := by rw [e_h5]; exact gm_at f_100_h4 (by decide)
      have f_108_h4 : h4 108 = some ((q108, Sum.inr (9, [Value.ref q109, Value.ref q110, Value.ref q111, Value.ref q112, Value.ref q113, Value.ref q114, Value.ref q115, Value.int s108, Value.int t108, Value.int w108, Value.int n108])) : Nat × va_E) := by rw [e_h4]; exact gm_at f_108 (by decide)
      have f_108_h5 : h5 108 = some ((q108, Sum.inr (9, [Value.ref q109, Value.ref q110, Value.ref q111, Value.ref q112, Value.ref q113, Value.ref q114, Value.ref q115, Value.int s108, Value.int t108, Value.int w108, Value.int n108])) : Nat × va_E) := by rw [e_h5]; exact gm_at f_108_h4 (by decide)
      exact gz_zret (v := 1) hx hb hr hlocks hK Z (by decide) (by decide) (rfl) (by rw [← hPQ]; exact Or.inr (Or.inr (⟨rfl, hU, f_46_h5, f_50_h5, f_51_h5, f_52_h5, f_53_h5, f_84_h5, f_92_h5, f_100_h5, f_108_h5, c4_1, c23_2⟩))) d_Mo_act_47
  · refine lv_aload_n hx hb d_Mo_act_7 rfl (lv_at hl 0 rfl) ?_
    refine gz_call (ig := .invokevirtual 87) (av := [Value.ref q46]) Z (fun ws hM => k_Mo_lose l htr D tys z _ ws h hM cI cZ cV q46 q47 q48 q49 q50 q51 q52 q53 q54 q62 q70 q78 q79 q80 q81 q82 q83 (um) m_error m_thrown m_docs m_files m_actions m_power m_lost m_open m_isPrepared m_generation m_buffered m_limit m_factor m_merges m_opened m_chosenMany m_begun fnu sy ha nd ft q84 q85 q86 q87 q88 q89 q90 q91 q92 q93 q94 q95 q96 q97 q98 q99 q100 q101 q102 q103 q104 q105 q106 q107 q108 q109 q110 q111 q112 q113 q114 q115 s84 t84 w84 n84 s92 t92 w92 n92 s100 t100 w100 n100 s108 t108 w108 n108 f_46 f_50 f_51 f_52 f_53 f_83 f_84 f_92 f_100 f_108 ht0 ht1 ht5 hft hb1 hb2) (gx_invV (As := []) (rest := []) hx hb hown hts km_Mo_87 kI_Mo_lose kV_Mo_lose kc_Mo_lose (by decide) (show (parseMethodDescriptor y_Mo_lose.desc).map (fun d => d.parameters.length) = some 0 by decide +kernel) (gz_recv (ci := 8) hK Z rfl f_46) rfl rfl d_Mo_act_8) (gx_cw (z := 0) hts kc_Mo_lose kN_Mo rfl rfl ⟨Nat.le_of_ble_eq_true rfl, Nat.le_of_ble_eq_true rfl⟩) hb hml hz hK hY hAz hA hl.1 (lv_room (Nat.le_of_ble_eq_true rfl)) d_Mo_act_8 ⟨Nat.le_of_ble_eq_true rfl, Nat.le_of_ble_eq_true rfl⟩ (fun v6 h7 H locs hp Z => ?_) (fun x6 E9 ce h7 H locs hp hce Z => ?_)
    · rcases hp with ⟨hv9, e_h7, f_46_h7, f_50_h7, f_51_h7, f_52_h7, f_53_h7, f_84_h7, f_92_h7, f_100_h7, f_108_h7⟩
      cases hv9
      have f_46_h7 : h7 46 = some ((q46, Sum.inr (8, [Value.int m_error, Value.int m_thrown, Value.ref q47, Value.ref q48, Value.ref q49, Value.int m_docs, Value.ref q50, Value.ref q51, Value.ref q52, Value.ref q53, Value.int (nI (gk (gk_nd (gv_cp ft sy nd)) ft)), Value.int m_files, Value.int m_actions, Value.int (-1), Value.int 1, Value.ref q54, Value.ref q62, Value.ref q70, Value.int 0, Value.int 0, Value.int m_generation, Value.ref q78, Value.ref q79, Value.int m_buffered, Value.int m_limit, Value.int m_factor, um, Value.ref q80, Value.ref q81, Value.ref q82, Value.int 0, Value.ref q83, Value.int m_opened, Value.int m_chosenMany, Value.int m_begun])) : Nat × va_E) := f_46_h7
      have f_50_h7 : h7 50 = some ((q50, Sum.inl (cI, 60000, Sum.inl (gi (gcp (gk_nd (gv_cp ft sy nd)) fnu fnu ft)))) : Nat × va_E) := f_50_h7
      have f_51_h7 : h7 51 = some ((q51, Sum.inl (cZ, 60000, Sum.inl (gcp (gk_nd (gv_cp ft sy nd)) sy sy ft))) : Nat × va_E) := f_51_h7
      have f_52_h7 : h7 52 = some ((q52, Sum.inl (cZ, 60000, Sum.inl (gcp (gk_nd (gv_cp ft sy nd)) ha ha ft))) : Nat × va_E) := f_52_h7
      have f_53_h7 : h7 53 = some ((q53, Sum.inl (cZ, 60000, Sum.inl (gv_cp ft sy nd))) : Nat × va_E) := f_53_h7
      have f_84_h7 : h7 84 = some ((q84, Sum.inr (9, [Value.ref q85, Value.ref q86, Value.ref q87, Value.ref q88, Value.ref q89, Value.ref q90, Value.ref q91, Value.int s84, Value.int t84, Value.int w84, Value.int 0])) : Nat × va_E) := f_84_h7
      have f_92_h7 : h7 92 = some ((q92, Sum.inr (9, [Value.ref q93, Value.ref q94, Value.ref q95, Value.ref q96, Value.ref q97, Value.ref q98, Value.ref q99, Value.int s92, Value.int t92, Value.int w92, Value.int 0])) : Nat × va_E) := f_92_h7
      have f_100_h7 : h7 100 = some ((q100, Sum.inr (9, [Value.ref q101, Value.ref q102, Value.ref q103, Value.ref q104, Value.ref q105, Value.ref q106, Value.ref q107, Value.int s100, Value.int t100, Value.int w100, Value.int 0])) : Nat × va_E) := f_100_h7
      have f_108_h7 : h7 108 = some ((q108, Sum.inr (9, [Value.ref q109, Value.ref q110, Value.ref q111, Value.ref q112, Value.ref q113, Value.ref q114, Value.ref q115, Value.int s108, Value.int t108, Value.int w108, Value.int 0])) : Nat × va_E) := f_108_h7
      replace hU : gm_g h h7 [46, 50, 51, 52, 53, 84, 92, 100, 108] := hU.call e_h7 (by first | decide | (simp; done) | (simp; omega))
      refine W.eq (g2 := F0 m 11 ls []) rfl ?_
      refine lv_aload_n hx hb d_Mo_act_11 rfl (lv_at hl 0 rfl) ?_
      refine lv_bipush (v := 6) hx hb d_Mo_act_12 (by decide) ?_
      refine gz_put (ci := 8) (v := Value.int 6) (ty := .int) (C := "CommitLedgerModel") (T := F_Mo) (N := 35) hx hb hts i_Mo t_Mo_ok n_Mo hown hK Z f_46_h7 rfl 0 (by decide) kf_Mo_84 rfl (by decide +kernel) rfl rfl (Nat.le_of_ble_eq_true rfl) d_Mo_act_14 (fun H locs Z => ?_)
      obtain ⟨h8, e_h8⟩ : ∃ z9 : gm_M, z9 = gm_up h7 46 ((q46, Sum.inr (8, [Value.int 6, Value.int m_thrown, Value.ref q47, Value.ref q48, Value.ref q49, Value.int m_docs, Value.ref q50, Value.ref q51, Value.ref q52, Value.ref q53, Value.int (nI (gk (gk_nd (gv_cp ft sy nd)) ft)), Value.int m_files, Value.int m_actions, Value.int (-1), Value.int 1, Value.ref q54, Value.ref q62, Value.ref q70, Value.int 0, Value.int 0, Value.int m_generation, Value.ref q78, Value.ref q79, Value.int m_buffered, Value.int m_limit, Value.int m_factor, um, Value.ref q80, Value.ref q81, Value.ref q82, Value.int 0, Value.ref q83, Value.int m_opened, Value.int m_chosenMany, Value.int m_begun])) : Nat × va_E) := ⟨_, rfl⟩
      replace Z : gz D A s.heap h8 H locs := by rw [e_h8]; exact Z
      have f_46_h8 : h8 46 = some ((q46, Sum.inr (8, [Value.int 6, Value.int m_thrown, Value.ref q47, Value.ref q48, Value.ref q49, Value.int m_docs, Value.ref q50, Value.ref q51, Value.ref q52, Value.ref q53, Value.int (nI (gk (gk_nd (gv_cp ft sy nd)) ft)), Value.int m_files, Value.int m_actions, Value.int (-1), Value.int 1, Value.ref q54, Value.ref q62, Value.ref q70, Value.int 0, Value.int 0, Value.int m_generation, Value.ref q78, Value.ref q79, Value.int m_buffered, Value.int m_limit, Value.int m_factor, um, Value.ref q80, Value.ref q81, Value.ref q82, Value.int 0, Value.ref q83, Value.int m_opened, Value.int m_chosenMany, Value.int m_begun])) : Nat × va_E) := by rw [e_h8]; exact gm_self
      replace hU : gm_g h h8 [46, 50, 51, 52, 53, 84, 92, 100, 108] := by rw [e_h8]; exact hU.put (by simp)
      refine lv_iconst (v := 0) hx hb d_Mo_act_17 (by decide) ?_
      have f_50_h8 : h8 50 = some ((q50, Sum.inl (cI, 60000, Sum.inl (gi (gcp (gk_nd (gv_cp ft sy nd)) fnu fnu ft)))) : Nat × va_E) := by rw [e_h8]; exact gm_at f_50_h7 (by decide)
      have f_51_h8 : h8 51 = some ((q51, Sum.inl (cZ, 60000, Sum.inl (gcp (gk_nd (gv_cp ft sy nd)) sy sy ft))) : Nat × va_E) := by rw [e_h8]; exact gm_at f_51_h7 (by decide)
      have f_52_h8 : h8 52 = some ((q52, Sum.inl (cZ, 60000, Sum.inl (gcp (gk_nd (gv_cp ft sy nd)) ha ha ft))) : Nat × va_E) := by rw [e_h8]; exact gm_at f_52_h7 (by decide)
      have f_53_h8 : h8 53 = some ((q53, Sum.inl (cZ, 60000, Sum.inl (gv_cp ft sy nd))) : Nat × va_E) := by rw [e_h8]; exact gm_at f_53_h7 (by decide)
      have f_84_h8 : h8 84 = some ((q84, Sum.inr (9, [Value.ref q85, Value.ref q86, Value.ref q87, Value.ref q88, Value.ref q89, Value.ref q90, Value.ref q91, Value.int s84, Value.int t84, Value.int w84, Value.int 0])) : Nat × va_E) := by rw [e_h8]; exact gm_at f_84_h7 (by decide)
      have f_92_h8 : h8 92 = some ((q92, Sum.inr (9, [Value.ref q93, Value.ref q94, Value.ref q95, Value.ref q96, Value.ref q97, Value.ref q98, Value.ref q99, Value.int s92, Value.int t92, Value.int w92, Value.int 0])) : Nat × va_E) := by rw [e_h8]; exact gm_at f_92_h7 (by decide)
      have f_100_h8 : h8 100 = some ((q100, Sum.inr (9, [Value.ref q101, Value.ref q102, Value.ref q103, Value.ref q104, Value.ref q105, Value.ref q106, Value.ref q107, Value.int s100, Value.int t100, Value.int w100, Value.int 0])) : Nat × va_E) := by rw [e_h8]; exact gm_at f_100_h7 (by decide)
      have f_108_h8 : h8 108 = some ((q108, Sum.inr (9, [Value.ref q109, Value.ref q110, Value.ref q111, Value.ref q112, Value.ref q113, Value.ref q114, Value.ref q115, Value.int s108, Value.int t108, Value.int w108, Value.int 0])) : Nat × va_E) := by rw [e_h8]; exact gm_at f_108_h7 (by decide)
      exact gz_zret (v := 0) hx hb hr hlocks hK Z (by decide) (by decide) (rfl) (by rw [← hPQ]; exact Or.inl ⟨rfl, hU, f_46_h8, f_50_h8, f_51_h8, f_52_h8, f_53_h8, f_84_h8, f_92_h8, f_100_h8, f_108_h8, c4_1⟩) d_Mo_act_18
    · rcases hp with ⟨hv9, e_h7, f_46_h7, f_50_h7, f_51_h7, f_52_h7, f_53_h7, f_84_h7, f_92_h7, f_100_h7, f_108_h7⟩
      cases hv9

set_option maxHeartbeats 4000000 in
set_option maxRecDepth 100000 in
theorem k_Mo_write (l : Launch) (htr : l.stackTraces = false) (D : va_G) (tys : List (ClassId × FieldType)) (z sz : Nat) (ws : va_W) (h : gm_M) (hM : gm_S h ws) (cI : ClassId) (cZ : ClassId) (cV : ClassId) (q46 : Nat) (q47 : Nat) (q48 : Nat) (q49 : Nat) (q50 : Nat) (q51 : Nat) (q52 : Nat) (q53 : Nat) (q54 : Nat) (q62 : Nat) (q70 : Nat) (q78 : Nat) (q79 : Nat) (q80 : Nat) (q81 : Nat) (q82 : Nat) (q83 : Nat) (um : Value) (m_error : Int32) (m_thrown : Int32) (m_docs : Int32) (m_actions : Int32) (m_power : Int32) (m_lost : Int32) (m_open : Int32) (m_isPrepared : Int32) (m_generation : Int32) (m_buffered : Int32) (m_limit : Int32) (m_factor : Int32) (m_merges : Int32) (m_opened : Int32) (m_chosenMany : Int32) (m_begun : Int32) (fnu : Nat → Nat) (sy : Nat → Int32) (ha : Nat → Int32) (nd : Nat → Int32) (ft : Nat) (q84 : Nat) (q85 : Nat) (q86 : Nat) (q87 : Nat) (q88 : Nat) (q89 : Nat) (q90 : Nat) (q91 : Nat) (q92 : Nat) (q93 : Nat) (q94 : Nat) (q95 : Nat) (q96 : Nat) (q97 : Nat) (q98 : Nat) (q99 : Nat) (q100 : Nat) (q101 : Nat) (q102 : Nat) (q103 : Nat) (q104 : Nat) (q105 : Nat) (q106 : Nat) (q107 : Nat) (q108 : Nat) (q109 : Nat) (q110 : Nat) (q111 : Nat) (q112 : Nat) (q113 : Nat) (q114 : Nat) (q115 : Nat) (s84 : Int32) (t84 : Int32) (w84 : Int32) (n84 : Int32) (s92 : Int32) (t92 : Int32) (w92 : Int32) (n92 : Int32) (s100 : Int32) (t100 : Int32) (w100 : Int32) (n100 : Int32) (s108 : Int32) (t108 : Int32) (w108 : Int32) (n108 : Int32) (fs : Nat) (f_46 : h 46 = some ((q46, Sum.inr (8, [Value.int m_error, Value.int m_thrown, Value.ref q47, Value.ref q48, Value.ref q49, Value.int m_docs, Value.ref q50, Value.ref q51, Value.ref q52, Value.ref q53, Value.int (nI ft), Value.int (nI fs), Value.int m_actions, Value.int m_power, Value.int m_lost, Value.ref q54, Value.ref q62, Value.ref q70, Value.int m_open, Value.int m_isPrepared, Value.int m_generation, Value.ref q78, Value.ref q79, Value.int m_buffered, Value.int m_limit, Value.int m_factor, um, Value.ref q80, Value.ref q81, Value.ref q82, Value.int m_merges, Value.ref q83, Value.int m_opened, Value.int m_chosenMany, Value.int m_begun])) : Nat × va_E)) (f_50 : h 50 = some ((q50, Sum.inl (cI, 60000, Sum.inl (gi fnu))) : Nat × va_E)) (f_51 : h 51 = some ((q51, Sum.inl (cZ, 60000, Sum.inl sy)) : Nat × va_E)) (f_52 : h 52 = some ((q52, Sum.inl (cZ, 60000, Sum.inl ha)) : Nat × va_E)) (f_53 : h 53 = some ((q53, Sum.inl (cZ, 60000, Sum.inl nd)) : Nat × va_E)) (f_83 : h 83 = some ((q83, Sum.inl (cV, 4, Sum.inr (Sum.inr (Sum.inr (Sum.inr (va_up (va_up (va_up (va_up (fun _ => none) 0 (some q84)) 1 (some q92)) 2 (some q100)) 3 (some q108))))))) : Nat × va_E)) (f_84 : h 84 = some ((q84, Sum.inr (9, [Value.ref q85, Value.ref q86, Value.ref q87, Value.ref q88, Value.ref q89, Value.ref q90, Value.ref q91, Value.int s84, Value.int t84, Value.int w84, Value.int n84])) : Nat × va_E)) (f_92 : h 92 = some ((q92, Sum.inr (9, [Value.ref q93, Value.ref q94, Value.ref q95, Value.ref q96, Value.ref q97, Value.ref q98, Value.ref q99, Value.int s92, Value.int t92, Value.int w92, Value.int n92])) : Nat × va_E)) (f_100 : h 100 = some ((q100, Sum.inr (9, [Value.ref q101, Value.ref q102, Value.ref q103, Value.ref q104, Value.ref q105, Value.ref q106, Value.ref q107, Value.int s100, Value.int t100, Value.int w100, Value.int n100])) : Nat × va_E)) (f_108 : h 108 = some ((q108, Sum.inr (9, [Value.ref q109, Value.ref q110, Value.ref q111, Value.ref q112, Value.ref q113, Value.ref q114, Value.ref q115, Value.int s108, Value.int t108, Value.int w108, Value.int n108])) : Nat × va_E)) (ht0 : tys[0]? = some ((cI, FieldType.int) : ClassId × FieldType)) (ht1 : tys[1]? = some ((cZ, FieldType.boolean) : ClassId × FieldType)) (ht5 : tys[5]? = some ((cV, FieldType.object "CommitLedgerModel$Version") : ClassId × FieldType)) (hft : ft ≤ 60000) (hb1 : ∀ i, i < ft → gx_b (sy i)) (hb2 : ∀ i, i < ft → gx_b (ha i)) (hf6 : ft < 60000) : gx_Met l y_Mo_write [Cond.code y_Mo_write b_Mo_write 1 (some .int)] { frames := 4, cells := 0, slots := 0, locals := 78 } (gx_P z sz D classes tys ws [Value.ref q46]) (gx_Q D classes tys (va_A ws sz) (gm_p (fun r h' => (r = Sum.inl (some (Value.int (-1))) ∧ gm_g h h' [46, 50, 51, 52, 53, 84, 92, 100, 108] ∧ h' 46 = some ((q46, Sum.inr (8, [Value.int 6, Value.int m_thrown, Value.ref q47, Value.ref q48, Value.ref q49, Value.int m_docs, Value.ref q50, Value.ref q51, Value.ref q52, Value.ref q53, Value.int (nI (gk (gk_nd (gv_cp ft sy nd)) ft)), Value.int (nI fs), Value.int m_actions, Value.int (-1), Value.int 1, Value.ref q54, Value.ref q62, Value.ref q70, Value.int 0, Value.int 0, Value.int m_generation, Value.ref q78, Value.ref q79, Value.int m_buffered, Value.int m_limit, Value.int m_factor, um, Value.ref q80, Value.ref q81, Value.ref q82, Value.int 0, Value.ref q83, Value.int m_opened, Value.int m_chosenMany, Value.int m_begun])) : Nat × va_E) ∧ h' 50 = some ((q50, Sum.inl (cI, 60000, Sum.inl (gi (gcp (gk_nd (gv_cp ft sy nd)) fnu fnu ft)))) : Nat × va_E) ∧ h' 51 = some ((q51, Sum.inl (cZ, 60000, Sum.inl (gcp (gk_nd (gv_cp ft sy nd)) sy sy ft))) : Nat × va_E) ∧ h' 52 = some ((q52, Sum.inl (cZ, 60000, Sum.inl (gcp (gk_nd (gv_cp ft sy nd)) ha ha ft))) : Nat × va_E) ∧ h' 53 = some ((q53, Sum.inl (cZ, 60000, Sum.inl (gv_cp ft sy nd))) : Nat × va_E) ∧ h' 84 = some ((q84, Sum.inr (9, [Value.ref q85, Value.ref q86, Value.ref q87, Value.ref q88, Value.ref q89, Value.ref q90, Value.ref q91, Value.int s84, Value.int t84, Value.int w84, Value.int 0])) : Nat × va_E) ∧ h' 92 = some ((q92, Sum.inr (9, [Value.ref q93, Value.ref q94, Value.ref q95, Value.ref q96, Value.ref q97, Value.ref q98, Value.ref q99, Value.int s92, Value.int t92, Value.int w92, Value.int 0])) : Nat × va_E) ∧ h' 100 = some ((q100, Sum.inr (9, [Value.ref q101, Value.ref q102, Value.ref q103, Value.ref q104, Value.ref q105, Value.ref q106, Value.ref q107, Value.int s100, Value.int t100, Value.int w100, Value.int 0])) : Nat × va_E) ∧ h' 108 = some ((q108, Sum.inr (9, [Value.ref q109, Value.ref q110, Value.ref q111, Value.ref q112, Value.ref q113, Value.ref q114, Value.ref q115, Value.int s108, Value.int t108, Value.int w108, Value.int 0])) : Nat × va_E) ∧ (m_power = 0)) ∨ (r = Sum.inl (some (Value.int (nI fs))) ∧ gm_g h h' [46, 50, 51, 52, 53, 84, 92, 100, 108] ∧ h' 46 = some ((q46, Sum.inr (8, [Value.int m_error, Value.int m_thrown, Value.ref q47, Value.ref q48, Value.ref q49, Value.int m_docs, Value.ref q50, Value.ref q51, Value.ref q52, Value.ref q53, Value.int (nI (ft + 1)), Value.int (nI (fs + 1)), Value.int (m_actions + 1), Value.int m_power, Value.int m_lost, Value.ref q54, Value.ref q62, Value.ref q70, Value.int m_open, Value.int m_isPrepared, Value.int m_generation, Value.ref q78, Value.ref q79, Value.int m_buffered, Value.int m_limit, Value.int m_factor, um, Value.ref q80, Value.ref q81, Value.ref q82, Value.int m_merges, Value.ref q83, Value.int m_opened, Value.int m_chosenMany, Value.int m_begun])) : Nat × va_E) ∧ h' 50 = some ((q50, Sum.inl (cI, 60000, Sum.inl (gi (va_up fnu ft fs)))) : Nat × va_E) ∧ h' 51 = some ((q51, Sum.inl (cZ, 60000, Sum.inl (upd sy ft 0))) : Nat × va_E) ∧ h' 52 = some ((q52, Sum.inl (cZ, 60000, Sum.inl (upd ha ft 0))) : Nat × va_E) ∧ h' 53 = some ((q53, Sum.inl (cZ, 60000, Sum.inl nd)) : Nat × va_E) ∧ h' 84 = some ((q84, Sum.inr (9, [Value.ref q85, Value.ref q86, Value.ref q87, Value.ref q88, Value.ref q89, Value.ref q90, Value.ref q91, Value.int s84, Value.int t84, Value.int w84, Value.int n84])) : Nat × va_E) ∧ h' 92 = some ((q92, Sum.inr (9, [Value.ref q93, Value.ref q94, Value.ref q95, Value.ref q96, Value.ref q97, Value.ref q98, Value.ref q99, Value.int s92, Value.int t92, Value.int w92, Value.int n92])) : Nat × va_E) ∧ h' 100 = some ((q100, Sum.inr (9, [Value.ref q101, Value.ref q102, Value.ref q103, Value.ref q104, Value.ref q105, Value.ref q106, Value.ref q107, Value.int s100, Value.int t100, Value.int w100, Value.int n100])) : Nat × va_E) ∧ h' 108 = some ((q108, Sum.inr (9, [Value.ref q109, Value.ref q110, Value.ref q111, Value.ref q112, Value.ref q113, Value.ref q114, Value.ref q115, Value.int s108, Value.int t108, Value.int w108, Value.int n108])) : Nat × va_E) ∧ (¬ m_power = 0) ∧ (m_power ≤ 0)) ∨ (r = Sum.inl (some (Value.int (nI fs))) ∧ gm_g h h' [46, 50, 51, 52, 53, 84, 92, 100, 108] ∧ h' 46 = some ((q46, Sum.inr (8, [Value.int m_error, Value.int m_thrown, Value.ref q47, Value.ref q48, Value.ref q49, Value.int m_docs, Value.ref q50, Value.ref q51, Value.ref q52, Value.ref q53, Value.int (nI (ft + 1)), Value.int (nI (fs + 1)), Value.int (m_actions + 1), Value.int (m_power - 1), Value.int m_lost, Value.ref q54, Value.ref q62, Value.ref q70, Value.int m_open, Value.int m_isPrepared, Value.int m_generation, Value.ref q78, Value.ref q79, Value.int m_buffered, Value.int m_limit, Value.int m_factor, um, Value.ref q80, Value.ref q81, Value.ref q82, Value.int m_merges, Value.ref q83, Value.int m_opened, Value.int m_chosenMany, Value.int m_begun])) : Nat × va_E) ∧ h' 50 = some ((q50, Sum.inl (cI, 60000, Sum.inl (gi (va_up fnu ft fs)))) : Nat × va_E) ∧ h' 51 = some ((q51, Sum.inl (cZ, 60000, Sum.inl (upd sy ft 0))) : Nat × va_E) ∧ h' 52 = some ((q52, Sum.inl (cZ, 60000, Sum.inl (upd ha ft 0))) : Nat × va_E) ∧ h' 53 = some ((q53, Sum.inl (cZ, 60000, Sum.inl nd)) : Nat × va_E) ∧ h' 84 = some ((q84, Sum.inr (9, [Value.ref q85, Value.ref q86, Value.ref q87, Value.ref q88, Value.ref q89, Value.ref q90, Value.ref q91, Value.int s84, Value.int t84, Value.int w84, Value.int n84])) : Nat × va_E) ∧ h' 92 = some ((q92, Sum.inr (9, [Value.ref q93, Value.ref q94, Value.ref q95, Value.ref q96, Value.ref q97, Value.ref q98, Value.ref q99, Value.int s92, Value.int t92, Value.int w92, Value.int n92])) : Nat × va_E) ∧ h' 100 = some ((q100, Sum.inr (9, [Value.ref q101, Value.ref q102, Value.ref q103, Value.ref q104, Value.ref q105, Value.ref q106, Value.ref q107, Value.int s100, Value.int t100, Value.int w100, Value.int n100])) : Nat × va_E) ∧ h' 108 = some ((q108, Sum.inr (9, [Value.ref q109, Value.ref q110, Value.ref q111, Value.ref q112, Value.ref q113, Value.ref q114, Value.ref q115, Value.int s108, Value.int t108, Value.int w108, Value.int n108])) : Nat × va_E) ∧ (¬ m_power = 0) ∧ (¬ m_power ≤ 0))))) 0 0 (va_A ws sz) := by
  refine gx_ofW (cc := b_Mo_write) (maxL := 1) (ret := (some .int)) (by decide) rfl ?_
  intro p e s m args below meth c s₁ B hml hv
  obtain ⟨rfl, hsz, hz, hP, hK, hD0, hY⟩ := hv
  have hx := B.exec
  have hb := B.bytes
  have hr := B.returns
  have hts := hY.hts (#[Value.ref q46] : Array Value)
  have hown : s.vm.findClass "CommitLedgerModel" = some m.cls := findClass_of_methodNamed B.named
  have hlocks := B.notSynchronized
  have hne : c.exceptionTable.isEmpty = true := B.noHandlers (atoms_spec (ws := [Cond.code y_Mo_write b_Mo_write 1 (some .int)]) B.pre _ List.mem_cons_self)
  subst hsz
  have hAz := gx_az hD0 hz
  have hD := hD0.self (sz := s.heap.size)
  have hN := gx_ns hP
  have hA : ∀ q : Nat, s.heap.size ≤ q → va_A ws s.heap.size q := fun q h => Or.inr h
  generalize va_A ws s.heap.size = A at hD hN hA hAz ⊢
  generalize hPQ : (fun (r : Option Value ⊕ String) (h' : gm_M) => (r = Sum.inl (some (Value.int (-1))) ∧ gm_g h h' [46, 50, 51, 52, 53, 84, 92, 100, 108] ∧ h' 46 = some ((q46, Sum.inr (8, [Value.int 6, Value.int m_thrown, Value.ref q47, Value.ref q48, Value.ref q49, Value.int m_docs, Value.ref q50, Value.ref q51, Value.ref q52, Value.ref q53, Value.int (nI (gk (gk_nd (gv_cp ft sy nd)) ft)), Value.int (nI fs), Value.int m_actions, Value.int (-1), Value.int 1, Value.ref q54, Value.ref q62, Value.ref q70, Value.int 0, Value.int 0, Value.int m_generation, Value.ref q78, Value.ref q79, Value.int m_buffered, Value.int m_limit, Value.int m_factor, um, Value.ref q80, Value.ref q81, Value.ref q82, Value.int 0, Value.ref q83, Value.int m_opened, Value.int m_chosenMany, Value.int m_begun])) : Nat × va_E) ∧ h' 50 = some ((q50, Sum.inl (cI, 60000, Sum.inl (gi (gcp (gk_nd (gv_cp ft sy nd)) fnu fnu ft)))) : Nat × va_E) ∧ h' 51 = some ((q51, Sum.inl (cZ, 60000, Sum.inl (gcp (gk_nd (gv_cp ft sy nd)) sy sy ft))) : Nat × va_E) ∧ h' 52 = some ((q52, Sum.inl (cZ, 60000, Sum.inl (gcp (gk_nd (gv_cp ft sy nd)) ha ha ft))) : Nat × va_E) ∧ h' 53 = some ((q53, Sum.inl (cZ, 60000, Sum.inl (gv_cp ft sy nd))) : Nat × va_E) ∧ h' 84 = some ((q84, Sum.inr (9, [Value.ref q85, Value.ref q86, Value.ref q87, Value.ref q88, Value.ref q89, Value.ref q90, Value.ref q91, Value.int s84, Value.int t84, Value.int w84, Value.int 0])) : Nat × va_E) ∧ h' 92 = some ((q92, Sum.inr (9, [Value.ref q93, Value.ref q94, Value.ref q95, Value.ref q96, Value.ref q97, Value.ref q98, Value.ref q99, Value.int s92, Value.int t92, Value.int w92, Value.int 0])) : Nat × va_E) ∧ h' 100 = some ((q100, Sum.inr (9, [Value.ref q101, Value.ref q102, Value.ref q103, Value.ref q104, Value.ref q105, Value.ref q106, Value.ref q107, Value.int s100, Value.int t100, Value.int w100, Value.int 0])) : Nat × va_E) ∧ h' 108 = some ((q108, Sum.inr (9, [Value.ref q109, Value.ref q110, Value.ref q111, Value.ref q112, Value.ref q113, Value.ref q114, Value.ref q115, Value.int s108, Value.int t108, Value.int w108, Value.int 0])) : Nat × va_E) ∧ (m_power = 0)) ∨ (r = Sum.inl (some (Value.int (nI fs))) ∧ gm_g h h' [46, 50, 51, 52, 53, 84, 92, 100, 108] ∧ h' 46 = some ((q46, Sum.inr (8, [Value.int m_error, Value.int m_thrown, Value.ref q47, Value.ref q48, Value.ref q49, Value.int m_docs, Value.ref q50, Value.ref q51, Value.ref q52, Value.ref q53, Value.int (nI (ft + 1)), Value.int (nI (fs + 1)), Value.int (m_actions + 1), Value.int m_power, Value.int m_lost, Value.ref q54, Value.ref q62, Value.ref q70, Value.int m_open, Value.int m_isPrepared, Value.int m_generation, Value.ref q78, Value.ref q79, Value.int m_buffered, Value.int m_limit, Value.int m_factor, um, Value.ref q80, Value.ref q81, Value.ref q82, Value.int m_merges, Value.ref q83, Value.int m_opened, Value.int m_chosenMany, Value.int m_begun])) : Nat × va_E) ∧ h' 50 = some ((q50, Sum.inl (cI, 60000, Sum.inl (gi (va_up fnu ft fs)))) : Nat × va_E) ∧ h' 51 = some ((q51, Sum.inl (cZ, 60000, Sum.inl (upd sy ft 0))) : Nat × va_E) ∧ h' 52 = some ((q52, Sum.inl (cZ, 60000, Sum.inl (upd ha ft 0))) : Nat × va_E) ∧ h' 53 = some ((q53, Sum.inl (cZ, 60000, Sum.inl nd)) : Nat × va_E) ∧ h' 84 = some ((q84, Sum.inr (9, [Value.ref q85, Value.ref q86, Value.ref q87, Value.ref q88, Value.ref q89, Value.ref q90, Value.ref q91, Value.int s84, Value.int t84, Value.int w84, Value.int n84])) : Nat × va_E) ∧ h' 92 = some ((q92, Sum.inr (9, [Value.ref q93, Value.ref q94, Value.ref q95, Value.ref q96, Value.ref q97, Value.ref q98, Value.ref q99, Value.int s92, Value.int t92, Value.int w92, Value.int n92])) : Nat × va_E) ∧ h' 100 = some ((q100, Sum.inr (9, [Value.ref q101, Value.ref q102, Value.ref q103, Value.ref q104, Value.ref q105, Value.ref q106, Value.ref q107, Value.int s100, Value.int t100, Value.int w100, Value.int n100])) : Nat × va_E) ∧ h' 108 = some ((q108, Sum.inr (9, [Value.ref q109, Value.ref q110, Value.ref q111, Value.ref q112, Value.ref q113, Value.ref q114, Value.ref q115, Value.int s108, Value.int t108, Value.int w108, Value.int n108])) : Nat × va_E) ∧ (¬ m_power = 0) ∧ (m_power ≤ 0)) ∨ (r = Sum.inl (some (Value.int (nI fs))) ∧ gm_g h h' [46, 50, 51, 52, 53, 84, 92, 100, 108] ∧ h' 46 = some ((q46, Sum.inr (8, [Value.int m_error, Value.int m_thrown, Value.ref q47, Value.ref q48, Value.ref q49, Value.int m_docs, Value.ref q50, Value.ref q51, Value.ref q52, Value.ref q53, Value.int (nI (ft + 1)), Value.int (nI (fs + 1)), Value.int (m_actions + 1), Value.int (m_power - 1), Value.int m_lost, Value.ref q54, Value.ref q62, Value.ref q70, Value.int m_open, Value.int m_isPrepared, Value.int m_generation, Value.ref q78, Value.ref q79, Value.int m_buffered, Value.int m_limit, Value.int m_factor, um, Value.ref q80, Value.ref q81, Value.ref q82, Value.int m_merges, Value.ref q83, Value.int m_opened, Value.int m_chosenMany, Value.int m_begun])) : Nat × va_E) ∧ h' 50 = some ((q50, Sum.inl (cI, 60000, Sum.inl (gi (va_up fnu ft fs)))) : Nat × va_E) ∧ h' 51 = some ((q51, Sum.inl (cZ, 60000, Sum.inl (upd sy ft 0))) : Nat × va_E) ∧ h' 52 = some ((q52, Sum.inl (cZ, 60000, Sum.inl (upd ha ft 0))) : Nat × va_E) ∧ h' 53 = some ((q53, Sum.inl (cZ, 60000, Sum.inl nd)) : Nat × va_E) ∧ h' 84 = some ((q84, Sum.inr (9, [Value.ref q85, Value.ref q86, Value.ref q87, Value.ref q88, Value.ref q89, Value.ref q90, Value.ref q91, Value.int s84, Value.int t84, Value.int w84, Value.int n84])) : Nat × va_E) ∧ h' 92 = some ((q92, Sum.inr (9, [Value.ref q93, Value.ref q94, Value.ref q95, Value.ref q96, Value.ref q97, Value.ref q98, Value.ref q99, Value.int s92, Value.int t92, Value.int w92, Value.int n92])) : Nat × va_E) ∧ h' 100 = some ((q100, Sum.inr (9, [Value.ref q101, Value.ref q102, Value.ref q103, Value.ref q104, Value.ref q105, Value.ref q106, Value.ref q107, Value.int s100, Value.int t100, Value.int w100, Value.int n100])) : Nat × va_E) ∧ h' 108 = some ((q108, Sum.inr (9, [Value.ref q109, Value.ref q110, Value.ref q111, Value.ref q112, Value.ref q113, Value.ref q114, Value.ref q115, Value.int s108, Value.int t108, Value.int w108, Value.int n108])) : Nat × va_E) ∧ (¬ m_power = 0) ∧ (¬ m_power ≤ 0))) = PQ
  have Z : gz D A s.heap h s.heap [] := ⟨ws, hM, hP, hD, va_S.rf⟩
  clear hP hD hM hD0
  have hU : gm_g h h [46, 50, 51, 52, 53, 84, 92, 100, 108] := gm_g.rf
  have hl := lv_entry ([Value.ref q46]) (n := 1) (Nat.le_of_ble_eq_true rfl)
  rw [lg_entry_eq]
  generalize (lg_sl ([Value.ref q46]) ++ List.replicate (1 - (lg_sl ([Value.ref q46])).length) Slot.unset).toArray = ls at hl ⊢
  have hl : lv_has ls 1 [(0, Value.ref q46)] := hl
  refine lv_aload_n hx hb d_Mo_write_0 rfl (lv_at hl 0 rfl) ?_
  refine gz_call (ig := .invokevirtual 115) (av := [Value.ref q46]) Z (fun ws hM => k_Mo_act l htr D tys z _ ws h hM cI cZ cV q46 q47 q48 q49 q50 q51 q52 q53 q54 q62 q70 q78 q79 q80 q81 q82 q83 (um) m_error m_thrown m_docs (nI fs) m_actions m_power m_lost m_open m_isPrepared m_generation m_buffered m_limit m_factor m_merges m_opened m_chosenMany m_begun fnu sy ha nd ft q84 q85 q86 q87 q88 q89 q90 q91 q92 q93 q94 q95 q96 q97 q98 q99 q100 q101 q102 q103 q104 q105 q106 q107 q108 q109 q110 q111 q112 q113 q114 q115 s84 t84 w84 n84 s92 t92 w92 n92 s100 t100 w100 n100 s108 t108 w108 n108 f_46 f_50 f_51 f_52 f_53 f_83 f_84 f_92 f_100 f_108 ht0 ht1 ht5 hft hb1 hb2) (gx_invV (As := []) (rest := []) hx hb hown hts km_Mo_115 kI_Mo_act kV_Mo_act kc_Mo_act (by decide) (show (parseMethodDescriptor y_Mo_act.desc).map (fun d => d.parameters.length) = some 0 by decide +kernel) (gz_recv (ci := 8) hK Z rfl f_46) rfl rfl d_Mo_write_1) (gx_cw (z := 0) hts kc_Mo_act kN_Mo rfl rfl ⟨Nat.le_of_ble_eq_true rfl, Nat.le_of_ble_eq_true rfl⟩) hb hml hz hK hY hAz hA hl.1 (lv_room (Nat.le_of_ble_eq_true rfl)) d_Mo_write_1 ⟨Nat.le_of_ble_eq_true rfl, Nat.le_of_ble_eq_true rfl⟩ (fun v1 h2 H locs hp Z => ?_) (fun x1 E9 ce h2 H locs hp hce Z => ?_)
  · rcases hp with ⟨hv9, e_h2, f_46_h2, f_50_h2, f_51_h2, f_52_h2, f_53_h2, f_84_h2, f_92_h2, f_100_h2, f_108_h2, g1_0⟩ | ⟨hv9, e_h2, f_46_h2, f_50_h2, f_51_h2, f_52_h2, f_53_h2, f_84_h2, f_92_h2, f_100_h2, f_108_h2, g1_0, g1_1⟩ | ⟨hv9, e_h2, f_46_h2, f_50_h2, f_51_h2, f_52_h2, f_53_h2, f_84_h2, f_92_h2, f_100_h2, f_108_h2, g1_0, g1_1⟩
    · cases hv9
      have f_46_h2 : h2 46 = some ((q46, Sum.inr (8, [Value.int 6, Value.int m_thrown, Value.ref q47, Value.ref q48, Value.ref q49, Value.int m_docs, Value.ref q50, Value.ref q51, Value.ref q52, Value.ref q53, Value.int (nI (gk (gk_nd (gv_cp ft sy nd)) ft)), Value.int (nI fs), Value.int m_actions, Value.int (-1), Value.int 1, Value.ref q54, Value.ref q62, Value.ref q70, Value.int 0, Value.int 0, Value.int m_generation, Value.ref q78, Value.ref q79, Value.int m_buffered, Value.int m_limit, Value.int m_factor, um, Value.ref q80, Value.ref q81, Value.ref q82, Value.int 0, Value.ref q83, Value.int m_opened, Value.int m_chosenMany, Value.int m_begun])) : Nat × va_E) := f_46_h2
      have f_50_h2 : h2 50 = some ((q50, Sum.inl (cI, 60000, Sum.inl (gi (gcp (gk_nd (gv_cp ft sy nd)) fnu fnu ft)))) : Nat × va_E) := f_50_h2
      have f_51_h2 : h2 51 = some ((q51, Sum.inl (cZ, 60000, Sum.inl (gcp (gk_nd (gv_cp ft sy nd)) sy sy ft))) : Nat × va_E) := f_51_h2
      have f_52_h2 : h2 52 = some ((q52, Sum.inl (cZ, 60000, Sum.inl (gcp (gk_nd (gv_cp ft sy nd)) ha ha ft))) : Nat × va_E) := f_52_h2
      have f_53_h2 : h2 53 = some ((q53, Sum.inl (cZ, 60000, Sum.inl (gv_cp ft sy nd))) : Nat × va_E) := f_53_h2
      have f_84_h2 : h2 84 = some ((q84, Sum.inr (9, [Value.ref q85, Value.ref q86, Value.ref q87, Value.ref q88, Value.ref q89, Value.ref q90, Value.ref q91, Value.int s84, Value.int t84, Value.int w84, Value.int 0])) : Nat × va_E) := f_84_h2
      have f_92_h2 : h2 92 = some ((q92, Sum.inr (9, [Value.ref q93, Value.ref q94, Value.ref q95, Value.ref q96, Value.ref q97, Value.ref q98, Value.ref q99, Value.int s92, Value.int t92, Value.int w92, Value.int 0])) : Nat × va_E) := f_92_h2
      have f_100_h2 : h2 100 = some ((q100, Sum.inr (9, [Value.ref q101, Value.ref q102, Value.ref q103, Value.ref q104, Value.ref q105, Value.ref q106, Value.ref q107, Value.int s100, Value.int t100, Value.int w100, Value.int 0])) : Nat × va_E) := f_100_h2
      have f_108_h2 : h2 108 = some ((q108, Sum.inr (9, [Value.ref q109, Value.ref q110, Value.ref q111, Value.ref q112, Value.ref q113, Value.ref q114, Value.ref q115, Value.int s108, Value.int t108, Value.int w108, Value.int 0])) : Nat × va_E) := f_108_h2
      replace hU : gm_g h h2 [46, 50, 51, 52, 53, 84, 92, 100, 108] := hU.call e_h2 (by first | decide | (simp; done) | (simp; omega))
      refine W.eq (g2 := F0 m 4 ls [Value.int 0]) rfl ?_
      refine lv_if_ne (tgt := 9) hx hb d_Mo_write_4 (by decide) (fun c9 => absurd (by decide) c9) (fun _ => ?_)
      refine lv_iconst (v := (-1)) hx hb d_Mo_write_7 (by decide) ?_
      exact gz_iret (v := (-1)) hx hb hr hlocks hK Z (by decide) (by decide) (by rw [← hPQ]; exact Or.inl ⟨rfl, hU, f_46_h2, f_50_h2, f_51_h2, f_52_h2, f_53_h2, f_84_h2, f_92_h2, f_100_h2, f_108_h2, g1_0⟩) d_Mo_write_8
    · cases hv9
      have f_46_h2 : h2 46 = some ((q46, Sum.inr (8, [Value.int m_error, Value.int m_thrown, Value.ref q47, Value.ref q48, Value.ref q49, Value.int m_docs, Value.ref q50, Value.ref q51, Value.ref q52, Value.ref q53, Value.int (nI ft), Value.int (nI fs), Value.int (m_actions + 1), Value.int m_power, Value.int m_lost, Value.ref q54, Value.ref q62, Value.ref q70, Value.int m_open, Value.int m_isPrepared, Value.int m_generation, Value.ref q78, Value.ref q79, Value.int m_buffered, Value.int m_limit, Value.int m_factor, um, Value.ref q80, Value.ref q81, Value.ref q82, Value.int m_merges, Value.ref q83, Value.int m_opened, Value.int m_chosenMany, Value.int m_begun])) : Nat × va_E) := f_46_h2
      have f_50_h2 : h2 50 = some ((q50, Sum.inl (cI, 60000, Sum.inl (gi fnu))) : Nat × va_E) := f_50_h2
      have f_51_h2 : h2 51 = some ((q51, Sum.inl (cZ, 60000, Sum.inl sy)) : Nat × va_E) := f_51_h2
      have f_52_h2 : h2 52 = some ((q52, Sum.inl (cZ, 60000, Sum.inl ha)) : Nat × va_E) := f_52_h2
      have f_53_h2 : h2 53 = some ((q53, Sum.inl (cZ, 60000, Sum.inl nd)) : Nat × va_E) := f_53_h2
      have f_84_h2 : h2 84 = some ((q84, Sum.inr (9, [Value.ref q85, Value.ref q86, Value.ref q87, Value.ref q88, Value.ref q89, Value.ref q90, Value.ref q91, Value.int s84, Value.int t84, Value.int w84, Value.int n84])) : Nat × va_E) := f_84_h2
      have f_92_h2 : h2 92 = some ((q92, Sum.inr (9, [Value.ref q93, Value.ref q94, Value.ref q95, Value.ref q96, Value.ref q97, Value.ref q98, Value.ref q99, Value.int s92, Value.int t92, Value.int w92, Value.int n92])) : Nat × va_E) := f_92_h2
      have f_100_h2 : h2 100 = some ((q100, Sum.inr (9, [Value.ref q101, Value.ref q102, Value.ref q103, Value.ref q104, Value.ref q105, Value.ref q106, Value.ref q107, Value.int s100, Value.int t100, Value.int w100, Value.int n100])) : Nat × va_E) := f_100_h2
      have f_108_h2 : h2 108 = some ((q108, Sum.inr (9, [Value.ref q109, Value.ref q110, Value.ref q111, Value.ref q112, Value.ref q113, Value.ref q114, Value.ref q115, Value.int s108, Value.int t108, Value.int w108, Value.int n108])) : Nat × va_E) := f_108_h2
      replace hU : gm_g h h2 [46, 50, 51, 52, 53, 84, 92, 100, 108] := hU.call e_h2 (by first | decide | (simp; done) | (simp; omega))
      refine W.eq (g2 := F0 m 4 ls [Value.int 1]) rfl ?_
      refine lv_if_ne (tgt := 9) hx hb d_Mo_write_4 (by decide) (fun _ => ?_) (fun c9 => absurd c9 (by decide))
      refine lv_aload_n hx hb d_Mo_write_9 rfl (lv_at hl 0 rfl) ?_
      refine gz_get (ci := 8) (v := Value.ref q50) (C := "CommitLedgerModel") (T := F_Mo) (N := 35) hx hb hts i_Mo hown hK Z f_46_h2 rfl 6 (by decide) kf_Mo_20 rfl d_Mo_write_10 ?_
      refine lv_aload_n hx hb d_Mo_write_13 rfl (lv_at hl 0 rfl) ?_
      refine gz_get (ci := 8) (v := Value.int (nI ft)) (C := "CommitLedgerModel") (T := F_Mo) (N := 35) hx hb hts i_Mo hown hK Z f_46_h2 rfl 10 (by decide) kf_Mo_93 rfl d_Mo_write_14 ?_
      refine lv_aload_n hx hb d_Mo_write_17 rfl (lv_at hl 0 rfl) ?_
      refine gz_get (ci := 8) (v := Value.int (nI fs)) (C := "CommitLedgerModel") (T := F_Mo) (N := 35) hx hb hts i_Mo hown hK Z f_46_h2 rfl 11 (by decide) kf_Mo_119 rfl d_Mo_write_18 ?_
      refine gz_iast (j := ft) hx hb hK Z 0 f_50_h2 ht0 (hf6) (rfl) (by decide) d_Mo_write_21 (fun H locs Z => ?_)
      rw [gi_upc (X := fnu) (j := ft) (t := fs) (rfl)] at Z
      obtain ⟨h3, e_h3⟩ : ∃ z9 : gm_M, z9 = gm_up h2 50 ((q50, Sum.inl (cI, 60000, Sum.inl (gi (va_up fnu ft fs)))) : Nat × va_E) := ⟨_, rfl⟩
      replace Z : gz D A s.heap h3 H locs := by rw [e_h3]; exact Z
      have f_50_h3 : h3 50 = some ((q50, Sum.inl (cI, 60000, Sum.inl (gi (va_up fnu ft fs)))) : Nat × va_E) := by rw [e_h3]; exact gm_self
      replace hU : gm_g h h3 [46, 50, 51, 52, 53, 84, 92, 100, 108] := by rw [e_h3]; exact hU.put (by simp)
      refine lv_aload_n hx hb d_Mo_write_22 rfl (lv_at hl 0 rfl) ?_
      have f_46_h3 : h3 46 = some ((q46, Sum.inr (8, [Value.int m_error, Value.int m_thrown, Value.ref q47, Value.ref q48, Value.ref q49, Value.int m_docs, Value.ref q50, Value.ref q51, Value.ref q52, Value.ref q53, Value.int (nI ft), Value.int (nI fs), Value.int (m_actions + 1), Value.int m_power, Value.int m_lost, Value.ref q54, Value.ref q62, Value.ref q70, Value.int m_open, Value.int m_isPrepared, Value.int m_generation, Value.ref q78, Value.ref q79, Value.int m_buffered, Value.int m_limit, Value.int m_factor, um, Value.ref q80, Value.ref q81, Value.ref q82, Value.int m_merges, Value.ref q83, Value.int m_opened, Value.int m_chosenMany, Value.int m_begun])) : Nat × va_E) := by rw [e_h3]; exact gm_at f_46_h2 (by decide)
      refine gz_get (ci := 8) (v := Value.ref q51) (C := "CommitLedgerModel") (T := F_Mo) (N := 35) hx hb hts i_Mo hown hK Z f_46_h3 rfl 7 (by decide) kf_Mo_23 rfl d_Mo_write_23 ?_
      refine lv_aload_n hx hb d_Mo_write_26 rfl (lv_at hl 0 rfl) ?_
      refine gz_get (ci := 8) (v := Value.int (nI ft)) (C := "CommitLedgerModel") (T := F_Mo) (N := 35) hx hb hts i_Mo hown hK Z f_46_h3 rfl 10 (by decide) kf_Mo_93 rfl d_Mo_write_27 ?_
      refine lv_iconst (v := 0) hx hb d_Mo_write_30 (by decide) ?_
      have f_51_h3 : h3 51 = some ((q51, Sum.inl (cZ, 60000, Sum.inl sy)) : Nat × va_E) := by rw [e_h3]; exact gm_at f_51_h2 (by decide)
      refine gz_zast (j := ft) hx hb hK Z 1 f_51_h3 ht1 (hf6) (rfl) (by decide) d_Mo_write_31 (fun H locs Z => ?_)
      obtain ⟨h4, e_h4⟩ : ∃ z9 : gm_M, z9 = gm_up h3 51 ((q51, Sum.inl (cZ, 60000, Sum.inl (upd sy ft 0))) : Nat × va_E) := ⟨_, rfl⟩
      replace Z : gz D A s.heap h4 H locs := by rw [e_h4]; exact Z
      have f_51_h4 : h4 51 = some ((q51, Sum.inl (cZ, 60000, Sum.inl (upd sy ft 0))) : Nat × va_E) := by rw [e_h4]; exact gm_self
      replace hU : gm_g h h4 [46, 50, 51, 52, 53, 84, 92, 100, 108] := by rw [e_h4]; exact hU.put (by simp)
      refine lv_aload_n hx hb d_Mo_write_32 rfl (lv_at hl 0 rfl) ?_
      have f_46_h4 : h4 46 = some ((q46, Sum.inr (8, [Value.int m_error, Value.int m_thrown, Value.ref q47, Value.ref q48, Value.ref q49, Value.int m_docs, Value.ref q50, Value.ref q51, Value.ref q52, Value.ref q53, Value.int (nI ft), Value.int (nI fs), Value.int (m_actions + 1), Value.int m_power, Value.int m_lost, Value.ref q54, Value.ref q62, Value.ref q70, Value.int m_open, Value.int m_isPrepared, Value.int m_generation, Value.ref q78, Value.ref q79, Value.int m_buffered, Value.int m_limit, Value.int m_factor, um, Value.ref q80, Value.ref q81, Value.ref q82, Value.int m_merges, Value.ref q83, Value.int m_opened, Value.int m_chosenMany, Value.int m_begun])) : Nat × va_E) := by rw [e_h4]; exact gm_at f_46_h3 (by decide)
      refine gz_get (ci := 8) (v := Value.ref q52) (C := "CommitLedgerModel") (T := F_Mo) (N := 35) hx hb hts i_Mo hown hK Z f_46_h4 rfl 8 (by decide) kf_Mo_27 rfl d_Mo_write_33 ?_
      refine lv_aload_n hx hb d_Mo_write_36 rfl (lv_at hl 0 rfl) ?_
      refine gz_get (ci := 8) (v := Value.int (nI ft)) (C := "CommitLedgerModel") (T := F_Mo) (N := 35) hx hb hts i_Mo hown hK Z f_46_h4 rfl 10 (by decide) kf_Mo_93 rfl d_Mo_write_37 ?_
      refine lv_iconst (v := 0) hx hb d_Mo_write_40 (by decide) ?_
      have f_52_h3 : h3 52 = some ((q52, Sum.inl (cZ, 60000, Sum.inl ha)) : Nat × va_E) := by rw [e_h3]; exact gm_at f_52_h2 (by decide)
      have f_52_h4 : h4 52 = some ((q52, Sum.inl (cZ, 60000, Sum.inl ha)) : Nat × va_E) := by rw [e_h4]; exact gm_at f_52_h3 (by decide)
      refine gz_zast (j := ft) hx hb hK Z 1 f_52_h4 ht1 (hf6) (rfl) (by decide) d_Mo_write_41 (fun H locs Z => ?_)
      obtain ⟨h5, e_h5⟩ : ∃ z9 : gm_M, z9 = gm_up h4 52 ((q52, Sum.inl (cZ, 60000, Sum.inl (upd ha ft 0))) : Nat × va_E) := ⟨_, rfl⟩
      replace Z : gz D A s.heap h5 H locs := by rw [e_h5]; exact Z
      have f_52_h5 : h5 52 = some ((q52, Sum.inl (cZ, 60000, Sum.inl (upd ha ft 0))) : Nat × va_E) := by rw [e_h5]; exact gm_self
      replace hU : gm_g h h5 [46, 50, 51, 52, 53, 84, 92, 100, 108] := by rw [e_h5]; exact hU.put (by simp)
      refine lv_aload_n hx hb d_Mo_write_42 rfl (lv_at hl 0 rfl) ?_
      refine lv_dup hx hb d_Mo_write_43 rfl ?_
      have f_46_h5 : h5 46 = some ((q46, Sum.inr (8, [Value.int m_error, Value.int m_thrown, Value.ref q47, Value.ref q48, Value.ref q49, Value.int m_docs, Value.ref q50, Value.ref q51, Value.ref q52, Value.ref q53, Value.int (nI ft), Value.int (nI fs), Value.int (m_actions + 1), Value.int m_power, Value.int m_lost, Value.ref q54, Value.ref q62, Value.ref q70, Value.int m_open, Value.int m_isPrepared, Value.int m_generation, Value.ref q78, Value.ref q79, Value.int m_buffered, Value.int m_limit, Value.int m_factor, um, Value.ref q80, Value.ref q81, Value.ref q82, Value.int m_merges, Value.ref q83, Value.int m_opened, Value.int m_chosenMany, Value.int m_begun])) : Nat × va_E) := by rw [e_h5]; exact gm_at f_46_h4 (by decide)
      refine gz_get (ci := 8) (v := Value.int (nI ft)) (C := "CommitLedgerModel") (T := F_Mo) (N := 35) hx hb hts i_Mo hown hK Z f_46_h5 rfl 10 (by decide) kf_Mo_93 rfl d_Mo_write_44 ?_
      refine lv_iconst (v := 1) hx hb d_Mo_write_47 (by decide) ?_
      refine lv_iadd hx hb d_Mo_write_48 ?_
      refine gx_topi (y := nI (ft + 1)) (nI_1 _) ?_
      refine gz_put (ci := 8) (v := Value.int (nI (ft + 1))) (ty := .int) (C := "CommitLedgerModel") (T := F_Mo) (N := 35) hx hb hts i_Mo t_Mo_ok n_Mo hown hK Z f_46_h5 rfl 10 (by decide) kf_Mo_93 rfl (by decide +kernel) rfl rfl (Nat.le_of_ble_eq_true rfl) d_Mo_write_49 (fun H locs Z => ?_)
      obtain ⟨h6, e_h6⟩ : ∃ z9 : gm_M, z9 = gm_up h5 46 ((q46, Sum.inr (8, [Value.int m_error, Value.int m_thrown, Value.ref q47, Value.ref q48, Value.ref q49, Value.int m_docs, Value.ref q50, Value.ref q51, Value.ref q52, Value.ref q53, Value.int (nI (ft + 1)), Value.int (nI fs), Value.int (m_actions + 1), Value.int m_power, Value.int m_lost, Value.ref q54, Value.ref q62, Value.ref q70, Value.int m_open, Value.int m_isPrepared, Value.int m_generation, Value.ref q78, Value.ref q79, Value.int m_buffered, Value.int m_limit, Value.int m_factor, um, Value.ref q80, Value.ref q81, Value.ref q82, Value.int m_merges, Value.ref q83, Value.int m_opened, Value.int m_chosenMany, Value.int m_begun])) : Nat × va_E) := ⟨_, rfl⟩
      replace Z : gz D A s.heap h6 H locs := by rw [e_h6]; exact Z
      have f_46_h6 : h6 46 = some ((q46, Sum.inr (8, [Value.int m_error, Value.int m_thrown, Value.ref q47, Value.ref q48, Value.ref q49, Value.int m_docs, Value.ref q50, Value.ref q51, Value.ref q52, Value.ref q53, Value.int (nI (ft + 1)), Value.int (nI fs), Value.int (m_actions + 1), Value.int m_power, Value.int m_lost, Value.ref q54, Value.ref q62, Value.ref q70, Value.int m_open, Value.int m_isPrepared, Value.int m_generation, Value.ref q78, Value.ref q79, Value.int m_buffered, Value.int m_limit, Value.int m_factor, um, Value.ref q80, Value.ref q81, Value.ref q82, Value.int m_merges, Value.ref q83, Value.int m_opened, Value.int m_chosenMany, Value.int m_begun])) : Nat × va_E) := by rw [e_h6]; exact gm_self
      replace hU : gm_g h h6 [46, 50, 51, 52, 53, 84, 92, 100, 108] := by rw [e_h6]; exact hU.put (by simp)
      refine lv_aload_n hx hb d_Mo_write_52 rfl (lv_at hl 0 rfl) ?_
      refine lv_dup hx hb d_Mo_write_53 rfl ?_
      refine gz_get (ci := 8) (v := Value.int (nI fs)) (C := "CommitLedgerModel") (T := F_Mo) (N := 35) hx hb hts i_Mo hown hK Z f_46_h6 rfl 11 (by decide) kf_Mo_119 rfl d_Mo_write_54 ?_
      refine lv_iconst (v := 1) hx hb d_Mo_write_57 (by decide) ?_
      refine lv_iadd hx hb d_Mo_write_58 ?_
      refine gx_topi (y := nI (fs + 1)) (nI_1 _) ?_
      refine gz_put (ci := 8) (v := Value.int (nI (fs + 1))) (ty := .int) (C := "CommitLedgerModel") (T := F_Mo) (N := 35) hx hb hts i_Mo t_Mo_ok n_Mo hown hK Z f_46_h6 rfl 11 (by decide) kf_Mo_119 rfl (by decide +kernel) rfl rfl (Nat.le_of_ble_eq_true rfl) d_Mo_write_59 (fun H locs Z => ?_)
      obtain ⟨h7, e_h7⟩ : ∃ z9 : gm_M, z9 = gm_up h6 46 ((q46, Sum.inr (8, [Value.int m_error, Value.int m_thrown, Value.ref q47, Value.ref q48, Value.ref q49, Value.int m_docs, Value.ref q50, Value.ref q51, Value.ref q52, Value.ref q53, Value.int (nI (ft + 1)), Value.int (nI (fs + 1)), Value.int (m_actions + 1), Value.int m_power, Value.int m_lost, Value.ref q54, Value.ref q62, Value.ref q70, Value.int m_open, Value.int m_isPrepared, Value.int m_generation, Value.ref q78, Value.ref q79, Value.int m_buffered, Value.int m_limit, Value.int m_factor, um, Value.ref q80, Value.ref q81, Value.ref q82, Value.int m_merges, Value.ref q83, Value.int m_opened, Value.int m_chosenMany, Value.int m_begun])) : Nat × va_E) := ⟨_, rfl⟩
      replace Z : gz D A s.heap h7 H locs := by rw [e_h7]; exact Z
      have f_46_h7 : h7 46 = some ((q46, Sum.inr (8, [Value.int m_error, Value.int m_thrown, Value.ref q47, Value.ref q48, Value.ref q49, Value.int m_docs, Value.ref q50, Value.ref q51, Value.ref q52, Value.ref q53, Value.int (nI (ft + 1)), Value.int (nI (fs + 1)), Value.int (m_actions + 1), Value.int m_power, Value.int m_lost, Value.ref q54, Value.ref q62, Value.ref q70, Value.int m_open, Value.int m_isPrepared, Value.int m_generation, Value.ref q78, Value.ref q79, Value.int m_buffered, Value.int m_limit, Value.int m_factor, um, Value.ref q80, Value.ref q81, Value.ref q82, Value.int m_merges, Value.ref q83, Value.int m_opened, Value.int m_chosenMany, Value.int m_begun])) : Nat × va_E) := by rw [e_h7]; exact gm_self
      replace hU : gm_g h h7 [46, 50, 51, 52, 53, 84, 92, 100, 108] := by rw [e_h7]; exact hU.put (by simp)
      refine lv_aload_n hx hb d_Mo_write_62 rfl (lv_at hl 0 rfl) ?_
      refine gz_get (ci := 8) (v := Value.int (nI (fs + 1))) (C := "CommitLedgerModel") (T := F_Mo) (N := 35) hx hb hts i_Mo hown hK Z f_46_h7 rfl 11 (by decide) kf_Mo_119 rfl d_Mo_write_63 ?_
      refine lv_iconst (v := 1) hx hb d_Mo_write_66 (by decide) ?_
      refine lv_isub hx hb d_Mo_write_67 ?_
      refine gx_topi (y := nI ((fs + 1) - 1)) (pk_sub (a := fs + 1) (b := 1) (by omega)) ?_
      refine gx_topi (y := nI fs) (by rw [Nat.add_sub_cancel]) ?_
      have f_50_h4 : h4 50 = some ((q50, Sum.inl (cI, 60000, Sum.inl (gi (va_up fnu ft fs)))) : Nat × va_E) := by rw [e_h4]; exact gm_at f_50_h3 (by decide)
      have f_50_h5 : h5 50 = some ((q50, Sum.inl (cI, 60000, Sum.inl (gi (va_up fnu ft fs)))) : Nat × va_E) := by rw [e_h5]; exact gm_at f_50_h4 (by decide)
      have f_50_h6 : h6 50 = some ((q50, Sum.inl (cI, 60000, Sum.inl (gi (va_up fnu ft fs)))) : Nat × va_E) := by rw [e_h6]; exact gm_at f_50_h5 (by decide)
      have f_50_h7 : h7 50 = some ((q50, Sum.inl (cI, 60000, Sum.inl (gi (va_up fnu ft fs)))) : Nat × va_E) := by rw [e_h7]; exact gm_at f_50_h6 (by decide)
      have f_51_h5 : h5 51 = some ((q51, Sum.inl (cZ, 60000, Sum.inl (upd sy ft 0))) : Nat × va_E) := by rw [e_h5]; exact gm_at f_51_h4 (by decide)
      have f_51_h6 : h6 51 = some ((q51, Sum.inl (cZ, 60000, Sum.inl (upd sy ft 0))) : Nat × va_E) := by rw [e_h6]; exact gm_at f_51_h5 (by decide)
      have f_51_h7 : h7 51 = some ((q51, Sum.inl (cZ, 60000, Sum.inl (upd sy ft 0))) : Nat × va_E) := by rw [e_h7]; exact gm_at f_51_h6 (by decide)
      have f_52_h6 : h6 52 = some ((q52, Sum.inl (cZ, 60000, Sum.inl (upd ha ft 0))) : Nat × va_E) := by rw [e_h6]; exact gm_at f_52_h5 (by decide)
      have f_52_h7 : h7 52 = some ((q52, Sum.inl (cZ, 60000, Sum.inl (upd ha ft 0))) : Nat × va_E) := by rw [e_h7]; exact gm_at f_52_h6 (by decide)
      have f_53_h3 : h3 53 = some ((q53, Sum.inl (cZ, 60000, Sum.inl nd)) : Nat × va_E) := by rw [e_h3]; exact gm_at f_53_h2 (by decide)
      have f_53_h4 : h4 53 = some ((q53, Sum.inl (cZ, 60000, Sum.inl nd)) : Nat × va_E) := by rw [e_h4]; exact gm_at f_53_h3 (by decide)
      have f_53_h5 : h5 53 = some ((q53, Sum.inl (cZ, 60000, Sum.inl nd)) : Nat × va_E) := by rw [e_h5]; exact gm_at f_53_h4 (by decide)
      have f_53_h6 : h6 53 = some ((q53, Sum.inl (cZ, 60000, Sum.inl nd)) : Nat × va_E) := by rw [e_h6]; exact gm_at f_53_h5 (by decide)
      have f_53_h7 : h7 53 = some ((q53, Sum.inl (cZ, 60000, Sum.inl nd)) : Nat × va_E) := by rw [e_h7]; exact gm_at f_53_h6 (by decide)
      have f_84_h3 : h3 84 = some ((q84, Sum.inr (9, [Value.ref q85, Value.ref q86, Value.ref q87, Value.ref q88, Value.ref q89, Value.ref q90, Value.ref q91, Value.int s84, Value.int t84, Value.int w84, Value.int n84])) : Nat × va_E) := by rw [e_h3]; exact gm_at f_84_h2 (by decide)
      have f_84_h4 : h4 84 = some ((q84, Sum.inr (9, [Value.ref q85, Value.ref q86, Value.ref q87, Value.ref q88, Value.ref q89, Value.ref q90, Value.ref q91, Value.int s84, Value.int t84, Value.int w84, Value.int n84])) : Nat × va_E) := by rw [e_h4]; exact gm_at f_84_h3 (by decide)
      have f_84_h5 : h5 84 = some ((q84, Sum.inr (9, [Value.ref q85, Value.ref q86, Value.ref q87, Value.ref q88, Value.ref q89, Value.ref q90, Value.ref q91, Value.int s84, Value.int t84, Value.int w84, Value.int n84])) : Nat × va_E) := by rw [e_h5]; exact gm_at f_84_h4 (by decide)
      have f_84_h6 : h6 84 = some ((q84, Sum.inr (9, [Value.ref q85, Value.ref q86, Value.ref q87, Value.ref q88, Value.ref q89, Value.ref q90, Value.ref q91, Value.int s84, Value.int t84, Value.int w84, Value.int n84])) : Nat × va_E) := by rw [e_h6]; exact gm_at f_84_h5 (by decide)
      have f_84_h7 : h7 84 = some ((q84, Sum.inr (9, [Value.ref q85, Value.ref q86, Value.ref q87, Value.ref q88, Value.ref q89, Value.ref q90, Value.ref q91, Value.int s84, Value.int t84, Value.int w84, Value.int n84])) : Nat × va_E) := by rw [e_h7]; exact gm_at f_84_h6 (by decide)
      have f_92_h3 : h3 92 = some ((q92, Sum.inr (9, [Value.ref q93, Value.ref q94, Value.ref q95, Value.ref q96, Value.ref q97, Value.ref q98, Value.ref q99, Value.int s92, Value.int t92, Value.int w92, Value.int n92])) : Nat × va_E) := by rw [e_h3]; exact gm_at f_92_h2 (by decide)
      have f_92_h4 : h4 92 = some ((q92, Sum.inr (9, [Value.ref q93, Value.ref q94, Value.ref q95, Value.ref q96, Value.ref q97, Value.ref q98, Value.ref q99, Value.int s92, Value.int t92, Value.int w92, Value.int n92])) : Nat × va_E) := by rw [e_h4]; exact gm_at f_92_h3 (by decide)
      have f_92_h5 : h5 92 = some ((q92, Sum.inr (9, [Value.ref q93, Value.ref q94, Value.ref q95, Value.ref q96, Value.ref q97, Value.ref q98, Value.ref q99, Value.int s92, Value.int t92, Value.int w92, Value.int n92])) : Nat × va_E) := by rw [e_h5]; exact gm_at f_92_h4 (by decide)
      have f_92_h6 : h6 92 = some ((q92, Sum.inr (9, [Value.ref q93, Value.ref q94, Value.ref q95, Value.ref q96, Value.ref q97, Value.ref q98, Value.ref q99, Value.int s92, Value.int t92, Value.int w92, Value.int n92])) : Nat × va_E) := by rw [e_h6]; exact gm_at f_92_h5 (by decide)
      have f_92_h7 : h7 92 = some ((q92, Sum.inr (9, [Value.ref q93, Value.ref q94, Value.ref q95, Value.ref q96, Value.ref q97, Value.ref q98, Value.ref q99, Value.int s92, Value.int t92, Value.int w92, Value.int n92])) : Nat × va_E) := by rw [e_h7]; exact gm_at f_92_h6 (by decide)
      have f_100_h3 : h3 100 = some ((q100, Sum.inr (9, [Value.ref q101, Value.ref q102, Value.ref q103, Value.ref q104, Value.ref q105, Value.ref q106, Value.ref q107, Value.int s100, Value.int t100, Value.int w100, Value.int n100])) : Nat × va_E) := by rw [e_h3]; exact gm_at f_100_h2 (by decide)
      have f_100_h4 : h4 100 = some ((q100, Sum.inr (9, [Value.ref q101, Value.ref q102, Value.ref q103, Value.ref q104, Value.ref q105, Value.ref q106, Value.ref q107, Value.int s100, Value.int t100, Value.int w100, Value.int n100])) : Nat × va_E) := by rw [e_h4]; exact gm_at f_100_h3 (by decide)
      have f_100_h5 : h5 100 = some ((q100, Sum.inr (9, [Value.ref q101, Value.ref q102, Value.ref q103, Value.ref q104, Value.ref q105, Value.ref q106, Value.ref q107, Value.int s100, Value.int t100, Value.int w100, Value.int n100])) : Nat × va_E) := by rw [e_h5]; exact gm_at f_100_h4 (by decide)
      have f_100_h6 : h6 100 = some ((q100, Sum.inr (9, [Value.ref q101, Value.ref q102, Value.ref q103, Value.ref q104, Value.ref q105, Value.ref q106, Value.ref q107, Value.int s100, Value.int t100, Value.int w100, Value.int n100])) : Nat × va_E) := by rw [e_h6]; exact gm_at f_100_h5 (by decide)
      have f_100_h7 : h7 100 = some ((q100, Sum.inr (9, [Value.ref q101, Value.ref q102, Value.ref q103, Value.ref q104, Value.ref q105, Value.ref q106, Value.ref q107, Value.int s100, Value.int t100, Value.int w100, Value.int n100])) : Nat × va_E) := by rw [e_h7]; exact gm_at f_100_h6 (by decide)
      have f_108_h3 : h3 108 = some ((q108, Sum.inr (9, [Value.ref q109, Value.ref q110, Value.ref q111, Value.ref q112, Value.ref q113, Value.ref q114, Value.ref q115, Value.int s108, Value.int t108, Value.int w108, Value.int n108])) : Nat × va_E) := by rw [e_h3]; exact gm_at f_108_h2 (by decide)
      have f_108_h4 : h4 108 = some ((q108, Sum.inr (9, [Value.ref q109, Value.ref q110, Value.ref q111, Value.ref q112, Value.ref q113, Value.ref q114, Value.ref q115, Value.int s108, Value.int t108, Value.int w108, Value.int n108])) : Nat × va_E) := by rw [e_h4]; exact gm_at f_108_h3 (by decide)
      have f_108_h5 : h5 108 = some ((q108, Sum.inr (9, [Value.ref q109, Value.ref q110, Value.ref q111, Value.ref q112, Value.ref q113, Value.ref q114, Value.ref q115, Value.int s108, Value.int t108, Value.int w108, Value.int n108])) : Nat × va_E) := by rw [e_h5]; exact gm_at f_108_h4 (by decide)
      have f_108_h6 : h6 108 = some ((q108, Sum.inr (9, [Value.ref q109, Value.ref q110, Value.ref q111, Value.ref q112, Value.ref q113, Value.ref q114, Value.ref q115, Value.int s108, Value.int t108, Value.int w108, Value.int n108])) : Nat × va_E) := by rw [e_h6]; exact gm_at f_108_h5 (by decide)
      have f_108_h7 : h7 108 = some ((q108, Sum.inr (9, [Value.ref q109, Value.ref q110, Value.ref q111, Value.ref q112, Value.ref q113, Value.ref q114, Value.ref q115, Value.int s108, Value.int t108, Value.int w108, Value.int n108])) : Nat × va_E) := by rw [e_h7]; exact gm_at f_108_h6 (by decide)
      exact gz_iret (v := nI fs) hx hb hr hlocks hK Z (by decide) (by decide) (by rw [← hPQ]; exact Or.inr (Or.inl ⟨rfl, hU, f_46_h7, f_50_h7, f_51_h7, f_52_h7, f_53_h7, f_84_h7, f_92_h7, f_100_h7, f_108_h7, g1_0, g1_1⟩)) d_Mo_write_68
    · cases hv9
      have f_46_h2 : h2 46 = some ((q46, Sum.inr (8, [Value.int m_error, Value.int m_thrown, Value.ref q47, Value.ref q48, Value.ref q49, Value.int m_docs, Value.ref q50, Value.ref q51, Value.ref q52, Value.ref q53, Value.int (nI ft), Value.int (nI fs), Value.int (m_actions + 1), Value.int (m_power - 1), Value.int m_lost, Value.ref q54, Value.ref q62, Value.ref q70, Value.int m_open, Value.int m_isPrepared, Value.int m_generation, Value.ref q78, Value.ref q79, Value.int m_buffered, Value.int m_limit, Value.int m_factor, um, Value.ref q80, Value.ref q81, Value.ref q82, Value.int m_merges, Value.ref q83, Value.int m_opened, Value.int m_chosenMany, Value.int m_begun])) : Nat × va_E) := f_46_h2
      have f_50_h2 : h2 50 = some ((q50, Sum.inl (cI, 60000, Sum.inl (gi fnu))) : Nat × va_E) := f_50_h2
      have f_51_h2 : h2 51 = some ((q51, Sum.inl (cZ, 60000, Sum.inl sy)) : Nat × va_E) := f_51_h2
      have f_52_h2 : h2 52 = some ((q52, Sum.inl (cZ, 60000, Sum.inl ha)) : Nat × va_E) := f_52_h2
      have f_53_h2 : h2 53 = some ((q53, Sum.inl (cZ, 60000, Sum.inl nd)) : Nat × va_E) := f_53_h2
      have f_84_h2 : h2 84 = some ((q84, Sum.inr (9, [Value.ref q85, Value.ref q86, Value.ref q87, Value.ref q88, Value.ref q89, Value.ref q90, Value.ref q91, Value.int s84, Value.int t84, Value.int w84, Value.int n84])) : Nat × va_E) := f_84_h2
      have f_92_h2 : h2 92 = some ((q92, Sum.inr (9, [Value.ref q93, Value.ref q94, Value.ref q95, Value.ref q96, Value.ref q97, Value.ref q98, Value.ref q99, Value.int s92, Value.int t92, Value.int w92, Value.int n92])) : Nat × va_E) := f_92_h2
      have f_100_h2 : h2 100 = some ((q100, Sum.inr (9, [Value.ref q101, Value.ref q102, Value.ref q103, Value.ref q104, Value.ref q105, Value.ref q106, Value.ref q107, Value.int s100, Value.int t100, Value.int w100, Value.int n100])) : Nat × va_E) := f_100_h2
      have f_108_h2 : h2 108 = some ((q108, Sum.inr (9, [Value.ref q109, Value.ref q110, Value.ref q111, Value.ref q112, Value.ref q113, Value.ref q114, Value.ref q115, Value.int s108, Value.int t108, Value.int w108, Value.int n108])) : Nat × va_E) := f_108_h2
      replace hU : gm_g h h2 [46, 50, 51, 52, 53, 84, 92, 100, 108] := hU.call e_h2 (by first | decide | (simp; done) | (simp; omega))
      refine W.eq (g2 := F0 m 4 ls [Value.int 1]) rfl ?_
      refine lv_if_ne (tgt := 9) hx hb d_Mo_write_4 (by decide) (fun _ => ?_) (fun c9 => absurd c9 (by decide))
      refine lv_aload_n hx hb d_Mo_write_9 rfl (lv_at hl 0 rfl) ?_
      refine gz_get (ci := 8) (v := Value.ref q50) (C := "CommitLedgerModel") (T := F_Mo) (N := 35) hx hb hts i_Mo hown hK Z f_46_h2 rfl 6 (by decide) kf_Mo_20 rfl d_Mo_write_10 ?_
      refine lv_aload_n hx hb d_Mo_write_13 rfl (lv_at hl 0 rfl) ?_
      refine gz_get (ci := 8) (v := Value.int (nI ft)) (C := "CommitLedgerModel") (T := F_Mo) (N := 35) hx hb hts i_Mo hown hK Z f_46_h2 rfl 10 (by decide) kf_Mo_93 rfl d_Mo_write_14 ?_
      refine lv_aload_n hx hb d_Mo_write_17 rfl (lv_at hl 0 rfl) ?_
      refine gz_get (ci := 8) (v := Value.int (nI fs)) (C := "CommitLedgerModel") (T := F_Mo) (N := 35) hx hb hts i_Mo hown hK Z f_46_h2 rfl 11 (by decide) kf_Mo_119 rfl d_Mo_write_18 ?_
      refine gz_iast (j := ft) hx hb hK Z 0 f_50_h2 ht0 (hf6) (rfl) (by decide) d_Mo_write_21 (fun H locs Z => ?_)
      rw [gi_upc (X := fnu) (j := ft) (t := fs) (rfl)] at Z
      obtain ⟨h8, e_h8⟩ : ∃ z9 : gm_M, z9 = gm_up h2 50 ((q50, Sum.inl (cI, 60000, Sum.inl (gi (va_up fnu ft fs)))) : Nat × va_E) := ⟨_, rfl⟩
      replace Z : gz D A s.heap h8 H locs := by rw [e_h8]; exact Z
      have f_50_h8 : h8 50 = some ((q50, Sum.inl (cI, 60000, Sum.inl (gi (va_up fnu ft fs)))) : Nat × va_E) := by rw [e_h8]; exact gm_self
      replace hU : gm_g h h8 [46, 50, 51, 52, 53, 84, 92, 100, 108] := by rw [e_h8]; exact hU.put (by simp)
      refine lv_aload_n hx hb d_Mo_write_22 rfl (lv_at hl 0 rfl) ?_
      have f_46_h8 : h8 46 = some ((q46, Sum.inr (8, [Value.int m_error, Value.int m_thrown, Value.ref q47, Value.ref q48, Value.ref q49, Value.int m_docs, Value.ref q50, Value.ref q51, Value.ref q52, Value.ref q53, Value.int (nI ft), Value.int (nI fs), Value.int (m_actions + 1), Value.int (m_power - 1), Value.int m_lost, Value.ref q54, Value.ref q62, Value.ref q70, Value.int m_open, Value.int m_isPrepared, Value.int m_generation, Value.ref q78, Value.ref q79, Value.int m_buffered, Value.int m_limit, Value.int m_factor, um, Value.ref q80, Value.ref q81, Value.ref q82, Value.int m_merges, Value.ref q83, Value.int m_opened, Value.int m_chosenMany, Value.int m_begun])) : Nat × va_E) := by rw [e_h8]; exact gm_at f_46_h2 (by decide)
      refine gz_get (ci := 8) (v := Value.ref q51) (C := "CommitLedgerModel") (T := F_Mo) (N := 35) hx hb hts i_Mo hown hK Z f_46_h8 rfl 7 (by decide) kf_Mo_23 rfl d_Mo_write_23 ?_
      refine lv_aload_n hx hb d_Mo_write_26 rfl (lv_at hl 0 rfl) ?_
      refine gz_get (ci := 8) (v := Value.int (nI ft)) (C := "CommitLedgerModel") (T := F_Mo) (N := 35) hx hb hts i_Mo hown hK Z f_46_h8 rfl 10 (by decide) kf_Mo_93 rfl d_Mo_write_27 ?_
      refine lv_iconst (v := 0) hx hb d_Mo_write_30 (by decide) ?_
      have f_51_h8 : h8 51 = some ((q51, Sum.inl (cZ, 60000, Sum.inl sy)) : Nat × va_E) := by rw [e_h8]; exact gm_at f_51_h2 (by decide)
      refine gz_zast (j := ft) hx hb hK Z 1 f_51_h8 ht1 (hf6) (rfl) (by decide) d_Mo_write_31 (fun H locs Z => ?_)
      obtain ⟨h9, e_h9⟩ : ∃ z9 : gm_M, z9 = gm_up h8 51 ((q51, Sum.inl (cZ, 60000, Sum.inl (upd sy ft 0))) : Nat × va_E) := ⟨_, rfl⟩
      replace Z : gz D A s.heap h9 H locs := by rw [e_h9]; exact Z
      have f_51_h9 : h9 51 = some ((q51, Sum.inl (cZ, 60000, Sum.inl (upd sy ft 0))) : Nat × va_E) := by rw [e_h9]; exact gm_self
      replace hU : gm_g h h9 [46, 50, 51, 52, 53, 84, 92, 100, 108] := by rw [e_h9]; exact hU.put (by simp)
      refine lv_aload_n hx hb d_Mo_write_32 rfl (lv_at hl 0 rfl) ?_
      have f_46_h9 : h9 46 = some ((q46, Sum.inr (8, [Value.int m_error, Value.int m_thrown, Value.ref q47, Value.ref q48, Value.ref q49, Value.int m_docs, Value.ref q50, Value.ref q51, Value.ref q52, Value.ref q53, Value.int (nI ft), Value.int (nI fs), Value.int (m_actions + 1), Value.int (m_power - 1), Value.int m_lost, Value.ref q54, Value.ref q62, Value.ref q70, Value.int m_open, Value.int m_isPrepared, Value.int m_generation, Value.ref q78, Value.ref q79, Value.int m_buffered, Value.int m_limit, Value.int m_factor, um, Value.ref q80, Value.ref q81, Value.ref q82, Value.int m_merges, Value.ref q83, Value.int m_opened, Value.int m_chosenMany, Value.int m_begun])) : Nat × va_E) := by rw [e_h9]; exact gm_at f_46_h8 (by decide)
      refine gz_get (ci := 8) (v := Value.ref q52) (C := "CommitLedgerModel") (T := F_Mo) (N := 35) hx hb hts i_Mo hown hK Z f_46_h9 rfl 8 (by decide) kf_Mo_27 rfl d_Mo_write_33 ?_
      refine lv_aload_n hx hb d_Mo_write_36 rfl (lv_at hl 0 rfl) ?_
      refine gz_get (ci := 8) (v := Value.int (nI ft)) (C := "CommitLedgerModel") (T := F_Mo) (N := 35) hx hb hts i_Mo hown hK Z f_46_h9 rfl 10 (by decide) kf_Mo_93 rfl d_Mo_write_37 ?_
      refine lv_iconst (v := 0) hx hb d_Mo_write_40 (by decide) ?_
      have f_52_h8 : h8 52 = some ((q52, Sum.inl (cZ, 60000, Sum.inl ha)) : Nat × va_E) := by rw [e_h8]; exact gm_at f_52_h2 (by decide)
      have f_52_h9 : h9 52 = some ((q52, Sum.inl (cZ, 60000, Sum.inl ha)) : Nat × va_E) := by rw [e_h9]; exact gm_at f_52_h8 (by decide)
      refine gz_zast (j := ft) hx hb hK Z 1 f_52_h9 ht1 (hf6) (rfl) (by decide) d_Mo_write_41 (fun H locs Z => ?_)
      obtain ⟨h10, e_h10⟩ : ∃ z9 : gm_M, z9 = gm_up h9 52 ((q52, Sum.inl (cZ, 60000, Sum.inl (upd ha ft 0))) : Nat × va_E) := ⟨_, rfl⟩
      replace Z : gz D A s.heap h10 H locs := by rw [e_h10]; exact Z
      have f_52_h10 : h10 52 = some ((q52, Sum.inl (cZ, 60000, Sum.inl (upd ha ft 0))) : Nat × va_E) := by rw [e_h10]; exact gm_self
      replace hU : gm_g h h10 [46, 50, 51, 52, 53, 84, 92, 100, 108] := by rw [e_h10]; exact hU.put (by simp)
      refine lv_aload_n hx hb d_Mo_write_42 rfl (lv_at hl 0 rfl) ?_
      refine lv_dup hx hb d_Mo_write_43 rfl ?_
      have f_46_h10 : h10 46 = some ((q46, Sum.inr (8, [Value.int m_error, Value.int m_thrown, Value.ref q47, Value.ref q48, Value.ref q49, Value.int m_docs, Value.ref q50, Value.ref q51, Value.ref q52, Value.ref q53, Value.int (nI ft), Value.int (nI fs), Value.int (m_actions + 1), Value.int (m_power - 1), Value.int m_lost, Value.ref q54, Value.ref q62, Value.ref q70, Value.int m_open, Value.int m_isPrepared, Value.int m_generation, Value.ref q78, Value.ref q79, Value.int m_buffered, Value.int m_limit, Value.int m_factor, um, Value.ref q80, Value.ref q81, Value.ref q82, Value.int m_merges, Value.ref q83, Value.int m_opened, Value.int m_chosenMany, Value.int m_begun])) : Nat × va_E) := by rw [e_h10]; exact gm_at f_46_h9 (by decide)
      refine gz_get (ci := 8) (v := Value.int (nI ft)) (C := "CommitLedgerModel") (T := F_Mo) (N := 35) hx hb hts i_Mo hown hK Z f_46_h10 rfl 10 (by decide) kf_Mo_93 rfl d_Mo_write_44 ?_
      refine lv_iconst (v := 1) hx hb d_Mo_write_47 (by decide) ?_
      refine lv_iadd hx hb d_Mo_write_48 ?_
      refine gx_topi (y := nI (ft + 1)) (nI_1 _) ?_
      refine gz_put (ci := 8) (v := Value.int (nI (ft + 1))) (ty := .int) (C := "CommitLedgerModel") (T := F_Mo) (N := 35) hx hb hts i_Mo t_Mo_ok n_Mo hown hK Z f_46_h10 rfl 10 (by decide) kf_Mo_93 rfl (by decide +kernel) rfl rfl (Nat.le_of_ble_eq_true rfl) d_Mo_write_49 (fun H locs Z => ?_)
      obtain ⟨h11, e_h11⟩ : ∃ z9 : gm_M, z9 = gm_up h10 46 ((q46, Sum.inr (8, [Value.int m_error, Value.int m_thrown, Value.ref q47, Value.ref q48, Value.ref q49, Value.int m_docs, Value.ref q50, Value.ref q51, Value.ref q52, Value.ref q53, Value.int (nI (ft + 1)), Value.int (nI fs), Value.int (m_actions + 1), Value.int (m_power - 1), Value.int m_lost, Value.ref q54, Value.ref q62, Value.ref q70, Value.int m_open, Value.int m_isPrepared, Value.int m_generation, Value.ref q78, Value.ref q79, Value.int m_buffered, Value.int m_limit, Value.int m_factor, um, Value.ref q80, Value.ref q81, Value.ref q82, Value.int m_merges, Value.ref q83, Value.int m_opened, Value.int m_chosenMany, Value.int m_begun])) : Nat × va_E) := ⟨_, rfl⟩
      replace Z : gz D A s.heap h11 H locs := by rw [e_h11]; exact Z
      have f_46_h11 : h11 46 = some ((q46, Sum.inr (8, [Value.int m_error, Value.int m_thrown, Value.ref q47, Value.ref q48, Value.ref q49, Value.int m_docs, Value.ref q50, Value.ref q51, Value.ref q52, Value.ref q53, Value.int (nI (ft + 1)), Value.int (nI fs), Value.int (m_actions + 1), Value.int (m_power - 1), Value.int m_lost, Value.ref q54, Value.ref q62, Value.ref q70, Value.int m_open, Value.int m_isPrepared, Value.int m_generation, Value.ref q78, Value.ref q79, Value.int m_buffered, Value.int m_limit, Value.int m_factor, um, Value.ref q80, Value.ref q81, Value.ref q82, Value.int m_merges, Value.ref q83, Value.int m_opened, Value.int m_chosenMany, Value.int m_begun])) : Nat × va_E) := by rw [e_h11]; exact gm_self
      replace hU : gm_g h h11 [46, 50, 51, 52, 53, 84, 92, 100, 108] := by rw [e_h11]; exact hU.put (by simp)
      refine lv_aload_n hx hb d_Mo_write_52 rfl (lv_at hl 0 rfl) ?_
      refine lv_dup hx hb d_Mo_write_53 rfl ?_
      refine gz_get (ci := 8) (v := Value.int (nI fs)) (C := "CommitLedgerModel") (T := F_Mo) (N := 35) hx hb hts i_Mo hown hK Z f_46_h11 rfl 11 (by decide) kf_Mo_119 rfl d_Mo_write_54 ?_
      refine lv_iconst (v := 1) hx hb d_Mo_write_57 (by decide) ?_
      refine lv_iadd hx hb d_Mo_write_58 ?_
      refine gx_topi (y := nI (fs + 1)) (nI_1 _) ?_
      refine gz_put (ci := 8) (v := Value.int (nI (fs + 1))) (ty := .int) (C := "CommitLedgerModel") (T := F_Mo) (N := 35) hx hb hts i_Mo t_Mo_ok n_Mo hown hK Z f_46_h11 rfl 11 (by decide) kf_Mo_119 rfl (by decide +kernel) rfl rfl (Nat.le_of_ble_eq_true rfl) d_Mo_write_59 (fun H locs Z => ?_)
      obtain ⟨h12, e_h12⟩ : ∃ z9 : gm_M, z9 = gm_up h11 46 ((q46, Sum.inr (8, [Value.int m_error, Value.int m_thrown, Value.ref q47, Value.ref q48, Value.ref q49, Value.int m_docs, Value.ref q50, Value.ref q51, Value.ref q52, Value.ref q53, Value.int (nI (ft + 1)), Value.int (nI (fs + 1)), Value.int (m_actions + 1), Value.int (m_power - 1), Value.int m_lost, Value.ref q54, Value.ref q62, Value.ref q70, Value.int m_open, Value.int m_isPrepared, Value.int m_generation, Value.ref q78, Value.ref q79, Value.int m_buffered, Value.int m_limit, Value.int m_factor, um, Value.ref q80, Value.ref q81, Value.ref q82, Value.int m_merges, Value.ref q83, Value.int m_opened, Value.int m_chosenMany, Value.int m_begun])) : Nat × va_E) := ⟨_, rfl⟩
      replace Z : gz D A s.heap h12 H locs := by rw [e_h12]; exact Z
      have f_46_h12 : h12 46 = some ((q46, Sum.inr (8, [Value.int m_error, Value.int m_thrown, Value.ref q47, Value.ref q48, Value.ref q49, Value.int m_docs, Value.ref q50, Value.ref q51, Value.ref q52, Value.ref q53, Value.int (nI (ft + 1)), Value.int (nI (fs + 1)), Value.int (m_actions + 1), Value.int (m_power - 1), Value.int m_lost, Value.ref q54, Value.ref q62, Value.ref q70, Value.int m_open, Value.int m_isPrepared, Value.int m_generation, Value.ref q78, Value.ref q79, Value.int m_buffered, Value.int m_limit, Value.int m_factor, um, Value.ref q80, Value.ref q81, Value.ref q82, Value.int m_merges, Value.ref q83, Value.int m_opened, Value.int m_chosenMany, Value.int m_begun])) : Nat × va_E) := by rw [e_h12]; exact gm_self
      replace hU : gm_g h h12 [46, 50, 51, 52, 53, 84, 92, 100, 108] := by rw [e_h12]; exact hU.put (by simp)
      refine lv_aload_n hx hb d_Mo_write_62 rfl (lv_at hl 0 rfl) ?_
      refine gz_get (ci := 8) (v := Value.int (nI (fs + 1))) (C := "CommitLedgerModel") (T := F_Mo) (N := 35) hx hb hts i_Mo hown hK Z f_46_h12 rfl 11 (by decide) kf_Mo_119 rfl d_Mo_write_63 ?_
      refine lv_iconst (v := 1) hx hb d_Mo_write_66 (by decide) ?_
      refine lv_isub hx hb d_Mo_write_67 ?_
      refine gx_topi (y := nI ((fs + 1) - 1)) (pk_sub (a := fs + 1) (b := 1) (by omega)) ?_
      refine gx_topi (y := nI fs) (by rw [Nat.add_sub_cancel]) ?_
      have f_50_h9 : h9 50 = some ((q50, Sum.inl (cI, 60000, Sum.inl (gi (va_up fnu ft fs)))) : Nat × va_E) := by rw [e_h9]; exact gm_at f_50_h8 (by decide)
      have f_50_h10 : h10 50 = some ((q50, Sum.inl (cI, 60000, Sum.inl (gi (va_up fnu ft fs)))) : Nat × va_E) := by rw [e_h10]; exact gm_at f_50_h9 (by decide)
      have f_50_h11 : h11 50 = some ((q50, Sum.inl (cI, 60000, Sum.inl (gi (va_up fnu ft fs)))) : Nat × va_E) := by rw [e_h11]; exact gm_at f_50_h10 (by decide)
      have f_50_h12 : h12 50 = some ((q50, Sum.inl (cI, 60000, Sum.inl (gi (va_up fnu ft fs)))) : Nat × va_E) := by rw [e_h12]; exact gm_at f_50_h11 (by decide)
      have f_51_h10 : h10 51 = some ((q51, Sum.inl (cZ, 60000, Sum.inl (upd sy ft 0))) : Nat × va_E) := by rw [e_h10]; exact gm_at f_51_h9 (by decide)
      have f_51_h11 : h11 51 = some ((q51, Sum.inl (cZ, 60000, Sum.inl (upd sy ft 0))) : Nat × va_E) := by rw [e_h11]; exact gm_at f_51_h10 (by decide)
      have f_51_h12 : h12 51 = some ((q51, Sum.inl (cZ, 60000, Sum.inl (upd sy ft 0))) : Nat × va_E) := by rw [e_h12]; exact gm_at f_51_h11 (by decide)
      have f_52_h11 : h11 52 = some ((q52, Sum.inl (cZ, 60000, Sum.inl (upd ha ft 0))) : Nat × va_E) := by rw [e_h11]; exact gm_at f_52_h10 (by decide)
      have f_52_h12 : h12 52 = some ((q52, Sum.inl (cZ, 60000, Sum.inl (upd ha ft 0))) : Nat × va_E) := by rw [e_h12]; exact gm_at f_52_h11 (by decide)
      have f_53_h8 : h8 53 = some ((q53, Sum.inl (cZ, 60000, Sum.inl nd)) : Nat × va_E) := by rw [e_h8]; exact gm_at f_53_h2 (by decide)
      have f_53_h9 : h9 53 = some ((q53, Sum.inl (cZ, 60000, Sum.inl nd)) : Nat × va_E) := by rw [e_h9]; exact gm_at f_53_h8 (by decide)
      have f_53_h10 : h10 53 = some ((q53, Sum.inl (cZ, 60000, Sum.inl nd)) : Nat × va_E) := by rw [e_h10]; exact gm_at f_53_h9 (by decide)
      have f_53_h11 : h11 53 = some ((q53, Sum.inl (cZ, 60000, Sum.inl nd)) : Nat × va_E) := by rw [e_h11]; exact gm_at f_53_h10 (by decide)
      have f_53_h12 : h12 53 = some ((q53, Sum.inl (cZ, 60000, Sum.inl nd)) : Nat × va_E) := by rw [e_h12]; exact gm_at f_53_h11 (by decide)
      have f_84_h8 : h8 84 = some ((q84, Sum.inr (9, [Value.ref q85, Value.ref q86, Value.ref q87, Value.ref q88, Value.ref q89, Value.ref q90, Value.ref q91, Value.int s84, Value.int t84, Value.int w84, Value.int n84])) : Nat × va_E) := by rw [e_h8]; exact gm_at f_84_h2 (by decide)
      have f_84_h9 : h9 84 = some ((q84, Sum.inr (9, [Value.ref q85, Value.ref q86, Value.ref q87, Value.ref q88, Value.ref q89, Value.ref q90, Value.ref q91, Value.int s84, Value.int t84, Value.int w84, Value.int n84])) : Nat × va_E) := by rw [e_h9]; exact gm_at f_84_h8 (by decide)
      have f_84_h10 : h10 84 = some ((q84, Sum.inr (9, [Value.ref q85, Value.ref q86, Value.ref q87, Value.ref q88, Value.ref q89, Value.ref q90, Value.ref q91, Value.int s84, Value.int t84, Value.int w84, Value.int n84])) : Nat × va_E) := by rw [e_h10]; exact gm_at f_84_h9 (by decide)
      have f_84_h11 : h11 84 = some ((q84, Sum.inr (9, [Value.ref q85, Value.ref q86, Value.ref q87, Value.ref q88, Value.ref q89, Value.ref q90, Value.ref q91, Value.int s84, Value.int t84, Value.int w84, Value.int n84])) : Nat × va_E) := by rw [e_h11]; exact gm_at f_84_h10 (by decide)
      have f_84_h12 : h12 84 = some ((q84, Sum.inr (9, [Value.ref q85, Value.ref q86, Value.ref q87, Value.ref q88, Value.ref q89, Value.ref q90, Value.ref q91, Value.int s84, Value.int t84, Value.int w84, Value.int n84])) : Nat × va_E) := by rw [e_h12]; exact gm_at f_84_h11 (by decide)
      have f_92_h8 : h8 92 = some ((q92, Sum.inr (9, [Value.ref q93, Value.ref q94, Value.ref q95, Value.ref q96, Value.ref q97, Value.ref q98, Value.ref q99, Value.int s92, Value.int t92, Value.int w92, Value.int n92])) : Nat × va_E) := by rw [e_h8]; exact gm_at f_92_h2 (by decide)
      have f_92_h9 : h9 92 = some ((q92, Sum.inr (9, [Value.ref q93, Value.ref q94, Value.ref q95, Value.ref q96, Value.ref q97, Value.ref q98, Value.ref q99, Value.int s92, Value.int t92, Value.int w92, Value.int n92])) : Nat × va_E) := by rw [e_h9]; exact gm_at f_92_h8 (by decide)
      have f_92_h10 : h10 92 = some ((q92, Sum.inr (9, [Value.ref q93, Value.ref q94, Value.ref q95, Value.ref q96, Value.ref q97, Value.ref q98, Value.ref q99, Value.int s92, Value.int t92, Value.int w92, Value.int n92])) : Nat × va_E) := by rw [e_h10]; exact gm_at f_92_h9 (by decide)
      have f_92_h11 : h11 92 = some ((q92, Sum.inr (9, [Value.ref q93, Value.ref q94, Value.ref q95, Value.ref q96, Value.ref q97, Value.ref q98, Value.ref q99, Value.int s92, Value.int t92, Value.int w92, Value.int n92])) : Nat × va_E) := by rw [e_h11]; exact gm_at f_92_h10 (by decide)
      have f_92_h12 : h12 92 = some ((q92, Sum.inr (9, [Value.ref q93, Value.ref q94, Value.ref q95, Value.ref q96, Value.ref q97, Value.ref q98, Value.ref q99, Value.int s92, Value.int t92, Value.int w92, Value.int n92])) : Nat × va_E) := by rw [e_h12]; exact gm_at f_92_h11 (by decide)
      have f_100_h8 : h8 100 = some ((q100, Sum.inr (9, [Value.ref q101, Value.ref q102, Value.ref q103, Value.ref q104, Value.ref q105, Value.ref q106, Value.ref q107, Value.int s100, Value.int t100, Value.int w100, Value.int n100])) : Nat × va_E) := by rw [e_h8]; exact gm_at f_100_h2 (by decide)
      have f_100_h9 : h9 100 = some ((q100, Sum.inr (9, [Value.ref q101, Value.ref q102, Value.ref q103, Value.ref q104, Value.ref q105, Value.ref q106, Value.ref q107, Value.int s100, Value.int t100, Value.int w100, Value.int n100])) : Nat × va_E) := by rw [e_h9]; exact gm_at f_100_h8 (by decide)
      have f_100_h10 : h10 100 = some ((q100, Sum.inr (9, [Value.ref q101, Value.ref q102, Value.ref q103, Value.ref q104, Value.ref q105, Value.ref q106, Value.ref q107, Value.int s100, Value.int t100, Value.int w100, Value.int n100])) : Nat × va_E) := by rw [e_h10]; exact gm_at f_100_h9 (by decide)
      have f_100_h11 : h11 100 = some ((q100, Sum.inr (9, [Value.ref q101, Value.ref q102, Value.ref q103, Value.ref q104, Value.ref q105, Value.ref q106, Value.ref q107, Value.int s100, Value.int t100, Value.int w100, Value.int n100])) : Nat × va_E) := by rw [e_h11]; exact gm_at f_100_h10 (by decide)
      have f_100_h12 : h12 100 = some ((q100, Sum.inr (9, [Value.ref q101, Value.ref q102, Value.ref q103, Value.ref q104, Value.ref q105, Value.ref q106, Value.ref q107, Value.int s100, Value.int t100, Value.int w100, Value.int n100])) : Nat × va_E) := by rw [e_h12]; exact gm_at f_100_h11 (by decide)
      have f_108_h8 : h8 108 = some ((q108, Sum.inr (9, [Value.ref q109, Value.ref q110, Value.ref q111, Value.ref q112, Value.ref q113, Value.ref q114, Value.ref q115, Value.int s108, Value.int t108, Value.int w108, Value.int n108])) : Nat × va_E) := by rw [e_h8]; exact gm_at f_108_h2 (by decide)
      have f_108_h9 : h9 108 = some ((q108, Sum.inr (9, [Value.ref q109, Value.ref q110, Value.ref q111, Value.ref q112, Value.ref q113, Value.ref q114, Value.ref q115, Value.int s108, Value.int t108, Value.int w108, Value.int n108])) : Nat × va_E) := by rw [e_h9]; exact gm_at f_108_h8 (by decide)
      have f_108_h10 : h10 108 = some ((q108, Sum.inr (9, [Value.ref q109, Value.ref q110, Value.ref q111, Value.ref q112, Value.ref q113, Value.ref q114, Value.ref q115, Value.int s108, Value.int t108, Value.int w108, Value.int n108])) : Nat × va_E) := by rw [e_h10]; exact gm_at f_108_h9 (by decide)
      have f_108_h11 : h11 108 = some ((q108, Sum.inr (9, [Value.ref q109, Value.ref q110, Value.ref q111, Value.ref q112, Value.ref q113, Value.ref q114, Value.ref q115, Value.int s108, Value.int t108, Value.int w108, Value.int n108])) : Nat × va_E) := by rw [e_h11]; exact gm_at f_108_h10 (by decide)
      have f_108_h12 : h12 108 = some ((q108, Sum.inr (9, [Value.ref q109, Value.ref q110, Value.ref q111, Value.ref q112, Value.ref q113, Value.ref q114, Value.ref q115, Value.int s108, Value.int t108, Value.int w108, Value.int n108])) : Nat × va_E) := by rw [e_h12]; exact gm_at f_108_h11 (by decide)
      exact gz_iret (v := nI fs) hx hb hr hlocks hK Z (by decide) (by decide) (by rw [← hPQ]; exact Or.inr (Or.inr (⟨rfl, hU, f_46_h12, f_50_h12, f_51_h12, f_52_h12, f_53_h12, f_84_h12, f_92_h12, f_100_h12, f_108_h12, g1_0, g1_1⟩))) d_Mo_write_68
  · rcases hp with ⟨hv9, e_h2, f_46_h2, f_50_h2, f_51_h2, f_52_h2, f_53_h2, f_84_h2, f_92_h2, f_100_h2, f_108_h2, g1_0⟩ | ⟨hv9, e_h2, f_46_h2, f_50_h2, f_51_h2, f_52_h2, f_53_h2, f_84_h2, f_92_h2, f_100_h2, f_108_h2, g1_0, g1_1⟩ | ⟨hv9, e_h2, f_46_h2, f_50_h2, f_51_h2, f_52_h2, f_53_h2, f_84_h2, f_92_h2, f_100_h2, f_108_h2, g1_0, g1_1⟩
    · cases hv9
    · cases hv9
    · cases hv9

set_option maxHeartbeats 4000000 in
set_option maxRecDepth 100000 in
theorem k_Mo_bufferLive (l : Launch) (htr : l.stackTraces = false) (D : va_G) (tys : List (ClassId × FieldType)) (z sz : Nat) (ws : va_W) (h : gm_M) (hM : gm_S h ws) (cZ : ClassId) (q46 : Nat) (q47 : Nat) (q48 : Nat) (q49 : Nat) (q50 : Nat) (q51 : Nat) (q52 : Nat) (q53 : Nat) (q54 : Nat) (q62 : Nat) (q70 : Nat) (q78 : Nat) (q79 : Nat) (q80 : Nat) (q81 : Nat) (q82 : Nat) (q83 : Nat) (um : Value) (m_error : Int32) (m_thrown : Int32) (m_docs : Int32) (m_filesThere : Int32) (m_files : Int32) (m_actions : Int32) (m_power : Int32) (m_lost : Int32) (m_open : Int32) (m_isPrepared : Int32) (m_generation : Int32) (m_limit : Int32) (m_factor : Int32) (m_merges : Int32) (m_opened : Int32) (m_chosenMany : Int32) (m_begun : Int32) (bl : Nat → Int32) (bu : Nat) (f_46 : h 46 = some ((q46, Sum.inr (8, [Value.int m_error, Value.int m_thrown, Value.ref q47, Value.ref q48, Value.ref q49, Value.int m_docs, Value.ref q50, Value.ref q51, Value.ref q52, Value.ref q53, Value.int m_filesThere, Value.int m_files, Value.int m_actions, Value.int m_power, Value.int m_lost, Value.ref q54, Value.ref q62, Value.ref q70, Value.int m_open, Value.int m_isPrepared, Value.int m_generation, Value.ref q78, Value.ref q79, Value.int (nI bu), Value.int m_limit, Value.int m_factor, um, Value.ref q80, Value.ref q81, Value.ref q82, Value.int m_merges, Value.ref q83, Value.int m_opened, Value.int m_chosenMany, Value.int m_begun])) : Nat × va_E)) (f_79 : h 79 = some ((q79, Sum.inl (cZ, 4096, Sum.inl bl)) : Nat × va_E)) (ht1 : tys[1]? = some ((cZ, FieldType.boolean) : ClassId × FieldType)) (hbu : bu ≤ 4096) : gx_Met l y_Mo_bufferLive [Cond.code y_Mo_bufferLive b_Mo_bufferLive 3 (some .int)] { frames := 1, cells := 0, slots := 0, locals := 12 } (gx_P z sz D classes tys ws [Value.ref q46]) (gx_Q D classes tys (va_A ws sz) (gm_p (fun r h' => (r = Sum.inl (some (Value.int (nI (gv_n bl 0 bu)))) ∧ h' = h)))) 0 0 (va_A ws sz) := by
  refine gx_ofW (cc := b_Mo_bufferLive) (maxL := 3) (ret := (some .int)) (by decide) rfl ?_
  intro p e s m args below meth c s₁ B hml hv
  obtain ⟨rfl, hsz, hz, hP, hK, hD0, hY⟩ := hv
  have hx := B.exec
  have hb := B.bytes
  have hr := B.returns
  have hts := hY.hts (#[Value.ref q46] : Array Value)
  have hown : s.vm.findClass "CommitLedgerModel" = some m.cls := findClass_of_methodNamed B.named
  have hlocks := B.notSynchronized
  have hne : c.exceptionTable.isEmpty = true := B.noHandlers (atoms_spec (ws := [Cond.code y_Mo_bufferLive b_Mo_bufferLive 3 (some .int)]) B.pre _ List.mem_cons_self)
  subst hsz
  have hAz := gx_az hD0 hz
  have hD := hD0.self (sz := s.heap.size)
  have hN := gx_ns hP
  have hA : ∀ q : Nat, s.heap.size ≤ q → va_A ws s.heap.size q := fun q h => Or.inr h
  generalize va_A ws s.heap.size = A at hD hN hA hAz ⊢
  generalize hPQ : (fun (r : Option Value ⊕ String) (h' : gm_M) => (r = Sum.inl (some (Value.int (nI (gv_n bl 0 bu)))) ∧ h' = h)) = PQ
  have Z : gz D A s.heap h s.heap [] := ⟨ws, hM, hP, hD, va_S.rf⟩
  clear hP hD hM hD0
  have hU : gm_g h h [] := gm_g.rf
  have hl := lv_entry ([Value.ref q46]) (n := 3) (Nat.le_of_ble_eq_true rfl)
  rw [lg_entry_eq]
  generalize (lg_sl ([Value.ref q46]) ++ List.replicate (3 - (lg_sl ([Value.ref q46])).length) Slot.unset).toArray = ls at hl ⊢
  have hl : lv_has ls 3 [(0, Value.ref q46)] := hl
  refine lv_iconst (v := 0) hx hb d_Mo_bufferLive_0 (by decide) ?_
  refine lv_istore_n (lv' := [(1, Value.int 0), (0, Value.ref q46)]) hx hb d_Mo_bufferLive_1 rfl hl (by decide) rfl (fun ls hl => ?_)
  refine lv_iconst (v := 0) hx hb d_Mo_bufferLive_2 (by decide) ?_
  refine lv_istore_n (lv' := [(2, Value.int 0), (1, Value.int 0), (0, Value.ref q46)]) hx hb d_Mo_bufferLive_3 rfl hl (by decide) rfl (fun ls hl => ?_)
  have hl : lv_has ls 3 [(2, Value.int (nI (0 + 0))), (1, Value.int (nI (gv_n bl 0 0))), (0, Value.ref q46)] := hl
  refine gz_loop (N := bu) (pc := 4) (fun _ => 0) (fun _ => 0) (fun k h9 ls => h9 = h ∧ lv_has ls 3 [(2, Value.int (nI (0 + k))), (1, Value.int (nI (gv_n bl 0 k))), (0, Value.ref q46)]) (fun k w1 H locs ls hk hI Z ihk => ?_) (fun w1 H locs ls hI Z => ?_) (bu) 0 _ _ _ _ (Nat.zero_add _) ⟨rfl, lv_sub hl [0, 1, 2] rfl⟩ Z
  · obtain ⟨hU, hl⟩ := hI
    rw [hU] at Z
    have hU : gm_g h h [] := gm_g.rf
    refine lv_iload_n hx hb d_Mo_bufferLive_4 rfl (lv_at hl 0 rfl) ?_
    refine lv_aload_n hx hb d_Mo_bufferLive_5 rfl (lv_at hl 2 rfl) ?_
    refine gz_get (ci := 8) (v := Value.int (nI bu)) (C := "CommitLedgerModel") (T := F_Mo) (N := 35) hx hb hts i_Mo hown hK Z f_46 rfl 23 (by decide) kf_Mo_172 rfl d_Mo_bufferLive_6 ?_
    refine lv_icmp_ge (tgt := 30) hx hb d_Mo_bufferLive_9 (by decide) (fun c9 => absurd c9 (nI_ge (by omega) (by omega))) (fun _ => ?_)
    refine lv_aload_n hx hb d_Mo_bufferLive_12 rfl (lv_at hl 2 rfl) ?_
    refine gz_get (ci := 8) (v := Value.ref q79) (C := "CommitLedgerModel") (T := F_Mo) (N := 35) hx hb hts i_Mo hown hK Z f_46 rfl 22 (by decide) kf_Mo_53 rfl d_Mo_bufferLive_13 ?_
    refine lv_iload_n hx hb d_Mo_bufferLive_16 rfl (lv_at hl 0 rfl) ?_
    refine gz_zald (j := 0 + k) hx hb hK Z 1 f_79 ht1 ((by omega)) (rfl) (by decide) d_Mo_bufferLive_17 ?_
    refine lv_if_eq (tgt := 24) hx hb d_Mo_bufferLive_18 (by decide) (fun c18_3 => ?_) (fun c18_3 => ?_)
    · refine lv_iinc (v := nI ((0 + k) + 1)) (lv' := [(2, Value.int (nI ((0 + k) + 1))), (1, Value.int (nI (gv_n bl 0 k))), (0, Value.ref q46)]) hx hb d_Mo_bufferLive_24 hl (k := 0) rfl (show nI (0 + k) + 1 = nI ((0 + k) + 1) from nI_1 _) (by decide) rfl (fun ls hl => ?_)
      refine lv_goto (tgt := 4) hx hb d_Mo_bufferLive_27 (by decide) ?_
      rw [← gv_n_z c18_3] at hl
      exact ihk _ _ _ _ ⟨rfl, lv_sub hl [0, 1, 2] rfl⟩ Z
    · refine lv_iinc (v := nI ((gv_n bl 0 k) + 1)) (lv' := [(1, Value.int (nI ((gv_n bl 0 k) + 1))), (2, Value.int (nI (0 + k))), (0, Value.ref q46)]) hx hb d_Mo_bufferLive_21 hl (k := 1) rfl (show nI (gv_n bl 0 k) + 1 = nI ((gv_n bl 0 k) + 1) from nI_1 _) (by decide) rfl (fun ls hl => ?_)
      refine lv_iinc (v := nI ((0 + k) + 1)) (lv' := [(2, Value.int (nI ((0 + k) + 1))), (1, Value.int (nI ((gv_n bl 0 k) + 1))), (0, Value.ref q46)]) hx hb d_Mo_bufferLive_24 hl (k := 1) rfl (show nI (0 + k) + 1 = nI ((0 + k) + 1) from nI_1 _) (by decide) rfl (fun ls hl => ?_)
      refine lv_goto (tgt := 4) hx hb d_Mo_bufferLive_27 (by decide) ?_
      rw [← gv_n_o c18_3] at hl
      exact ihk _ _ _ _ ⟨rfl, lv_sub hl [0, 1, 2] rfl⟩ Z
  · obtain ⟨hU, hl⟩ := hI
    rw [hU] at Z
    have hU : gm_g h h [] := gm_g.rf
    refine lv_iload_n hx hb d_Mo_bufferLive_4 rfl (lv_at hl 0 rfl) ?_
    refine lv_aload_n hx hb d_Mo_bufferLive_5 rfl (lv_at hl 2 rfl) ?_
    refine gz_get (ci := 8) (v := Value.int (nI bu)) (C := "CommitLedgerModel") (T := F_Mo) (N := 35) hx hb hts i_Mo hown hK Z f_46 rfl 23 (by decide) kf_Mo_172 rfl d_Mo_bufferLive_6 ?_
    refine lv_icmp_ge (tgt := 30) hx hb d_Mo_bufferLive_9 (by decide) (fun _ => ?_) (fun c9 => absurd (nI_le (by omega) (by omega)) c9)
    refine lv_iload_n hx hb d_Mo_bufferLive_30 rfl (lv_at hl 1 rfl) ?_
    exact gz_iret (v := nI (gv_n bl 0 bu)) hx hb hr hlocks hK Z (by decide) (by decide) (by rw [← hPQ]; exact ⟨rfl, rfl⟩) d_Mo_bufferLive_31

set_option maxHeartbeats 4000000 in
set_option maxRecDepth 100000 in
theorem k_Mo_readersOpen (l : Launch) (htr : l.stackTraces = false) (D : va_G) (tys : List (ClassId × FieldType)) (z sz : Nat) (ws : va_W) (h : gm_M) (hM : gm_S h ws) (cV : ClassId) (q46 : Nat) (q47 : Nat) (q48 : Nat) (q49 : Nat) (q50 : Nat) (q51 : Nat) (q52 : Nat) (q53 : Nat) (q54 : Nat) (q62 : Nat) (q70 : Nat) (q78 : Nat) (q79 : Nat) (q80 : Nat) (q81 : Nat) (q82 : Nat) (q83 : Nat) (um : Value) (m_error : Int32) (m_thrown : Int32) (m_docs : Int32) (m_filesThere : Int32) (m_files : Int32) (m_actions : Int32) (m_power : Int32) (m_lost : Int32) (m_open : Int32) (m_isPrepared : Int32) (m_generation : Int32) (m_buffered : Int32) (m_limit : Int32) (m_factor : Int32) (m_merges : Int32) (m_opened : Int32) (m_chosenMany : Int32) (m_begun : Int32) (q84 : Nat) (q85 : Nat) (q86 : Nat) (q87 : Nat) (q88 : Nat) (q89 : Nat) (q90 : Nat) (q91 : Nat) (q92 : Nat) (q93 : Nat) (q94 : Nat) (q95 : Nat) (q96 : Nat) (q97 : Nat) (q98 : Nat) (q99 : Nat) (q100 : Nat) (q101 : Nat) (q102 : Nat) (q103 : Nat) (q104 : Nat) (q105 : Nat) (q106 : Nat) (q107 : Nat) (q108 : Nat) (q109 : Nat) (q110 : Nat) (q111 : Nat) (q112 : Nat) (q113 : Nat) (q114 : Nat) (q115 : Nat) (s84 : Int32) (t84 : Int32) (w84 : Int32) (n84 : Int32) (s92 : Int32) (t92 : Int32) (w92 : Int32) (n92 : Int32) (s100 : Int32) (t100 : Int32) (w100 : Int32) (n100 : Int32) (s108 : Int32) (t108 : Int32) (w108 : Int32) (n108 : Int32) (f_46 : h 46 = some ((q46, Sum.inr (8, [Value.int m_error, Value.int m_thrown, Value.ref q47, Value.ref q48, Value.ref q49, Value.int m_docs, Value.ref q50, Value.ref q51, Value.ref q52, Value.ref q53, Value.int m_filesThere, Value.int m_files, Value.int m_actions, Value.int m_power, Value.int m_lost, Value.ref q54, Value.ref q62, Value.ref q70, Value.int m_open, Value.int m_isPrepared, Value.int m_generation, Value.ref q78, Value.ref q79, Value.int m_buffered, Value.int m_limit, Value.int m_factor, um, Value.ref q80, Value.ref q81, Value.ref q82, Value.int m_merges, Value.ref q83, Value.int m_opened, Value.int m_chosenMany, Value.int m_begun])) : Nat × va_E)) (f_83 : h 83 = some ((q83, Sum.inl (cV, 4, Sum.inr (Sum.inr (Sum.inr (Sum.inr (va_up (va_up (va_up (va_up (fun _ => none) 0 (some q84)) 1 (some q92)) 2 (some q100)) 3 (some q108))))))) : Nat × va_E)) (f_84 : h 84 = some ((q84, Sum.inr (9, [Value.ref q85, Value.ref q86, Value.ref q87, Value.ref q88, Value.ref q89, Value.ref q90, Value.ref q91, Value.int s84, Value.int t84, Value.int w84, Value.int n84])) : Nat × va_E)) (f_92 : h 92 = some ((q92, Sum.inr (9, [Value.ref q93, Value.ref q94, Value.ref q95, Value.ref q96, Value.ref q97, Value.ref q98, Value.ref q99, Value.int s92, Value.int t92, Value.int w92, Value.int n92])) : Nat × va_E)) (f_100 : h 100 = some ((q100, Sum.inr (9, [Value.ref q101, Value.ref q102, Value.ref q103, Value.ref q104, Value.ref q105, Value.ref q106, Value.ref q107, Value.int s100, Value.int t100, Value.int w100, Value.int n100])) : Nat × va_E)) (f_108 : h 108 = some ((q108, Sum.inr (9, [Value.ref q109, Value.ref q110, Value.ref q111, Value.ref q112, Value.ref q113, Value.ref q114, Value.ref q115, Value.int s108, Value.int t108, Value.int w108, Value.int n108])) : Nat × va_E)) (ht5 : tys[5]? = some ((cV, FieldType.object "CommitLedgerModel$Version") : ClassId × FieldType)) : gx_Met l y_Mo_readersOpen [Cond.code y_Mo_readersOpen b_Mo_readersOpen 6 (some .int)] { frames := 1, cells := 0, slots := 0, locals := 12 } (gx_P z sz D classes tys ws [Value.ref q46]) (gx_Q D classes tys (va_A ws sz) (gm_p (fun r h' => (r = Sum.inl (some (Value.int 0)) ∧ h' = h ∧ (n84 ≤ 0) ∧ (n92 ≤ 0) ∧ (n100 ≤ 0) ∧ (n108 ≤ 0)) ∨ (r = Sum.inl (some (Value.int 1)) ∧ h' = h ∧ (n84 ≤ 0) ∧ (n92 ≤ 0) ∧ (n100 ≤ 0) ∧ (¬ n108 ≤ 0)) ∨ (r = Sum.inl (some (Value.int 1)) ∧ h' = h ∧ (n84 ≤ 0) ∧ (n92 ≤ 0) ∧ (¬ n100 ≤ 0) ∧ (n108 ≤ 0)) ∨ (r = Sum.inl (some (Value.int 2)) ∧ h' = h ∧ (n84 ≤ 0) ∧ (n92 ≤ 0) ∧ (¬ n100 ≤ 0) ∧ (¬ n108 ≤ 0)) ∨ (r = Sum.inl (some (Value.int 1)) ∧ h' = h ∧ (n84 ≤ 0) ∧ (¬ n92 ≤ 0) ∧ (n100 ≤ 0) ∧ (n108 ≤ 0)) ∨ (r = Sum.inl (some (Value.int 2)) ∧ h' = h ∧ (n84 ≤ 0) ∧ (¬ n92 ≤ 0) ∧ (n100 ≤ 0) ∧ (¬ n108 ≤ 0)) ∨ (r = Sum.inl (some (Value.int 2)) ∧ h' = h ∧ (n84 ≤ 0) ∧ (¬ n92 ≤ 0) ∧ (¬ n100 ≤ 0) ∧ (n108 ≤ 0)) ∨ (r = Sum.inl (some (Value.int 3)) ∧ h' = h ∧ (n84 ≤ 0) ∧ (¬ n92 ≤ 0) ∧ (¬ n100 ≤ 0) ∧ (¬ n108 ≤ 0)) ∨ (r = Sum.inl (some (Value.int 1)) ∧ h' = h ∧ (¬ n84 ≤ 0) ∧ (n92 ≤ 0) ∧ (n100 ≤ 0) ∧ (n108 ≤ 0)) ∨ (r = Sum.inl (some (Value.int 2)) ∧ h' = h ∧ (¬ n84 ≤ 0) ∧ (n92 ≤ 0) ∧ (n100 ≤ 0) ∧ (¬ n108 ≤ 0)) ∨ (r = Sum.inl (some (Value.int 2)) ∧ h' = h ∧ (¬ n84 ≤ 0) ∧ (n92 ≤ 0) ∧ (¬ n100 ≤ 0) ∧ (n108 ≤ 0)) ∨ (r = Sum.inl (some (Value.int 3)) ∧ h' = h ∧ (¬ n84 ≤ 0) ∧ (n92 ≤ 0) ∧ (¬ n100 ≤ 0) ∧ (¬ n108 ≤ 0)) ∨ (r = Sum.inl (some (Value.int 2)) ∧ h' = h ∧ (¬ n84 ≤ 0) ∧ (¬ n92 ≤ 0) ∧ (n100 ≤ 0) ∧ (n108 ≤ 0)) ∨ (r = Sum.inl (some (Value.int 3)) ∧ h' = h ∧ (¬ n84 ≤ 0) ∧ (¬ n92 ≤ 0) ∧ (n100 ≤ 0) ∧ (¬ n108 ≤ 0)) ∨ (r = Sum.inl (some (Value.int 3)) ∧ h' = h ∧ (¬ n84 ≤ 0) ∧ (¬ n92 ≤ 0) ∧ (¬ n100 ≤ 0) ∧ (n108 ≤ 0)) ∨ (r = Sum.inl (some (Value.int 4)) ∧ h' = h ∧ (¬ n84 ≤ 0) ∧ (¬ n92 ≤ 0) ∧ (¬ n100 ≤ 0) ∧ (¬ n108 ≤ 0))))) 0 0 (va_A ws sz) := by
  refine gx_ofW (cc := b_Mo_readersOpen) (maxL := 6) (ret := (some .int)) (by decide) rfl ?_
  intro p e s m args below meth c s₁ B hml hv
  obtain ⟨rfl, hsz, hz, hP, hK, hD0, hY⟩ := hv
  have hx := B.exec
  have hb := B.bytes
  have hr := B.returns
  have hts := hY.hts (#[Value.ref q46] : Array Value)
  have hown : s.vm.findClass "CommitLedgerModel" = some m.cls := findClass_of_methodNamed B.named
  have hlocks := B.notSynchronized
  have hne : c.exceptionTable.isEmpty = true := B.noHandlers (atoms_spec (ws := [Cond.code y_Mo_readersOpen b_Mo_readersOpen 6 (some .int)]) B.pre _ List.mem_cons_self)
  subst hsz
  have hAz := gx_az hD0 hz
  have hD := hD0.self (sz := s.heap.size)
  have hN := gx_ns hP
  have hA : ∀ q : Nat, s.heap.size ≤ q → va_A ws s.heap.size q := fun q h => Or.inr h
  generalize va_A ws s.heap.size = A at hD hN hA hAz ⊢
  generalize hPQ : (fun (r : Option Value ⊕ String) (h' : gm_M) => (r = Sum.inl (some (Value.int 0)) ∧ h' = h ∧ (n84 ≤ 0) ∧ (n92 ≤ 0) ∧ (n100 ≤ 0) ∧ (n108 ≤ 0)) ∨ (r = Sum.inl (some (Value.int 1)) ∧ h' = h ∧ (n84 ≤ 0) ∧ (n92 ≤ 0) ∧ (n100 ≤ 0) ∧ (¬ n108 ≤ 0)) ∨ (r = Sum.inl (some (Value.int 1)) ∧ h' = h ∧ (n84 ≤ 0) ∧ (n92 ≤ 0) ∧ (¬ n100 ≤ 0) ∧ (n108 ≤ 0)) ∨ (r = Sum.inl (some (Value.int 2)) ∧ h' = h ∧ (n84 ≤ 0) ∧ (n92 ≤ 0) ∧ (¬ n100 ≤ 0) ∧ (¬ n108 ≤ 0)) ∨ (r = Sum.inl (some (Value.int 1)) ∧ h' = h ∧ (n84 ≤ 0) ∧ (¬ n92 ≤ 0) ∧ (n100 ≤ 0) ∧ (n108 ≤ 0)) ∨ (r = Sum.inl (some (Value.int 2)) ∧ h' = h ∧ (n84 ≤ 0) ∧ (¬ n92 ≤ 0) ∧ (n100 ≤ 0) ∧ (¬ n108 ≤ 0)) ∨ (r = Sum.inl (some (Value.int 2)) ∧ h' = h ∧ (n84 ≤ 0) ∧ (¬ n92 ≤ 0) ∧ (¬ n100 ≤ 0) ∧ (n108 ≤ 0)) ∨ (r = Sum.inl (some (Value.int 3)) ∧ h' = h ∧ (n84 ≤ 0) ∧ (¬ n92 ≤ 0) ∧ (¬ n100 ≤ 0) ∧ (¬ n108 ≤ 0)) ∨ (r = Sum.inl (some (Value.int 1)) ∧ h' = h ∧ (¬ n84 ≤ 0) ∧ (n92 ≤ 0) ∧ (n100 ≤ 0) ∧ (n108 ≤ 0)) ∨ (r = Sum.inl (some (Value.int 2)) ∧ h' = h ∧ (¬ n84 ≤ 0) ∧ (n92 ≤ 0) ∧ (n100 ≤ 0) ∧ (¬ n108 ≤ 0)) ∨ (r = Sum.inl (some (Value.int 2)) ∧ h' = h ∧ (¬ n84 ≤ 0) ∧ (n92 ≤ 0) ∧ (¬ n100 ≤ 0) ∧ (n108 ≤ 0)) ∨ (r = Sum.inl (some (Value.int 3)) ∧ h' = h ∧ (¬ n84 ≤ 0) ∧ (n92 ≤ 0) ∧ (¬ n100 ≤ 0) ∧ (¬ n108 ≤ 0)) ∨ (r = Sum.inl (some (Value.int 2)) ∧ h' = h ∧ (¬ n84 ≤ 0) ∧ (¬ n92 ≤ 0) ∧ (n100 ≤ 0) ∧ (n108 ≤ 0)) ∨ (r = Sum.inl (some (Value.int 3)) ∧ h' = h ∧ (¬ n84 ≤ 0) ∧ (¬ n92 ≤ 0) ∧ (n100 ≤ 0) ∧ (¬ n108 ≤ 0)) ∨ (r = Sum.inl (some (Value.int 3)) ∧ h' = h ∧ (¬ n84 ≤ 0) ∧ (¬ n92 ≤ 0) ∧ (¬ n100 ≤ 0) ∧ (n108 ≤ 0)) ∨ (r = Sum.inl (some (Value.int 4)) ∧ h' = h ∧ (¬ n84 ≤ 0) ∧ (¬ n92 ≤ 0) ∧ (¬ n100 ≤ 0) ∧ (¬ n108 ≤ 0))) = PQ
  have Z : gz D A s.heap h s.heap [] := ⟨ws, hM, hP, hD, va_S.rf⟩
  clear hP hD hM hD0
  have hU : gm_g h h [] := gm_g.rf
  have hl := lv_entry ([Value.ref q46]) (n := 6) (Nat.le_of_ble_eq_true rfl)
  rw [lg_entry_eq]
  generalize (lg_sl ([Value.ref q46]) ++ List.replicate (6 - (lg_sl ([Value.ref q46])).length) Slot.unset).toArray = ls at hl ⊢
  have hl : lv_has ls 6 [(0, Value.ref q46)] := hl
  refine lv_iconst (v := 0) hx hb d_Mo_readersOpen_0 (by decide) ?_
  refine lv_istore_n (lv' := [(1, Value.int 0), (0, Value.ref q46)]) hx hb d_Mo_readersOpen_1 rfl hl (by decide) rfl (fun ls hl => ?_)
  refine lv_aload_n hx hb d_Mo_readersOpen_2 rfl (lv_at hl 1 rfl) ?_
  refine gz_get (ci := 8) (v := Value.ref q83) (C := "CommitLedgerModel") (T := F_Mo) (N := 35) hx hb hts i_Mo hown hK Z f_46 rfl 31 (by decide) kf_Mo_76 rfl d_Mo_readersOpen_3 ?_
  refine lv_astore_n (lv' := [(2, Value.ref q83), (1, Value.int 0), (0, Value.ref q46)]) hx hb d_Mo_readersOpen_6 rfl hl (by decide) rfl (fun ls hl => ?_)
  refine lv_aload_n hx hb d_Mo_readersOpen_7 rfl (lv_at hl 0 rfl) ?_
  refine gz_alen (v := 4) hx hb hK Z 5 f_83 ht5 rfl d_Mo_readersOpen_8 ?_
  refine lv_istore_n (lv' := [(3, Value.int 4), (2, Value.ref q83), (1, Value.int 0), (0, Value.ref q46)]) hx hb d_Mo_readersOpen_9 rfl hl (by decide) rfl (fun ls hl => ?_)
  refine lv_iconst (v := 0) hx hb d_Mo_readersOpen_10 (by decide) ?_
  refine lv_istore (lv' := [(4, Value.int 0), (3, Value.int 4), (2, Value.ref q83), (1, Value.int 0), (0, Value.ref q46)]) hx hb d_Mo_readersOpen_11 hl (by decide) rfl (fun ls hl => ?_)
  refine lv_iload hx hb d_Mo_readersOpen_13 (lv_at hl 0 rfl) ?_
  refine lv_iload_n hx hb d_Mo_readersOpen_15 rfl (lv_at hl 1 rfl) ?_
  refine lv_icmp_ge (tgt := 42) hx hb d_Mo_readersOpen_16 (by decide) (fun c9 => absurd c9 (by decide)) (fun _ => ?_)
  refine lv_aload_n hx hb d_Mo_readersOpen_19 rfl (lv_at hl 2 rfl) ?_
  refine lv_iload hx hb d_Mo_readersOpen_20 (lv_at hl 0 rfl) ?_
  refine gz_aald (v := Value.ref q84) (j := 0) hx hb hK Z 5 f_83 ht5 (by decide) (by decide) (by decide) (rfl) d_Mo_readersOpen_22 ?_
  refine lv_astore (lv' := [(5, Value.ref q84), (4, Value.int 0), (3, Value.int 4), (2, Value.ref q83), (1, Value.int 0), (0, Value.ref q46)]) hx hb d_Mo_readersOpen_23 hl (by decide) rfl (fun ls hl => ?_)
  refine lv_aload hx hb d_Mo_readersOpen_25 (lv_at hl 0 rfl) ?_
  refine gz_get (ci := 9) (v := Value.int n84) (C := "CommitLedgerModel$Version") (T := F_Ve) (N := 11) hx hb hts i_Ve hown hK Z f_84 rfl 10 (by decide) kf_Mo_103 rfl d_Mo_readersOpen_27 ?_
  refine lv_if_le (tgt := 36) hx hb d_Mo_readersOpen_30 (by decide) (fun c30_1 => ?_) (fun c30_1 => ?_)
  · refine lv_iinc (v := 1) (lv' := [(4, Value.int 1), (5, Value.ref q84), (3, Value.int 4), (2, Value.ref q83), (1, Value.int 0), (0, Value.ref q46)]) hx hb d_Mo_readersOpen_36 hl (k := 1) rfl (by decide) (by decide) rfl (fun ls hl => ?_)
    refine lv_goto (tgt := 13) hx hb d_Mo_readersOpen_39 (by decide) ?_
    refine lv_iload hx hb d_Mo_readersOpen_13 (lv_at hl 0 rfl) ?_
    refine lv_iload_n hx hb d_Mo_readersOpen_15 rfl (lv_at hl 2 rfl) ?_
    refine lv_icmp_ge (tgt := 42) hx hb d_Mo_readersOpen_16 (by decide) (fun c9 => absurd c9 (by decide)) (fun _ => ?_)
    refine lv_aload_n hx hb d_Mo_readersOpen_19 rfl (lv_at hl 3 rfl) ?_
    refine lv_iload hx hb d_Mo_readersOpen_20 (lv_at hl 0 rfl) ?_
    refine gz_aald (v := Value.ref q92) (j := 1) hx hb hK Z 5 f_83 ht5 (by decide) (by decide) (by decide) (rfl) d_Mo_readersOpen_22 ?_
    refine lv_astore (lv' := [(5, Value.ref q92), (4, Value.int 1), (3, Value.int 4), (2, Value.ref q83), (1, Value.int 0), (0, Value.ref q46)]) hx hb d_Mo_readersOpen_23 hl (by decide) rfl (fun ls hl => ?_)
    refine lv_aload hx hb d_Mo_readersOpen_25 (lv_at hl 0 rfl) ?_
    refine gz_get (ci := 9) (v := Value.int n92) (C := "CommitLedgerModel$Version") (T := F_Ve) (N := 11) hx hb hts i_Ve hown hK Z f_92 rfl 10 (by decide) kf_Mo_103 rfl d_Mo_readersOpen_27 ?_
    refine lv_if_le (tgt := 36) hx hb d_Mo_readersOpen_30 (by decide) (fun c30_2 => ?_) (fun c30_2 => ?_)
    · refine lv_iinc (v := 2) (lv' := [(4, Value.int 2), (5, Value.ref q92), (3, Value.int 4), (2, Value.ref q83), (1, Value.int 0), (0, Value.ref q46)]) hx hb d_Mo_readersOpen_36 hl (k := 1) rfl (by decide) (by decide) rfl (fun ls hl => ?_)
      refine lv_goto (tgt := 13) hx hb d_Mo_readersOpen_39 (by decide) ?_
      refine lv_iload hx hb d_Mo_readersOpen_13 (lv_at hl 0 rfl) ?_
      refine lv_iload_n hx hb d_Mo_readersOpen_15 rfl (lv_at hl 2 rfl) ?_
      refine lv_icmp_ge (tgt := 42) hx hb d_Mo_readersOpen_16 (by decide) (fun c9 => absurd c9 (by decide)) (fun _ => ?_)
      refine lv_aload_n hx hb d_Mo_readersOpen_19 rfl (lv_at hl 3 rfl) ?_
      refine lv_iload hx hb d_Mo_readersOpen_20 (lv_at hl 0 rfl) ?_
      refine gz_aald (v := Value.ref q100) (j := 2) hx hb hK Z 5 f_83 ht5 (by decide) (by decide) (by decide) (rfl) d_Mo_readersOpen_22 ?_
      refine lv_astore (lv' := [(5, Value.ref q100), (4, Value.int 2), (3, Value.int 4), (2, Value.ref q83), (1, Value.int 0), (0, Value.ref q46)]) hx hb d_Mo_readersOpen_23 hl (by decide) rfl (fun ls hl => ?_)
      refine lv_aload hx hb d_Mo_readersOpen_25 (lv_at hl 0 rfl) ?_
      refine gz_get (ci := 9) (v := Value.int n100) (C := "CommitLedgerModel$Version") (T := F_Ve) (N := 11) hx hb hts i_Ve hown hK Z f_100 rfl 10 (by decide) kf_Mo_103 rfl d_Mo_readersOpen_27 ?_
      refine lv_if_le (tgt := 36) hx hb d_Mo_readersOpen_30 (by decide) (fun c30_3 => ?_) (fun c30_3 => ?_)
      · refine lv_iinc (v := 3) (lv' := [(4, Value.int 3), (5, Value.ref q100), (3, Value.int 4), (2, Value.ref q83), (1, Value.int 0), (0, Value.ref q46)]) hx hb d_Mo_readersOpen_36 hl (k := 1) rfl (by decide) (by decide) rfl (fun ls hl => ?_)
        refine lv_goto (tgt := 13) hx hb d_Mo_readersOpen_39 (by decide) ?_
        refine lv_iload hx hb d_Mo_readersOpen_13 (lv_at hl 0 rfl) ?_
        refine lv_iload_n hx hb d_Mo_readersOpen_15 rfl (lv_at hl 2 rfl) ?_
        refine lv_icmp_ge (tgt := 42) hx hb d_Mo_readersOpen_16 (by decide) (fun c9 => absurd c9 (by decide)) (fun _ => ?_)
        refine lv_aload_n hx hb d_Mo_readersOpen_19 rfl (lv_at hl 3 rfl) ?_
        refine lv_iload hx hb d_Mo_readersOpen_20 (lv_at hl 0 rfl) ?_
        refine gz_aald (v := Value.ref q108) (j := 3) hx hb hK Z 5 f_83 ht5 (by decide) (by decide) (by decide) (rfl) d_Mo_readersOpen_22 ?_
        refine lv_astore (lv' := [(5, Value.ref q108), (4, Value.int 3), (3, Value.int 4), (2, Value.ref q83), (1, Value.int 0), (0, Value.ref q46)]) hx hb d_Mo_readersOpen_23 hl (by decide) rfl (fun ls hl => ?_)
        refine lv_aload hx hb d_Mo_readersOpen_25 (lv_at hl 0 rfl) ?_
        refine gz_get (ci := 9) (v := Value.int n108) (C := "CommitLedgerModel$Version") (T := F_Ve) (N := 11) hx hb hts i_Ve hown hK Z f_108 rfl 10 (by decide) kf_Mo_103 rfl d_Mo_readersOpen_27 ?_
        refine lv_if_le (tgt := 36) hx hb d_Mo_readersOpen_30 (by decide) (fun c30_4 => ?_) (fun c30_4 => ?_)
        · refine lv_iinc (v := 4) (lv' := [(4, Value.int 4), (5, Value.ref q108), (3, Value.int 4), (2, Value.ref q83), (1, Value.int 0), (0, Value.ref q46)]) hx hb d_Mo_readersOpen_36 hl (k := 1) rfl (by decide) (by decide) rfl (fun ls hl => ?_)
          refine lv_goto (tgt := 13) hx hb d_Mo_readersOpen_39 (by decide) ?_
          refine lv_iload hx hb d_Mo_readersOpen_13 (lv_at hl 0 rfl) ?_
          refine lv_iload_n hx hb d_Mo_readersOpen_15 rfl (lv_at hl 2 rfl) ?_
          refine lv_icmp_ge (tgt := 42) hx hb d_Mo_readersOpen_16 (by decide) (fun _ => ?_) (fun c9 => absurd (by decide) c9)
          refine lv_iload_n hx hb d_Mo_readersOpen_42 rfl (lv_at hl 4 rfl) ?_
          exact gz_iret (v := 0) hx hb hr hlocks hK Z (by decide) (by decide) (by rw [← hPQ]; exact Or.inl ⟨rfl, rfl, c30_1, c30_2, c30_3, c30_4⟩) d_Mo_readersOpen_43
        · refine lv_iinc (v := 1) (lv' := [(1, Value.int 1), (5, Value.ref q108), (4, Value.int 3), (3, Value.int 4), (2, Value.ref q83), (0, Value.ref q46)]) hx hb d_Mo_readersOpen_33 hl (k := 4) rfl (by decide) (by decide) rfl (fun ls hl => ?_)
          refine lv_iinc (v := 4) (lv' := [(4, Value.int 4), (1, Value.int 1), (5, Value.ref q108), (3, Value.int 4), (2, Value.ref q83), (0, Value.ref q46)]) hx hb d_Mo_readersOpen_36 hl (k := 2) rfl (by decide) (by decide) rfl (fun ls hl => ?_)
          refine lv_goto (tgt := 13) hx hb d_Mo_readersOpen_39 (by decide) ?_
          refine lv_iload hx hb d_Mo_readersOpen_13 (lv_at hl 0 rfl) ?_
          refine lv_iload_n hx hb d_Mo_readersOpen_15 rfl (lv_at hl 3 rfl) ?_
          refine lv_icmp_ge (tgt := 42) hx hb d_Mo_readersOpen_16 (by decide) (fun _ => ?_) (fun c9 => absurd (by decide) c9)
          refine lv_iload_n hx hb d_Mo_readersOpen_42 rfl (lv_at hl 1 rfl) ?_
          exact gz_iret (v := 1) hx hb hr hlocks hK Z (by decide) (by decide) (by rw [← hPQ]; exact Or.inr (Or.inl ⟨rfl, rfl, c30_1, c30_2, c30_3, c30_4⟩)) d_Mo_readersOpen_43
      · refine lv_iinc (v := 1) (lv' := [(1, Value.int 1), (5, Value.ref q100), (4, Value.int 2), (3, Value.int 4), (2, Value.ref q83), (0, Value.ref q46)]) hx hb d_Mo_readersOpen_33 hl (k := 4) rfl (by decide) (by decide) rfl (fun ls hl => ?_)
        refine lv_iinc (v := 3) (lv' := [(4, Value.int 3), (1, Value.int 1), (5, Value.ref q100), (3, Value.int 4), (2, Value.ref q83), (0, Value.ref q46)]) hx hb d_Mo_readersOpen_36 hl (k := 2) rfl (by decide) (by decide) rfl (fun ls hl => ?_)
        refine lv_goto (tgt := 13) hx hb d_Mo_readersOpen_39 (by decide) ?_
        refine lv_iload hx hb d_Mo_readersOpen_13 (lv_at hl 0 rfl) ?_
        refine lv_iload_n hx hb d_Mo_readersOpen_15 rfl (lv_at hl 3 rfl) ?_
        refine lv_icmp_ge (tgt := 42) hx hb d_Mo_readersOpen_16 (by decide) (fun c9 => absurd c9 (by decide)) (fun _ => ?_)
        refine lv_aload_n hx hb d_Mo_readersOpen_19 rfl (lv_at hl 4 rfl) ?_
        refine lv_iload hx hb d_Mo_readersOpen_20 (lv_at hl 0 rfl) ?_
        refine gz_aald (v := Value.ref q108) (j := 3) hx hb hK Z 5 f_83 ht5 (by decide) (by decide) (by decide) (rfl) d_Mo_readersOpen_22 ?_
        refine lv_astore (lv' := [(5, Value.ref q108), (4, Value.int 3), (1, Value.int 1), (3, Value.int 4), (2, Value.ref q83), (0, Value.ref q46)]) hx hb d_Mo_readersOpen_23 hl (by decide) rfl (fun ls hl => ?_)
        refine lv_aload hx hb d_Mo_readersOpen_25 (lv_at hl 0 rfl) ?_
        refine gz_get (ci := 9) (v := Value.int n108) (C := "CommitLedgerModel$Version") (T := F_Ve) (N := 11) hx hb hts i_Ve hown hK Z f_108 rfl 10 (by decide) kf_Mo_103 rfl d_Mo_readersOpen_27 ?_
        refine lv_if_le (tgt := 36) hx hb d_Mo_readersOpen_30 (by decide) (fun c30_5 => ?_) (fun c30_5 => ?_)
        · refine lv_iinc (v := 4) (lv' := [(4, Value.int 4), (5, Value.ref q108), (1, Value.int 1), (3, Value.int 4), (2, Value.ref q83), (0, Value.ref q46)]) hx hb d_Mo_readersOpen_36 hl (k := 1) rfl (by decide) (by decide) rfl (fun ls hl => ?_)
          refine lv_goto (tgt := 13) hx hb d_Mo_readersOpen_39 (by decide) ?_
          refine lv_iload hx hb d_Mo_readersOpen_13 (lv_at hl 0 rfl) ?_
          refine lv_iload_n hx hb d_Mo_readersOpen_15 rfl (lv_at hl 3 rfl) ?_
          refine lv_icmp_ge (tgt := 42) hx hb d_Mo_readersOpen_16 (by decide) (fun _ => ?_) (fun c9 => absurd (by decide) c9)
          refine lv_iload_n hx hb d_Mo_readersOpen_42 rfl (lv_at hl 2 rfl) ?_
          exact gz_iret (v := 1) hx hb hr hlocks hK Z (by decide) (by decide) (by rw [← hPQ]; exact Or.inr (Or.inr (Or.inl ⟨rfl, rfl, c30_1, c30_2, c30_3, c30_5⟩))) d_Mo_readersOpen_43
        · refine lv_iinc (v := 2) (lv' := [(1, Value.int 2), (5, Value.ref q108), (4, Value.int 3), (3, Value.int 4), (2, Value.ref q83), (0, Value.ref q46)]) hx hb d_Mo_readersOpen_33 hl (k := 2) rfl (by decide) (by decide) rfl (fun ls hl => ?_)
          refine lv_iinc (v := 4) (lv' := [(4, Value.int 4), (1, Value.int 2), (5, Value.ref q108), (3, Value.int 4), (2, Value.ref q83), (0, Value.ref q46)]) hx hb d_Mo_readersOpen_36 hl (k := 2) rfl (by decide) (by decide) rfl (fun ls hl => ?_)
          refine lv_goto (tgt := 13) hx hb d_Mo_readersOpen_39 (by decide) ?_
          refine lv_iload hx hb d_Mo_readersOpen_13 (lv_at hl 0 rfl) ?_
          refine lv_iload_n hx hb d_Mo_readersOpen_15 rfl (lv_at hl 3 rfl) ?_
          refine lv_icmp_ge (tgt := 42) hx hb d_Mo_readersOpen_16 (by decide) (fun _ => ?_) (fun c9 => absurd (by decide) c9)
          refine lv_iload_n hx hb d_Mo_readersOpen_42 rfl (lv_at hl 1 rfl) ?_
          exact gz_iret (v := 2) hx hb hr hlocks hK Z (by decide) (by decide) (by rw [← hPQ]; exact Or.inr (Or.inr (Or.inr (Or.inl ⟨rfl, rfl, c30_1, c30_2, c30_3, c30_5⟩)))) d_Mo_readersOpen_43
    · refine lv_iinc (v := 1) (lv' := [(1, Value.int 1), (5, Value.ref q92), (4, Value.int 1), (3, Value.int 4), (2, Value.ref q83), (0, Value.ref q46)]) hx hb d_Mo_readersOpen_33 hl (k := 4) rfl (by decide) (by decide) rfl (fun ls hl => ?_)
      refine lv_iinc (v := 2) (lv' := [(4, Value.int 2), (1, Value.int 1), (5, Value.ref q92), (3, Value.int 4), (2, Value.ref q83), (0, Value.ref q46)]) hx hb d_Mo_readersOpen_36 hl (k := 2) rfl (by decide) (by decide) rfl (fun ls hl => ?_)
      refine lv_goto (tgt := 13) hx hb d_Mo_readersOpen_39 (by decide) ?_
      refine lv_iload hx hb d_Mo_readersOpen_13 (lv_at hl 0 rfl) ?_
      refine lv_iload_n hx hb d_Mo_readersOpen_15 rfl (lv_at hl 3 rfl) ?_
      refine lv_icmp_ge (tgt := 42) hx hb d_Mo_readersOpen_16 (by decide) (fun c9 => absurd c9 (by decide)) (fun _ => ?_)
      refine lv_aload_n hx hb d_Mo_readersOpen_19 rfl (lv_at hl 4 rfl) ?_
      refine lv_iload hx hb d_Mo_readersOpen_20 (lv_at hl 0 rfl) ?_
      refine gz_aald (v := Value.ref q100) (j := 2) hx hb hK Z 5 f_83 ht5 (by decide) (by decide) (by decide) (rfl) d_Mo_readersOpen_22 ?_
      refine lv_astore (lv' := [(5, Value.ref q100), (4, Value.int 2), (1, Value.int 1), (3, Value.int 4), (2, Value.ref q83), (0, Value.ref q46)]) hx hb d_Mo_readersOpen_23 hl (by decide) rfl (fun ls hl => ?_)
      refine lv_aload hx hb d_Mo_readersOpen_25 (lv_at hl 0 rfl) ?_
      refine gz_get (ci := 9) (v := Value.int n100) (C := "CommitLedgerModel$Version") (T := F_Ve) (N := 11) hx hb hts i_Ve hown hK Z f_100 rfl 10 (by decide) kf_Mo_103 rfl d_Mo_readersOpen_27 ?_
      refine lv_if_le (tgt := 36) hx hb d_Mo_readersOpen_30 (by decide) (fun c30_6 => ?_) (fun c30_6 => ?_)
      · refine lv_iinc (v := 3) (lv' := [(4, Value.int 3), (5, Value.ref q100), (1, Value.int 1), (3, Value.int 4), (2, Value.ref q83), (0, Value.ref q46)]) hx hb d_Mo_readersOpen_36 hl (k := 1) rfl (by decide) (by decide) rfl (fun ls hl => ?_)
        refine lv_goto (tgt := 13) hx hb d_Mo_readersOpen_39 (by decide) ?_
        refine lv_iload hx hb d_Mo_readersOpen_13 (lv_at hl 0 rfl) ?_
        refine lv_iload_n hx hb d_Mo_readersOpen_15 rfl (lv_at hl 3 rfl) ?_
        refine lv_icmp_ge (tgt := 42) hx hb d_Mo_readersOpen_16 (by decide) (fun c9 => absurd c9 (by decide)) (fun _ => ?_)
        refine lv_aload_n hx hb d_Mo_readersOpen_19 rfl (lv_at hl 4 rfl) ?_
        refine lv_iload hx hb d_Mo_readersOpen_20 (lv_at hl 0 rfl) ?_
        refine gz_aald (v := Value.ref q108) (j := 3) hx hb hK Z 5 f_83 ht5 (by decide) (by decide) (by decide) (rfl) d_Mo_readersOpen_22 ?_
        refine lv_astore (lv' := [(5, Value.ref q108), (4, Value.int 3), (1, Value.int 1), (3, Value.int 4), (2, Value.ref q83), (0, Value.ref q46)]) hx hb d_Mo_readersOpen_23 hl (by decide) rfl (fun ls hl => ?_)
        refine lv_aload hx hb d_Mo_readersOpen_25 (lv_at hl 0 rfl) ?_
        refine gz_get (ci := 9) (v := Value.int n108) (C := "CommitLedgerModel$Version") (T := F_Ve) (N := 11) hx hb hts i_Ve hown hK Z f_108 rfl 10 (by decide) kf_Mo_103 rfl d_Mo_readersOpen_27 ?_
        refine lv_if_le (tgt := 36) hx hb d_Mo_readersOpen_30 (by decide) (fun c30_7 => ?_) (fun c30_7 => ?_)
        · refine lv_iinc (v := 4) (lv' := [(4, Value.int 4), (5, Value.ref q108), (1, Value.int 1), (3, Value.int 4), (2, Value.ref q83), (0, Value.ref q46)]) hx hb d_Mo_readersOpen_36 hl (k := 1) rfl (by decide) (by decide) rfl (fun ls hl => ?_)
          refine lv_goto (tgt := 13) hx hb d_Mo_readersOpen_39 (by decide) ?_
          refine lv_iload hx hb d_Mo_readersOpen_13 (lv_at hl 0 rfl) ?_
          refine lv_iload_n hx hb d_Mo_readersOpen_15 rfl (lv_at hl 3 rfl) ?_
          refine lv_icmp_ge (tgt := 42) hx hb d_Mo_readersOpen_16 (by decide) (fun _ => ?_) (fun c9 => absurd (by decide) c9)
          refine lv_iload_n hx hb d_Mo_readersOpen_42 rfl (lv_at hl 2 rfl) ?_
          exact gz_iret (v := 1) hx hb hr hlocks hK Z (by decide) (by decide) (by rw [← hPQ]; exact Or.inr (Or.inr (Or.inr (Or.inr (Or.inl ⟨rfl, rfl, c30_1, c30_2, c30_6, c30_7⟩))))) d_Mo_readersOpen_43
        · refine lv_iinc (v := 2) (lv' := [(1, Value.int 2), (5, Value.ref q108), (4, Value.int 3), (3, Value.int 4), (2, Value.ref q83), (0, Value.ref q46)]) hx hb d_Mo_readersOpen_33 hl (k := 2) rfl (by decide) (by decide) rfl (fun ls hl => ?_)
          refine lv_iinc (v := 4) (lv' := [(4, Value.int 4), (1, Value.int 2), (5, Value.ref q108), (3, Value.int 4), (2, Value.ref q83), (0, Value.ref q46)]) hx hb d_Mo_readersOpen_36 hl (k := 2) rfl (by decide) (by decide) rfl (fun ls hl => ?_)
          refine lv_goto (tgt := 13) hx hb d_Mo_readersOpen_39 (by decide) ?_
          refine lv_iload hx hb d_Mo_readersOpen_13 (lv_at hl 0 rfl) ?_
          refine lv_iload_n hx hb d_Mo_readersOpen_15 rfl (lv_at hl 3 rfl) ?_
          refine lv_icmp_ge (tgt := 42) hx hb d_Mo_readersOpen_16 (by decide) (fun _ => ?_) (fun c9 => absurd (by decide) c9)
          refine lv_iload_n hx hb d_Mo_readersOpen_42 rfl (lv_at hl 1 rfl) ?_
          exact gz_iret (v := 2) hx hb hr hlocks hK Z (by decide) (by decide) (by rw [← hPQ]; exact Or.inr (Or.inr (Or.inr (Or.inr (Or.inr (Or.inl ⟨rfl, rfl, c30_1, c30_2, c30_6, c30_7⟩)))))) d_Mo_readersOpen_43
      · refine lv_iinc (v := 2) (lv' := [(1, Value.int 2), (5, Value.ref q100), (4, Value.int 2), (3, Value.int 4), (2, Value.ref q83), (0, Value.ref q46)]) hx hb d_Mo_readersOpen_33 hl (k := 2) rfl (by decide) (by decide) rfl (fun ls hl => ?_)
        refine lv_iinc (v := 3) (lv' := [(4, Value.int 3), (1, Value.int 2), (5, Value.ref q100), (3, Value.int 4), (2, Value.ref q83), (0, Value.ref q46)]) hx hb d_Mo_readersOpen_36 hl (k := 2) rfl (by decide) (by decide) rfl (fun ls hl => ?_)
        refine lv_goto (tgt := 13) hx hb d_Mo_readersOpen_39 (by decide) ?_
        refine lv_iload hx hb d_Mo_readersOpen_13 (lv_at hl 0 rfl) ?_
        refine lv_iload_n hx hb d_Mo_readersOpen_15 rfl (lv_at hl 3 rfl) ?_
        refine lv_icmp_ge (tgt := 42) hx hb d_Mo_readersOpen_16 (by decide) (fun c9 => absurd c9 (by decide)) (fun _ => ?_)
        refine lv_aload_n hx hb d_Mo_readersOpen_19 rfl (lv_at hl 4 rfl) ?_
        refine lv_iload hx hb d_Mo_readersOpen_20 (lv_at hl 0 rfl) ?_
        refine gz_aald (v := Value.ref q108) (j := 3) hx hb hK Z 5 f_83 ht5 (by decide) (by decide) (by decide) (rfl) d_Mo_readersOpen_22 ?_
        refine lv_astore (lv' := [(5, Value.ref q108), (4, Value.int 3), (1, Value.int 2), (3, Value.int 4), (2, Value.ref q83), (0, Value.ref q46)]) hx hb d_Mo_readersOpen_23 hl (by decide) rfl (fun ls hl => ?_)
        refine lv_aload hx hb d_Mo_readersOpen_25 (lv_at hl 0 rfl) ?_
        refine gz_get (ci := 9) (v := Value.int n108) (C := "CommitLedgerModel$Version") (T := F_Ve) (N := 11) hx hb hts i_Ve hown hK Z f_108 rfl 10 (by decide) kf_Mo_103 rfl d_Mo_readersOpen_27 ?_
        refine lv_if_le (tgt := 36) hx hb d_Mo_readersOpen_30 (by decide) (fun c30_8 => ?_) (fun c30_8 => ?_)
        · refine lv_iinc (v := 4) (lv' := [(4, Value.int 4), (5, Value.ref q108), (1, Value.int 2), (3, Value.int 4), (2, Value.ref q83), (0, Value.ref q46)]) hx hb d_Mo_readersOpen_36 hl (k := 1) rfl (by decide) (by decide) rfl (fun ls hl => ?_)
          refine lv_goto (tgt := 13) hx hb d_Mo_readersOpen_39 (by decide) ?_
          refine lv_iload hx hb d_Mo_readersOpen_13 (lv_at hl 0 rfl) ?_
          refine lv_iload_n hx hb d_Mo_readersOpen_15 rfl (lv_at hl 3 rfl) ?_
          refine lv_icmp_ge (tgt := 42) hx hb d_Mo_readersOpen_16 (by decide) (fun _ => ?_) (fun c9 => absurd (by decide) c9)
          refine lv_iload_n hx hb d_Mo_readersOpen_42 rfl (lv_at hl 2 rfl) ?_
          exact gz_iret (v := 2) hx hb hr hlocks hK Z (by decide) (by decide) (by rw [← hPQ]; exact Or.inr (Or.inr (Or.inr (Or.inr (Or.inr (Or.inr (Or.inl ⟨rfl, rfl, c30_1, c30_2, c30_6, c30_8⟩))))))) d_Mo_readersOpen_43
        · refine lv_iinc (v := 3) (lv' := [(1, Value.int 3), (5, Value.ref q108), (4, Value.int 3), (3, Value.int 4), (2, Value.ref q83), (0, Value.ref q46)]) hx hb d_Mo_readersOpen_33 hl (k := 2) rfl (by decide) (by decide) rfl (fun ls hl => ?_)
          refine lv_iinc (v := 4) (lv' := [(4, Value.int 4), (1, Value.int 3), (5, Value.ref q108), (3, Value.int 4), (2, Value.ref q83), (0, Value.ref q46)]) hx hb d_Mo_readersOpen_36 hl (k := 2) rfl (by decide) (by decide) rfl (fun ls hl => ?_)
          refine lv_goto (tgt := 13) hx hb d_Mo_readersOpen_39 (by decide) ?_
          refine lv_iload hx hb d_Mo_readersOpen_13 (lv_at hl 0 rfl) ?_
          refine lv_iload_n hx hb d_Mo_readersOpen_15 rfl (lv_at hl 3 rfl) ?_
          refine lv_icmp_ge (tgt := 42) hx hb d_Mo_readersOpen_16 (by decide) (fun _ => ?_) (fun c9 => absurd (by decide) c9)
          refine lv_iload_n hx hb d_Mo_readersOpen_42 rfl (lv_at hl 1 rfl) ?_
          exact gz_iret (v := 3) hx hb hr hlocks hK Z (by decide) (by decide) (by rw [← hPQ]; exact Or.inr (Or.inr (Or.inr (Or.inr (Or.inr (Or.inr (Or.inr (Or.inl ⟨rfl, rfl, c30_1, c30_2, c30_6, c30_8⟩)))))))) d_Mo_readersOpen_43
  · refine lv_iinc (v := 1) (lv' := [(1, Value.int 1), (5, Value.ref q84), (4, Value.int 0), (3, Value.int 4), (2, Value.ref q83), (0, Value.ref q46)]) hx hb d_Mo_readersOpen_33 hl (k := 4) rfl (by decide) (by decide) rfl (fun ls hl => ?_)
    refine lv_iinc (v := 1) (lv' := [(4, Value.int 1), (1, Value.int 1), (5, Value.ref q84), (3, Value.int 4), (2, Value.ref q83), (0, Value.ref q46)]) hx hb d_Mo_readersOpen_36 hl (k := 2) rfl (by decide) (by decide) rfl (fun ls hl => ?_)
    refine lv_goto (tgt := 13) hx hb d_Mo_readersOpen_39 (by decide) ?_
    refine lv_iload hx hb d_Mo_readersOpen_13 (lv_at hl 0 rfl) ?_
    refine lv_iload_n hx hb d_Mo_readersOpen_15 rfl (lv_at hl 3 rfl) ?_
    refine lv_icmp_ge (tgt := 42) hx hb d_Mo_readersOpen_16 (by decide) (fun c9 => absurd c9 (by decide)) (fun _ => ?_)
    refine lv_aload_n hx hb d_Mo_readersOpen_19 rfl (lv_at hl 4 rfl) ?_
    refine lv_iload hx hb d_Mo_readersOpen_20 (lv_at hl 0 rfl) ?_
    refine gz_aald (v := Value.ref q92) (j := 1) hx hb hK Z 5 f_83 ht5 (by decide) (by decide) (by decide) (rfl) d_Mo_readersOpen_22 ?_
    refine lv_astore (lv' := [(5, Value.ref q92), (4, Value.int 1), (1, Value.int 1), (3, Value.int 4), (2, Value.ref q83), (0, Value.ref q46)]) hx hb d_Mo_readersOpen_23 hl (by decide) rfl (fun ls hl => ?_)
    refine lv_aload hx hb d_Mo_readersOpen_25 (lv_at hl 0 rfl) ?_
    refine gz_get (ci := 9) (v := Value.int n92) (C := "CommitLedgerModel$Version") (T := F_Ve) (N := 11) hx hb hts i_Ve hown hK Z f_92 rfl 10 (by decide) kf_Mo_103 rfl d_Mo_readersOpen_27 ?_
    refine lv_if_le (tgt := 36) hx hb d_Mo_readersOpen_30 (by decide) (fun c30_9 => ?_) (fun c30_9 => ?_)
    · refine lv_iinc (v := 2) (lv' := [(4, Value.int 2), (5, Value.ref q92), (1, Value.int 1), (3, Value.int 4), (2, Value.ref q83), (0, Value.ref q46)]) hx hb d_Mo_readersOpen_36 hl (k := 1) rfl (by decide) (by decide) rfl (fun ls hl => ?_)
      refine lv_goto (tgt := 13) hx hb d_Mo_readersOpen_39 (by decide) ?_
      refine lv_iload hx hb d_Mo_readersOpen_13 (lv_at hl 0 rfl) ?_
      refine lv_iload_n hx hb d_Mo_readersOpen_15 rfl (lv_at hl 3 rfl) ?_
      refine lv_icmp_ge (tgt := 42) hx hb d_Mo_readersOpen_16 (by decide) (fun c9 => absurd c9 (by decide)) (fun _ => ?_)
      refine lv_aload_n hx hb d_Mo_readersOpen_19 rfl (lv_at hl 4 rfl) ?_
      refine lv_iload hx hb d_Mo_readersOpen_20 (lv_at hl 0 rfl) ?_
      refine gz_aald (v := Value.ref q100) (j := 2) hx hb hK Z 5 f_83 ht5 (by decide) (by decide) (by decide) (rfl) d_Mo_readersOpen_22 ?_
      refine lv_astore (lv' := [(5, Value.ref q100), (4, Value.int 2), (1, Value.int 1), (3, Value.int 4), (2, Value.ref q83), (0, Value.ref q46)]) hx hb d_Mo_readersOpen_23 hl (by decide) rfl (fun ls hl => ?_)
      refine lv_aload hx hb d_Mo_readersOpen_25 (lv_at hl 0 rfl) ?_
      refine gz_get (ci := 9) (v := Value.int n100) (C := "CommitLedgerModel$Version") (T := F_Ve) (N := 11) hx hb hts i_Ve hown hK Z f_100 rfl 10 (by decide) kf_Mo_103 rfl d_Mo_readersOpen_27 ?_
      refine lv_if_le (tgt := 36) hx hb d_Mo_readersOpen_30 (by decide) (fun c30_10 => ?_) (fun c30_10 => ?_)
      · refine lv_iinc (v := 3) (lv' := [(4, Value.int 3), (5, Value.ref q100), (1, Value.int 1), (3, Value.int 4), (2, Value.ref q83), (0, Value.ref q46)]) hx hb d_Mo_readersOpen_36 hl (k := 1) rfl (by decide) (by decide) rfl (fun ls hl => ?_)
        refine lv_goto (tgt := 13) hx hb d_Mo_readersOpen_39 (by decide) ?_
        refine lv_iload hx hb d_Mo_readersOpen_13 (lv_at hl 0 rfl) ?_
        refine lv_iload_n hx hb d_Mo_readersOpen_15 rfl (lv_at hl 3 rfl) ?_
        refine lv_icmp_ge (tgt := 42) hx hb d_Mo_readersOpen_16 (by decide) (fun c9 => absurd c9 (by decide)) (fun _ => ?_)
        refine lv_aload_n hx hb d_Mo_readersOpen_19 rfl (lv_at hl 4 rfl) ?_
        refine lv_iload hx hb d_Mo_readersOpen_20 (lv_at hl 0 rfl) ?_
        refine gz_aald (v := Value.ref q108) (j := 3) hx hb hK Z 5 f_83 ht5 (by decide) (by decide) (by decide) (rfl) d_Mo_readersOpen_22 ?_
        refine lv_astore (lv' := [(5, Value.ref q108), (4, Value.int 3), (1, Value.int 1), (3, Value.int 4), (2, Value.ref q83), (0, Value.ref q46)]) hx hb d_Mo_readersOpen_23 hl (by decide) rfl (fun ls hl => ?_)
        refine lv_aload hx hb d_Mo_readersOpen_25 (lv_at hl 0 rfl) ?_
        refine gz_get (ci := 9) (v := Value.int n108) (C := "CommitLedgerModel$Version") (T := F_Ve) (N := 11) hx hb hts i_Ve hown hK Z f_108 rfl 10 (by decide) kf_Mo_103 rfl d_Mo_readersOpen_27 ?_
        refine lv_if_le (tgt := 36) hx hb d_Mo_readersOpen_30 (by decide) (fun c30_11 => ?_) (fun c30_11 => ?_)
        · refine lv_iinc (v := 4) (lv' := [(4, Value.int 4), (5, Value.ref q108), (1, Value.int 1), (3, Value.int 4), (2, Value.ref q83), (0, Value.ref q46)]) hx hb d_Mo_readersOpen_36 hl (k := 1) rfl (by decide) (by decide) rfl (fun ls hl => ?_)
          refine lv_goto (tgt := 13) hx hb d_Mo_readersOpen_39 (by decide) ?_
          refine lv_iload hx hb d_Mo_readersOpen_13 (lv_at hl 0 rfl) ?_
          refine lv_iload_n hx hb d_Mo_readersOpen_15 rfl (lv_at hl 3 rfl) ?_
          refine lv_icmp_ge (tgt := 42) hx hb d_Mo_readersOpen_16 (by decide) (fun _ => ?_) (fun c9 => absurd (by decide) c9)
          refine lv_iload_n hx hb d_Mo_readersOpen_42 rfl (lv_at hl 2 rfl) ?_
          exact gz_iret (v := 1) hx hb hr hlocks hK Z (by decide) (by decide) (by rw [← hPQ]; exact Or.inr (Or.inr (Or.inr (Or.inr (Or.inr (Or.inr (Or.inr (Or.inr (Or.inl ⟨rfl, rfl, c30_1, c30_9, c30_10, c30_11⟩))))))))) d_Mo_readersOpen_43
        · refine lv_iinc (v := 2) (lv' := [(1, Value.int 2), (5, Value.ref q108), (4, Value.int 3), (3, Value.int 4), (2, Value.ref q83), (0, Value.ref q46)]) hx hb d_Mo_readersOpen_33 hl (k := 2) rfl (by decide) (by decide) rfl (fun ls hl => ?_)
          refine lv_iinc (v := 4) (lv' := [(4, Value.int 4), (1, Value.int 2), (5, Value.ref q108), (3, Value.int 4), (2, Value.ref q83), (0, Value.ref q46)]) hx hb d_Mo_readersOpen_36 hl (k := 2) rfl (by decide) (by decide) rfl (fun ls hl => ?_)
          refine lv_goto (tgt := 13) hx hb d_Mo_readersOpen_39 (by decide) ?_
          refine lv_iload hx hb d_Mo_readersOpen_13 (lv_at hl 0 rfl) ?_
          refine lv_iload_n hx hb d_Mo_readersOpen_15 rfl (lv_at hl 3 rfl) ?_
          refine lv_icmp_ge (tgt := 42) hx hb d_Mo_readersOpen_16 (by decide) (fun _ => ?_) (fun c9 => absurd (by decide) c9)
          refine lv_iload_n hx hb d_Mo_readersOpen_42 rfl (lv_at hl 1 rfl) ?_
          exact gz_iret (v := 2) hx hb hr hlocks hK Z (by decide) (by decide) (by rw [← hPQ]; exact Or.inr (Or.inr (Or.inr (Or.inr (Or.inr (Or.inr (Or.inr (Or.inr (Or.inr (Or.inl ⟨rfl, rfl, c30_1, c30_9, c30_10, c30_11⟩)))))))))) d_Mo_readersOpen_43
      · refine lv_iinc (v := 2) (lv' := [(1, Value.int 2), (5, Value.ref q100), (4, Value.int 2), (3, Value.int 4), (2, Value.ref q83), (0, Value.ref q46)]) hx hb d_Mo_readersOpen_33 hl (k := 2) rfl (by decide) (by decide) rfl (fun ls hl => ?_)
        refine lv_iinc (v := 3) (lv' := [(4, Value.int 3), (1, Value.int 2), (5, Value.ref q100), (3, Value.int 4), (2, Value.ref q83), (0, Value.ref q46)]) hx hb d_Mo_readersOpen_36 hl (k := 2) rfl (by decide) (by decide) rfl (fun ls hl => ?_)
        refine lv_goto (tgt := 13) hx hb d_Mo_readersOpen_39 (by decide) ?_
        refine lv_iload hx hb d_Mo_readersOpen_13 (lv_at hl 0 rfl) ?_
        refine lv_iload_n hx hb d_Mo_readersOpen_15 rfl (lv_at hl 3 rfl) ?_
        refine lv_icmp_ge (tgt := 42) hx hb d_Mo_readersOpen_16 (by decide) (fun c9 => absurd c9 (by decide)) (fun _ => ?_)
        refine lv_aload_n hx hb d_Mo_readersOpen_19 rfl (lv_at hl 4 rfl) ?_
        refine lv_iload hx hb d_Mo_readersOpen_20 (lv_at hl 0 rfl) ?_
        refine gz_aald (v := Value.ref q108) (j := 3) hx hb hK Z 5 f_83 ht5 (by decide) (by decide) (by decide) (rfl) d_Mo_readersOpen_22 ?_
        refine lv_astore (lv' := [(5, Value.ref q108), (4, Value.int 3), (1, Value.int 2), (3, Value.int 4), (2, Value.ref q83), (0, Value.ref q46)]) hx hb d_Mo_readersOpen_23 hl (by decide) rfl (fun ls hl => ?_)
        refine lv_aload hx hb d_Mo_readersOpen_25 (lv_at hl 0 rfl) ?_
        refine gz_get (ci := 9) (v := Value.int n108) (C := "CommitLedgerModel$Version") (T := F_Ve) (N := 11) hx hb hts i_Ve hown hK Z f_108 rfl 10 (by decide) kf_Mo_103 rfl d_Mo_readersOpen_27 ?_
        refine lv_if_le (tgt := 36) hx hb d_Mo_readersOpen_30 (by decide) (fun c30_12 => ?_) (fun c30_12 => ?_)
        · refine lv_iinc (v := 4) (lv' := [(4, Value.int 4), (5, Value.ref q108), (1, Value.int 2), (3, Value.int 4), (2, Value.ref q83), (0, Value.ref q46)]) hx hb d_Mo_readersOpen_36 hl (k := 1) rfl (by decide) (by decide) rfl (fun ls hl => ?_)
          refine lv_goto (tgt := 13) hx hb d_Mo_readersOpen_39 (by decide) ?_
          refine lv_iload hx hb d_Mo_readersOpen_13 (lv_at hl 0 rfl) ?_
          refine lv_iload_n hx hb d_Mo_readersOpen_15 rfl (lv_at hl 3 rfl) ?_
          refine lv_icmp_ge (tgt := 42) hx hb d_Mo_readersOpen_16 (by decide) (fun _ => ?_) (fun c9 => absurd (by decide) c9)
          refine lv_iload_n hx hb d_Mo_readersOpen_42 rfl (lv_at hl 2 rfl) ?_
          exact gz_iret (v := 2) hx hb hr hlocks hK Z (by decide) (by decide) (by rw [← hPQ]; exact Or.inr (Or.inr (Or.inr (Or.inr (Or.inr (Or.inr (Or.inr (Or.inr (Or.inr (Or.inr (Or.inl ⟨rfl, rfl, c30_1, c30_9, c30_10, c30_12⟩))))))))))) d_Mo_readersOpen_43
        · refine lv_iinc (v := 3) (lv' := [(1, Value.int 3), (5, Value.ref q108), (4, Value.int 3), (3, Value.int 4), (2, Value.ref q83), (0, Value.ref q46)]) hx hb d_Mo_readersOpen_33 hl (k := 2) rfl (by decide) (by decide) rfl (fun ls hl => ?_)
          refine lv_iinc (v := 4) (lv' := [(4, Value.int 4), (1, Value.int 3), (5, Value.ref q108), (3, Value.int 4), (2, Value.ref q83), (0, Value.ref q46)]) hx hb d_Mo_readersOpen_36 hl (k := 2) rfl (by decide) (by decide) rfl (fun ls hl => ?_)
          refine lv_goto (tgt := 13) hx hb d_Mo_readersOpen_39 (by decide) ?_
          refine lv_iload hx hb d_Mo_readersOpen_13 (lv_at hl 0 rfl) ?_
          refine lv_iload_n hx hb d_Mo_readersOpen_15 rfl (lv_at hl 3 rfl) ?_
          refine lv_icmp_ge (tgt := 42) hx hb d_Mo_readersOpen_16 (by decide) (fun _ => ?_) (fun c9 => absurd (by decide) c9)
          refine lv_iload_n hx hb d_Mo_readersOpen_42 rfl (lv_at hl 1 rfl) ?_
          exact gz_iret (v := 3) hx hb hr hlocks hK Z (by decide) (by decide) (by rw [← hPQ]; exact Or.inr (Or.inr (Or.inr (Or.inr (Or.inr (Or.inr (Or.inr (Or.inr (Or.inr (Or.inr (Or.inr (Or.inl ⟨rfl, rfl, c30_1, c30_9, c30_10, c30_12⟩)))))))))))) d_Mo_readersOpen_43
    · refine lv_iinc (v := 2) (lv' := [(1, Value.int 2), (5, Value.ref q92), (4, Value.int 1), (3, Value.int 4), (2, Value.ref q83), (0, Value.ref q46)]) hx hb d_Mo_readersOpen_33 hl (k := 2) rfl (by decide) (by decide) rfl (fun ls hl => ?_)
      refine lv_iinc (v := 2) (lv' := [(4, Value.int 2), (1, Value.int 2), (5, Value.ref q92), (3, Value.int 4), (2, Value.ref q83), (0, Value.ref q46)]) hx hb d_Mo_readersOpen_36 hl (k := 2) rfl (by decide) (by decide) rfl (fun ls hl => ?_)
      refine lv_goto (tgt := 13) hx hb d_Mo_readersOpen_39 (by decide) ?_
      refine lv_iload hx hb d_Mo_readersOpen_13 (lv_at hl 0 rfl) ?_
      refine lv_iload_n hx hb d_Mo_readersOpen_15 rfl (lv_at hl 3 rfl) ?_
      refine lv_icmp_ge (tgt := 42) hx hb d_Mo_readersOpen_16 (by decide) (fun c9 => absurd c9 (by decide)) (fun _ => ?_)
      refine lv_aload_n hx hb d_Mo_readersOpen_19 rfl (lv_at hl 4 rfl) ?_
      refine lv_iload hx hb d_Mo_readersOpen_20 (lv_at hl 0 rfl) ?_
      refine gz_aald (v := Value.ref q100) (j := 2) hx hb hK Z 5 f_83 ht5 (by decide) (by decide) (by decide) (rfl) d_Mo_readersOpen_22 ?_
      refine lv_astore (lv' := [(5, Value.ref q100), (4, Value.int 2), (1, Value.int 2), (3, Value.int 4), (2, Value.ref q83), (0, Value.ref q46)]) hx hb d_Mo_readersOpen_23 hl (by decide) rfl (fun ls hl => ?_)
      refine lv_aload hx hb d_Mo_readersOpen_25 (lv_at hl 0 rfl) ?_
      refine gz_get (ci := 9) (v := Value.int n100) (C := "CommitLedgerModel$Version") (T := F_Ve) (N := 11) hx hb hts i_Ve hown hK Z f_100 rfl 10 (by decide) kf_Mo_103 rfl d_Mo_readersOpen_27 ?_
      refine lv_if_le (tgt := 36) hx hb d_Mo_readersOpen_30 (by decide) (fun c30_13 => ?_) (fun c30_13 => ?_)
      · refine lv_iinc (v := 3) (lv' := [(4, Value.int 3), (5, Value.ref q100), (1, Value.int 2), (3, Value.int 4), (2, Value.ref q83), (0, Value.ref q46)]) hx hb d_Mo_readersOpen_36 hl (k := 1) rfl (by decide) (by decide) rfl (fun ls hl => ?_)
        refine lv_goto (tgt := 13) hx hb d_Mo_readersOpen_39 (by decide) ?_
        refine lv_iload hx hb d_Mo_readersOpen_13 (lv_at hl 0 rfl) ?_
        refine lv_iload_n hx hb d_Mo_readersOpen_15 rfl (lv_at hl 3 rfl) ?_
        refine lv_icmp_ge (tgt := 42) hx hb d_Mo_readersOpen_16 (by decide) (fun c9 => absurd c9 (by decide)) (fun _ => ?_)
        refine lv_aload_n hx hb d_Mo_readersOpen_19 rfl (lv_at hl 4 rfl) ?_
        refine lv_iload hx hb d_Mo_readersOpen_20 (lv_at hl 0 rfl) ?_
        refine gz_aald (v := Value.ref q108) (j := 3) hx hb hK Z 5 f_83 ht5 (by decide) (by decide) (by decide) (rfl) d_Mo_readersOpen_22 ?_
        refine lv_astore (lv' := [(5, Value.ref q108), (4, Value.int 3), (1, Value.int 2), (3, Value.int 4), (2, Value.ref q83), (0, Value.ref q46)]) hx hb d_Mo_readersOpen_23 hl (by decide) rfl (fun ls hl => ?_)
        refine lv_aload hx hb d_Mo_readersOpen_25 (lv_at hl 0 rfl) ?_
        refine gz_get (ci := 9) (v := Value.int n108) (C := "CommitLedgerModel$Version") (T := F_Ve) (N := 11) hx hb hts i_Ve hown hK Z f_108 rfl 10 (by decide) kf_Mo_103 rfl d_Mo_readersOpen_27 ?_
        refine lv_if_le (tgt := 36) hx hb d_Mo_readersOpen_30 (by decide) (fun c30_14 => ?_) (fun c30_14 => ?_)
        · refine lv_iinc (v := 4) (lv' := [(4, Value.int 4), (5, Value.ref q108), (1, Value.int 2), (3, Value.int 4), (2, Value.ref q83), (0, Value.ref q46)]) hx hb d_Mo_readersOpen_36 hl (k := 1) rfl (by decide) (by decide) rfl (fun ls hl => ?_)
          refine lv_goto (tgt := 13) hx hb d_Mo_readersOpen_39 (by decide) ?_
          refine lv_iload hx hb d_Mo_readersOpen_13 (lv_at hl 0 rfl) ?_
          refine lv_iload_n hx hb d_Mo_readersOpen_15 rfl (lv_at hl 3 rfl) ?_
          refine lv_icmp_ge (tgt := 42) hx hb d_Mo_readersOpen_16 (by decide) (fun _ => ?_) (fun c9 => absurd (by decide) c9)
          refine lv_iload_n hx hb d_Mo_readersOpen_42 rfl (lv_at hl 2 rfl) ?_
          exact gz_iret (v := 2) hx hb hr hlocks hK Z (by decide) (by decide) (by rw [← hPQ]; exact Or.inr (Or.inr (Or.inr (Or.inr (Or.inr (Or.inr (Or.inr (Or.inr (Or.inr (Or.inr (Or.inr (Or.inr (Or.inl ⟨rfl, rfl, c30_1, c30_9, c30_13, c30_14⟩))))))))))))) d_Mo_readersOpen_43
        · refine lv_iinc (v := 3) (lv' := [(1, Value.int 3), (5, Value.ref q108), (4, Value.int 3), (3, Value.int 4), (2, Value.ref q83), (0, Value.ref q46)]) hx hb d_Mo_readersOpen_33 hl (k := 2) rfl (by decide) (by decide) rfl (fun ls hl => ?_)
          refine lv_iinc (v := 4) (lv' := [(4, Value.int 4), (1, Value.int 3), (5, Value.ref q108), (3, Value.int 4), (2, Value.ref q83), (0, Value.ref q46)]) hx hb d_Mo_readersOpen_36 hl (k := 2) rfl (by decide) (by decide) rfl (fun ls hl => ?_)
          refine lv_goto (tgt := 13) hx hb d_Mo_readersOpen_39 (by decide) ?_
          refine lv_iload hx hb d_Mo_readersOpen_13 (lv_at hl 0 rfl) ?_
          refine lv_iload_n hx hb d_Mo_readersOpen_15 rfl (lv_at hl 3 rfl) ?_
          refine lv_icmp_ge (tgt := 42) hx hb d_Mo_readersOpen_16 (by decide) (fun _ => ?_) (fun c9 => absurd (by decide) c9)
          refine lv_iload_n hx hb d_Mo_readersOpen_42 rfl (lv_at hl 1 rfl) ?_
          exact gz_iret (v := 3) hx hb hr hlocks hK Z (by decide) (by decide) (by rw [← hPQ]; exact Or.inr (Or.inr (Or.inr (Or.inr (Or.inr (Or.inr (Or.inr (Or.inr (Or.inr (Or.inr (Or.inr (Or.inr (Or.inr (Or.inl ⟨rfl, rfl, c30_1, c30_9, c30_13, c30_14⟩)))))))))))))) d_Mo_readersOpen_43
      · refine lv_iinc (v := 3) (lv' := [(1, Value.int 3), (5, Value.ref q100), (4, Value.int 2), (3, Value.int 4), (2, Value.ref q83), (0, Value.ref q46)]) hx hb d_Mo_readersOpen_33 hl (k := 2) rfl (by decide) (by decide) rfl (fun ls hl => ?_)
        refine lv_iinc (v := 3) (lv' := [(4, Value.int 3), (1, Value.int 3), (5, Value.ref q100), (3, Value.int 4), (2, Value.ref q83), (0, Value.ref q46)]) hx hb d_Mo_readersOpen_36 hl (k := 2) rfl (by decide) (by decide) rfl (fun ls hl => ?_)
        refine lv_goto (tgt := 13) hx hb d_Mo_readersOpen_39 (by decide) ?_
        refine lv_iload hx hb d_Mo_readersOpen_13 (lv_at hl 0 rfl) ?_
        refine lv_iload_n hx hb d_Mo_readersOpen_15 rfl (lv_at hl 3 rfl) ?_
        refine lv_icmp_ge (tgt := 42) hx hb d_Mo_readersOpen_16 (by decide) (fun c9 => absurd c9 (by decide)) (fun _ => ?_)
        refine lv_aload_n hx hb d_Mo_readersOpen_19 rfl (lv_at hl 4 rfl) ?_
        refine lv_iload hx hb d_Mo_readersOpen_20 (lv_at hl 0 rfl) ?_
        refine gz_aald (v := Value.ref q108) (j := 3) hx hb hK Z 5 f_83 ht5 (by decide) (by decide) (by decide) (rfl) d_Mo_readersOpen_22 ?_
        refine lv_astore (lv' := [(5, Value.ref q108), (4, Value.int 3), (1, Value.int 3), (3, Value.int 4), (2, Value.ref q83), (0, Value.ref q46)]) hx hb d_Mo_readersOpen_23 hl (by decide) rfl (fun ls hl => ?_)
        refine lv_aload hx hb d_Mo_readersOpen_25 (lv_at hl 0 rfl) ?_
        refine gz_get (ci := 9) (v := Value.int n108) (C := "CommitLedgerModel$Version") (T := F_Ve) (N := 11) hx hb hts i_Ve hown hK Z f_108 rfl 10 (by decide) kf_Mo_103 rfl d_Mo_readersOpen_27 ?_
        refine lv_if_le (tgt := 36) hx hb d_Mo_readersOpen_30 (by decide) (fun c30_15 => ?_) (fun c30_15 => ?_)
        · refine lv_iinc (v := 4) (lv' := [(4, Value.int 4), (5, Value.ref q108), (1, Value.int 3), (3, Value.int 4), (2, Value.ref q83), (0, Value.ref q46)]) hx hb d_Mo_readersOpen_36 hl (k := 1) rfl (by decide) (by decide) rfl (fun ls hl => ?_)
          refine lv_goto (tgt := 13) hx hb d_Mo_readersOpen_39 (by decide) ?_
          refine lv_iload hx hb d_Mo_readersOpen_13 (lv_at hl 0 rfl) ?_
          refine lv_iload_n hx hb d_Mo_readersOpen_15 rfl (lv_at hl 3 rfl) ?_
          refine lv_icmp_ge (tgt := 42) hx hb d_Mo_readersOpen_16 (by decide) (fun _ => ?_) (fun c9 => absurd (by decide) c9)
          refine lv_iload_n hx hb d_Mo_readersOpen_42 rfl (lv_at hl 2 rfl) ?_
          exact gz_iret (v := 3) hx hb hr hlocks hK Z (by decide) (by decide) (by rw [← hPQ]; exact Or.inr (Or.inr (Or.inr (Or.inr (Or.inr (Or.inr (Or.inr (Or.inr (Or.inr (Or.inr (Or.inr (Or.inr (Or.inr (Or.inr (Or.inl ⟨rfl, rfl, c30_1, c30_9, c30_13, c30_15⟩))))))))))))))) d_Mo_readersOpen_43
        · refine lv_iinc (v := 4) (lv' := [(1, Value.int 4), (5, Value.ref q108), (4, Value.int 3), (3, Value.int 4), (2, Value.ref q83), (0, Value.ref q46)]) hx hb d_Mo_readersOpen_33 hl (k := 2) rfl (by decide) (by decide) rfl (fun ls hl => ?_)
          refine lv_iinc (v := 4) (lv' := [(4, Value.int 4), (1, Value.int 4), (5, Value.ref q108), (3, Value.int 4), (2, Value.ref q83), (0, Value.ref q46)]) hx hb d_Mo_readersOpen_36 hl (k := 2) rfl (by decide) (by decide) rfl (fun ls hl => ?_)
          refine lv_goto (tgt := 13) hx hb d_Mo_readersOpen_39 (by decide) ?_
          refine lv_iload hx hb d_Mo_readersOpen_13 (lv_at hl 0 rfl) ?_
          refine lv_iload_n hx hb d_Mo_readersOpen_15 rfl (lv_at hl 3 rfl) ?_
          refine lv_icmp_ge (tgt := 42) hx hb d_Mo_readersOpen_16 (by decide) (fun _ => ?_) (fun c9 => absurd (by decide) c9)
          refine lv_iload_n hx hb d_Mo_readersOpen_42 rfl (lv_at hl 1 rfl) ?_
          exact gz_iret (v := 4) hx hb hr hlocks hK Z (by decide) (by decide) (by rw [← hPQ]; exact Or.inr (Or.inr (Or.inr (Or.inr (Or.inr (Or.inr (Or.inr (Or.inr (Or.inr (Or.inr (Or.inr (Or.inr (Or.inr (Or.inr (Or.inr (⟨rfl, rfl, c30_1, c30_9, c30_13, c30_15⟩)))))))))))))))) d_Mo_readersOpen_43

set_option maxHeartbeats 4000000 in
set_option maxRecDepth 100000 in
theorem k_Mo_anyReader (l : Launch) (htr : l.stackTraces = false) (D : va_G) (tys : List (ClassId × FieldType)) (z sz : Nat) (ws : va_W) (h : gm_M) (hM : gm_S h ws) (cV : ClassId) (q46 : Nat) (q47 : Nat) (q48 : Nat) (q49 : Nat) (q50 : Nat) (q51 : Nat) (q52 : Nat) (q53 : Nat) (q54 : Nat) (q62 : Nat) (q70 : Nat) (q78 : Nat) (q79 : Nat) (q80 : Nat) (q81 : Nat) (q82 : Nat) (q83 : Nat) (um : Value) (m_error : Int32) (m_thrown : Int32) (m_docs : Int32) (m_filesThere : Int32) (m_files : Int32) (m_actions : Int32) (m_power : Int32) (m_lost : Int32) (m_open : Int32) (m_isPrepared : Int32) (m_generation : Int32) (m_buffered : Int32) (m_limit : Int32) (m_factor : Int32) (m_merges : Int32) (m_opened : Int32) (m_chosenMany : Int32) (m_begun : Int32) (q84 : Nat) (q85 : Nat) (q86 : Nat) (q87 : Nat) (q88 : Nat) (q89 : Nat) (q90 : Nat) (q91 : Nat) (q92 : Nat) (q93 : Nat) (q94 : Nat) (q95 : Nat) (q96 : Nat) (q97 : Nat) (q98 : Nat) (q99 : Nat) (q100 : Nat) (q101 : Nat) (q102 : Nat) (q103 : Nat) (q104 : Nat) (q105 : Nat) (q106 : Nat) (q107 : Nat) (q108 : Nat) (q109 : Nat) (q110 : Nat) (q111 : Nat) (q112 : Nat) (q113 : Nat) (q114 : Nat) (q115 : Nat) (s84 : Int32) (t84 : Int32) (w84 : Int32) (n84 : Int32) (s92 : Int32) (t92 : Int32) (w92 : Int32) (n92 : Int32) (s100 : Int32) (t100 : Int32) (w100 : Int32) (n100 : Int32) (s108 : Int32) (t108 : Int32) (w108 : Int32) (n108 : Int32) (f_46 : h 46 = some ((q46, Sum.inr (8, [Value.int m_error, Value.int m_thrown, Value.ref q47, Value.ref q48, Value.ref q49, Value.int m_docs, Value.ref q50, Value.ref q51, Value.ref q52, Value.ref q53, Value.int m_filesThere, Value.int m_files, Value.int m_actions, Value.int m_power, Value.int m_lost, Value.ref q54, Value.ref q62, Value.ref q70, Value.int m_open, Value.int m_isPrepared, Value.int m_generation, Value.ref q78, Value.ref q79, Value.int m_buffered, Value.int m_limit, Value.int m_factor, um, Value.ref q80, Value.ref q81, Value.ref q82, Value.int m_merges, Value.ref q83, Value.int m_opened, Value.int m_chosenMany, Value.int m_begun])) : Nat × va_E)) (f_83 : h 83 = some ((q83, Sum.inl (cV, 4, Sum.inr (Sum.inr (Sum.inr (Sum.inr (va_up (va_up (va_up (va_up (fun _ => none) 0 (some q84)) 1 (some q92)) 2 (some q100)) 3 (some q108))))))) : Nat × va_E)) (f_84 : h 84 = some ((q84, Sum.inr (9, [Value.ref q85, Value.ref q86, Value.ref q87, Value.ref q88, Value.ref q89, Value.ref q90, Value.ref q91, Value.int s84, Value.int t84, Value.int w84, Value.int n84])) : Nat × va_E)) (f_92 : h 92 = some ((q92, Sum.inr (9, [Value.ref q93, Value.ref q94, Value.ref q95, Value.ref q96, Value.ref q97, Value.ref q98, Value.ref q99, Value.int s92, Value.int t92, Value.int w92, Value.int n92])) : Nat × va_E)) (f_100 : h 100 = some ((q100, Sum.inr (9, [Value.ref q101, Value.ref q102, Value.ref q103, Value.ref q104, Value.ref q105, Value.ref q106, Value.ref q107, Value.int s100, Value.int t100, Value.int w100, Value.int n100])) : Nat × va_E)) (f_108 : h 108 = some ((q108, Sum.inr (9, [Value.ref q109, Value.ref q110, Value.ref q111, Value.ref q112, Value.ref q113, Value.ref q114, Value.ref q115, Value.int s108, Value.int t108, Value.int w108, Value.int n108])) : Nat × va_E)) (ht5 : tys[5]? = some ((cV, FieldType.object "CommitLedgerModel$Version") : ClassId × FieldType)) : gx_Met l y_Mo_anyReader [Cond.code y_Mo_anyReader b_Mo_anyReader 5 (some .boolean)] { frames := 1, cells := 0, slots := 0, locals := 12 } (gx_P z sz D classes tys ws [Value.ref q46]) (gx_Q D classes tys (va_A ws sz) (gm_p (fun r h' => (r = Sum.inl (some (Value.int 0)) ∧ h' = h ∧ (n84 ≤ 0) ∧ (n92 ≤ 0) ∧ (n100 ≤ 0) ∧ (n108 ≤ 0)) ∨ (r = Sum.inl (some (Value.int 1)) ∧ h' = h ∧ (n84 ≤ 0) ∧ (n92 ≤ 0) ∧ (n100 ≤ 0) ∧ (¬ n108 ≤ 0)) ∨ (r = Sum.inl (some (Value.int 1)) ∧ h' = h ∧ (n84 ≤ 0) ∧ (n92 ≤ 0) ∧ (¬ n100 ≤ 0)) ∨ (r = Sum.inl (some (Value.int 1)) ∧ h' = h ∧ (n84 ≤ 0) ∧ (¬ n92 ≤ 0)) ∨ (r = Sum.inl (some (Value.int 1)) ∧ h' = h ∧ (¬ n84 ≤ 0))))) 0 0 (va_A ws sz) := by
  refine gx_ofW (cc := b_Mo_anyReader) (maxL := 5) (ret := (some .boolean)) (by decide) rfl ?_
  intro p e s m args below meth c s₁ B hml hv
  obtain ⟨rfl, hsz, hz, hP, hK, hD0, hY⟩ := hv
  have hx := B.exec
  have hb := B.bytes
  have hr := B.returns
  have hts := hY.hts (#[Value.ref q46] : Array Value)
  have hown : s.vm.findClass "CommitLedgerModel" = some m.cls := findClass_of_methodNamed B.named
  have hlocks := B.notSynchronized
  have hne : c.exceptionTable.isEmpty = true := B.noHandlers (atoms_spec (ws := [Cond.code y_Mo_anyReader b_Mo_anyReader 5 (some .boolean)]) B.pre _ List.mem_cons_self)
  subst hsz
  have hAz := gx_az hD0 hz
  have hD := hD0.self (sz := s.heap.size)
  have hN := gx_ns hP
  have hA : ∀ q : Nat, s.heap.size ≤ q → va_A ws s.heap.size q := fun q h => Or.inr h
  generalize va_A ws s.heap.size = A at hD hN hA hAz ⊢
  generalize hPQ : (fun (r : Option Value ⊕ String) (h' : gm_M) => (r = Sum.inl (some (Value.int 0)) ∧ h' = h ∧ (n84 ≤ 0) ∧ (n92 ≤ 0) ∧ (n100 ≤ 0) ∧ (n108 ≤ 0)) ∨ (r = Sum.inl (some (Value.int 1)) ∧ h' = h ∧ (n84 ≤ 0) ∧ (n92 ≤ 0) ∧ (n100 ≤ 0) ∧ (¬ n108 ≤ 0)) ∨ (r = Sum.inl (some (Value.int 1)) ∧ h' = h ∧ (n84 ≤ 0) ∧ (n92 ≤ 0) ∧ (¬ n100 ≤ 0)) ∨ (r = Sum.inl (some (Value.int 1)) ∧ h' = h ∧ (n84 ≤ 0) ∧ (¬ n92 ≤ 0)) ∨ (r = Sum.inl (some (Value.int 1)) ∧ h' = h ∧ (¬ n84 ≤ 0))) = PQ
  have Z : gz D A s.heap h s.heap [] := ⟨ws, hM, hP, hD, va_S.rf⟩
  clear hP hD hM hD0
  have hU : gm_g h h [] := gm_g.rf
  have hl := lv_entry ([Value.ref q46]) (n := 5) (Nat.le_of_ble_eq_true rfl)
  rw [lg_entry_eq]
  generalize (lg_sl ([Value.ref q46]) ++ List.replicate (5 - (lg_sl ([Value.ref q46])).length) Slot.unset).toArray = ls at hl ⊢
  have hl : lv_has ls 5 [(0, Value.ref q46)] := hl
  refine lv_aload_n hx hb d_Mo_anyReader_0 rfl (lv_at hl 0 rfl) ?_
  refine gz_get (ci := 8) (v := Value.ref q83) (C := "CommitLedgerModel") (T := F_Mo) (N := 35) hx hb hts i_Mo hown hK Z f_46 rfl 31 (by decide) kf_Mo_76 rfl d_Mo_anyReader_1 ?_
  refine lv_astore_n (lv' := [(1, Value.ref q83), (0, Value.ref q46)]) hx hb d_Mo_anyReader_4 rfl hl (by decide) rfl (fun ls hl => ?_)
  refine lv_aload_n hx hb d_Mo_anyReader_5 rfl (lv_at hl 0 rfl) ?_
  refine gz_alen (v := 4) hx hb hK Z 5 f_83 ht5 rfl d_Mo_anyReader_6 ?_
  refine lv_istore_n (lv' := [(2, Value.int 4), (1, Value.ref q83), (0, Value.ref q46)]) hx hb d_Mo_anyReader_7 rfl hl (by decide) rfl (fun ls hl => ?_)
  refine lv_iconst (v := 0) hx hb d_Mo_anyReader_8 (by decide) ?_
  refine lv_istore_n (lv' := [(3, Value.int 0), (2, Value.int 4), (1, Value.ref q83), (0, Value.ref q46)]) hx hb d_Mo_anyReader_9 rfl hl (by decide) rfl (fun ls hl => ?_)
  refine lv_iload_n hx hb d_Mo_anyReader_10 rfl (lv_at hl 0 rfl) ?_
  refine lv_iload_n hx hb d_Mo_anyReader_11 rfl (lv_at hl 1 rfl) ?_
  refine lv_icmp_ge (tgt := 36) hx hb d_Mo_anyReader_12 (by decide) (fun c9 => absurd c9 (by decide)) (fun _ => ?_)
  refine lv_aload_n hx hb d_Mo_anyReader_15 rfl (lv_at hl 2 rfl) ?_
  refine lv_iload_n hx hb d_Mo_anyReader_16 rfl (lv_at hl 0 rfl) ?_
  refine gz_aald (v := Value.ref q84) (j := 0) hx hb hK Z 5 f_83 ht5 (by decide) (by decide) (by decide) (rfl) d_Mo_anyReader_17 ?_
  refine lv_astore (lv' := [(4, Value.ref q84), (3, Value.int 0), (2, Value.int 4), (1, Value.ref q83), (0, Value.ref q46)]) hx hb d_Mo_anyReader_18 hl (by decide) rfl (fun ls hl => ?_)
  refine lv_aload hx hb d_Mo_anyReader_20 (lv_at hl 0 rfl) ?_
  refine gz_get (ci := 9) (v := Value.int n84) (C := "CommitLedgerModel$Version") (T := F_Ve) (N := 11) hx hb hts i_Ve hown hK Z f_84 rfl 10 (by decide) kf_Mo_103 rfl d_Mo_anyReader_22 ?_
  refine lv_if_le (tgt := 30) hx hb d_Mo_anyReader_25 (by decide) (fun c25_1 => ?_) (fun c25_1 => ?_)
  · refine lv_iinc (v := 1) (lv' := [(3, Value.int 1), (4, Value.ref q84), (2, Value.int 4), (1, Value.ref q83), (0, Value.ref q46)]) hx hb d_Mo_anyReader_30 hl (k := 1) rfl (by decide) (by decide) rfl (fun ls hl => ?_)
    refine lv_goto (tgt := 10) hx hb d_Mo_anyReader_33 (by decide) ?_
    refine lv_iload_n hx hb d_Mo_anyReader_10 rfl (lv_at hl 0 rfl) ?_
    refine lv_iload_n hx hb d_Mo_anyReader_11 rfl (lv_at hl 2 rfl) ?_
    refine lv_icmp_ge (tgt := 36) hx hb d_Mo_anyReader_12 (by decide) (fun c9 => absurd c9 (by decide)) (fun _ => ?_)
    refine lv_aload_n hx hb d_Mo_anyReader_15 rfl (lv_at hl 3 rfl) ?_
    refine lv_iload_n hx hb d_Mo_anyReader_16 rfl (lv_at hl 0 rfl) ?_
    refine gz_aald (v := Value.ref q92) (j := 1) hx hb hK Z 5 f_83 ht5 (by decide) (by decide) (by decide) (rfl) d_Mo_anyReader_17 ?_
    refine lv_astore (lv' := [(4, Value.ref q92), (3, Value.int 1), (2, Value.int 4), (1, Value.ref q83), (0, Value.ref q46)]) hx hb d_Mo_anyReader_18 hl (by decide) rfl (fun ls hl => ?_)
    refine lv_aload hx hb d_Mo_anyReader_20 (lv_at hl 0 rfl) ?_
    refine gz_get (ci := 9) (v := Value.int n92) (C := "CommitLedgerModel$Version") (T := F_Ve) (N := 11) hx hb hts i_Ve hown hK Z f_92 rfl 10 (by decide) kf_Mo_103 rfl d_Mo_anyReader_22 ?_
    refine lv_if_le (tgt := 30) hx hb d_Mo_anyReader_25 (by decide) (fun c25_2 => ?_) (fun c25_2 => ?_)
    · refine lv_iinc (v := 2) (lv' := [(3, Value.int 2), (4, Value.ref q92), (2, Value.int 4), (1, Value.ref q83), (0, Value.ref q46)]) hx hb d_Mo_anyReader_30 hl (k := 1) rfl (by decide) (by decide) rfl (fun ls hl => ?_)
      refine lv_goto (tgt := 10) hx hb d_Mo_anyReader_33 (by decide) ?_
      refine lv_iload_n hx hb d_Mo_anyReader_10 rfl (lv_at hl 0 rfl) ?_
      refine lv_iload_n hx hb d_Mo_anyReader_11 rfl (lv_at hl 2 rfl) ?_
      refine lv_icmp_ge (tgt := 36) hx hb d_Mo_anyReader_12 (by decide) (fun c9 => absurd c9 (by decide)) (fun _ => ?_)
      refine lv_aload_n hx hb d_Mo_anyReader_15 rfl (lv_at hl 3 rfl) ?_
      refine lv_iload_n hx hb d_Mo_anyReader_16 rfl (lv_at hl 0 rfl) ?_
      refine gz_aald (v := Value.ref q100) (j := 2) hx hb hK Z 5 f_83 ht5 (by decide) (by decide) (by decide) (rfl) d_Mo_anyReader_17 ?_
      refine lv_astore (lv' := [(4, Value.ref q100), (3, Value.int 2), (2, Value.int 4), (1, Value.ref q83), (0, Value.ref q46)]) hx hb d_Mo_anyReader_18 hl (by decide) rfl (fun ls hl => ?_)
      refine lv_aload hx hb d_Mo_anyReader_20 (lv_at hl 0 rfl) ?_
      refine gz_get (ci := 9) (v := Value.int n100) (C := "CommitLedgerModel$Version") (T := F_Ve) (N := 11) hx hb hts i_Ve hown hK Z f_100 rfl 10 (by decide) kf_Mo_103 rfl d_Mo_anyReader_22 ?_
      refine lv_if_le (tgt := 30) hx hb d_Mo_anyReader_25 (by decide) (fun c25_3 => ?_) (fun c25_3 => ?_)
      · refine lv_iinc (v := 3) (lv' := [(3, Value.int 3), (4, Value.ref q100), (2, Value.int 4), (1, Value.ref q83), (0, Value.ref q46)]) hx hb d_Mo_anyReader_30 hl (k := 1) rfl (by decide) (by decide) rfl (fun ls hl => ?_)
        refine lv_goto (tgt := 10) hx hb d_Mo_anyReader_33 (by decide) ?_
        refine lv_iload_n hx hb d_Mo_anyReader_10 rfl (lv_at hl 0 rfl) ?_
        refine lv_iload_n hx hb d_Mo_anyReader_11 rfl (lv_at hl 2 rfl) ?_
        refine lv_icmp_ge (tgt := 36) hx hb d_Mo_anyReader_12 (by decide) (fun c9 => absurd c9 (by decide)) (fun _ => ?_)
        refine lv_aload_n hx hb d_Mo_anyReader_15 rfl (lv_at hl 3 rfl) ?_
        refine lv_iload_n hx hb d_Mo_anyReader_16 rfl (lv_at hl 0 rfl) ?_
        refine gz_aald (v := Value.ref q108) (j := 3) hx hb hK Z 5 f_83 ht5 (by decide) (by decide) (by decide) (rfl) d_Mo_anyReader_17 ?_
        refine lv_astore (lv' := [(4, Value.ref q108), (3, Value.int 3), (2, Value.int 4), (1, Value.ref q83), (0, Value.ref q46)]) hx hb d_Mo_anyReader_18 hl (by decide) rfl (fun ls hl => ?_)
        refine lv_aload hx hb d_Mo_anyReader_20 (lv_at hl 0 rfl) ?_
        refine gz_get (ci := 9) (v := Value.int n108) (C := "CommitLedgerModel$Version") (T := F_Ve) (N := 11) hx hb hts i_Ve hown hK Z f_108 rfl 10 (by decide) kf_Mo_103 rfl d_Mo_anyReader_22 ?_
        refine lv_if_le (tgt := 30) hx hb d_Mo_anyReader_25 (by decide) (fun c25_4 => ?_) (fun c25_4 => ?_)
        · refine lv_iinc (v := 4) (lv' := [(3, Value.int 4), (4, Value.ref q108), (2, Value.int 4), (1, Value.ref q83), (0, Value.ref q46)]) hx hb d_Mo_anyReader_30 hl (k := 1) rfl (by decide) (by decide) rfl (fun ls hl => ?_)
          refine lv_goto (tgt := 10) hx hb d_Mo_anyReader_33 (by decide) ?_
          refine lv_iload_n hx hb d_Mo_anyReader_10 rfl (lv_at hl 0 rfl) ?_
          refine lv_iload_n hx hb d_Mo_anyReader_11 rfl (lv_at hl 2 rfl) ?_
          refine lv_icmp_ge (tgt := 36) hx hb d_Mo_anyReader_12 (by decide) (fun _ => ?_) (fun c9 => absurd (by decide) c9)
          refine lv_iconst (v := 0) hx hb d_Mo_anyReader_36 (by decide) ?_
          exact gz_zret (v := 0) hx hb hr hlocks hK Z (by decide) (by decide) (rfl) (by rw [← hPQ]; exact Or.inl ⟨rfl, rfl, c25_1, c25_2, c25_3, c25_4⟩) d_Mo_anyReader_37
        · refine lv_iconst (v := 1) hx hb d_Mo_anyReader_28 (by decide) ?_
          exact gz_zret (v := 1) hx hb hr hlocks hK Z (by decide) (by decide) (rfl) (by rw [← hPQ]; exact Or.inr (Or.inl ⟨rfl, rfl, c25_1, c25_2, c25_3, c25_4⟩)) d_Mo_anyReader_29
      · refine lv_iconst (v := 1) hx hb d_Mo_anyReader_28 (by decide) ?_
        exact gz_zret (v := 1) hx hb hr hlocks hK Z (by decide) (by decide) (rfl) (by rw [← hPQ]; exact Or.inr (Or.inr (Or.inl ⟨rfl, rfl, c25_1, c25_2, c25_3⟩))) d_Mo_anyReader_29
    · refine lv_iconst (v := 1) hx hb d_Mo_anyReader_28 (by decide) ?_
      exact gz_zret (v := 1) hx hb hr hlocks hK Z (by decide) (by decide) (rfl) (by rw [← hPQ]; exact Or.inr (Or.inr (Or.inr (Or.inl ⟨rfl, rfl, c25_1, c25_2⟩)))) d_Mo_anyReader_29
  · refine lv_iconst (v := 1) hx hb d_Mo_anyReader_28 (by decide) ?_
    exact gz_zret (v := 1) hx hb hr hlocks hK Z (by decide) (by decide) (rfl) (by rw [← hPQ]; exact Or.inr (Or.inr (Or.inr (Or.inr (⟨rfl, rfl, c25_1⟩))))) d_Mo_anyReader_29

set_option maxHeartbeats 4000000 in
set_option maxRecDepth 100000 in
theorem k_Mo_done_0 (l : Launch) (htr : l.stackTraces = false) (D : va_G) (tys : List (ClassId × FieldType)) (z sz : Nat) (ws : va_W) (h : gm_M) (hM : gm_S h ws) (q46 : Nat) (q47 : Nat) (q48 : Nat) (q49 : Nat) (q50 : Nat) (q51 : Nat) (q52 : Nat) (q53 : Nat) (q54 : Nat) (q62 : Nat) (q70 : Nat) (q78 : Nat) (q79 : Nat) (q80 : Nat) (q81 : Nat) (q82 : Nat) (q83 : Nat) (um : Value) (m_error : Int32) (m_thrown : Int32) (m_docs : Int32) (m_filesThere : Int32) (m_files : Int32) (m_actions : Int32) (m_power : Int32) (m_lost : Int32) (m_open : Int32) (m_isPrepared : Int32) (m_generation : Int32) (m_buffered : Int32) (m_limit : Int32) (m_factor : Int32) (m_merges : Int32) (m_opened : Int32) (m_chosenMany : Int32) (m_begun : Int32) (p1 : Int32) (f_46 : h 46 = some ((q46, Sum.inr (8, [Value.int m_error, Value.int m_thrown, Value.ref q47, Value.ref q48, Value.ref q49, Value.int m_docs, Value.ref q50, Value.ref q51, Value.ref q52, Value.ref q53, Value.int m_filesThere, Value.int m_files, Value.int m_actions, Value.int m_power, Value.int m_lost, Value.ref q54, Value.ref q62, Value.ref q70, Value.int m_open, Value.int m_isPrepared, Value.int m_generation, Value.ref q78, Value.ref q79, Value.int m_buffered, Value.int m_limit, Value.int m_factor, um, Value.ref q80, Value.ref q81, Value.ref q82, Value.int m_merges, Value.ref q83, Value.int m_opened, Value.int m_chosenMany, Value.int m_begun])) : Nat × va_E)) : gx_Met l y_Mo_done [Cond.code y_Mo_done b_Mo_done 6 (some .int)] { frames := 1, cells := 0, slots := 0, locals := 12 } (gx_P z sz D classes tys ws [Value.ref q46, Value.int p1, Value.int 0]) (gx_Q D classes tys (va_A ws sz) (gm_p (fun r h' => (r = Sum.inl (some (Value.int p1)) ∧ gm_g h h' [46] ∧ h' 46 = some ((q46, Sum.inr (8, [Value.int 0, Value.int 0, Value.ref q47, Value.ref q48, Value.ref q49, Value.int m_docs, Value.ref q50, Value.ref q51, Value.ref q52, Value.ref q53, Value.int m_filesThere, Value.int m_files, Value.int m_actions, Value.int m_power, Value.int m_lost, Value.ref q54, Value.ref q62, Value.ref q70, Value.int m_open, Value.int m_isPrepared, Value.int m_generation, Value.ref q78, Value.ref q79, Value.int m_buffered, Value.int m_limit, Value.int m_factor, um, Value.ref q80, Value.ref q81, Value.ref q82, Value.int m_merges, Value.ref q83, Value.int m_opened, Value.int m_chosenMany, Value.int m_begun])) : Nat × va_E))))) 0 0 (va_A ws sz) := by
  refine gx_ofW (cc := b_Mo_done) (maxL := 6) (ret := (some .int)) (by decide) rfl ?_
  intro p e s m args below meth c s₁ B hml hv
  obtain ⟨rfl, hsz, hz, hP, hK, hD0, hY⟩ := hv
  have hx := B.exec
  have hb := B.bytes
  have hr := B.returns
  have hts := hY.hts (#[Value.ref q46, Value.int p1, Value.int 0] : Array Value)
  have hown : s.vm.findClass "CommitLedgerModel" = some m.cls := findClass_of_methodNamed B.named
  have hlocks := B.notSynchronized
  have hne : c.exceptionTable.isEmpty = true := B.noHandlers (atoms_spec (ws := [Cond.code y_Mo_done b_Mo_done 6 (some .int)]) B.pre _ List.mem_cons_self)
  subst hsz
  have hAz := gx_az hD0 hz
  have hD := hD0.self (sz := s.heap.size)
  have hN := gx_ns hP
  have hA : ∀ q : Nat, s.heap.size ≤ q → va_A ws s.heap.size q := fun q h => Or.inr h
  generalize va_A ws s.heap.size = A at hD hN hA hAz ⊢
  generalize hPQ : (fun (r : Option Value ⊕ String) (h' : gm_M) => (r = Sum.inl (some (Value.int p1)) ∧ gm_g h h' [46] ∧ h' 46 = some ((q46, Sum.inr (8, [Value.int 0, Value.int 0, Value.ref q47, Value.ref q48, Value.ref q49, Value.int m_docs, Value.ref q50, Value.ref q51, Value.ref q52, Value.ref q53, Value.int m_filesThere, Value.int m_files, Value.int m_actions, Value.int m_power, Value.int m_lost, Value.ref q54, Value.ref q62, Value.ref q70, Value.int m_open, Value.int m_isPrepared, Value.int m_generation, Value.ref q78, Value.ref q79, Value.int m_buffered, Value.int m_limit, Value.int m_factor, um, Value.ref q80, Value.ref q81, Value.ref q82, Value.int m_merges, Value.ref q83, Value.int m_opened, Value.int m_chosenMany, Value.int m_begun])) : Nat × va_E))) = PQ
  have Z : gz D A s.heap h s.heap [] := ⟨ws, hM, hP, hD, va_S.rf⟩
  clear hP hD hM hD0
  have hU : gm_g h h [46] := gm_g.rf
  have hl := lv_entry ([Value.ref q46, Value.int p1, Value.int 0]) (n := 6) (Nat.le_of_ble_eq_true rfl)
  rw [lg_entry_eq]
  generalize (lg_sl ([Value.ref q46, Value.int p1, Value.int 0]) ++ List.replicate (6 - (lg_sl ([Value.ref q46, Value.int p1, Value.int 0])).length) Slot.unset).toArray = ls at hl ⊢
  have hl : lv_has ls 6 [(0, Value.ref q46), (1, Value.int p1), (2, Value.int 0)] := hl
  refine lv_aload_n hx hb d_Mo_done_0 rfl (lv_at hl 0 rfl) ?_
  refine lv_iconst (v := 0) hx hb d_Mo_done_1 (by decide) ?_
  refine gz_put (ci := 8) (v := Value.int 0) (ty := .int) (C := "CommitLedgerModel") (T := F_Mo) (N := 35) hx hb hts i_Mo t_Mo_ok n_Mo hown hK Z f_46 rfl 1 (by decide) kf_Mo_80 rfl (by decide +kernel) rfl rfl (Nat.le_of_ble_eq_true rfl) d_Mo_done_2 (fun H locs Z => ?_)
  obtain ⟨h1, e_h1⟩ : ∃ z9 : gm_M, z9 = gm_up h 46 ((q46, Sum.inr (8, [Value.int m_error, Value.int 0, Value.ref q47, Value.ref q48, Value.ref q49, Value.int m_docs, Value.ref q50, Value.ref q51, Value.ref q52, Value.ref q53, Value.int m_filesThere, Value.int m_files, Value.int m_actions, Value.int m_power, Value.int m_lost, Value.ref q54, Value.ref q62, Value.ref q70, Value.int m_open, Value.int m_isPrepared, Value.int m_generation, Value.ref q78, Value.ref q79, Value.int m_buffered, Value.int m_limit, Value.int m_factor, um, Value.ref q80, Value.ref q81, Value.ref q82, Value.int m_merges, Value.ref q83, Value.int m_opened, Value.int m_chosenMany, Value.int m_begun])) : Nat × va_E) := ⟨_, rfl⟩
  replace Z : gz D A s.heap h1 H locs := by rw [e_h1]; exact Z
  have f_46_h1 : h1 46 = some ((q46, Sum.inr (8, [Value.int m_error, Value.int 0, Value.ref q47, Value.ref q48, Value.ref q49, Value.int m_docs, Value.ref q50, Value.ref q51, Value.ref q52, Value.ref q53, Value.int m_filesThere, Value.int m_files, Value.int m_actions, Value.int m_power, Value.int m_lost, Value.ref q54, Value.ref q62, Value.ref q70, Value.int m_open, Value.int m_isPrepared, Value.int m_generation, Value.ref q78, Value.ref q79, Value.int m_buffered, Value.int m_limit, Value.int m_factor, um, Value.ref q80, Value.ref q81, Value.ref q82, Value.int m_merges, Value.ref q83, Value.int m_opened, Value.int m_chosenMany, Value.int m_begun])) : Nat × va_E) := by rw [e_h1]; exact gm_self
  replace hU : gm_g h h1 [46] := by rw [e_h1]; exact hU.put (by simp)
  refine lv_iconst (v := 0) hx hb d_Mo_done_5 (by decide) ?_
  refine lv_istore_n (lv' := [(3, Value.int 0), (0, Value.ref q46), (1, Value.int p1), (2, Value.int 0)]) hx hb d_Mo_done_6 rfl hl (by decide) rfl (fun ls hl => ?_)
  refine lv_ldc (v := 100000) hx hb hown (hts _ ki_Mo_83) d_Mo_done_7 ?_
  refine lv_istore (lv' := [(4, Value.int 100000), (3, Value.int 0), (0, Value.ref q46), (1, Value.int p1), (2, Value.int 0)]) hx hb d_Mo_done_9 hl (by decide) rfl (fun ls hl => ?_)
  refine lv_iload hx hb d_Mo_done_11 (lv_at hl 0 rfl) ?_
  refine lv_if_le (tgt := 60) hx hb d_Mo_done_13 (by decide) (fun c9 => absurd c9 (by decide)) (fun _ => ?_)
  refine lv_iload_n hx hb d_Mo_done_16 rfl (lv_at hl 4 rfl) ?_
  refine lv_iload hx hb d_Mo_done_17 (lv_at hl 0 rfl) ?_
  refine lv_idiv hx hb d_Mo_done_19 (by decide) ?_
  refine gx_topi (y := 0) (by decide) ?_
  refine lv_bipush (v := 10) hx hb d_Mo_done_20 (by decide) ?_
  refine lv_irem hx hb d_Mo_done_22 (by decide) ?_
  refine gx_topi (y := 0) (by decide) ?_
  refine lv_istore (lv' := [(5, Value.int 0), (4, Value.int 100000), (3, Value.int 0), (0, Value.ref q46), (1, Value.int p1), (2, Value.int 0)]) hx hb d_Mo_done_23 hl (by decide) rfl (fun ls hl => ?_)
  refine lv_iload hx hb d_Mo_done_25 (lv_at hl 0 rfl) ?_
  refine lv_if_ne (tgt := 33) hx hb d_Mo_done_27 (by decide) (fun c9 => absurd (by decide) c9) (fun _ => ?_)
  refine lv_goto (tgt := 50) hx hb d_Mo_done_30 (by decide) ?_
  refine lv_iload hx hb d_Mo_done_50 (lv_at hl 1 rfl) ?_
  refine lv_bipush (v := 10) hx hb d_Mo_done_52 (by decide) ?_
  refine lv_idiv hx hb d_Mo_done_54 (by decide) ?_
  refine gx_topi (y := 10000) (by decide) ?_
  refine lv_istore (lv' := [(4, Value.int 10000), (5, Value.int 0), (3, Value.int 0), (0, Value.ref q46), (1, Value.int p1), (2, Value.int 0)]) hx hb d_Mo_done_55 hl (by decide) rfl (fun ls hl => ?_)
  refine lv_goto (tgt := 11) hx hb d_Mo_done_57 (by decide) ?_
  refine lv_iload hx hb d_Mo_done_11 (lv_at hl 0 rfl) ?_
  refine lv_if_le (tgt := 60) hx hb d_Mo_done_13 (by decide) (fun c9 => absurd c9 (by decide)) (fun _ => ?_)
  refine lv_iload_n hx hb d_Mo_done_16 rfl (lv_at hl 5 rfl) ?_
  refine lv_iload hx hb d_Mo_done_17 (lv_at hl 0 rfl) ?_
  refine lv_idiv hx hb d_Mo_done_19 (by decide) ?_
  refine gx_topi (y := 0) (by decide) ?_
  refine lv_bipush (v := 10) hx hb d_Mo_done_20 (by decide) ?_
  refine lv_irem hx hb d_Mo_done_22 (by decide) ?_
  refine gx_topi (y := 0) (by decide) ?_
  refine lv_istore (lv' := [(5, Value.int 0), (4, Value.int 10000), (3, Value.int 0), (0, Value.ref q46), (1, Value.int p1), (2, Value.int 0)]) hx hb d_Mo_done_23 hl (by decide) rfl (fun ls hl => ?_)
  refine lv_iload hx hb d_Mo_done_25 (lv_at hl 0 rfl) ?_
  refine lv_if_ne (tgt := 33) hx hb d_Mo_done_27 (by decide) (fun c9 => absurd (by decide) c9) (fun _ => ?_)
  refine lv_goto (tgt := 50) hx hb d_Mo_done_30 (by decide) ?_
  refine lv_iload hx hb d_Mo_done_50 (lv_at hl 1 rfl) ?_
  refine lv_bipush (v := 10) hx hb d_Mo_done_52 (by decide) ?_
  refine lv_idiv hx hb d_Mo_done_54 (by decide) ?_
  refine gx_topi (y := 1000) (by decide) ?_
  refine lv_istore (lv' := [(4, Value.int 1000), (5, Value.int 0), (3, Value.int 0), (0, Value.ref q46), (1, Value.int p1), (2, Value.int 0)]) hx hb d_Mo_done_55 hl (by decide) rfl (fun ls hl => ?_)
  refine lv_goto (tgt := 11) hx hb d_Mo_done_57 (by decide) ?_
  refine lv_iload hx hb d_Mo_done_11 (lv_at hl 0 rfl) ?_
  refine lv_if_le (tgt := 60) hx hb d_Mo_done_13 (by decide) (fun c9 => absurd c9 (by decide)) (fun _ => ?_)
  refine lv_iload_n hx hb d_Mo_done_16 rfl (lv_at hl 5 rfl) ?_
  refine lv_iload hx hb d_Mo_done_17 (lv_at hl 0 rfl) ?_
  refine lv_idiv hx hb d_Mo_done_19 (by decide) ?_
  refine gx_topi (y := 0) (by decide) ?_
  refine lv_bipush (v := 10) hx hb d_Mo_done_20 (by decide) ?_
  refine lv_irem hx hb d_Mo_done_22 (by decide) ?_
  refine gx_topi (y := 0) (by decide) ?_
  refine lv_istore (lv' := [(5, Value.int 0), (4, Value.int 1000), (3, Value.int 0), (0, Value.ref q46), (1, Value.int p1), (2, Value.int 0)]) hx hb d_Mo_done_23 hl (by decide) rfl (fun ls hl => ?_)
  refine lv_iload hx hb d_Mo_done_25 (lv_at hl 0 rfl) ?_
  refine lv_if_ne (tgt := 33) hx hb d_Mo_done_27 (by decide) (fun c9 => absurd (by decide) c9) (fun _ => ?_)
  refine lv_goto (tgt := 50) hx hb d_Mo_done_30 (by decide) ?_
  refine lv_iload hx hb d_Mo_done_50 (lv_at hl 1 rfl) ?_
  refine lv_bipush (v := 10) hx hb d_Mo_done_52 (by decide) ?_
  refine lv_idiv hx hb d_Mo_done_54 (by decide) ?_
  refine gx_topi (y := 100) (by decide) ?_
  refine lv_istore (lv' := [(4, Value.int 100), (5, Value.int 0), (3, Value.int 0), (0, Value.ref q46), (1, Value.int p1), (2, Value.int 0)]) hx hb d_Mo_done_55 hl (by decide) rfl (fun ls hl => ?_)
  refine lv_goto (tgt := 11) hx hb d_Mo_done_57 (by decide) ?_
  refine lv_iload hx hb d_Mo_done_11 (lv_at hl 0 rfl) ?_
  refine lv_if_le (tgt := 60) hx hb d_Mo_done_13 (by decide) (fun c9 => absurd c9 (by decide)) (fun _ => ?_)
  refine lv_iload_n hx hb d_Mo_done_16 rfl (lv_at hl 5 rfl) ?_
  refine lv_iload hx hb d_Mo_done_17 (lv_at hl 0 rfl) ?_
  refine lv_idiv hx hb d_Mo_done_19 (by decide) ?_
  refine gx_topi (y := 0) (by decide) ?_
  refine lv_bipush (v := 10) hx hb d_Mo_done_20 (by decide) ?_
  refine lv_irem hx hb d_Mo_done_22 (by decide) ?_
  refine gx_topi (y := 0) (by decide) ?_
  refine lv_istore (lv' := [(5, Value.int 0), (4, Value.int 100), (3, Value.int 0), (0, Value.ref q46), (1, Value.int p1), (2, Value.int 0)]) hx hb d_Mo_done_23 hl (by decide) rfl (fun ls hl => ?_)
  refine lv_iload hx hb d_Mo_done_25 (lv_at hl 0 rfl) ?_
  refine lv_if_ne (tgt := 33) hx hb d_Mo_done_27 (by decide) (fun c9 => absurd (by decide) c9) (fun _ => ?_)
  refine lv_goto (tgt := 50) hx hb d_Mo_done_30 (by decide) ?_
  refine lv_iload hx hb d_Mo_done_50 (lv_at hl 1 rfl) ?_
  refine lv_bipush (v := 10) hx hb d_Mo_done_52 (by decide) ?_
  refine lv_idiv hx hb d_Mo_done_54 (by decide) ?_
  refine gx_topi (y := 10) (by decide) ?_
  refine lv_istore (lv' := [(4, Value.int 10), (5, Value.int 0), (3, Value.int 0), (0, Value.ref q46), (1, Value.int p1), (2, Value.int 0)]) hx hb d_Mo_done_55 hl (by decide) rfl (fun ls hl => ?_)
  refine lv_goto (tgt := 11) hx hb d_Mo_done_57 (by decide) ?_
  refine lv_iload hx hb d_Mo_done_11 (lv_at hl 0 rfl) ?_
  refine lv_if_le (tgt := 60) hx hb d_Mo_done_13 (by decide) (fun c9 => absurd c9 (by decide)) (fun _ => ?_)
  refine lv_iload_n hx hb d_Mo_done_16 rfl (lv_at hl 5 rfl) ?_
  refine lv_iload hx hb d_Mo_done_17 (lv_at hl 0 rfl) ?_
  refine lv_idiv hx hb d_Mo_done_19 (by decide) ?_
  refine gx_topi (y := 0) (by decide) ?_
  refine lv_bipush (v := 10) hx hb d_Mo_done_20 (by decide) ?_
  refine lv_irem hx hb d_Mo_done_22 (by decide) ?_
  refine gx_topi (y := 0) (by decide) ?_
  refine lv_istore (lv' := [(5, Value.int 0), (4, Value.int 10), (3, Value.int 0), (0, Value.ref q46), (1, Value.int p1), (2, Value.int 0)]) hx hb d_Mo_done_23 hl (by decide) rfl (fun ls hl => ?_)
  refine lv_iload hx hb d_Mo_done_25 (lv_at hl 0 rfl) ?_
  refine lv_if_ne (tgt := 33) hx hb d_Mo_done_27 (by decide) (fun c9 => absurd (by decide) c9) (fun _ => ?_)
  refine lv_goto (tgt := 50) hx hb d_Mo_done_30 (by decide) ?_
  refine lv_iload hx hb d_Mo_done_50 (lv_at hl 1 rfl) ?_
  refine lv_bipush (v := 10) hx hb d_Mo_done_52 (by decide) ?_
  refine lv_idiv hx hb d_Mo_done_54 (by decide) ?_
  refine gx_topi (y := 1) (by decide) ?_
  refine lv_istore (lv' := [(4, Value.int 1), (5, Value.int 0), (3, Value.int 0), (0, Value.ref q46), (1, Value.int p1), (2, Value.int 0)]) hx hb d_Mo_done_55 hl (by decide) rfl (fun ls hl => ?_)
  refine lv_goto (tgt := 11) hx hb d_Mo_done_57 (by decide) ?_
  refine lv_iload hx hb d_Mo_done_11 (lv_at hl 0 rfl) ?_
  refine lv_if_le (tgt := 60) hx hb d_Mo_done_13 (by decide) (fun c9 => absurd c9 (by decide)) (fun _ => ?_)
  refine lv_iload_n hx hb d_Mo_done_16 rfl (lv_at hl 5 rfl) ?_
  refine lv_iload hx hb d_Mo_done_17 (lv_at hl 0 rfl) ?_
  refine lv_idiv hx hb d_Mo_done_19 (by decide) ?_
  refine gx_topi (y := 0) (by decide) ?_
  refine lv_bipush (v := 10) hx hb d_Mo_done_20 (by decide) ?_
  refine lv_irem hx hb d_Mo_done_22 (by decide) ?_
  refine gx_topi (y := 0) (by decide) ?_
  refine lv_istore (lv' := [(5, Value.int 0), (4, Value.int 1), (3, Value.int 0), (0, Value.ref q46), (1, Value.int p1), (2, Value.int 0)]) hx hb d_Mo_done_23 hl (by decide) rfl (fun ls hl => ?_)
  refine lv_iload hx hb d_Mo_done_25 (lv_at hl 0 rfl) ?_
  refine lv_if_ne (tgt := 33) hx hb d_Mo_done_27 (by decide) (fun c9 => absurd (by decide) c9) (fun _ => ?_)
  refine lv_goto (tgt := 50) hx hb d_Mo_done_30 (by decide) ?_
  refine lv_iload hx hb d_Mo_done_50 (lv_at hl 1 rfl) ?_
  refine lv_bipush (v := 10) hx hb d_Mo_done_52 (by decide) ?_
  refine lv_idiv hx hb d_Mo_done_54 (by decide) ?_
  refine gx_topi (y := 0) (by decide) ?_
  refine lv_istore (lv' := [(4, Value.int 0), (5, Value.int 0), (3, Value.int 0), (0, Value.ref q46), (1, Value.int p1), (2, Value.int 0)]) hx hb d_Mo_done_55 hl (by decide) rfl (fun ls hl => ?_)
  refine lv_goto (tgt := 11) hx hb d_Mo_done_57 (by decide) ?_
  refine lv_iload hx hb d_Mo_done_11 (lv_at hl 0 rfl) ?_
  refine lv_if_le (tgt := 60) hx hb d_Mo_done_13 (by decide) (fun _ => ?_) (fun c9 => absurd (by decide) c9)
  refine lv_aload_n hx hb d_Mo_done_60 rfl (lv_at hl 3 rfl) ?_
  refine lv_iconst (v := 0) hx hb d_Mo_done_61 (by decide) ?_
  refine gz_put (ci := 8) (v := Value.int 0) (ty := .int) (C := "CommitLedgerModel") (T := F_Mo) (N := 35) hx hb hts i_Mo t_Mo_ok n_Mo hown hK Z f_46_h1 rfl 0 (by decide) kf_Mo_84 rfl (by decide +kernel) rfl rfl (Nat.le_of_ble_eq_true rfl) d_Mo_done_62 (fun H locs Z => ?_)
  obtain ⟨h2, e_h2⟩ : ∃ z9 : gm_M, z9 = gm_up h1 46 ((q46, Sum.inr (8, [Value.int 0, Value.int 0, Value.ref q47, Value.ref q48, Value.ref q49, Value.int m_docs, Value.ref q50, Value.ref q51, Value.ref q52, Value.ref q53, Value.int m_filesThere, Value.int m_files, Value.int m_actions, Value.int m_power, Value.int m_lost, Value.ref q54, Value.ref q62, Value.ref q70, Value.int m_open, Value.int m_isPrepared, Value.int m_generation, Value.ref q78, Value.ref q79, Value.int m_buffered, Value.int m_limit, Value.int m_factor, um, Value.ref q80, Value.ref q81, Value.ref q82, Value.int m_merges, Value.ref q83, Value.int m_opened, Value.int m_chosenMany, Value.int m_begun])) : Nat × va_E) := ⟨_, rfl⟩
  replace Z : gz D A s.heap h2 H locs := by rw [e_h2]; exact Z
  have f_46_h2 : h2 46 = some ((q46, Sum.inr (8, [Value.int 0, Value.int 0, Value.ref q47, Value.ref q48, Value.ref q49, Value.int m_docs, Value.ref q50, Value.ref q51, Value.ref q52, Value.ref q53, Value.int m_filesThere, Value.int m_files, Value.int m_actions, Value.int m_power, Value.int m_lost, Value.ref q54, Value.ref q62, Value.ref q70, Value.int m_open, Value.int m_isPrepared, Value.int m_generation, Value.ref q78, Value.ref q79, Value.int m_buffered, Value.int m_limit, Value.int m_factor, um, Value.ref q80, Value.ref q81, Value.ref q82, Value.int m_merges, Value.ref q83, Value.int m_opened, Value.int m_chosenMany, Value.int m_begun])) : Nat × va_E) := by rw [e_h2]; exact gm_self
  replace hU : gm_g h h2 [46] := by rw [e_h2]; exact hU.put (by simp)
  refine lv_aload_n hx hb d_Mo_done_65 rfl (lv_at hl 3 rfl) ?_
  refine gz_get (ci := 8) (v := Value.int 0) (C := "CommitLedgerModel") (T := F_Mo) (N := 35) hx hb hts i_Mo hown hK Z f_46_h2 rfl 1 (by decide) kf_Mo_80 rfl d_Mo_done_66 ?_
  refine lv_if_le (tgt := 76) hx hb d_Mo_done_69 (by decide) (fun _ => ?_) (fun c9 => absurd (by decide) c9)
  refine lv_iload_n hx hb d_Mo_done_76 rfl (lv_at hl 4 rfl) ?_
  exact gz_iret (v := p1) hx hb hr hlocks hK Z (by decide) (by decide) (by rw [← hPQ]; exact ⟨rfl, hU, f_46_h2⟩) d_Mo_done_77

set_option maxHeartbeats 4000000 in
set_option maxRecDepth 100000 in
theorem k_Mo_done_1 (l : Launch) (htr : l.stackTraces = false) (D : va_G) (tys : List (ClassId × FieldType)) (z sz : Nat) (ws : va_W) (h : gm_M) (hM : gm_S h ws) (q46 : Nat) (q47 : Nat) (q48 : Nat) (q49 : Nat) (q50 : Nat) (q51 : Nat) (q52 : Nat) (q53 : Nat) (q54 : Nat) (q62 : Nat) (q70 : Nat) (q78 : Nat) (q79 : Nat) (q80 : Nat) (q81 : Nat) (q82 : Nat) (q83 : Nat) (um : Value) (m_error : Int32) (m_thrown : Int32) (m_docs : Int32) (m_filesThere : Int32) (m_files : Int32) (m_actions : Int32) (m_power : Int32) (m_lost : Int32) (m_open : Int32) (m_isPrepared : Int32) (m_generation : Int32) (m_buffered : Int32) (m_limit : Int32) (m_factor : Int32) (m_merges : Int32) (m_opened : Int32) (m_chosenMany : Int32) (m_begun : Int32) (p1 : Int32) (f_46 : h 46 = some ((q46, Sum.inr (8, [Value.int m_error, Value.int m_thrown, Value.ref q47, Value.ref q48, Value.ref q49, Value.int m_docs, Value.ref q50, Value.ref q51, Value.ref q52, Value.ref q53, Value.int m_filesThere, Value.int m_files, Value.int m_actions, Value.int m_power, Value.int m_lost, Value.ref q54, Value.ref q62, Value.ref q70, Value.int m_open, Value.int m_isPrepared, Value.int m_generation, Value.ref q78, Value.ref q79, Value.int m_buffered, Value.int m_limit, Value.int m_factor, um, Value.ref q80, Value.ref q81, Value.ref q82, Value.int m_merges, Value.ref q83, Value.int m_opened, Value.int m_chosenMany, Value.int m_begun])) : Nat × va_E)) : gx_Met l y_Mo_done [Cond.code y_Mo_done b_Mo_done 6 (some .int)] { frames := 1, cells := 0, slots := 0, locals := 12 } (gx_P z sz D classes tys ws [Value.ref q46, Value.int p1, Value.int 1]) (gx_Q D classes tys (va_A ws sz) (gm_p (fun r h' => (r = Sum.inl (some (Value.int p1)) ∧ gm_g h h' [46] ∧ h' 46 = some ((q46, Sum.inr (8, [Value.int 0, Value.int 0, Value.ref q47, Value.ref q48, Value.ref q49, Value.int m_docs, Value.ref q50, Value.ref q51, Value.ref q52, Value.ref q53, Value.int m_filesThere, Value.int m_files, Value.int m_actions, Value.int m_power, Value.int m_lost, Value.ref q54, Value.ref q62, Value.ref q70, Value.int m_open, Value.int m_isPrepared, Value.int m_generation, Value.ref q78, Value.ref q79, Value.int m_buffered, Value.int m_limit, Value.int m_factor, um, Value.ref q80, Value.ref q81, Value.ref q82, Value.int m_merges, Value.ref q83, Value.int m_opened, Value.int m_chosenMany, Value.int m_begun])) : Nat × va_E) ∧ (¬ 1 = m_error)) ∨ (r = Sum.inl (some (Value.int 0)) ∧ gm_g h h' [46] ∧ h' 46 = some ((q46, Sum.inr (8, [Value.int 0, Value.int 1, Value.ref q47, Value.ref q48, Value.ref q49, Value.int m_docs, Value.ref q50, Value.ref q51, Value.ref q52, Value.ref q53, Value.int m_filesThere, Value.int m_files, Value.int m_actions, Value.int m_power, Value.int m_lost, Value.ref q54, Value.ref q62, Value.ref q70, Value.int m_open, Value.int m_isPrepared, Value.int m_generation, Value.ref q78, Value.ref q79, Value.int m_buffered, Value.int m_limit, Value.int m_factor, um, Value.ref q80, Value.ref q81, Value.ref q82, Value.int m_merges, Value.ref q83, Value.int m_opened, Value.int m_chosenMany, Value.int m_begun])) : Nat × va_E) ∧ (1 = m_error))))) 0 0 (va_A ws sz) := by
  refine gx_ofW (cc := b_Mo_done) (maxL := 6) (ret := (some .int)) (by decide) rfl ?_
  intro p e s m args below meth c s₁ B hml hv
  obtain ⟨rfl, hsz, hz, hP, hK, hD0, hY⟩ := hv
  have hx := B.exec
  have hb := B.bytes
  have hr := B.returns
  have hts := hY.hts (#[Value.ref q46, Value.int p1, Value.int 1] : Array Value)
  have hown : s.vm.findClass "CommitLedgerModel" = some m.cls := findClass_of_methodNamed B.named
  have hlocks := B.notSynchronized
  have hne : c.exceptionTable.isEmpty = true := B.noHandlers (atoms_spec (ws := [Cond.code y_Mo_done b_Mo_done 6 (some .int)]) B.pre _ List.mem_cons_self)
  subst hsz
  have hAz := gx_az hD0 hz
  have hD := hD0.self (sz := s.heap.size)
  have hN := gx_ns hP
  have hA : ∀ q : Nat, s.heap.size ≤ q → va_A ws s.heap.size q := fun q h => Or.inr h
  generalize va_A ws s.heap.size = A at hD hN hA hAz ⊢
  generalize hPQ : (fun (r : Option Value ⊕ String) (h' : gm_M) => (r = Sum.inl (some (Value.int p1)) ∧ gm_g h h' [46] ∧ h' 46 = some ((q46, Sum.inr (8, [Value.int 0, Value.int 0, Value.ref q47, Value.ref q48, Value.ref q49, Value.int m_docs, Value.ref q50, Value.ref q51, Value.ref q52, Value.ref q53, Value.int m_filesThere, Value.int m_files, Value.int m_actions, Value.int m_power, Value.int m_lost, Value.ref q54, Value.ref q62, Value.ref q70, Value.int m_open, Value.int m_isPrepared, Value.int m_generation, Value.ref q78, Value.ref q79, Value.int m_buffered, Value.int m_limit, Value.int m_factor, um, Value.ref q80, Value.ref q81, Value.ref q82, Value.int m_merges, Value.ref q83, Value.int m_opened, Value.int m_chosenMany, Value.int m_begun])) : Nat × va_E) ∧ (¬ 1 = m_error)) ∨ (r = Sum.inl (some (Value.int 0)) ∧ gm_g h h' [46] ∧ h' 46 = some ((q46, Sum.inr (8, [Value.int 0, Value.int 1, Value.ref q47, Value.ref q48, Value.ref q49, Value.int m_docs, Value.ref q50, Value.ref q51, Value.ref q52, Value.ref q53, Value.int m_filesThere, Value.int m_files, Value.int m_actions, Value.int m_power, Value.int m_lost, Value.ref q54, Value.ref q62, Value.ref q70, Value.int m_open, Value.int m_isPrepared, Value.int m_generation, Value.ref q78, Value.ref q79, Value.int m_buffered, Value.int m_limit, Value.int m_factor, um, Value.ref q80, Value.ref q81, Value.ref q82, Value.int m_merges, Value.ref q83, Value.int m_opened, Value.int m_chosenMany, Value.int m_begun])) : Nat × va_E) ∧ (1 = m_error))) = PQ
  have Z : gz D A s.heap h s.heap [] := ⟨ws, hM, hP, hD, va_S.rf⟩
  clear hP hD hM hD0
  have hU : gm_g h h [46] := gm_g.rf
  have hl := lv_entry ([Value.ref q46, Value.int p1, Value.int 1]) (n := 6) (Nat.le_of_ble_eq_true rfl)
  rw [lg_entry_eq]
  generalize (lg_sl ([Value.ref q46, Value.int p1, Value.int 1]) ++ List.replicate (6 - (lg_sl ([Value.ref q46, Value.int p1, Value.int 1])).length) Slot.unset).toArray = ls at hl ⊢
  have hl : lv_has ls 6 [(0, Value.ref q46), (1, Value.int p1), (2, Value.int 1)] := hl
  refine lv_aload_n hx hb d_Mo_done_0 rfl (lv_at hl 0 rfl) ?_
  refine lv_iconst (v := 0) hx hb d_Mo_done_1 (by decide) ?_
  refine gz_put (ci := 8) (v := Value.int 0) (ty := .int) (C := "CommitLedgerModel") (T := F_Mo) (N := 35) hx hb hts i_Mo t_Mo_ok n_Mo hown hK Z f_46 rfl 1 (by decide) kf_Mo_80 rfl (by decide +kernel) rfl rfl (Nat.le_of_ble_eq_true rfl) d_Mo_done_2 (fun H locs Z => ?_)
  obtain ⟨h1, e_h1⟩ : ∃ z9 : gm_M, z9 = gm_up h 46 ((q46, Sum.inr (8, [Value.int m_error, Value.int 0, Value.ref q47, Value.ref q48, Value.ref q49, Value.int m_docs, Value.ref q50, Value.ref q51, Value.ref q52, Value.ref q53, Value.int m_filesThere, Value.int m_files, Value.int m_actions, Value.int m_power, Value.int m_lost, Value.ref q54, Value.ref q62, Value.ref q70, Value.int m_open, Value.int m_isPrepared, Value.int m_generation, Value.ref q78, Value.ref q79, Value.int m_buffered, Value.int m_limit, Value.int m_factor, um, Value.ref q80, Value.ref q81, Value.ref q82, Value.int m_merges, Value.ref q83, Value.int m_opened, Value.int m_chosenMany, Value.int m_begun])) : Nat × va_E) := ⟨_, rfl⟩
  replace Z : gz D A s.heap h1 H locs := by rw [e_h1]; exact Z
  have f_46_h1 : h1 46 = some ((q46, Sum.inr (8, [Value.int m_error, Value.int 0, Value.ref q47, Value.ref q48, Value.ref q49, Value.int m_docs, Value.ref q50, Value.ref q51, Value.ref q52, Value.ref q53, Value.int m_filesThere, Value.int m_files, Value.int m_actions, Value.int m_power, Value.int m_lost, Value.ref q54, Value.ref q62, Value.ref q70, Value.int m_open, Value.int m_isPrepared, Value.int m_generation, Value.ref q78, Value.ref q79, Value.int m_buffered, Value.int m_limit, Value.int m_factor, um, Value.ref q80, Value.ref q81, Value.ref q82, Value.int m_merges, Value.ref q83, Value.int m_opened, Value.int m_chosenMany, Value.int m_begun])) : Nat × va_E) := by rw [e_h1]; exact gm_self
  replace hU : gm_g h h1 [46] := by rw [e_h1]; exact hU.put (by simp)
  refine lv_iconst (v := 0) hx hb d_Mo_done_5 (by decide) ?_
  refine lv_istore_n (lv' := [(3, Value.int 0), (0, Value.ref q46), (1, Value.int p1), (2, Value.int 1)]) hx hb d_Mo_done_6 rfl hl (by decide) rfl (fun ls hl => ?_)
  refine lv_ldc (v := 100000) hx hb hown (hts _ ki_Mo_83) d_Mo_done_7 ?_
  refine lv_istore (lv' := [(4, Value.int 100000), (3, Value.int 0), (0, Value.ref q46), (1, Value.int p1), (2, Value.int 1)]) hx hb d_Mo_done_9 hl (by decide) rfl (fun ls hl => ?_)
  refine lv_iload hx hb d_Mo_done_11 (lv_at hl 0 rfl) ?_
  refine lv_if_le (tgt := 60) hx hb d_Mo_done_13 (by decide) (fun c9 => absurd c9 (by decide)) (fun _ => ?_)
  refine lv_iload_n hx hb d_Mo_done_16 rfl (lv_at hl 4 rfl) ?_
  refine lv_iload hx hb d_Mo_done_17 (lv_at hl 0 rfl) ?_
  refine lv_idiv hx hb d_Mo_done_19 (by decide) ?_
  refine gx_topi (y := 0) (by decide) ?_
  refine lv_bipush (v := 10) hx hb d_Mo_done_20 (by decide) ?_
  refine lv_irem hx hb d_Mo_done_22 (by decide) ?_
  refine gx_topi (y := 0) (by decide) ?_
  refine lv_istore (lv' := [(5, Value.int 0), (4, Value.int 100000), (3, Value.int 0), (0, Value.ref q46), (1, Value.int p1), (2, Value.int 1)]) hx hb d_Mo_done_23 hl (by decide) rfl (fun ls hl => ?_)
  refine lv_iload hx hb d_Mo_done_25 (lv_at hl 0 rfl) ?_
  refine lv_if_ne (tgt := 33) hx hb d_Mo_done_27 (by decide) (fun c9 => absurd (by decide) c9) (fun _ => ?_)
  refine lv_goto (tgt := 50) hx hb d_Mo_done_30 (by decide) ?_
  refine lv_iload hx hb d_Mo_done_50 (lv_at hl 1 rfl) ?_
  refine lv_bipush (v := 10) hx hb d_Mo_done_52 (by decide) ?_
  refine lv_idiv hx hb d_Mo_done_54 (by decide) ?_
  refine gx_topi (y := 10000) (by decide) ?_
  refine lv_istore (lv' := [(4, Value.int 10000), (5, Value.int 0), (3, Value.int 0), (0, Value.ref q46), (1, Value.int p1), (2, Value.int 1)]) hx hb d_Mo_done_55 hl (by decide) rfl (fun ls hl => ?_)
  refine lv_goto (tgt := 11) hx hb d_Mo_done_57 (by decide) ?_
  refine lv_iload hx hb d_Mo_done_11 (lv_at hl 0 rfl) ?_
  refine lv_if_le (tgt := 60) hx hb d_Mo_done_13 (by decide) (fun c9 => absurd c9 (by decide)) (fun _ => ?_)
  refine lv_iload_n hx hb d_Mo_done_16 rfl (lv_at hl 5 rfl) ?_
  refine lv_iload hx hb d_Mo_done_17 (lv_at hl 0 rfl) ?_
  refine lv_idiv hx hb d_Mo_done_19 (by decide) ?_
  refine gx_topi (y := 0) (by decide) ?_
  refine lv_bipush (v := 10) hx hb d_Mo_done_20 (by decide) ?_
  refine lv_irem hx hb d_Mo_done_22 (by decide) ?_
  refine gx_topi (y := 0) (by decide) ?_
  refine lv_istore (lv' := [(5, Value.int 0), (4, Value.int 10000), (3, Value.int 0), (0, Value.ref q46), (1, Value.int p1), (2, Value.int 1)]) hx hb d_Mo_done_23 hl (by decide) rfl (fun ls hl => ?_)
  refine lv_iload hx hb d_Mo_done_25 (lv_at hl 0 rfl) ?_
  refine lv_if_ne (tgt := 33) hx hb d_Mo_done_27 (by decide) (fun c9 => absurd (by decide) c9) (fun _ => ?_)
  refine lv_goto (tgt := 50) hx hb d_Mo_done_30 (by decide) ?_
  refine lv_iload hx hb d_Mo_done_50 (lv_at hl 1 rfl) ?_
  refine lv_bipush (v := 10) hx hb d_Mo_done_52 (by decide) ?_
  refine lv_idiv hx hb d_Mo_done_54 (by decide) ?_
  refine gx_topi (y := 1000) (by decide) ?_
  refine lv_istore (lv' := [(4, Value.int 1000), (5, Value.int 0), (3, Value.int 0), (0, Value.ref q46), (1, Value.int p1), (2, Value.int 1)]) hx hb d_Mo_done_55 hl (by decide) rfl (fun ls hl => ?_)
  refine lv_goto (tgt := 11) hx hb d_Mo_done_57 (by decide) ?_
  refine lv_iload hx hb d_Mo_done_11 (lv_at hl 0 rfl) ?_
  refine lv_if_le (tgt := 60) hx hb d_Mo_done_13 (by decide) (fun c9 => absurd c9 (by decide)) (fun _ => ?_)
  refine lv_iload_n hx hb d_Mo_done_16 rfl (lv_at hl 5 rfl) ?_
  refine lv_iload hx hb d_Mo_done_17 (lv_at hl 0 rfl) ?_
  refine lv_idiv hx hb d_Mo_done_19 (by decide) ?_
  refine gx_topi (y := 0) (by decide) ?_
  refine lv_bipush (v := 10) hx hb d_Mo_done_20 (by decide) ?_
  refine lv_irem hx hb d_Mo_done_22 (by decide) ?_
  refine gx_topi (y := 0) (by decide) ?_
  refine lv_istore (lv' := [(5, Value.int 0), (4, Value.int 1000), (3, Value.int 0), (0, Value.ref q46), (1, Value.int p1), (2, Value.int 1)]) hx hb d_Mo_done_23 hl (by decide) rfl (fun ls hl => ?_)
  refine lv_iload hx hb d_Mo_done_25 (lv_at hl 0 rfl) ?_
  refine lv_if_ne (tgt := 33) hx hb d_Mo_done_27 (by decide) (fun c9 => absurd (by decide) c9) (fun _ => ?_)
  refine lv_goto (tgt := 50) hx hb d_Mo_done_30 (by decide) ?_
  refine lv_iload hx hb d_Mo_done_50 (lv_at hl 1 rfl) ?_
  refine lv_bipush (v := 10) hx hb d_Mo_done_52 (by decide) ?_
  refine lv_idiv hx hb d_Mo_done_54 (by decide) ?_
  refine gx_topi (y := 100) (by decide) ?_
  refine lv_istore (lv' := [(4, Value.int 100), (5, Value.int 0), (3, Value.int 0), (0, Value.ref q46), (1, Value.int p1), (2, Value.int 1)]) hx hb d_Mo_done_55 hl (by decide) rfl (fun ls hl => ?_)
  refine lv_goto (tgt := 11) hx hb d_Mo_done_57 (by decide) ?_
  refine lv_iload hx hb d_Mo_done_11 (lv_at hl 0 rfl) ?_
  refine lv_if_le (tgt := 60) hx hb d_Mo_done_13 (by decide) (fun c9 => absurd c9 (by decide)) (fun _ => ?_)
  refine lv_iload_n hx hb d_Mo_done_16 rfl (lv_at hl 5 rfl) ?_
  refine lv_iload hx hb d_Mo_done_17 (lv_at hl 0 rfl) ?_
  refine lv_idiv hx hb d_Mo_done_19 (by decide) ?_
  refine gx_topi (y := 0) (by decide) ?_
  refine lv_bipush (v := 10) hx hb d_Mo_done_20 (by decide) ?_
  refine lv_irem hx hb d_Mo_done_22 (by decide) ?_
  refine gx_topi (y := 0) (by decide) ?_
  refine lv_istore (lv' := [(5, Value.int 0), (4, Value.int 100), (3, Value.int 0), (0, Value.ref q46), (1, Value.int p1), (2, Value.int 1)]) hx hb d_Mo_done_23 hl (by decide) rfl (fun ls hl => ?_)
  refine lv_iload hx hb d_Mo_done_25 (lv_at hl 0 rfl) ?_
  refine lv_if_ne (tgt := 33) hx hb d_Mo_done_27 (by decide) (fun c9 => absurd (by decide) c9) (fun _ => ?_)
  refine lv_goto (tgt := 50) hx hb d_Mo_done_30 (by decide) ?_
  refine lv_iload hx hb d_Mo_done_50 (lv_at hl 1 rfl) ?_
  refine lv_bipush (v := 10) hx hb d_Mo_done_52 (by decide) ?_
  refine lv_idiv hx hb d_Mo_done_54 (by decide) ?_
  refine gx_topi (y := 10) (by decide) ?_
  refine lv_istore (lv' := [(4, Value.int 10), (5, Value.int 0), (3, Value.int 0), (0, Value.ref q46), (1, Value.int p1), (2, Value.int 1)]) hx hb d_Mo_done_55 hl (by decide) rfl (fun ls hl => ?_)
  refine lv_goto (tgt := 11) hx hb d_Mo_done_57 (by decide) ?_
  refine lv_iload hx hb d_Mo_done_11 (lv_at hl 0 rfl) ?_
  refine lv_if_le (tgt := 60) hx hb d_Mo_done_13 (by decide) (fun c9 => absurd c9 (by decide)) (fun _ => ?_)
  refine lv_iload_n hx hb d_Mo_done_16 rfl (lv_at hl 5 rfl) ?_
  refine lv_iload hx hb d_Mo_done_17 (lv_at hl 0 rfl) ?_
  refine lv_idiv hx hb d_Mo_done_19 (by decide) ?_
  refine gx_topi (y := 0) (by decide) ?_
  refine lv_bipush (v := 10) hx hb d_Mo_done_20 (by decide) ?_
  refine lv_irem hx hb d_Mo_done_22 (by decide) ?_
  refine gx_topi (y := 0) (by decide) ?_
  refine lv_istore (lv' := [(5, Value.int 0), (4, Value.int 10), (3, Value.int 0), (0, Value.ref q46), (1, Value.int p1), (2, Value.int 1)]) hx hb d_Mo_done_23 hl (by decide) rfl (fun ls hl => ?_)
  refine lv_iload hx hb d_Mo_done_25 (lv_at hl 0 rfl) ?_
  refine lv_if_ne (tgt := 33) hx hb d_Mo_done_27 (by decide) (fun c9 => absurd (by decide) c9) (fun _ => ?_)
  refine lv_goto (tgt := 50) hx hb d_Mo_done_30 (by decide) ?_
  refine lv_iload hx hb d_Mo_done_50 (lv_at hl 1 rfl) ?_
  refine lv_bipush (v := 10) hx hb d_Mo_done_52 (by decide) ?_
  refine lv_idiv hx hb d_Mo_done_54 (by decide) ?_
  refine gx_topi (y := 1) (by decide) ?_
  refine lv_istore (lv' := [(4, Value.int 1), (5, Value.int 0), (3, Value.int 0), (0, Value.ref q46), (1, Value.int p1), (2, Value.int 1)]) hx hb d_Mo_done_55 hl (by decide) rfl (fun ls hl => ?_)
  refine lv_goto (tgt := 11) hx hb d_Mo_done_57 (by decide) ?_
  refine lv_iload hx hb d_Mo_done_11 (lv_at hl 0 rfl) ?_
  refine lv_if_le (tgt := 60) hx hb d_Mo_done_13 (by decide) (fun c9 => absurd c9 (by decide)) (fun _ => ?_)
  refine lv_iload_n hx hb d_Mo_done_16 rfl (lv_at hl 5 rfl) ?_
  refine lv_iload hx hb d_Mo_done_17 (lv_at hl 0 rfl) ?_
  refine lv_idiv hx hb d_Mo_done_19 (by decide) ?_
  refine gx_topi (y := 1) (by decide) ?_
  refine lv_bipush (v := 10) hx hb d_Mo_done_20 (by decide) ?_
  refine lv_irem hx hb d_Mo_done_22 (by decide) ?_
  refine gx_topi (y := 1) (by decide) ?_
  refine lv_istore (lv' := [(5, Value.int 1), (4, Value.int 1), (3, Value.int 0), (0, Value.ref q46), (1, Value.int p1), (2, Value.int 1)]) hx hb d_Mo_done_23 hl (by decide) rfl (fun ls hl => ?_)
  refine lv_iload hx hb d_Mo_done_25 (lv_at hl 0 rfl) ?_
  refine lv_if_ne (tgt := 33) hx hb d_Mo_done_27 (by decide) (fun _ => ?_) (fun c9 => absurd c9 (by decide))
  refine lv_iinc (v := 1) (lv' := [(3, Value.int 1), (5, Value.int 1), (4, Value.int 1), (0, Value.ref q46), (1, Value.int p1), (2, Value.int 1)]) hx hb d_Mo_done_33 hl (k := 2) rfl (by decide) (by decide) rfl (fun ls hl => ?_)
  refine lv_iload hx hb d_Mo_done_36 (lv_at hl 1 rfl) ?_
  refine lv_aload_n hx hb d_Mo_done_38 rfl (lv_at hl 3 rfl) ?_
  refine gz_get (ci := 8) (v := Value.int m_error) (C := "CommitLedgerModel") (T := F_Mo) (N := 35) hx hb hts i_Mo hown hK Z f_46_h1 rfl 0 (by decide) kf_Mo_84 rfl d_Mo_done_39 ?_
  refine lv_icmp_ne (tgt := 50) hx hb d_Mo_done_42 (by decide) (fun c42_2 => ?_) (fun c42_2 => ?_)
  · refine lv_iload hx hb d_Mo_done_50 (lv_at hl 2 rfl) ?_
    refine lv_bipush (v := 10) hx hb d_Mo_done_52 (by decide) ?_
    refine lv_idiv hx hb d_Mo_done_54 (by decide) ?_
    refine gx_topi (y := 0) (by decide) ?_
    refine lv_istore (lv' := [(4, Value.int 0), (3, Value.int 1), (5, Value.int 1), (0, Value.ref q46), (1, Value.int p1), (2, Value.int 1)]) hx hb d_Mo_done_55 hl (by decide) rfl (fun ls hl => ?_)
    refine lv_goto (tgt := 11) hx hb d_Mo_done_57 (by decide) ?_
    refine lv_iload hx hb d_Mo_done_11 (lv_at hl 0 rfl) ?_
    refine lv_if_le (tgt := 60) hx hb d_Mo_done_13 (by decide) (fun _ => ?_) (fun c9 => absurd (by decide) c9)
    refine lv_aload_n hx hb d_Mo_done_60 rfl (lv_at hl 3 rfl) ?_
    refine lv_iconst (v := 0) hx hb d_Mo_done_61 (by decide) ?_
    refine gz_put (ci := 8) (v := Value.int 0) (ty := .int) (C := "CommitLedgerModel") (T := F_Mo) (N := 35) hx hb hts i_Mo t_Mo_ok n_Mo hown hK Z f_46_h1 rfl 0 (by decide) kf_Mo_84 rfl (by decide +kernel) rfl rfl (Nat.le_of_ble_eq_true rfl) d_Mo_done_62 (fun H locs Z => ?_)
    obtain ⟨h3, e_h3⟩ : ∃ z9 : gm_M, z9 = gm_up h1 46 ((q46, Sum.inr (8, [Value.int 0, Value.int 0, Value.ref q47, Value.ref q48, Value.ref q49, Value.int m_docs, Value.ref q50, Value.ref q51, Value.ref q52, Value.ref q53, Value.int m_filesThere, Value.int m_files, Value.int m_actions, Value.int m_power, Value.int m_lost, Value.ref q54, Value.ref q62, Value.ref q70, Value.int m_open, Value.int m_isPrepared, Value.int m_generation, Value.ref q78, Value.ref q79, Value.int m_buffered, Value.int m_limit, Value.int m_factor, um, Value.ref q80, Value.ref q81, Value.ref q82, Value.int m_merges, Value.ref q83, Value.int m_opened, Value.int m_chosenMany, Value.int m_begun])) : Nat × va_E) := ⟨_, rfl⟩
    replace Z : gz D A s.heap h3 H locs := by rw [e_h3]; exact Z
    have f_46_h3 : h3 46 = some ((q46, Sum.inr (8, [Value.int 0, Value.int 0, Value.ref q47, Value.ref q48, Value.ref q49, Value.int m_docs, Value.ref q50, Value.ref q51, Value.ref q52, Value.ref q53, Value.int m_filesThere, Value.int m_files, Value.int m_actions, Value.int m_power, Value.int m_lost, Value.ref q54, Value.ref q62, Value.ref q70, Value.int m_open, Value.int m_isPrepared, Value.int m_generation, Value.ref q78, Value.ref q79, Value.int m_buffered, Value.int m_limit, Value.int m_factor, um, Value.ref q80, Value.ref q81, Value.ref q82, Value.int m_merges, Value.ref q83, Value.int m_opened, Value.int m_chosenMany, Value.int m_begun])) : Nat × va_E) := by rw [e_h3]; exact gm_self
    replace hU : gm_g h h3 [46] := by rw [e_h3]; exact hU.put (by simp)
    refine lv_aload_n hx hb d_Mo_done_65 rfl (lv_at hl 3 rfl) ?_
    refine gz_get (ci := 8) (v := Value.int 0) (C := "CommitLedgerModel") (T := F_Mo) (N := 35) hx hb hts i_Mo hown hK Z f_46_h3 rfl 1 (by decide) kf_Mo_80 rfl d_Mo_done_66 ?_
    refine lv_if_le (tgt := 76) hx hb d_Mo_done_69 (by decide) (fun _ => ?_) (fun c9 => absurd (by decide) c9)
    refine lv_iload_n hx hb d_Mo_done_76 rfl (lv_at hl 4 rfl) ?_
    exact gz_iret (v := p1) hx hb hr hlocks hK Z (by decide) (by decide) (by rw [← hPQ]; exact Or.inl ⟨rfl, hU, f_46_h3, c42_2⟩) d_Mo_done_77
  · refine lv_aload_n hx hb d_Mo_done_45 rfl (lv_at hl 3 rfl) ?_
    refine lv_iload_n hx hb d_Mo_done_46 rfl (lv_at hl 0 rfl) ?_
    refine gz_put (ci := 8) (v := Value.int 1) (ty := .int) (C := "CommitLedgerModel") (T := F_Mo) (N := 35) hx hb hts i_Mo t_Mo_ok n_Mo hown hK Z f_46_h1 rfl 1 (by decide) kf_Mo_80 rfl (by decide +kernel) rfl rfl (Nat.le_of_ble_eq_true rfl) d_Mo_done_47 (fun H locs Z => ?_)
    obtain ⟨h4, e_h4⟩ : ∃ z9 : gm_M, z9 = gm_up h1 46 ((q46, Sum.inr (8, [Value.int m_error, Value.int 1, Value.ref q47, Value.ref q48, Value.ref q49, Value.int m_docs, Value.ref q50, Value.ref q51, Value.ref q52, Value.ref q53, Value.int m_filesThere, Value.int m_files, Value.int m_actions, Value.int m_power, Value.int m_lost, Value.ref q54, Value.ref q62, Value.ref q70, Value.int m_open, Value.int m_isPrepared, Value.int m_generation, Value.ref q78, Value.ref q79, Value.int m_buffered, Value.int m_limit, Value.int m_factor, um, Value.ref q80, Value.ref q81, Value.ref q82, Value.int m_merges, Value.ref q83, Value.int m_opened, Value.int m_chosenMany, Value.int m_begun])) : Nat × va_E) := ⟨_, rfl⟩
    replace Z : gz D A s.heap h4 H locs := by rw [e_h4]; exact Z
    have f_46_h4 : h4 46 = some ((q46, Sum.inr (8, [Value.int m_error, Value.int 1, Value.ref q47, Value.ref q48, Value.ref q49, Value.int m_docs, Value.ref q50, Value.ref q51, Value.ref q52, Value.ref q53, Value.int m_filesThere, Value.int m_files, Value.int m_actions, Value.int m_power, Value.int m_lost, Value.ref q54, Value.ref q62, Value.ref q70, Value.int m_open, Value.int m_isPrepared, Value.int m_generation, Value.ref q78, Value.ref q79, Value.int m_buffered, Value.int m_limit, Value.int m_factor, um, Value.ref q80, Value.ref q81, Value.ref q82, Value.int m_merges, Value.ref q83, Value.int m_opened, Value.int m_chosenMany, Value.int m_begun])) : Nat × va_E) := by rw [e_h4]; exact gm_self
    replace hU : gm_g h h4 [46] := by rw [e_h4]; exact hU.put (by simp)
    refine lv_iload hx hb d_Mo_done_50 (lv_at hl 2 rfl) ?_
    refine lv_bipush (v := 10) hx hb d_Mo_done_52 (by decide) ?_
    refine lv_idiv hx hb d_Mo_done_54 (by decide) ?_
    refine gx_topi (y := 0) (by decide) ?_
    refine lv_istore (lv' := [(4, Value.int 0), (3, Value.int 1), (5, Value.int 1), (0, Value.ref q46), (1, Value.int p1), (2, Value.int 1)]) hx hb d_Mo_done_55 hl (by decide) rfl (fun ls hl => ?_)
    refine lv_goto (tgt := 11) hx hb d_Mo_done_57 (by decide) ?_
    refine lv_iload hx hb d_Mo_done_11 (lv_at hl 0 rfl) ?_
    refine lv_if_le (tgt := 60) hx hb d_Mo_done_13 (by decide) (fun _ => ?_) (fun c9 => absurd (by decide) c9)
    refine lv_aload_n hx hb d_Mo_done_60 rfl (lv_at hl 3 rfl) ?_
    refine lv_iconst (v := 0) hx hb d_Mo_done_61 (by decide) ?_
    refine gz_put (ci := 8) (v := Value.int 0) (ty := .int) (C := "CommitLedgerModel") (T := F_Mo) (N := 35) hx hb hts i_Mo t_Mo_ok n_Mo hown hK Z f_46_h4 rfl 0 (by decide) kf_Mo_84 rfl (by decide +kernel) rfl rfl (Nat.le_of_ble_eq_true rfl) d_Mo_done_62 (fun H locs Z => ?_)
    obtain ⟨h5, e_h5⟩ : ∃ z9 : gm_M, z9 = gm_up h4 46 ((q46, Sum.inr (8, [Value.int 0, Value.int 1, Value.ref q47, Value.ref q48, Value.ref q49, Value.int m_docs, Value.ref q50, Value.ref q51, Value.ref q52, Value.ref q53, Value.int m_filesThere, Value.int m_files, Value.int m_actions, Value.int m_power, Value.int m_lost, Value.ref q54, Value.ref q62, Value.ref q70, Value.int m_open, Value.int m_isPrepared, Value.int m_generation, Value.ref q78, Value.ref q79, Value.int m_buffered, Value.int m_limit, Value.int m_factor, um, Value.ref q80, Value.ref q81, Value.ref q82, Value.int m_merges, Value.ref q83, Value.int m_opened, Value.int m_chosenMany, Value.int m_begun])) : Nat × va_E) := ⟨_, rfl⟩
    replace Z : gz D A s.heap h5 H locs := by rw [e_h5]; exact Z
    have f_46_h5 : h5 46 = some ((q46, Sum.inr (8, [Value.int 0, Value.int 1, Value.ref q47, Value.ref q48, Value.ref q49, Value.int m_docs, Value.ref q50, Value.ref q51, Value.ref q52, Value.ref q53, Value.int m_filesThere, Value.int m_files, Value.int m_actions, Value.int m_power, Value.int m_lost, Value.ref q54, Value.ref q62, Value.ref q70, Value.int m_open, Value.int m_isPrepared, Value.int m_generation, Value.ref q78, Value.ref q79, Value.int m_buffered, Value.int m_limit, Value.int m_factor, um, Value.ref q80, Value.ref q81, Value.ref q82, Value.int m_merges, Value.ref q83, Value.int m_opened, Value.int m_chosenMany, Value.int m_begun])) : Nat × va_E) := by rw [e_h5]; exact gm_self
    replace hU : gm_g h h5 [46] := by rw [e_h5]; exact hU.put (by simp)
    refine lv_aload_n hx hb d_Mo_done_65 rfl (lv_at hl 3 rfl) ?_
    refine gz_get (ci := 8) (v := Value.int 1) (C := "CommitLedgerModel") (T := F_Mo) (N := 35) hx hb hts i_Mo hown hK Z f_46_h5 rfl 1 (by decide) kf_Mo_80 rfl d_Mo_done_66 ?_
    refine lv_if_le (tgt := 76) hx hb d_Mo_done_69 (by decide) (fun c9 => absurd c9 (by decide)) (fun _ => ?_)
    refine lv_iconst (v := 0) hx hb d_Mo_done_72 (by decide) ?_
    refine lv_goto (tgt := 77) hx hb d_Mo_done_73 (by decide) ?_
    exact gz_iret (v := 0) hx hb hr hlocks hK Z (by decide) (by decide) (by rw [← hPQ]; exact Or.inr (⟨rfl, hU, f_46_h5, c42_2⟩)) d_Mo_done_77

set_option maxHeartbeats 4000000 in
set_option maxRecDepth 100000 in
theorem k_Mo_done_2 (l : Launch) (htr : l.stackTraces = false) (D : va_G) (tys : List (ClassId × FieldType)) (z sz : Nat) (ws : va_W) (h : gm_M) (hM : gm_S h ws) (q46 : Nat) (q47 : Nat) (q48 : Nat) (q49 : Nat) (q50 : Nat) (q51 : Nat) (q52 : Nat) (q53 : Nat) (q54 : Nat) (q62 : Nat) (q70 : Nat) (q78 : Nat) (q79 : Nat) (q80 : Nat) (q81 : Nat) (q82 : Nat) (q83 : Nat) (um : Value) (m_error : Int32) (m_thrown : Int32) (m_docs : Int32) (m_filesThere : Int32) (m_files : Int32) (m_actions : Int32) (m_power : Int32) (m_lost : Int32) (m_open : Int32) (m_isPrepared : Int32) (m_generation : Int32) (m_buffered : Int32) (m_limit : Int32) (m_factor : Int32) (m_merges : Int32) (m_opened : Int32) (m_chosenMany : Int32) (m_begun : Int32) (p1 : Int32) (f_46 : h 46 = some ((q46, Sum.inr (8, [Value.int m_error, Value.int m_thrown, Value.ref q47, Value.ref q48, Value.ref q49, Value.int m_docs, Value.ref q50, Value.ref q51, Value.ref q52, Value.ref q53, Value.int m_filesThere, Value.int m_files, Value.int m_actions, Value.int m_power, Value.int m_lost, Value.ref q54, Value.ref q62, Value.ref q70, Value.int m_open, Value.int m_isPrepared, Value.int m_generation, Value.ref q78, Value.ref q79, Value.int m_buffered, Value.int m_limit, Value.int m_factor, um, Value.ref q80, Value.ref q81, Value.ref q82, Value.int m_merges, Value.ref q83, Value.int m_opened, Value.int m_chosenMany, Value.int m_begun])) : Nat × va_E)) : gx_Met l y_Mo_done [Cond.code y_Mo_done b_Mo_done 6 (some .int)] { frames := 1, cells := 0, slots := 0, locals := 12 } (gx_P z sz D classes tys ws [Value.ref q46, Value.int p1, Value.int 2]) (gx_Q D classes tys (va_A ws sz) (gm_p (fun r h' => (r = Sum.inl (some (Value.int p1)) ∧ gm_g h h' [46] ∧ h' 46 = some ((q46, Sum.inr (8, [Value.int 0, Value.int 0, Value.ref q47, Value.ref q48, Value.ref q49, Value.int m_docs, Value.ref q50, Value.ref q51, Value.ref q52, Value.ref q53, Value.int m_filesThere, Value.int m_files, Value.int m_actions, Value.int m_power, Value.int m_lost, Value.ref q54, Value.ref q62, Value.ref q70, Value.int m_open, Value.int m_isPrepared, Value.int m_generation, Value.ref q78, Value.ref q79, Value.int m_buffered, Value.int m_limit, Value.int m_factor, um, Value.ref q80, Value.ref q81, Value.ref q82, Value.int m_merges, Value.ref q83, Value.int m_opened, Value.int m_chosenMany, Value.int m_begun])) : Nat × va_E) ∧ (¬ 2 = m_error)) ∨ (r = Sum.inl (some (Value.int 0)) ∧ gm_g h h' [46] ∧ h' 46 = some ((q46, Sum.inr (8, [Value.int 0, Value.int 1, Value.ref q47, Value.ref q48, Value.ref q49, Value.int m_docs, Value.ref q50, Value.ref q51, Value.ref q52, Value.ref q53, Value.int m_filesThere, Value.int m_files, Value.int m_actions, Value.int m_power, Value.int m_lost, Value.ref q54, Value.ref q62, Value.ref q70, Value.int m_open, Value.int m_isPrepared, Value.int m_generation, Value.ref q78, Value.ref q79, Value.int m_buffered, Value.int m_limit, Value.int m_factor, um, Value.ref q80, Value.ref q81, Value.ref q82, Value.int m_merges, Value.ref q83, Value.int m_opened, Value.int m_chosenMany, Value.int m_begun])) : Nat × va_E) ∧ (2 = m_error))))) 0 0 (va_A ws sz) := by
  refine gx_ofW (cc := b_Mo_done) (maxL := 6) (ret := (some .int)) (by decide) rfl ?_
  intro p e s m args below meth c s₁ B hml hv
  obtain ⟨rfl, hsz, hz, hP, hK, hD0, hY⟩ := hv
  have hx := B.exec
  have hb := B.bytes
  have hr := B.returns
  have hts := hY.hts (#[Value.ref q46, Value.int p1, Value.int 2] : Array Value)
  have hown : s.vm.findClass "CommitLedgerModel" = some m.cls := findClass_of_methodNamed B.named
  have hlocks := B.notSynchronized
  have hne : c.exceptionTable.isEmpty = true := B.noHandlers (atoms_spec (ws := [Cond.code y_Mo_done b_Mo_done 6 (some .int)]) B.pre _ List.mem_cons_self)
  subst hsz
  have hAz := gx_az hD0 hz
  have hD := hD0.self (sz := s.heap.size)
  have hN := gx_ns hP
  have hA : ∀ q : Nat, s.heap.size ≤ q → va_A ws s.heap.size q := fun q h => Or.inr h
  generalize va_A ws s.heap.size = A at hD hN hA hAz ⊢
  generalize hPQ : (fun (r : Option Value ⊕ String) (h' : gm_M) => (r = Sum.inl (some (Value.int p1)) ∧ gm_g h h' [46] ∧ h' 46 = some ((q46, Sum.inr (8, [Value.int 0, Value.int 0, Value.ref q47, Value.ref q48, Value.ref q49, Value.int m_docs, Value.ref q50, Value.ref q51, Value.ref q52, Value.ref q53, Value.int m_filesThere, Value.int m_files, Value.int m_actions, Value.int m_power, Value.int m_lost, Value.ref q54, Value.ref q62, Value.ref q70, Value.int m_open, Value.int m_isPrepared, Value.int m_generation, Value.ref q78, Value.ref q79, Value.int m_buffered, Value.int m_limit, Value.int m_factor, um, Value.ref q80, Value.ref q81, Value.ref q82, Value.int m_merges, Value.ref q83, Value.int m_opened, Value.int m_chosenMany, Value.int m_begun])) : Nat × va_E) ∧ (¬ 2 = m_error)) ∨ (r = Sum.inl (some (Value.int 0)) ∧ gm_g h h' [46] ∧ h' 46 = some ((q46, Sum.inr (8, [Value.int 0, Value.int 1, Value.ref q47, Value.ref q48, Value.ref q49, Value.int m_docs, Value.ref q50, Value.ref q51, Value.ref q52, Value.ref q53, Value.int m_filesThere, Value.int m_files, Value.int m_actions, Value.int m_power, Value.int m_lost, Value.ref q54, Value.ref q62, Value.ref q70, Value.int m_open, Value.int m_isPrepared, Value.int m_generation, Value.ref q78, Value.ref q79, Value.int m_buffered, Value.int m_limit, Value.int m_factor, um, Value.ref q80, Value.ref q81, Value.ref q82, Value.int m_merges, Value.ref q83, Value.int m_opened, Value.int m_chosenMany, Value.int m_begun])) : Nat × va_E) ∧ (2 = m_error))) = PQ
  have Z : gz D A s.heap h s.heap [] := ⟨ws, hM, hP, hD, va_S.rf⟩
  clear hP hD hM hD0
  have hU : gm_g h h [46] := gm_g.rf
  have hl := lv_entry ([Value.ref q46, Value.int p1, Value.int 2]) (n := 6) (Nat.le_of_ble_eq_true rfl)
  rw [lg_entry_eq]
  generalize (lg_sl ([Value.ref q46, Value.int p1, Value.int 2]) ++ List.replicate (6 - (lg_sl ([Value.ref q46, Value.int p1, Value.int 2])).length) Slot.unset).toArray = ls at hl ⊢
  have hl : lv_has ls 6 [(0, Value.ref q46), (1, Value.int p1), (2, Value.int 2)] := hl
  refine lv_aload_n hx hb d_Mo_done_0 rfl (lv_at hl 0 rfl) ?_
  refine lv_iconst (v := 0) hx hb d_Mo_done_1 (by decide) ?_
  refine gz_put (ci := 8) (v := Value.int 0) (ty := .int) (C := "CommitLedgerModel") (T := F_Mo) (N := 35) hx hb hts i_Mo t_Mo_ok n_Mo hown hK Z f_46 rfl 1 (by decide) kf_Mo_80 rfl (by decide +kernel) rfl rfl (Nat.le_of_ble_eq_true rfl) d_Mo_done_2 (fun H locs Z => ?_)
  obtain ⟨h1, e_h1⟩ : ∃ z9 : gm_M, z9 = gm_up h 46 ((q46, Sum.inr (8, [Value.int m_error, Value.int 0, Value.ref q47, Value.ref q48, Value.ref q49, Value.int m_docs, Value.ref q50, Value.ref q51, Value.ref q52, Value.ref q53, Value.int m_filesThere, Value.int m_files, Value.int m_actions, Value.int m_power, Value.int m_lost, Value.ref q54, Value.ref q62, Value.ref q70, Value.int m_open, Value.int m_isPrepared, Value.int m_generation, Value.ref q78, Value.ref q79, Value.int m_buffered, Value.int m_limit, Value.int m_factor, um, Value.ref q80, Value.ref q81, Value.ref q82, Value.int m_merges, Value.ref q83, Value.int m_opened, Value.int m_chosenMany, Value.int m_begun])) : Nat × va_E) := ⟨_, rfl⟩
  replace Z : gz D A s.heap h1 H locs := by rw [e_h1]; exact Z
  have f_46_h1 : h1 46 = some ((q46, Sum.inr (8, [Value.int m_error, Value.int 0, Value.ref q47, Value.ref q48, Value.ref q49, Value.int m_docs, Value.ref q50, Value.ref q51, Value.ref q52, Value.ref q53, Value.int m_filesThere, Value.int m_files, Value.int m_actions, Value.int m_power, Value.int m_lost, Value.ref q54, Value.ref q62, Value.ref q70, Value.int m_open, Value.int m_isPrepared, Value.int m_generation, Value.ref q78, Value.ref q79, Value.int m_buffered, Value.int m_limit, Value.int m_factor, um, Value.ref q80, Value.ref q81, Value.ref q82, Value.int m_merges, Value.ref q83, Value.int m_opened, Value.int m_chosenMany, Value.int m_begun])) : Nat × va_E) := by rw [e_h1]; exact gm_self
  replace hU : gm_g h h1 [46] := by rw [e_h1]; exact hU.put (by simp)
  refine lv_iconst (v := 0) hx hb d_Mo_done_5 (by decide) ?_
  refine lv_istore_n (lv' := [(3, Value.int 0), (0, Value.ref q46), (1, Value.int p1), (2, Value.int 2)]) hx hb d_Mo_done_6 rfl hl (by decide) rfl (fun ls hl => ?_)
  refine lv_ldc (v := 100000) hx hb hown (hts _ ki_Mo_83) d_Mo_done_7 ?_
  refine lv_istore (lv' := [(4, Value.int 100000), (3, Value.int 0), (0, Value.ref q46), (1, Value.int p1), (2, Value.int 2)]) hx hb d_Mo_done_9 hl (by decide) rfl (fun ls hl => ?_)
  refine lv_iload hx hb d_Mo_done_11 (lv_at hl 0 rfl) ?_
  refine lv_if_le (tgt := 60) hx hb d_Mo_done_13 (by decide) (fun c9 => absurd c9 (by decide)) (fun _ => ?_)
  refine lv_iload_n hx hb d_Mo_done_16 rfl (lv_at hl 4 rfl) ?_
  refine lv_iload hx hb d_Mo_done_17 (lv_at hl 0 rfl) ?_
  refine lv_idiv hx hb d_Mo_done_19 (by decide) ?_
  refine gx_topi (y := 0) (by decide) ?_
  refine lv_bipush (v := 10) hx hb d_Mo_done_20 (by decide) ?_
  refine lv_irem hx hb d_Mo_done_22 (by decide) ?_
  refine gx_topi (y := 0) (by decide) ?_
  refine lv_istore (lv' := [(5, Value.int 0), (4, Value.int 100000), (3, Value.int 0), (0, Value.ref q46), (1, Value.int p1), (2, Value.int 2)]) hx hb d_Mo_done_23 hl (by decide) rfl (fun ls hl => ?_)
  refine lv_iload hx hb d_Mo_done_25 (lv_at hl 0 rfl) ?_
  refine lv_if_ne (tgt := 33) hx hb d_Mo_done_27 (by decide) (fun c9 => absurd (by decide) c9) (fun _ => ?_)
  refine lv_goto (tgt := 50) hx hb d_Mo_done_30 (by decide) ?_
  refine lv_iload hx hb d_Mo_done_50 (lv_at hl 1 rfl) ?_
  refine lv_bipush (v := 10) hx hb d_Mo_done_52 (by decide) ?_
  refine lv_idiv hx hb d_Mo_done_54 (by decide) ?_
  refine gx_topi (y := 10000) (by decide) ?_
  refine lv_istore (lv' := [(4, Value.int 10000), (5, Value.int 0), (3, Value.int 0), (0, Value.ref q46), (1, Value.int p1), (2, Value.int 2)]) hx hb d_Mo_done_55 hl (by decide) rfl (fun ls hl => ?_)
  refine lv_goto (tgt := 11) hx hb d_Mo_done_57 (by decide) ?_
  refine lv_iload hx hb d_Mo_done_11 (lv_at hl 0 rfl) ?_
  refine lv_if_le (tgt := 60) hx hb d_Mo_done_13 (by decide) (fun c9 => absurd c9 (by decide)) (fun _ => ?_)
  refine lv_iload_n hx hb d_Mo_done_16 rfl (lv_at hl 5 rfl) ?_
  refine lv_iload hx hb d_Mo_done_17 (lv_at hl 0 rfl) ?_
  refine lv_idiv hx hb d_Mo_done_19 (by decide) ?_
  refine gx_topi (y := 0) (by decide) ?_
  refine lv_bipush (v := 10) hx hb d_Mo_done_20 (by decide) ?_
  refine lv_irem hx hb d_Mo_done_22 (by decide) ?_
  refine gx_topi (y := 0) (by decide) ?_
  refine lv_istore (lv' := [(5, Value.int 0), (4, Value.int 10000), (3, Value.int 0), (0, Value.ref q46), (1, Value.int p1), (2, Value.int 2)]) hx hb d_Mo_done_23 hl (by decide) rfl (fun ls hl => ?_)
  refine lv_iload hx hb d_Mo_done_25 (lv_at hl 0 rfl) ?_
  refine lv_if_ne (tgt := 33) hx hb d_Mo_done_27 (by decide) (fun c9 => absurd (by decide) c9) (fun _ => ?_)
  refine lv_goto (tgt := 50) hx hb d_Mo_done_30 (by decide) ?_
  refine lv_iload hx hb d_Mo_done_50 (lv_at hl 1 rfl) ?_
  refine lv_bipush (v := 10) hx hb d_Mo_done_52 (by decide) ?_
  refine lv_idiv hx hb d_Mo_done_54 (by decide) ?_
  refine gx_topi (y := 1000) (by decide) ?_
  refine lv_istore (lv' := [(4, Value.int 1000), (5, Value.int 0), (3, Value.int 0), (0, Value.ref q46), (1, Value.int p1), (2, Value.int 2)]) hx hb d_Mo_done_55 hl (by decide) rfl (fun ls hl => ?_)
  refine lv_goto (tgt := 11) hx hb d_Mo_done_57 (by decide) ?_
  refine lv_iload hx hb d_Mo_done_11 (lv_at hl 0 rfl) ?_
  refine lv_if_le (tgt := 60) hx hb d_Mo_done_13 (by decide) (fun c9 => absurd c9 (by decide)) (fun _ => ?_)
  refine lv_iload_n hx hb d_Mo_done_16 rfl (lv_at hl 5 rfl) ?_
  refine lv_iload hx hb d_Mo_done_17 (lv_at hl 0 rfl) ?_
  refine lv_idiv hx hb d_Mo_done_19 (by decide) ?_
  refine gx_topi (y := 0) (by decide) ?_
  refine lv_bipush (v := 10) hx hb d_Mo_done_20 (by decide) ?_
  refine lv_irem hx hb d_Mo_done_22 (by decide) ?_
  refine gx_topi (y := 0) (by decide) ?_
  refine lv_istore (lv' := [(5, Value.int 0), (4, Value.int 1000), (3, Value.int 0), (0, Value.ref q46), (1, Value.int p1), (2, Value.int 2)]) hx hb d_Mo_done_23 hl (by decide) rfl (fun ls hl => ?_)
  refine lv_iload hx hb d_Mo_done_25 (lv_at hl 0 rfl) ?_
  refine lv_if_ne (tgt := 33) hx hb d_Mo_done_27 (by decide) (fun c9 => absurd (by decide) c9) (fun _ => ?_)
  refine lv_goto (tgt := 50) hx hb d_Mo_done_30 (by decide) ?_
  refine lv_iload hx hb d_Mo_done_50 (lv_at hl 1 rfl) ?_
  refine lv_bipush (v := 10) hx hb d_Mo_done_52 (by decide) ?_
  refine lv_idiv hx hb d_Mo_done_54 (by decide) ?_
  refine gx_topi (y := 100) (by decide) ?_
  refine lv_istore (lv' := [(4, Value.int 100), (5, Value.int 0), (3, Value.int 0), (0, Value.ref q46), (1, Value.int p1), (2, Value.int 2)]) hx hb d_Mo_done_55 hl (by decide) rfl (fun ls hl => ?_)
  refine lv_goto (tgt := 11) hx hb d_Mo_done_57 (by decide) ?_
  refine lv_iload hx hb d_Mo_done_11 (lv_at hl 0 rfl) ?_
  refine lv_if_le (tgt := 60) hx hb d_Mo_done_13 (by decide) (fun c9 => absurd c9 (by decide)) (fun _ => ?_)
  refine lv_iload_n hx hb d_Mo_done_16 rfl (lv_at hl 5 rfl) ?_
  refine lv_iload hx hb d_Mo_done_17 (lv_at hl 0 rfl) ?_
  refine lv_idiv hx hb d_Mo_done_19 (by decide) ?_
  refine gx_topi (y := 0) (by decide) ?_
  refine lv_bipush (v := 10) hx hb d_Mo_done_20 (by decide) ?_
  refine lv_irem hx hb d_Mo_done_22 (by decide) ?_
  refine gx_topi (y := 0) (by decide) ?_
  refine lv_istore (lv' := [(5, Value.int 0), (4, Value.int 100), (3, Value.int 0), (0, Value.ref q46), (1, Value.int p1), (2, Value.int 2)]) hx hb d_Mo_done_23 hl (by decide) rfl (fun ls hl => ?_)
  refine lv_iload hx hb d_Mo_done_25 (lv_at hl 0 rfl) ?_
  refine lv_if_ne (tgt := 33) hx hb d_Mo_done_27 (by decide) (fun c9 => absurd (by decide) c9) (fun _ => ?_)
  refine lv_goto (tgt := 50) hx hb d_Mo_done_30 (by decide) ?_
  refine lv_iload hx hb d_Mo_done_50 (lv_at hl 1 rfl) ?_
  refine lv_bipush (v := 10) hx hb d_Mo_done_52 (by decide) ?_
  refine lv_idiv hx hb d_Mo_done_54 (by decide) ?_
  refine gx_topi (y := 10) (by decide) ?_
  refine lv_istore (lv' := [(4, Value.int 10), (5, Value.int 0), (3, Value.int 0), (0, Value.ref q46), (1, Value.int p1), (2, Value.int 2)]) hx hb d_Mo_done_55 hl (by decide) rfl (fun ls hl => ?_)
  refine lv_goto (tgt := 11) hx hb d_Mo_done_57 (by decide) ?_
  refine lv_iload hx hb d_Mo_done_11 (lv_at hl 0 rfl) ?_
  refine lv_if_le (tgt := 60) hx hb d_Mo_done_13 (by decide) (fun c9 => absurd c9 (by decide)) (fun _ => ?_)
  refine lv_iload_n hx hb d_Mo_done_16 rfl (lv_at hl 5 rfl) ?_
  refine lv_iload hx hb d_Mo_done_17 (lv_at hl 0 rfl) ?_
  refine lv_idiv hx hb d_Mo_done_19 (by decide) ?_
  refine gx_topi (y := 0) (by decide) ?_
  refine lv_bipush (v := 10) hx hb d_Mo_done_20 (by decide) ?_
  refine lv_irem hx hb d_Mo_done_22 (by decide) ?_
  refine gx_topi (y := 0) (by decide) ?_
  refine lv_istore (lv' := [(5, Value.int 0), (4, Value.int 10), (3, Value.int 0), (0, Value.ref q46), (1, Value.int p1), (2, Value.int 2)]) hx hb d_Mo_done_23 hl (by decide) rfl (fun ls hl => ?_)
  refine lv_iload hx hb d_Mo_done_25 (lv_at hl 0 rfl) ?_
  refine lv_if_ne (tgt := 33) hx hb d_Mo_done_27 (by decide) (fun c9 => absurd (by decide) c9) (fun _ => ?_)
  refine lv_goto (tgt := 50) hx hb d_Mo_done_30 (by decide) ?_
  refine lv_iload hx hb d_Mo_done_50 (lv_at hl 1 rfl) ?_
  refine lv_bipush (v := 10) hx hb d_Mo_done_52 (by decide) ?_
  refine lv_idiv hx hb d_Mo_done_54 (by decide) ?_
  refine gx_topi (y := 1) (by decide) ?_
  refine lv_istore (lv' := [(4, Value.int 1), (5, Value.int 0), (3, Value.int 0), (0, Value.ref q46), (1, Value.int p1), (2, Value.int 2)]) hx hb d_Mo_done_55 hl (by decide) rfl (fun ls hl => ?_)
  refine lv_goto (tgt := 11) hx hb d_Mo_done_57 (by decide) ?_
  refine lv_iload hx hb d_Mo_done_11 (lv_at hl 0 rfl) ?_
  refine lv_if_le (tgt := 60) hx hb d_Mo_done_13 (by decide) (fun c9 => absurd c9 (by decide)) (fun _ => ?_)
  refine lv_iload_n hx hb d_Mo_done_16 rfl (lv_at hl 5 rfl) ?_
  refine lv_iload hx hb d_Mo_done_17 (lv_at hl 0 rfl) ?_
  refine lv_idiv hx hb d_Mo_done_19 (by decide) ?_
  refine gx_topi (y := 2) (by decide) ?_
  refine lv_bipush (v := 10) hx hb d_Mo_done_20 (by decide) ?_
  refine lv_irem hx hb d_Mo_done_22 (by decide) ?_
  refine gx_topi (y := 2) (by decide) ?_
  refine lv_istore (lv' := [(5, Value.int 2), (4, Value.int 1), (3, Value.int 0), (0, Value.ref q46), (1, Value.int p1), (2, Value.int 2)]) hx hb d_Mo_done_23 hl (by decide) rfl (fun ls hl => ?_)
  refine lv_iload hx hb d_Mo_done_25 (lv_at hl 0 rfl) ?_
  refine lv_if_ne (tgt := 33) hx hb d_Mo_done_27 (by decide) (fun _ => ?_) (fun c9 => absurd c9 (by decide))
  refine lv_iinc (v := 1) (lv' := [(3, Value.int 1), (5, Value.int 2), (4, Value.int 1), (0, Value.ref q46), (1, Value.int p1), (2, Value.int 2)]) hx hb d_Mo_done_33 hl (k := 2) rfl (by decide) (by decide) rfl (fun ls hl => ?_)
  refine lv_iload hx hb d_Mo_done_36 (lv_at hl 1 rfl) ?_
  refine lv_aload_n hx hb d_Mo_done_38 rfl (lv_at hl 3 rfl) ?_
  refine gz_get (ci := 8) (v := Value.int m_error) (C := "CommitLedgerModel") (T := F_Mo) (N := 35) hx hb hts i_Mo hown hK Z f_46_h1 rfl 0 (by decide) kf_Mo_84 rfl d_Mo_done_39 ?_
  refine lv_icmp_ne (tgt := 50) hx hb d_Mo_done_42 (by decide) (fun c42_2 => ?_) (fun c42_2 => ?_)
  · refine lv_iload hx hb d_Mo_done_50 (lv_at hl 2 rfl) ?_
    refine lv_bipush (v := 10) hx hb d_Mo_done_52 (by decide) ?_
    refine lv_idiv hx hb d_Mo_done_54 (by decide) ?_
    refine gx_topi (y := 0) (by decide) ?_
    refine lv_istore (lv' := [(4, Value.int 0), (3, Value.int 1), (5, Value.int 2), (0, Value.ref q46), (1, Value.int p1), (2, Value.int 2)]) hx hb d_Mo_done_55 hl (by decide) rfl (fun ls hl => ?_)
    refine lv_goto (tgt := 11) hx hb d_Mo_done_57 (by decide) ?_
    refine lv_iload hx hb d_Mo_done_11 (lv_at hl 0 rfl) ?_
    refine lv_if_le (tgt := 60) hx hb d_Mo_done_13 (by decide) (fun _ => ?_) (fun c9 => absurd (by decide) c9)
    refine lv_aload_n hx hb d_Mo_done_60 rfl (lv_at hl 3 rfl) ?_
    refine lv_iconst (v := 0) hx hb d_Mo_done_61 (by decide) ?_
    refine gz_put (ci := 8) (v := Value.int 0) (ty := .int) (C := "CommitLedgerModel") (T := F_Mo) (N := 35) hx hb hts i_Mo t_Mo_ok n_Mo hown hK Z f_46_h1 rfl 0 (by decide) kf_Mo_84 rfl (by decide +kernel) rfl rfl (Nat.le_of_ble_eq_true rfl) d_Mo_done_62 (fun H locs Z => ?_)
    obtain ⟨h3, e_h3⟩ : ∃ z9 : gm_M, z9 = gm_up h1 46 ((q46, Sum.inr (8, [Value.int 0, Value.int 0, Value.ref q47, Value.ref q48, Value.ref q49, Value.int m_docs, Value.ref q50, Value.ref q51, Value.ref q52, Value.ref q53, Value.int m_filesThere, Value.int m_files, Value.int m_actions, Value.int m_power, Value.int m_lost, Value.ref q54, Value.ref q62, Value.ref q70, Value.int m_open, Value.int m_isPrepared, Value.int m_generation, Value.ref q78, Value.ref q79, Value.int m_buffered, Value.int m_limit, Value.int m_factor, um, Value.ref q80, Value.ref q81, Value.ref q82, Value.int m_merges, Value.ref q83, Value.int m_opened, Value.int m_chosenMany, Value.int m_begun])) : Nat × va_E) := ⟨_, rfl⟩
    replace Z : gz D A s.heap h3 H locs := by rw [e_h3]; exact Z
    have f_46_h3 : h3 46 = some ((q46, Sum.inr (8, [Value.int 0, Value.int 0, Value.ref q47, Value.ref q48, Value.ref q49, Value.int m_docs, Value.ref q50, Value.ref q51, Value.ref q52, Value.ref q53, Value.int m_filesThere, Value.int m_files, Value.int m_actions, Value.int m_power, Value.int m_lost, Value.ref q54, Value.ref q62, Value.ref q70, Value.int m_open, Value.int m_isPrepared, Value.int m_generation, Value.ref q78, Value.ref q79, Value.int m_buffered, Value.int m_limit, Value.int m_factor, um, Value.ref q80, Value.ref q81, Value.ref q82, Value.int m_merges, Value.ref q83, Value.int m_opened, Value.int m_chosenMany, Value.int m_begun])) : Nat × va_E) := by rw [e_h3]; exact gm_self
    replace hU : gm_g h h3 [46] := by rw [e_h3]; exact hU.put (by simp)
    refine lv_aload_n hx hb d_Mo_done_65 rfl (lv_at hl 3 rfl) ?_
    refine gz_get (ci := 8) (v := Value.int 0) (C := "CommitLedgerModel") (T := F_Mo) (N := 35) hx hb hts i_Mo hown hK Z f_46_h3 rfl 1 (by decide) kf_Mo_80 rfl d_Mo_done_66 ?_
    refine lv_if_le (tgt := 76) hx hb d_Mo_done_69 (by decide) (fun _ => ?_) (fun c9 => absurd (by decide) c9)
    refine lv_iload_n hx hb d_Mo_done_76 rfl (lv_at hl 4 rfl) ?_
    exact gz_iret (v := p1) hx hb hr hlocks hK Z (by decide) (by decide) (by rw [← hPQ]; exact Or.inl ⟨rfl, hU, f_46_h3, c42_2⟩) d_Mo_done_77
  · refine lv_aload_n hx hb d_Mo_done_45 rfl (lv_at hl 3 rfl) ?_
    refine lv_iload_n hx hb d_Mo_done_46 rfl (lv_at hl 0 rfl) ?_
    refine gz_put (ci := 8) (v := Value.int 1) (ty := .int) (C := "CommitLedgerModel") (T := F_Mo) (N := 35) hx hb hts i_Mo t_Mo_ok n_Mo hown hK Z f_46_h1 rfl 1 (by decide) kf_Mo_80 rfl (by decide +kernel) rfl rfl (Nat.le_of_ble_eq_true rfl) d_Mo_done_47 (fun H locs Z => ?_)
    obtain ⟨h4, e_h4⟩ : ∃ z9 : gm_M, z9 = gm_up h1 46 ((q46, Sum.inr (8, [Value.int m_error, Value.int 1, Value.ref q47, Value.ref q48, Value.ref q49, Value.int m_docs, Value.ref q50, Value.ref q51, Value.ref q52, Value.ref q53, Value.int m_filesThere, Value.int m_files, Value.int m_actions, Value.int m_power, Value.int m_lost, Value.ref q54, Value.ref q62, Value.ref q70, Value.int m_open, Value.int m_isPrepared, Value.int m_generation, Value.ref q78, Value.ref q79, Value.int m_buffered, Value.int m_limit, Value.int m_factor, um, Value.ref q80, Value.ref q81, Value.ref q82, Value.int m_merges, Value.ref q83, Value.int m_opened, Value.int m_chosenMany, Value.int m_begun])) : Nat × va_E) := ⟨_, rfl⟩
    replace Z : gz D A s.heap h4 H locs := by rw [e_h4]; exact Z
    have f_46_h4 : h4 46 = some ((q46, Sum.inr (8, [Value.int m_error, Value.int 1, Value.ref q47, Value.ref q48, Value.ref q49, Value.int m_docs, Value.ref q50, Value.ref q51, Value.ref q52, Value.ref q53, Value.int m_filesThere, Value.int m_files, Value.int m_actions, Value.int m_power, Value.int m_lost, Value.ref q54, Value.ref q62, Value.ref q70, Value.int m_open, Value.int m_isPrepared, Value.int m_generation, Value.ref q78, Value.ref q79, Value.int m_buffered, Value.int m_limit, Value.int m_factor, um, Value.ref q80, Value.ref q81, Value.ref q82, Value.int m_merges, Value.ref q83, Value.int m_opened, Value.int m_chosenMany, Value.int m_begun])) : Nat × va_E) := by rw [e_h4]; exact gm_self
    replace hU : gm_g h h4 [46] := by rw [e_h4]; exact hU.put (by simp)
    refine lv_iload hx hb d_Mo_done_50 (lv_at hl 2 rfl) ?_
    refine lv_bipush (v := 10) hx hb d_Mo_done_52 (by decide) ?_
    refine lv_idiv hx hb d_Mo_done_54 (by decide) ?_
    refine gx_topi (y := 0) (by decide) ?_
    refine lv_istore (lv' := [(4, Value.int 0), (3, Value.int 1), (5, Value.int 2), (0, Value.ref q46), (1, Value.int p1), (2, Value.int 2)]) hx hb d_Mo_done_55 hl (by decide) rfl (fun ls hl => ?_)
    refine lv_goto (tgt := 11) hx hb d_Mo_done_57 (by decide) ?_
    refine lv_iload hx hb d_Mo_done_11 (lv_at hl 0 rfl) ?_
    refine lv_if_le (tgt := 60) hx hb d_Mo_done_13 (by decide) (fun _ => ?_) (fun c9 => absurd (by decide) c9)
    refine lv_aload_n hx hb d_Mo_done_60 rfl (lv_at hl 3 rfl) ?_
    refine lv_iconst (v := 0) hx hb d_Mo_done_61 (by decide) ?_
    refine gz_put (ci := 8) (v := Value.int 0) (ty := .int) (C := "CommitLedgerModel") (T := F_Mo) (N := 35) hx hb hts i_Mo t_Mo_ok n_Mo hown hK Z f_46_h4 rfl 0 (by decide) kf_Mo_84 rfl (by decide +kernel) rfl rfl (Nat.le_of_ble_eq_true rfl) d_Mo_done_62 (fun H locs Z => ?_)
    obtain ⟨h5, e_h5⟩ : ∃ z9 : gm_M, z9 = gm_up h4 46 ((q46, Sum.inr (8, [Value.int 0, Value.int 1, Value.ref q47, Value.ref q48, Value.ref q49, Value.int m_docs, Value.ref q50, Value.ref q51, Value.ref q52, Value.ref q53, Value.int m_filesThere, Value.int m_files, Value.int m_actions, Value.int m_power, Value.int m_lost, Value.ref q54, Value.ref q62, Value.ref q70, Value.int m_open, Value.int m_isPrepared, Value.int m_generation, Value.ref q78, Value.ref q79, Value.int m_buffered, Value.int m_limit, Value.int m_factor, um, Value.ref q80, Value.ref q81, Value.ref q82, Value.int m_merges, Value.ref q83, Value.int m_opened, Value.int m_chosenMany, Value.int m_begun])) : Nat × va_E) := ⟨_, rfl⟩
    replace Z : gz D A s.heap h5 H locs := by rw [e_h5]; exact Z
    have f_46_h5 : h5 46 = some ((q46, Sum.inr (8, [Value.int 0, Value.int 1, Value.ref q47, Value.ref q48, Value.ref q49, Value.int m_docs, Value.ref q50, Value.ref q51, Value.ref q52, Value.ref q53, Value.int m_filesThere, Value.int m_files, Value.int m_actions, Value.int m_power, Value.int m_lost, Value.ref q54, Value.ref q62, Value.ref q70, Value.int m_open, Value.int m_isPrepared, Value.int m_generation, Value.ref q78, Value.ref q79, Value.int m_buffered, Value.int m_limit, Value.int m_factor, um, Value.ref q80, Value.ref q81, Value.ref q82, Value.int m_merges, Value.ref q83, Value.int m_opened, Value.int m_chosenMany, Value.int m_begun])) : Nat × va_E) := by rw [e_h5]; exact gm_self
    replace hU : gm_g h h5 [46] := by rw [e_h5]; exact hU.put (by simp)
    refine lv_aload_n hx hb d_Mo_done_65 rfl (lv_at hl 3 rfl) ?_
    refine gz_get (ci := 8) (v := Value.int 1) (C := "CommitLedgerModel") (T := F_Mo) (N := 35) hx hb hts i_Mo hown hK Z f_46_h5 rfl 1 (by decide) kf_Mo_80 rfl d_Mo_done_66 ?_
    refine lv_if_le (tgt := 76) hx hb d_Mo_done_69 (by decide) (fun c9 => absurd c9 (by decide)) (fun _ => ?_)
    refine lv_iconst (v := 0) hx hb d_Mo_done_72 (by decide) ?_
    refine lv_goto (tgt := 77) hx hb d_Mo_done_73 (by decide) ?_
    exact gz_iret (v := 0) hx hb hr hlocks hK Z (by decide) (by decide) (by rw [← hPQ]; exact Or.inr (⟨rfl, hU, f_46_h5, c42_2⟩)) d_Mo_done_77

set_option maxHeartbeats 4000000 in
set_option maxRecDepth 100000 in
theorem k_Mo_done_3 (l : Launch) (htr : l.stackTraces = false) (D : va_G) (tys : List (ClassId × FieldType)) (z sz : Nat) (ws : va_W) (h : gm_M) (hM : gm_S h ws) (q46 : Nat) (q47 : Nat) (q48 : Nat) (q49 : Nat) (q50 : Nat) (q51 : Nat) (q52 : Nat) (q53 : Nat) (q54 : Nat) (q62 : Nat) (q70 : Nat) (q78 : Nat) (q79 : Nat) (q80 : Nat) (q81 : Nat) (q82 : Nat) (q83 : Nat) (um : Value) (m_error : Int32) (m_thrown : Int32) (m_docs : Int32) (m_filesThere : Int32) (m_files : Int32) (m_actions : Int32) (m_power : Int32) (m_lost : Int32) (m_open : Int32) (m_isPrepared : Int32) (m_generation : Int32) (m_buffered : Int32) (m_limit : Int32) (m_factor : Int32) (m_merges : Int32) (m_opened : Int32) (m_chosenMany : Int32) (m_begun : Int32) (p1 : Int32) (f_46 : h 46 = some ((q46, Sum.inr (8, [Value.int m_error, Value.int m_thrown, Value.ref q47, Value.ref q48, Value.ref q49, Value.int m_docs, Value.ref q50, Value.ref q51, Value.ref q52, Value.ref q53, Value.int m_filesThere, Value.int m_files, Value.int m_actions, Value.int m_power, Value.int m_lost, Value.ref q54, Value.ref q62, Value.ref q70, Value.int m_open, Value.int m_isPrepared, Value.int m_generation, Value.ref q78, Value.ref q79, Value.int m_buffered, Value.int m_limit, Value.int m_factor, um, Value.ref q80, Value.ref q81, Value.ref q82, Value.int m_merges, Value.ref q83, Value.int m_opened, Value.int m_chosenMany, Value.int m_begun])) : Nat × va_E)) : gx_Met l y_Mo_done [Cond.code y_Mo_done b_Mo_done 6 (some .int)] { frames := 1, cells := 0, slots := 0, locals := 12 } (gx_P z sz D classes tys ws [Value.ref q46, Value.int p1, Value.int 3]) (gx_Q D classes tys (va_A ws sz) (gm_p (fun r h' => (r = Sum.inl (some (Value.int p1)) ∧ gm_g h h' [46] ∧ h' 46 = some ((q46, Sum.inr (8, [Value.int 0, Value.int 0, Value.ref q47, Value.ref q48, Value.ref q49, Value.int m_docs, Value.ref q50, Value.ref q51, Value.ref q52, Value.ref q53, Value.int m_filesThere, Value.int m_files, Value.int m_actions, Value.int m_power, Value.int m_lost, Value.ref q54, Value.ref q62, Value.ref q70, Value.int m_open, Value.int m_isPrepared, Value.int m_generation, Value.ref q78, Value.ref q79, Value.int m_buffered, Value.int m_limit, Value.int m_factor, um, Value.ref q80, Value.ref q81, Value.ref q82, Value.int m_merges, Value.ref q83, Value.int m_opened, Value.int m_chosenMany, Value.int m_begun])) : Nat × va_E) ∧ (¬ 3 = m_error)) ∨ (r = Sum.inl (some (Value.int 0)) ∧ gm_g h h' [46] ∧ h' 46 = some ((q46, Sum.inr (8, [Value.int 0, Value.int 1, Value.ref q47, Value.ref q48, Value.ref q49, Value.int m_docs, Value.ref q50, Value.ref q51, Value.ref q52, Value.ref q53, Value.int m_filesThere, Value.int m_files, Value.int m_actions, Value.int m_power, Value.int m_lost, Value.ref q54, Value.ref q62, Value.ref q70, Value.int m_open, Value.int m_isPrepared, Value.int m_generation, Value.ref q78, Value.ref q79, Value.int m_buffered, Value.int m_limit, Value.int m_factor, um, Value.ref q80, Value.ref q81, Value.ref q82, Value.int m_merges, Value.ref q83, Value.int m_opened, Value.int m_chosenMany, Value.int m_begun])) : Nat × va_E) ∧ (3 = m_error))))) 0 0 (va_A ws sz) := by
  refine gx_ofW (cc := b_Mo_done) (maxL := 6) (ret := (some .int)) (by decide) rfl ?_
  intro p e s m args below meth c s₁ B hml hv
  obtain ⟨rfl, hsz, hz, hP, hK, hD0, hY⟩ := hv
  have hx := B.exec
  have hb := B.bytes
  have hr := B.returns
  have hts := hY.hts (#[Value.ref q46, Value.int p1, Value.int 3] : Array Value)
  have hown : s.vm.findClass "CommitLedgerModel" = some m.cls := findClass_of_methodNamed B.named
  have hlocks := B.notSynchronized
  have hne : c.exceptionTable.isEmpty = true := B.noHandlers (atoms_spec (ws := [Cond.code y_Mo_done b_Mo_done 6 (some .int)]) B.pre _ List.mem_cons_self)
  subst hsz
  have hAz := gx_az hD0 hz
  have hD := hD0.self (sz := s.heap.size)
  have hN := gx_ns hP
  have hA : ∀ q : Nat, s.heap.size ≤ q → va_A ws s.heap.size q := fun q h => Or.inr h
  generalize va_A ws s.heap.size = A at hD hN hA hAz ⊢
  generalize hPQ : (fun (r : Option Value ⊕ String) (h' : gm_M) => (r = Sum.inl (some (Value.int p1)) ∧ gm_g h h' [46] ∧ h' 46 = some ((q46, Sum.inr (8, [Value.int 0, Value.int 0, Value.ref q47, Value.ref q48, Value.ref q49, Value.int m_docs, Value.ref q50, Value.ref q51, Value.ref q52, Value.ref q53, Value.int m_filesThere, Value.int m_files, Value.int m_actions, Value.int m_power, Value.int m_lost, Value.ref q54, Value.ref q62, Value.ref q70, Value.int m_open, Value.int m_isPrepared, Value.int m_generation, Value.ref q78, Value.ref q79, Value.int m_buffered, Value.int m_limit, Value.int m_factor, um, Value.ref q80, Value.ref q81, Value.ref q82, Value.int m_merges, Value.ref q83, Value.int m_opened, Value.int m_chosenMany, Value.int m_begun])) : Nat × va_E) ∧ (¬ 3 = m_error)) ∨ (r = Sum.inl (some (Value.int 0)) ∧ gm_g h h' [46] ∧ h' 46 = some ((q46, Sum.inr (8, [Value.int 0, Value.int 1, Value.ref q47, Value.ref q48, Value.ref q49, Value.int m_docs, Value.ref q50, Value.ref q51, Value.ref q52, Value.ref q53, Value.int m_filesThere, Value.int m_files, Value.int m_actions, Value.int m_power, Value.int m_lost, Value.ref q54, Value.ref q62, Value.ref q70, Value.int m_open, Value.int m_isPrepared, Value.int m_generation, Value.ref q78, Value.ref q79, Value.int m_buffered, Value.int m_limit, Value.int m_factor, um, Value.ref q80, Value.ref q81, Value.ref q82, Value.int m_merges, Value.ref q83, Value.int m_opened, Value.int m_chosenMany, Value.int m_begun])) : Nat × va_E) ∧ (3 = m_error))) = PQ
  have Z : gz D A s.heap h s.heap [] := ⟨ws, hM, hP, hD, va_S.rf⟩
  clear hP hD hM hD0
  have hU : gm_g h h [46] := gm_g.rf
  have hl := lv_entry ([Value.ref q46, Value.int p1, Value.int 3]) (n := 6) (Nat.le_of_ble_eq_true rfl)
  rw [lg_entry_eq]
  generalize (lg_sl ([Value.ref q46, Value.int p1, Value.int 3]) ++ List.replicate (6 - (lg_sl ([Value.ref q46, Value.int p1, Value.int 3])).length) Slot.unset).toArray = ls at hl ⊢
  have hl : lv_has ls 6 [(0, Value.ref q46), (1, Value.int p1), (2, Value.int 3)] := hl
  refine lv_aload_n hx hb d_Mo_done_0 rfl (lv_at hl 0 rfl) ?_
  refine lv_iconst (v := 0) hx hb d_Mo_done_1 (by decide) ?_
  refine gz_put (ci := 8) (v := Value.int 0) (ty := .int) (C := "CommitLedgerModel") (T := F_Mo) (N := 35) hx hb hts i_Mo t_Mo_ok n_Mo hown hK Z f_46 rfl 1 (by decide) kf_Mo_80 rfl (by decide +kernel) rfl rfl (Nat.le_of_ble_eq_true rfl) d_Mo_done_2 (fun H locs Z => ?_)
  obtain ⟨h1, e_h1⟩ : ∃ z9 : gm_M, z9 = gm_up h 46 ((q46, Sum.inr (8, [Value.int m_error, Value.int 0, Value.ref q47, Value.ref q48, Value.ref q49, Value.int m_docs, Value.ref q50, Value.ref q51, Value.ref q52, Value.ref q53, Value.int m_filesThere, Value.int m_files, Value.int m_actions, Value.int m_power, Value.int m_lost, Value.ref q54, Value.ref q62, Value.ref q70, Value.int m_open, Value.int m_isPrepared, Value.int m_generation, Value.ref q78, Value.ref q79, Value.int m_buffered, Value.int m_limit, Value.int m_factor, um, Value.ref q80, Value.ref q81, Value.ref q82, Value.int m_merges, Value.ref q83, Value.int m_opened, Value.int m_chosenMany, Value.int m_begun])) : Nat × va_E) := ⟨_, rfl⟩
  replace Z : gz D A s.heap h1 H locs := by rw [e_h1]; exact Z
  have f_46_h1 : h1 46 = some ((q46, Sum.inr (8, [Value.int m_error, Value.int 0, Value.ref q47, Value.ref q48, Value.ref q49, Value.int m_docs, Value.ref q50, Value.ref q51, Value.ref q52, Value.ref q53, Value.int m_filesThere, Value.int m_files, Value.int m_actions, Value.int m_power, Value.int m_lost, Value.ref q54, Value.ref q62, Value.ref q70, Value.int m_open, Value.int m_isPrepared, Value.int m_generation, Value.ref q78, Value.ref q79, Value.int m_buffered, Value.int m_limit, Value.int m_factor, um, Value.ref q80, Value.ref q81, Value.ref q82, Value.int m_merges, Value.ref q83, Value.int m_opened, Value.int m_chosenMany, Value.int m_begun])) : Nat × va_E) := by rw [e_h1]; exact gm_self
  replace hU : gm_g h h1 [46] := by rw [e_h1]; exact hU.put (by simp)
  refine lv_iconst (v := 0) hx hb d_Mo_done_5 (by decide) ?_
  refine lv_istore_n (lv' := [(3, Value.int 0), (0, Value.ref q46), (1, Value.int p1), (2, Value.int 3)]) hx hb d_Mo_done_6 rfl hl (by decide) rfl (fun ls hl => ?_)
  refine lv_ldc (v := 100000) hx hb hown (hts _ ki_Mo_83) d_Mo_done_7 ?_
  refine lv_istore (lv' := [(4, Value.int 100000), (3, Value.int 0), (0, Value.ref q46), (1, Value.int p1), (2, Value.int 3)]) hx hb d_Mo_done_9 hl (by decide) rfl (fun ls hl => ?_)
  refine lv_iload hx hb d_Mo_done_11 (lv_at hl 0 rfl) ?_
  refine lv_if_le (tgt := 60) hx hb d_Mo_done_13 (by decide) (fun c9 => absurd c9 (by decide)) (fun _ => ?_)
  refine lv_iload_n hx hb d_Mo_done_16 rfl (lv_at hl 4 rfl) ?_
  refine lv_iload hx hb d_Mo_done_17 (lv_at hl 0 rfl) ?_
  refine lv_idiv hx hb d_Mo_done_19 (by decide) ?_
  refine gx_topi (y := 0) (by decide) ?_
  refine lv_bipush (v := 10) hx hb d_Mo_done_20 (by decide) ?_
  refine lv_irem hx hb d_Mo_done_22 (by decide) ?_
  refine gx_topi (y := 0) (by decide) ?_
  refine lv_istore (lv' := [(5, Value.int 0), (4, Value.int 100000), (3, Value.int 0), (0, Value.ref q46), (1, Value.int p1), (2, Value.int 3)]) hx hb d_Mo_done_23 hl (by decide) rfl (fun ls hl => ?_)
  refine lv_iload hx hb d_Mo_done_25 (lv_at hl 0 rfl) ?_
  refine lv_if_ne (tgt := 33) hx hb d_Mo_done_27 (by decide) (fun c9 => absurd (by decide) c9) (fun _ => ?_)
  refine lv_goto (tgt := 50) hx hb d_Mo_done_30 (by decide) ?_
  refine lv_iload hx hb d_Mo_done_50 (lv_at hl 1 rfl) ?_
  refine lv_bipush (v := 10) hx hb d_Mo_done_52 (by decide) ?_
  refine lv_idiv hx hb d_Mo_done_54 (by decide) ?_
  refine gx_topi (y := 10000) (by decide) ?_
  refine lv_istore (lv' := [(4, Value.int 10000), (5, Value.int 0), (3, Value.int 0), (0, Value.ref q46), (1, Value.int p1), (2, Value.int 3)]) hx hb d_Mo_done_55 hl (by decide) rfl (fun ls hl => ?_)
  refine lv_goto (tgt := 11) hx hb d_Mo_done_57 (by decide) ?_
  refine lv_iload hx hb d_Mo_done_11 (lv_at hl 0 rfl) ?_
  refine lv_if_le (tgt := 60) hx hb d_Mo_done_13 (by decide) (fun c9 => absurd c9 (by decide)) (fun _ => ?_)
  refine lv_iload_n hx hb d_Mo_done_16 rfl (lv_at hl 5 rfl) ?_
  refine lv_iload hx hb d_Mo_done_17 (lv_at hl 0 rfl) ?_
  refine lv_idiv hx hb d_Mo_done_19 (by decide) ?_
  refine gx_topi (y := 0) (by decide) ?_
  refine lv_bipush (v := 10) hx hb d_Mo_done_20 (by decide) ?_
  refine lv_irem hx hb d_Mo_done_22 (by decide) ?_
  refine gx_topi (y := 0) (by decide) ?_
  refine lv_istore (lv' := [(5, Value.int 0), (4, Value.int 10000), (3, Value.int 0), (0, Value.ref q46), (1, Value.int p1), (2, Value.int 3)]) hx hb d_Mo_done_23 hl (by decide) rfl (fun ls hl => ?_)
  refine lv_iload hx hb d_Mo_done_25 (lv_at hl 0 rfl) ?_
  refine lv_if_ne (tgt := 33) hx hb d_Mo_done_27 (by decide) (fun c9 => absurd (by decide) c9) (fun _ => ?_)
  refine lv_goto (tgt := 50) hx hb d_Mo_done_30 (by decide) ?_
  refine lv_iload hx hb d_Mo_done_50 (lv_at hl 1 rfl) ?_
  refine lv_bipush (v := 10) hx hb d_Mo_done_52 (by decide) ?_
  refine lv_idiv hx hb d_Mo_done_54 (by decide) ?_
  refine gx_topi (y := 1000) (by decide) ?_
  refine lv_istore (lv' := [(4, Value.int 1000), (5, Value.int 0), (3, Value.int 0), (0, Value.ref q46), (1, Value.int p1), (2, Value.int 3)]) hx hb d_Mo_done_55 hl (by decide) rfl (fun ls hl => ?_)
  refine lv_goto (tgt := 11) hx hb d_Mo_done_57 (by decide) ?_
  refine lv_iload hx hb d_Mo_done_11 (lv_at hl 0 rfl) ?_
  refine lv_if_le (tgt := 60) hx hb d_Mo_done_13 (by decide) (fun c9 => absurd c9 (by decide)) (fun _ => ?_)
  refine lv_iload_n hx hb d_Mo_done_16 rfl (lv_at hl 5 rfl) ?_
  refine lv_iload hx hb d_Mo_done_17 (lv_at hl 0 rfl) ?_
  refine lv_idiv hx hb d_Mo_done_19 (by decide) ?_
  refine gx_topi (y := 0) (by decide) ?_
  refine lv_bipush (v := 10) hx hb d_Mo_done_20 (by decide) ?_
  refine lv_irem hx hb d_Mo_done_22 (by decide) ?_
  refine gx_topi (y := 0) (by decide) ?_
  refine lv_istore (lv' := [(5, Value.int 0), (4, Value.int 1000), (3, Value.int 0), (0, Value.ref q46), (1, Value.int p1), (2, Value.int 3)]) hx hb d_Mo_done_23 hl (by decide) rfl (fun ls hl => ?_)
  refine lv_iload hx hb d_Mo_done_25 (lv_at hl 0 rfl) ?_
  refine lv_if_ne (tgt := 33) hx hb d_Mo_done_27 (by decide) (fun c9 => absurd (by decide) c9) (fun _ => ?_)
  refine lv_goto (tgt := 50) hx hb d_Mo_done_30 (by decide) ?_
  refine lv_iload hx hb d_Mo_done_50 (lv_at hl 1 rfl) ?_
  refine lv_bipush (v := 10) hx hb d_Mo_done_52 (by decide) ?_
  refine lv_idiv hx hb d_Mo_done_54 (by decide) ?_
  refine gx_topi (y := 100) (by decide) ?_
  refine lv_istore (lv' := [(4, Value.int 100), (5, Value.int 0), (3, Value.int 0), (0, Value.ref q46), (1, Value.int p1), (2, Value.int 3)]) hx hb d_Mo_done_55 hl (by decide) rfl (fun ls hl => ?_)
  refine lv_goto (tgt := 11) hx hb d_Mo_done_57 (by decide) ?_
  refine lv_iload hx hb d_Mo_done_11 (lv_at hl 0 rfl) ?_
  refine lv_if_le (tgt := 60) hx hb d_Mo_done_13 (by decide) (fun c9 => absurd c9 (by decide)) (fun _ => ?_)
  refine lv_iload_n hx hb d_Mo_done_16 rfl (lv_at hl 5 rfl) ?_
  refine lv_iload hx hb d_Mo_done_17 (lv_at hl 0 rfl) ?_
  refine lv_idiv hx hb d_Mo_done_19 (by decide) ?_
  refine gx_topi (y := 0) (by decide) ?_
  refine lv_bipush (v := 10) hx hb d_Mo_done_20 (by decide) ?_
  refine lv_irem hx hb d_Mo_done_22 (by decide) ?_
  refine gx_topi (y := 0) (by decide) ?_
  refine lv_istore (lv' := [(5, Value.int 0), (4, Value.int 100), (3, Value.int 0), (0, Value.ref q46), (1, Value.int p1), (2, Value.int 3)]) hx hb d_Mo_done_23 hl (by decide) rfl (fun ls hl => ?_)
  refine lv_iload hx hb d_Mo_done_25 (lv_at hl 0 rfl) ?_
  refine lv_if_ne (tgt := 33) hx hb d_Mo_done_27 (by decide) (fun c9 => absurd (by decide) c9) (fun _ => ?_)
  refine lv_goto (tgt := 50) hx hb d_Mo_done_30 (by decide) ?_
  refine lv_iload hx hb d_Mo_done_50 (lv_at hl 1 rfl) ?_
  refine lv_bipush (v := 10) hx hb d_Mo_done_52 (by decide) ?_
  refine lv_idiv hx hb d_Mo_done_54 (by decide) ?_
  refine gx_topi (y := 10) (by decide) ?_
  refine lv_istore (lv' := [(4, Value.int 10), (5, Value.int 0), (3, Value.int 0), (0, Value.ref q46), (1, Value.int p1), (2, Value.int 3)]) hx hb d_Mo_done_55 hl (by decide) rfl (fun ls hl => ?_)
  refine lv_goto (tgt := 11) hx hb d_Mo_done_57 (by decide) ?_
  refine lv_iload hx hb d_Mo_done_11 (lv_at hl 0 rfl) ?_
  refine lv_if_le (tgt := 60) hx hb d_Mo_done_13 (by decide) (fun c9 => absurd c9 (by decide)) (fun _ => ?_)
  refine lv_iload_n hx hb d_Mo_done_16 rfl (lv_at hl 5 rfl) ?_
  refine lv_iload hx hb d_Mo_done_17 (lv_at hl 0 rfl) ?_
  refine lv_idiv hx hb d_Mo_done_19 (by decide) ?_
  refine gx_topi (y := 0) (by decide) ?_
  refine lv_bipush (v := 10) hx hb d_Mo_done_20 (by decide) ?_
  refine lv_irem hx hb d_Mo_done_22 (by decide) ?_
  refine gx_topi (y := 0) (by decide) ?_
  refine lv_istore (lv' := [(5, Value.int 0), (4, Value.int 10), (3, Value.int 0), (0, Value.ref q46), (1, Value.int p1), (2, Value.int 3)]) hx hb d_Mo_done_23 hl (by decide) rfl (fun ls hl => ?_)
  refine lv_iload hx hb d_Mo_done_25 (lv_at hl 0 rfl) ?_
  refine lv_if_ne (tgt := 33) hx hb d_Mo_done_27 (by decide) (fun c9 => absurd (by decide) c9) (fun _ => ?_)
  refine lv_goto (tgt := 50) hx hb d_Mo_done_30 (by decide) ?_
  refine lv_iload hx hb d_Mo_done_50 (lv_at hl 1 rfl) ?_
  refine lv_bipush (v := 10) hx hb d_Mo_done_52 (by decide) ?_
  refine lv_idiv hx hb d_Mo_done_54 (by decide) ?_
  refine gx_topi (y := 1) (by decide) ?_
  refine lv_istore (lv' := [(4, Value.int 1), (5, Value.int 0), (3, Value.int 0), (0, Value.ref q46), (1, Value.int p1), (2, Value.int 3)]) hx hb d_Mo_done_55 hl (by decide) rfl (fun ls hl => ?_)
  refine lv_goto (tgt := 11) hx hb d_Mo_done_57 (by decide) ?_
  refine lv_iload hx hb d_Mo_done_11 (lv_at hl 0 rfl) ?_
  refine lv_if_le (tgt := 60) hx hb d_Mo_done_13 (by decide) (fun c9 => absurd c9 (by decide)) (fun _ => ?_)
  refine lv_iload_n hx hb d_Mo_done_16 rfl (lv_at hl 5 rfl) ?_
  refine lv_iload hx hb d_Mo_done_17 (lv_at hl 0 rfl) ?_
  refine lv_idiv hx hb d_Mo_done_19 (by decide) ?_
  refine gx_topi (y := 3) (by decide) ?_
  refine lv_bipush (v := 10) hx hb d_Mo_done_20 (by decide) ?_
  refine lv_irem hx hb d_Mo_done_22 (by decide) ?_
  refine gx_topi (y := 3) (by decide) ?_
  refine lv_istore (lv' := [(5, Value.int 3), (4, Value.int 1), (3, Value.int 0), (0, Value.ref q46), (1, Value.int p1), (2, Value.int 3)]) hx hb d_Mo_done_23 hl (by decide) rfl (fun ls hl => ?_)
  refine lv_iload hx hb d_Mo_done_25 (lv_at hl 0 rfl) ?_
  refine lv_if_ne (tgt := 33) hx hb d_Mo_done_27 (by decide) (fun _ => ?_) (fun c9 => absurd c9 (by decide))
  refine lv_iinc (v := 1) (lv' := [(3, Value.int 1), (5, Value.int 3), (4, Value.int 1), (0, Value.ref q46), (1, Value.int p1), (2, Value.int 3)]) hx hb d_Mo_done_33 hl (k := 2) rfl (by decide) (by decide) rfl (fun ls hl => ?_)
  refine lv_iload hx hb d_Mo_done_36 (lv_at hl 1 rfl) ?_
  refine lv_aload_n hx hb d_Mo_done_38 rfl (lv_at hl 3 rfl) ?_
  refine gz_get (ci := 8) (v := Value.int m_error) (C := "CommitLedgerModel") (T := F_Mo) (N := 35) hx hb hts i_Mo hown hK Z f_46_h1 rfl 0 (by decide) kf_Mo_84 rfl d_Mo_done_39 ?_
  refine lv_icmp_ne (tgt := 50) hx hb d_Mo_done_42 (by decide) (fun c42_2 => ?_) (fun c42_2 => ?_)
  · refine lv_iload hx hb d_Mo_done_50 (lv_at hl 2 rfl) ?_
    refine lv_bipush (v := 10) hx hb d_Mo_done_52 (by decide) ?_
    refine lv_idiv hx hb d_Mo_done_54 (by decide) ?_
    refine gx_topi (y := 0) (by decide) ?_
    refine lv_istore (lv' := [(4, Value.int 0), (3, Value.int 1), (5, Value.int 3), (0, Value.ref q46), (1, Value.int p1), (2, Value.int 3)]) hx hb d_Mo_done_55 hl (by decide) rfl (fun ls hl => ?_)
    refine lv_goto (tgt := 11) hx hb d_Mo_done_57 (by decide) ?_
    refine lv_iload hx hb d_Mo_done_11 (lv_at hl 0 rfl) ?_
    refine lv_if_le (tgt := 60) hx hb d_Mo_done_13 (by decide) (fun _ => ?_) (fun c9 => absurd (by decide) c9)
    refine lv_aload_n hx hb d_Mo_done_60 rfl (lv_at hl 3 rfl) ?_
    refine lv_iconst (v := 0) hx hb d_Mo_done_61 (by decide) ?_
    refine gz_put (ci := 8) (v := Value.int 0) (ty := .int) (C := "CommitLedgerModel") (T := F_Mo) (N := 35) hx hb hts i_Mo t_Mo_ok n_Mo hown hK Z f_46_h1 rfl 0 (by decide) kf_Mo_84 rfl (by decide +kernel) rfl rfl (Nat.le_of_ble_eq_true rfl) d_Mo_done_62 (fun H locs Z => ?_)
    obtain ⟨h3, e_h3⟩ : ∃ z9 : gm_M, z9 = gm_up h1 46 ((q46, Sum.inr (8, [Value.int 0, Value.int 0, Value.ref q47, Value.ref q48, Value.ref q49, Value.int m_docs, Value.ref q50, Value.ref q51, Value.ref q52, Value.ref q53, Value.int m_filesThere, Value.int m_files, Value.int m_actions, Value.int m_power, Value.int m_lost, Value.ref q54, Value.ref q62, Value.ref q70, Value.int m_open, Value.int m_isPrepared, Value.int m_generation, Value.ref q78, Value.ref q79, Value.int m_buffered, Value.int m_limit, Value.int m_factor, um, Value.ref q80, Value.ref q81, Value.ref q82, Value.int m_merges, Value.ref q83, Value.int m_opened, Value.int m_chosenMany, Value.int m_begun])) : Nat × va_E) := ⟨_, rfl⟩
    replace Z : gz D A s.heap h3 H locs := by rw [e_h3]; exact Z
    have f_46_h3 : h3 46 = some ((q46, Sum.inr (8, [Value.int 0, Value.int 0, Value.ref q47, Value.ref q48, Value.ref q49, Value.int m_docs, Value.ref q50, Value.ref q51, Value.ref q52, Value.ref q53, Value.int m_filesThere, Value.int m_files, Value.int m_actions, Value.int m_power, Value.int m_lost, Value.ref q54, Value.ref q62, Value.ref q70, Value.int m_open, Value.int m_isPrepared, Value.int m_generation, Value.ref q78, Value.ref q79, Value.int m_buffered, Value.int m_limit, Value.int m_factor, um, Value.ref q80, Value.ref q81, Value.ref q82, Value.int m_merges, Value.ref q83, Value.int m_opened, Value.int m_chosenMany, Value.int m_begun])) : Nat × va_E) := by rw [e_h3]; exact gm_self
    replace hU : gm_g h h3 [46] := by rw [e_h3]; exact hU.put (by simp)
    refine lv_aload_n hx hb d_Mo_done_65 rfl (lv_at hl 3 rfl) ?_
    refine gz_get (ci := 8) (v := Value.int 0) (C := "CommitLedgerModel") (T := F_Mo) (N := 35) hx hb hts i_Mo hown hK Z f_46_h3 rfl 1 (by decide) kf_Mo_80 rfl d_Mo_done_66 ?_
    refine lv_if_le (tgt := 76) hx hb d_Mo_done_69 (by decide) (fun _ => ?_) (fun c9 => absurd (by decide) c9)
    refine lv_iload_n hx hb d_Mo_done_76 rfl (lv_at hl 4 rfl) ?_
    exact gz_iret (v := p1) hx hb hr hlocks hK Z (by decide) (by decide) (by rw [← hPQ]; exact Or.inl ⟨rfl, hU, f_46_h3, c42_2⟩) d_Mo_done_77
  · refine lv_aload_n hx hb d_Mo_done_45 rfl (lv_at hl 3 rfl) ?_
    refine lv_iload_n hx hb d_Mo_done_46 rfl (lv_at hl 0 rfl) ?_
    refine gz_put (ci := 8) (v := Value.int 1) (ty := .int) (C := "CommitLedgerModel") (T := F_Mo) (N := 35) hx hb hts i_Mo t_Mo_ok n_Mo hown hK Z f_46_h1 rfl 1 (by decide) kf_Mo_80 rfl (by decide +kernel) rfl rfl (Nat.le_of_ble_eq_true rfl) d_Mo_done_47 (fun H locs Z => ?_)
    obtain ⟨h4, e_h4⟩ : ∃ z9 : gm_M, z9 = gm_up h1 46 ((q46, Sum.inr (8, [Value.int m_error, Value.int 1, Value.ref q47, Value.ref q48, Value.ref q49, Value.int m_docs, Value.ref q50, Value.ref q51, Value.ref q52, Value.ref q53, Value.int m_filesThere, Value.int m_files, Value.int m_actions, Value.int m_power, Value.int m_lost, Value.ref q54, Value.ref q62, Value.ref q70, Value.int m_open, Value.int m_isPrepared, Value.int m_generation, Value.ref q78, Value.ref q79, Value.int m_buffered, Value.int m_limit, Value.int m_factor, um, Value.ref q80, Value.ref q81, Value.ref q82, Value.int m_merges, Value.ref q83, Value.int m_opened, Value.int m_chosenMany, Value.int m_begun])) : Nat × va_E) := ⟨_, rfl⟩
    replace Z : gz D A s.heap h4 H locs := by rw [e_h4]; exact Z
    have f_46_h4 : h4 46 = some ((q46, Sum.inr (8, [Value.int m_error, Value.int 1, Value.ref q47, Value.ref q48, Value.ref q49, Value.int m_docs, Value.ref q50, Value.ref q51, Value.ref q52, Value.ref q53, Value.int m_filesThere, Value.int m_files, Value.int m_actions, Value.int m_power, Value.int m_lost, Value.ref q54, Value.ref q62, Value.ref q70, Value.int m_open, Value.int m_isPrepared, Value.int m_generation, Value.ref q78, Value.ref q79, Value.int m_buffered, Value.int m_limit, Value.int m_factor, um, Value.ref q80, Value.ref q81, Value.ref q82, Value.int m_merges, Value.ref q83, Value.int m_opened, Value.int m_chosenMany, Value.int m_begun])) : Nat × va_E) := by rw [e_h4]; exact gm_self
    replace hU : gm_g h h4 [46] := by rw [e_h4]; exact hU.put (by simp)
    refine lv_iload hx hb d_Mo_done_50 (lv_at hl 2 rfl) ?_
    refine lv_bipush (v := 10) hx hb d_Mo_done_52 (by decide) ?_
    refine lv_idiv hx hb d_Mo_done_54 (by decide) ?_
    refine gx_topi (y := 0) (by decide) ?_
    refine lv_istore (lv' := [(4, Value.int 0), (3, Value.int 1), (5, Value.int 3), (0, Value.ref q46), (1, Value.int p1), (2, Value.int 3)]) hx hb d_Mo_done_55 hl (by decide) rfl (fun ls hl => ?_)
    refine lv_goto (tgt := 11) hx hb d_Mo_done_57 (by decide) ?_
    refine lv_iload hx hb d_Mo_done_11 (lv_at hl 0 rfl) ?_
    refine lv_if_le (tgt := 60) hx hb d_Mo_done_13 (by decide) (fun _ => ?_) (fun c9 => absurd (by decide) c9)
    refine lv_aload_n hx hb d_Mo_done_60 rfl (lv_at hl 3 rfl) ?_
    refine lv_iconst (v := 0) hx hb d_Mo_done_61 (by decide) ?_
    refine gz_put (ci := 8) (v := Value.int 0) (ty := .int) (C := "CommitLedgerModel") (T := F_Mo) (N := 35) hx hb hts i_Mo t_Mo_ok n_Mo hown hK Z f_46_h4 rfl 0 (by decide) kf_Mo_84 rfl (by decide +kernel) rfl rfl (Nat.le_of_ble_eq_true rfl) d_Mo_done_62 (fun H locs Z => ?_)
    obtain ⟨h5, e_h5⟩ : ∃ z9 : gm_M, z9 = gm_up h4 46 ((q46, Sum.inr (8, [Value.int 0, Value.int 1, Value.ref q47, Value.ref q48, Value.ref q49, Value.int m_docs, Value.ref q50, Value.ref q51, Value.ref q52, Value.ref q53, Value.int m_filesThere, Value.int m_files, Value.int m_actions, Value.int m_power, Value.int m_lost, Value.ref q54, Value.ref q62, Value.ref q70, Value.int m_open, Value.int m_isPrepared, Value.int m_generation, Value.ref q78, Value.ref q79, Value.int m_buffered, Value.int m_limit, Value.int m_factor, um, Value.ref q80, Value.ref q81, Value.ref q82, Value.int m_merges, Value.ref q83, Value.int m_opened, Value.int m_chosenMany, Value.int m_begun])) : Nat × va_E) := ⟨_, rfl⟩
    replace Z : gz D A s.heap h5 H locs := by rw [e_h5]; exact Z
    have f_46_h5 : h5 46 = some ((q46, Sum.inr (8, [Value.int 0, Value.int 1, Value.ref q47, Value.ref q48, Value.ref q49, Value.int m_docs, Value.ref q50, Value.ref q51, Value.ref q52, Value.ref q53, Value.int m_filesThere, Value.int m_files, Value.int m_actions, Value.int m_power, Value.int m_lost, Value.ref q54, Value.ref q62, Value.ref q70, Value.int m_open, Value.int m_isPrepared, Value.int m_generation, Value.ref q78, Value.ref q79, Value.int m_buffered, Value.int m_limit, Value.int m_factor, um, Value.ref q80, Value.ref q81, Value.ref q82, Value.int m_merges, Value.ref q83, Value.int m_opened, Value.int m_chosenMany, Value.int m_begun])) : Nat × va_E) := by rw [e_h5]; exact gm_self
    replace hU : gm_g h h5 [46] := by rw [e_h5]; exact hU.put (by simp)
    refine lv_aload_n hx hb d_Mo_done_65 rfl (lv_at hl 3 rfl) ?_
    refine gz_get (ci := 8) (v := Value.int 1) (C := "CommitLedgerModel") (T := F_Mo) (N := 35) hx hb hts i_Mo hown hK Z f_46_h5 rfl 1 (by decide) kf_Mo_80 rfl d_Mo_done_66 ?_
    refine lv_if_le (tgt := 76) hx hb d_Mo_done_69 (by decide) (fun c9 => absurd c9 (by decide)) (fun _ => ?_)
    refine lv_iconst (v := 0) hx hb d_Mo_done_72 (by decide) ?_
    refine lv_goto (tgt := 77) hx hb d_Mo_done_73 (by decide) ?_
    exact gz_iret (v := 0) hx hb hr hlocks hK Z (by decide) (by decide) (by rw [← hPQ]; exact Or.inr (⟨rfl, hU, f_46_h5, c42_2⟩)) d_Mo_done_77

set_option maxHeartbeats 4000000 in
set_option maxRecDepth 100000 in
theorem k_Mo_done_13 (l : Launch) (htr : l.stackTraces = false) (D : va_G) (tys : List (ClassId × FieldType)) (z sz : Nat) (ws : va_W) (h : gm_M) (hM : gm_S h ws) (q46 : Nat) (q47 : Nat) (q48 : Nat) (q49 : Nat) (q50 : Nat) (q51 : Nat) (q52 : Nat) (q53 : Nat) (q54 : Nat) (q62 : Nat) (q70 : Nat) (q78 : Nat) (q79 : Nat) (q80 : Nat) (q81 : Nat) (q82 : Nat) (q83 : Nat) (um : Value) (m_error : Int32) (m_thrown : Int32) (m_docs : Int32) (m_filesThere : Int32) (m_files : Int32) (m_actions : Int32) (m_power : Int32) (m_lost : Int32) (m_open : Int32) (m_isPrepared : Int32) (m_generation : Int32) (m_buffered : Int32) (m_limit : Int32) (m_factor : Int32) (m_merges : Int32) (m_opened : Int32) (m_chosenMany : Int32) (m_begun : Int32) (p1 : Int32) (f_46 : h 46 = some ((q46, Sum.inr (8, [Value.int m_error, Value.int m_thrown, Value.ref q47, Value.ref q48, Value.ref q49, Value.int m_docs, Value.ref q50, Value.ref q51, Value.ref q52, Value.ref q53, Value.int m_filesThere, Value.int m_files, Value.int m_actions, Value.int m_power, Value.int m_lost, Value.ref q54, Value.ref q62, Value.ref q70, Value.int m_open, Value.int m_isPrepared, Value.int m_generation, Value.ref q78, Value.ref q79, Value.int m_buffered, Value.int m_limit, Value.int m_factor, um, Value.ref q80, Value.ref q81, Value.ref q82, Value.int m_merges, Value.ref q83, Value.int m_opened, Value.int m_chosenMany, Value.int m_begun])) : Nat × va_E)) : gx_Met l y_Mo_done [Cond.code y_Mo_done b_Mo_done 6 (some .int)] { frames := 1, cells := 0, slots := 0, locals := 12 } (gx_P z sz D classes tys ws [Value.ref q46, Value.int p1, Value.int 13]) (gx_Q D classes tys (va_A ws sz) (gm_p (fun r h' => (r = Sum.inl (some (Value.int p1)) ∧ gm_g h h' [46] ∧ h' 46 = some ((q46, Sum.inr (8, [Value.int 0, Value.int 0, Value.ref q47, Value.ref q48, Value.ref q49, Value.int m_docs, Value.ref q50, Value.ref q51, Value.ref q52, Value.ref q53, Value.int m_filesThere, Value.int m_files, Value.int m_actions, Value.int m_power, Value.int m_lost, Value.ref q54, Value.ref q62, Value.ref q70, Value.int m_open, Value.int m_isPrepared, Value.int m_generation, Value.ref q78, Value.ref q79, Value.int m_buffered, Value.int m_limit, Value.int m_factor, um, Value.ref q80, Value.ref q81, Value.ref q82, Value.int m_merges, Value.ref q83, Value.int m_opened, Value.int m_chosenMany, Value.int m_begun])) : Nat × va_E) ∧ (¬ 1 = m_error) ∧ (¬ 3 = m_error)) ∨ (r = Sum.inl (some (Value.int 0)) ∧ gm_g h h' [46] ∧ h' 46 = some ((q46, Sum.inr (8, [Value.int 0, Value.int 2, Value.ref q47, Value.ref q48, Value.ref q49, Value.int m_docs, Value.ref q50, Value.ref q51, Value.ref q52, Value.ref q53, Value.int m_filesThere, Value.int m_files, Value.int m_actions, Value.int m_power, Value.int m_lost, Value.ref q54, Value.ref q62, Value.ref q70, Value.int m_open, Value.int m_isPrepared, Value.int m_generation, Value.ref q78, Value.ref q79, Value.int m_buffered, Value.int m_limit, Value.int m_factor, um, Value.ref q80, Value.ref q81, Value.ref q82, Value.int m_merges, Value.ref q83, Value.int m_opened, Value.int m_chosenMany, Value.int m_begun])) : Nat × va_E) ∧ (¬ 1 = m_error) ∧ (3 = m_error)) ∨ (r = Sum.inl (some (Value.int 0)) ∧ gm_g h h' [46] ∧ h' 46 = some ((q46, Sum.inr (8, [Value.int 0, Value.int 1, Value.ref q47, Value.ref q48, Value.ref q49, Value.int m_docs, Value.ref q50, Value.ref q51, Value.ref q52, Value.ref q53, Value.int m_filesThere, Value.int m_files, Value.int m_actions, Value.int m_power, Value.int m_lost, Value.ref q54, Value.ref q62, Value.ref q70, Value.int m_open, Value.int m_isPrepared, Value.int m_generation, Value.ref q78, Value.ref q79, Value.int m_buffered, Value.int m_limit, Value.int m_factor, um, Value.ref q80, Value.ref q81, Value.ref q82, Value.int m_merges, Value.ref q83, Value.int m_opened, Value.int m_chosenMany, Value.int m_begun])) : Nat × va_E) ∧ (1 = m_error))))) 0 0 (va_A ws sz) := by
  refine gx_ofW (cc := b_Mo_done) (maxL := 6) (ret := (some .int)) (by decide) rfl ?_
  intro p e s m args below meth c s₁ B hml hv
  obtain ⟨rfl, hsz, hz, hP, hK, hD0, hY⟩ := hv
  have hx := B.exec
  have hb := B.bytes
  have hr := B.returns
  have hts := hY.hts (#[Value.ref q46, Value.int p1, Value.int 13] : Array Value)
  have hown : s.vm.findClass "CommitLedgerModel" = some m.cls := findClass_of_methodNamed B.named
  have hlocks := B.notSynchronized
  have hne : c.exceptionTable.isEmpty = true := B.noHandlers (atoms_spec (ws := [Cond.code y_Mo_done b_Mo_done 6 (some .int)]) B.pre _ List.mem_cons_self)
  subst hsz
  have hAz := gx_az hD0 hz
  have hD := hD0.self (sz := s.heap.size)
  have hN := gx_ns hP
  have hA : ∀ q : Nat, s.heap.size ≤ q → va_A ws s.heap.size q := fun q h => Or.inr h
  generalize va_A ws s.heap.size = A at hD hN hA hAz ⊢
  generalize hPQ : (fun (r : Option Value ⊕ String) (h' : gm_M) => (r = Sum.inl (some (Value.int p1)) ∧ gm_g h h' [46] ∧ h' 46 = some ((q46, Sum.inr (8, [Value.int 0, Value.int 0, Value.ref q47, Value.ref q48, Value.ref q49, Value.int m_docs, Value.ref q50, Value.ref q51, Value.ref q52, Value.ref q53, Value.int m_filesThere, Value.int m_files, Value.int m_actions, Value.int m_power, Value.int m_lost, Value.ref q54, Value.ref q62, Value.ref q70, Value.int m_open, Value.int m_isPrepared, Value.int m_generation, Value.ref q78, Value.ref q79, Value.int m_buffered, Value.int m_limit, Value.int m_factor, um, Value.ref q80, Value.ref q81, Value.ref q82, Value.int m_merges, Value.ref q83, Value.int m_opened, Value.int m_chosenMany, Value.int m_begun])) : Nat × va_E) ∧ (¬ 1 = m_error) ∧ (¬ 3 = m_error)) ∨ (r = Sum.inl (some (Value.int 0)) ∧ gm_g h h' [46] ∧ h' 46 = some ((q46, Sum.inr (8, [Value.int 0, Value.int 2, Value.ref q47, Value.ref q48, Value.ref q49, Value.int m_docs, Value.ref q50, Value.ref q51, Value.ref q52, Value.ref q53, Value.int m_filesThere, Value.int m_files, Value.int m_actions, Value.int m_power, Value.int m_lost, Value.ref q54, Value.ref q62, Value.ref q70, Value.int m_open, Value.int m_isPrepared, Value.int m_generation, Value.ref q78, Value.ref q79, Value.int m_buffered, Value.int m_limit, Value.int m_factor, um, Value.ref q80, Value.ref q81, Value.ref q82, Value.int m_merges, Value.ref q83, Value.int m_opened, Value.int m_chosenMany, Value.int m_begun])) : Nat × va_E) ∧ (¬ 1 = m_error) ∧ (3 = m_error)) ∨ (r = Sum.inl (some (Value.int 0)) ∧ gm_g h h' [46] ∧ h' 46 = some ((q46, Sum.inr (8, [Value.int 0, Value.int 1, Value.ref q47, Value.ref q48, Value.ref q49, Value.int m_docs, Value.ref q50, Value.ref q51, Value.ref q52, Value.ref q53, Value.int m_filesThere, Value.int m_files, Value.int m_actions, Value.int m_power, Value.int m_lost, Value.ref q54, Value.ref q62, Value.ref q70, Value.int m_open, Value.int m_isPrepared, Value.int m_generation, Value.ref q78, Value.ref q79, Value.int m_buffered, Value.int m_limit, Value.int m_factor, um, Value.ref q80, Value.ref q81, Value.ref q82, Value.int m_merges, Value.ref q83, Value.int m_opened, Value.int m_chosenMany, Value.int m_begun])) : Nat × va_E) ∧ (1 = m_error))) = PQ
  have Z : gz D A s.heap h s.heap [] := ⟨ws, hM, hP, hD, va_S.rf⟩
  clear hP hD hM hD0
  have hU : gm_g h h [46] := gm_g.rf
  have hl := lv_entry ([Value.ref q46, Value.int p1, Value.int 13]) (n := 6) (Nat.le_of_ble_eq_true rfl)
  rw [lg_entry_eq]
  generalize (lg_sl ([Value.ref q46, Value.int p1, Value.int 13]) ++ List.replicate (6 - (lg_sl ([Value.ref q46, Value.int p1, Value.int 13])).length) Slot.unset).toArray = ls at hl ⊢
  have hl : lv_has ls 6 [(0, Value.ref q46), (1, Value.int p1), (2, Value.int 13)] := hl
  refine lv_aload_n hx hb d_Mo_done_0 rfl (lv_at hl 0 rfl) ?_
  refine lv_iconst (v := 0) hx hb d_Mo_done_1 (by decide) ?_
  refine gz_put (ci := 8) (v := Value.int 0) (ty := .int) (C := "CommitLedgerModel") (T := F_Mo) (N := 35) hx hb hts i_Mo t_Mo_ok n_Mo hown hK Z f_46 rfl 1 (by decide) kf_Mo_80 rfl (by decide +kernel) rfl rfl (Nat.le_of_ble_eq_true rfl) d_Mo_done_2 (fun H locs Z => ?_)
  obtain ⟨h1, e_h1⟩ : ∃ z9 : gm_M, z9 = gm_up h 46 ((q46, Sum.inr (8, [Value.int m_error, Value.int 0, Value.ref q47, Value.ref q48, Value.ref q49, Value.int m_docs, Value.ref q50, Value.ref q51, Value.ref q52, Value.ref q53, Value.int m_filesThere, Value.int m_files, Value.int m_actions, Value.int m_power, Value.int m_lost, Value.ref q54, Value.ref q62, Value.ref q70, Value.int m_open, Value.int m_isPrepared, Value.int m_generation, Value.ref q78, Value.ref q79, Value.int m_buffered, Value.int m_limit, Value.int m_factor, um, Value.ref q80, Value.ref q81, Value.ref q82, Value.int m_merges, Value.ref q83, Value.int m_opened, Value.int m_chosenMany, Value.int m_begun])) : Nat × va_E) := ⟨_, rfl⟩
  replace Z : gz D A s.heap h1 H locs := by rw [e_h1]; exact Z
  have f_46_h1 : h1 46 = some ((q46, Sum.inr (8, [Value.int m_error, Value.int 0, Value.ref q47, Value.ref q48, Value.ref q49, Value.int m_docs, Value.ref q50, Value.ref q51, Value.ref q52, Value.ref q53, Value.int m_filesThere, Value.int m_files, Value.int m_actions, Value.int m_power, Value.int m_lost, Value.ref q54, Value.ref q62, Value.ref q70, Value.int m_open, Value.int m_isPrepared, Value.int m_generation, Value.ref q78, Value.ref q79, Value.int m_buffered, Value.int m_limit, Value.int m_factor, um, Value.ref q80, Value.ref q81, Value.ref q82, Value.int m_merges, Value.ref q83, Value.int m_opened, Value.int m_chosenMany, Value.int m_begun])) : Nat × va_E) := by rw [e_h1]; exact gm_self
  replace hU : gm_g h h1 [46] := by rw [e_h1]; exact hU.put (by simp)
  refine lv_iconst (v := 0) hx hb d_Mo_done_5 (by decide) ?_
  refine lv_istore_n (lv' := [(3, Value.int 0), (0, Value.ref q46), (1, Value.int p1), (2, Value.int 13)]) hx hb d_Mo_done_6 rfl hl (by decide) rfl (fun ls hl => ?_)
  refine lv_ldc (v := 100000) hx hb hown (hts _ ki_Mo_83) d_Mo_done_7 ?_
  refine lv_istore (lv' := [(4, Value.int 100000), (3, Value.int 0), (0, Value.ref q46), (1, Value.int p1), (2, Value.int 13)]) hx hb d_Mo_done_9 hl (by decide) rfl (fun ls hl => ?_)
  refine lv_iload hx hb d_Mo_done_11 (lv_at hl 0 rfl) ?_
  refine lv_if_le (tgt := 60) hx hb d_Mo_done_13 (by decide) (fun c9 => absurd c9 (by decide)) (fun _ => ?_)
  refine lv_iload_n hx hb d_Mo_done_16 rfl (lv_at hl 4 rfl) ?_
  refine lv_iload hx hb d_Mo_done_17 (lv_at hl 0 rfl) ?_
  refine lv_idiv hx hb d_Mo_done_19 (by decide) ?_
  refine gx_topi (y := 0) (by decide) ?_
  refine lv_bipush (v := 10) hx hb d_Mo_done_20 (by decide) ?_
  refine lv_irem hx hb d_Mo_done_22 (by decide) ?_
  refine gx_topi (y := 0) (by decide) ?_
  refine lv_istore (lv' := [(5, Value.int 0), (4, Value.int 100000), (3, Value.int 0), (0, Value.ref q46), (1, Value.int p1), (2, Value.int 13)]) hx hb d_Mo_done_23 hl (by decide) rfl (fun ls hl => ?_)
  refine lv_iload hx hb d_Mo_done_25 (lv_at hl 0 rfl) ?_
  refine lv_if_ne (tgt := 33) hx hb d_Mo_done_27 (by decide) (fun c9 => absurd (by decide) c9) (fun _ => ?_)
  refine lv_goto (tgt := 50) hx hb d_Mo_done_30 (by decide) ?_
  refine lv_iload hx hb d_Mo_done_50 (lv_at hl 1 rfl) ?_
  refine lv_bipush (v := 10) hx hb d_Mo_done_52 (by decide) ?_
  refine lv_idiv hx hb d_Mo_done_54 (by decide) ?_
  refine gx_topi (y := 10000) (by decide) ?_
  refine lv_istore (lv' := [(4, Value.int 10000), (5, Value.int 0), (3, Value.int 0), (0, Value.ref q46), (1, Value.int p1), (2, Value.int 13)]) hx hb d_Mo_done_55 hl (by decide) rfl (fun ls hl => ?_)
  refine lv_goto (tgt := 11) hx hb d_Mo_done_57 (by decide) ?_
  refine lv_iload hx hb d_Mo_done_11 (lv_at hl 0 rfl) ?_
  refine lv_if_le (tgt := 60) hx hb d_Mo_done_13 (by decide) (fun c9 => absurd c9 (by decide)) (fun _ => ?_)
  refine lv_iload_n hx hb d_Mo_done_16 rfl (lv_at hl 5 rfl) ?_
  refine lv_iload hx hb d_Mo_done_17 (lv_at hl 0 rfl) ?_
  refine lv_idiv hx hb d_Mo_done_19 (by decide) ?_
  refine gx_topi (y := 0) (by decide) ?_
  refine lv_bipush (v := 10) hx hb d_Mo_done_20 (by decide) ?_
  refine lv_irem hx hb d_Mo_done_22 (by decide) ?_
  refine gx_topi (y := 0) (by decide) ?_
  refine lv_istore (lv' := [(5, Value.int 0), (4, Value.int 10000), (3, Value.int 0), (0, Value.ref q46), (1, Value.int p1), (2, Value.int 13)]) hx hb d_Mo_done_23 hl (by decide) rfl (fun ls hl => ?_)
  refine lv_iload hx hb d_Mo_done_25 (lv_at hl 0 rfl) ?_
  refine lv_if_ne (tgt := 33) hx hb d_Mo_done_27 (by decide) (fun c9 => absurd (by decide) c9) (fun _ => ?_)
  refine lv_goto (tgt := 50) hx hb d_Mo_done_30 (by decide) ?_
  refine lv_iload hx hb d_Mo_done_50 (lv_at hl 1 rfl) ?_
  refine lv_bipush (v := 10) hx hb d_Mo_done_52 (by decide) ?_
  refine lv_idiv hx hb d_Mo_done_54 (by decide) ?_
  refine gx_topi (y := 1000) (by decide) ?_
  refine lv_istore (lv' := [(4, Value.int 1000), (5, Value.int 0), (3, Value.int 0), (0, Value.ref q46), (1, Value.int p1), (2, Value.int 13)]) hx hb d_Mo_done_55 hl (by decide) rfl (fun ls hl => ?_)
  refine lv_goto (tgt := 11) hx hb d_Mo_done_57 (by decide) ?_
  refine lv_iload hx hb d_Mo_done_11 (lv_at hl 0 rfl) ?_
  refine lv_if_le (tgt := 60) hx hb d_Mo_done_13 (by decide) (fun c9 => absurd c9 (by decide)) (fun _ => ?_)
  refine lv_iload_n hx hb d_Mo_done_16 rfl (lv_at hl 5 rfl) ?_
  refine lv_iload hx hb d_Mo_done_17 (lv_at hl 0 rfl) ?_
  refine lv_idiv hx hb d_Mo_done_19 (by decide) ?_
  refine gx_topi (y := 0) (by decide) ?_
  refine lv_bipush (v := 10) hx hb d_Mo_done_20 (by decide) ?_
  refine lv_irem hx hb d_Mo_done_22 (by decide) ?_
  refine gx_topi (y := 0) (by decide) ?_
  refine lv_istore (lv' := [(5, Value.int 0), (4, Value.int 1000), (3, Value.int 0), (0, Value.ref q46), (1, Value.int p1), (2, Value.int 13)]) hx hb d_Mo_done_23 hl (by decide) rfl (fun ls hl => ?_)
  refine lv_iload hx hb d_Mo_done_25 (lv_at hl 0 rfl) ?_
  refine lv_if_ne (tgt := 33) hx hb d_Mo_done_27 (by decide) (fun c9 => absurd (by decide) c9) (fun _ => ?_)
  refine lv_goto (tgt := 50) hx hb d_Mo_done_30 (by decide) ?_
  refine lv_iload hx hb d_Mo_done_50 (lv_at hl 1 rfl) ?_
  refine lv_bipush (v := 10) hx hb d_Mo_done_52 (by decide) ?_
  refine lv_idiv hx hb d_Mo_done_54 (by decide) ?_
  refine gx_topi (y := 100) (by decide) ?_
  refine lv_istore (lv' := [(4, Value.int 100), (5, Value.int 0), (3, Value.int 0), (0, Value.ref q46), (1, Value.int p1), (2, Value.int 13)]) hx hb d_Mo_done_55 hl (by decide) rfl (fun ls hl => ?_)
  refine lv_goto (tgt := 11) hx hb d_Mo_done_57 (by decide) ?_
  refine lv_iload hx hb d_Mo_done_11 (lv_at hl 0 rfl) ?_
  refine lv_if_le (tgt := 60) hx hb d_Mo_done_13 (by decide) (fun c9 => absurd c9 (by decide)) (fun _ => ?_)
  refine lv_iload_n hx hb d_Mo_done_16 rfl (lv_at hl 5 rfl) ?_
  refine lv_iload hx hb d_Mo_done_17 (lv_at hl 0 rfl) ?_
  refine lv_idiv hx hb d_Mo_done_19 (by decide) ?_
  refine gx_topi (y := 0) (by decide) ?_
  refine lv_bipush (v := 10) hx hb d_Mo_done_20 (by decide) ?_
  refine lv_irem hx hb d_Mo_done_22 (by decide) ?_
  refine gx_topi (y := 0) (by decide) ?_
  refine lv_istore (lv' := [(5, Value.int 0), (4, Value.int 100), (3, Value.int 0), (0, Value.ref q46), (1, Value.int p1), (2, Value.int 13)]) hx hb d_Mo_done_23 hl (by decide) rfl (fun ls hl => ?_)
  refine lv_iload hx hb d_Mo_done_25 (lv_at hl 0 rfl) ?_
  refine lv_if_ne (tgt := 33) hx hb d_Mo_done_27 (by decide) (fun c9 => absurd (by decide) c9) (fun _ => ?_)
  refine lv_goto (tgt := 50) hx hb d_Mo_done_30 (by decide) ?_
  refine lv_iload hx hb d_Mo_done_50 (lv_at hl 1 rfl) ?_
  refine lv_bipush (v := 10) hx hb d_Mo_done_52 (by decide) ?_
  refine lv_idiv hx hb d_Mo_done_54 (by decide) ?_
  refine gx_topi (y := 10) (by decide) ?_
  refine lv_istore (lv' := [(4, Value.int 10), (5, Value.int 0), (3, Value.int 0), (0, Value.ref q46), (1, Value.int p1), (2, Value.int 13)]) hx hb d_Mo_done_55 hl (by decide) rfl (fun ls hl => ?_)
  refine lv_goto (tgt := 11) hx hb d_Mo_done_57 (by decide) ?_
  refine lv_iload hx hb d_Mo_done_11 (lv_at hl 0 rfl) ?_
  refine lv_if_le (tgt := 60) hx hb d_Mo_done_13 (by decide) (fun c9 => absurd c9 (by decide)) (fun _ => ?_)
  refine lv_iload_n hx hb d_Mo_done_16 rfl (lv_at hl 5 rfl) ?_
  refine lv_iload hx hb d_Mo_done_17 (lv_at hl 0 rfl) ?_
  refine lv_idiv hx hb d_Mo_done_19 (by decide) ?_
  refine gx_topi (y := 1) (by decide) ?_
  refine lv_bipush (v := 10) hx hb d_Mo_done_20 (by decide) ?_
  refine lv_irem hx hb d_Mo_done_22 (by decide) ?_
  refine gx_topi (y := 1) (by decide) ?_
  refine lv_istore (lv' := [(5, Value.int 1), (4, Value.int 10), (3, Value.int 0), (0, Value.ref q46), (1, Value.int p1), (2, Value.int 13)]) hx hb d_Mo_done_23 hl (by decide) rfl (fun ls hl => ?_)
  refine lv_iload hx hb d_Mo_done_25 (lv_at hl 0 rfl) ?_
  refine lv_if_ne (tgt := 33) hx hb d_Mo_done_27 (by decide) (fun _ => ?_) (fun c9 => absurd c9 (by decide))
  refine lv_iinc (v := 1) (lv' := [(3, Value.int 1), (5, Value.int 1), (4, Value.int 10), (0, Value.ref q46), (1, Value.int p1), (2, Value.int 13)]) hx hb d_Mo_done_33 hl (k := 2) rfl (by decide) (by decide) rfl (fun ls hl => ?_)
  refine lv_iload hx hb d_Mo_done_36 (lv_at hl 1 rfl) ?_
  refine lv_aload_n hx hb d_Mo_done_38 rfl (lv_at hl 3 rfl) ?_
  refine gz_get (ci := 8) (v := Value.int m_error) (C := "CommitLedgerModel") (T := F_Mo) (N := 35) hx hb hts i_Mo hown hK Z f_46_h1 rfl 0 (by decide) kf_Mo_84 rfl d_Mo_done_39 ?_
  refine lv_icmp_ne (tgt := 50) hx hb d_Mo_done_42 (by decide) (fun c42_2 => ?_) (fun c42_2 => ?_)
  · refine lv_iload hx hb d_Mo_done_50 (lv_at hl 2 rfl) ?_
    refine lv_bipush (v := 10) hx hb d_Mo_done_52 (by decide) ?_
    refine lv_idiv hx hb d_Mo_done_54 (by decide) ?_
    refine gx_topi (y := 1) (by decide) ?_
    refine lv_istore (lv' := [(4, Value.int 1), (3, Value.int 1), (5, Value.int 1), (0, Value.ref q46), (1, Value.int p1), (2, Value.int 13)]) hx hb d_Mo_done_55 hl (by decide) rfl (fun ls hl => ?_)
    refine lv_goto (tgt := 11) hx hb d_Mo_done_57 (by decide) ?_
    refine lv_iload hx hb d_Mo_done_11 (lv_at hl 0 rfl) ?_
    refine lv_if_le (tgt := 60) hx hb d_Mo_done_13 (by decide) (fun c9 => absurd c9 (by decide)) (fun _ => ?_)
    refine lv_iload_n hx hb d_Mo_done_16 rfl (lv_at hl 5 rfl) ?_
    refine lv_iload hx hb d_Mo_done_17 (lv_at hl 0 rfl) ?_
    refine lv_idiv hx hb d_Mo_done_19 (by decide) ?_
    refine gx_topi (y := 13) (by decide) ?_
    refine lv_bipush (v := 10) hx hb d_Mo_done_20 (by decide) ?_
    refine lv_irem hx hb d_Mo_done_22 (by decide) ?_
    refine gx_topi (y := 3) (by decide) ?_
    refine lv_istore (lv' := [(5, Value.int 3), (4, Value.int 1), (3, Value.int 1), (0, Value.ref q46), (1, Value.int p1), (2, Value.int 13)]) hx hb d_Mo_done_23 hl (by decide) rfl (fun ls hl => ?_)
    refine lv_iload hx hb d_Mo_done_25 (lv_at hl 0 rfl) ?_
    refine lv_if_ne (tgt := 33) hx hb d_Mo_done_27 (by decide) (fun _ => ?_) (fun c9 => absurd c9 (by decide))
    refine lv_iinc (v := 2) (lv' := [(3, Value.int 2), (5, Value.int 3), (4, Value.int 1), (0, Value.ref q46), (1, Value.int p1), (2, Value.int 13)]) hx hb d_Mo_done_33 hl (k := 2) rfl (by decide) (by decide) rfl (fun ls hl => ?_)
    refine lv_iload hx hb d_Mo_done_36 (lv_at hl 1 rfl) ?_
    refine lv_aload_n hx hb d_Mo_done_38 rfl (lv_at hl 3 rfl) ?_
    refine gz_get (ci := 8) (v := Value.int m_error) (C := "CommitLedgerModel") (T := F_Mo) (N := 35) hx hb hts i_Mo hown hK Z f_46_h1 rfl 0 (by decide) kf_Mo_84 rfl d_Mo_done_39 ?_
    refine lv_icmp_ne (tgt := 50) hx hb d_Mo_done_42 (by decide) (fun c42_3 => ?_) (fun c42_3 => ?_)
    · refine lv_iload hx hb d_Mo_done_50 (lv_at hl 2 rfl) ?_
      refine lv_bipush (v := 10) hx hb d_Mo_done_52 (by decide) ?_
      refine lv_idiv hx hb d_Mo_done_54 (by decide) ?_
      refine gx_topi (y := 0) (by decide) ?_
      refine lv_istore (lv' := [(4, Value.int 0), (3, Value.int 2), (5, Value.int 3), (0, Value.ref q46), (1, Value.int p1), (2, Value.int 13)]) hx hb d_Mo_done_55 hl (by decide) rfl (fun ls hl => ?_)
      refine lv_goto (tgt := 11) hx hb d_Mo_done_57 (by decide) ?_
      refine lv_iload hx hb d_Mo_done_11 (lv_at hl 0 rfl) ?_
      refine lv_if_le (tgt := 60) hx hb d_Mo_done_13 (by decide) (fun _ => ?_) (fun c9 => absurd (by decide) c9)
      refine lv_aload_n hx hb d_Mo_done_60 rfl (lv_at hl 3 rfl) ?_
      refine lv_iconst (v := 0) hx hb d_Mo_done_61 (by decide) ?_
      refine gz_put (ci := 8) (v := Value.int 0) (ty := .int) (C := "CommitLedgerModel") (T := F_Mo) (N := 35) hx hb hts i_Mo t_Mo_ok n_Mo hown hK Z f_46_h1 rfl 0 (by decide) kf_Mo_84 rfl (by decide +kernel) rfl rfl (Nat.le_of_ble_eq_true rfl) d_Mo_done_62 (fun H locs Z => ?_)
      obtain ⟨h4, e_h4⟩ : ∃ z9 : gm_M, z9 = gm_up h1 46 ((q46, Sum.inr (8, [Value.int 0, Value.int 0, Value.ref q47, Value.ref q48, Value.ref q49, Value.int m_docs, Value.ref q50, Value.ref q51, Value.ref q52, Value.ref q53, Value.int m_filesThere, Value.int m_files, Value.int m_actions, Value.int m_power, Value.int m_lost, Value.ref q54, Value.ref q62, Value.ref q70, Value.int m_open, Value.int m_isPrepared, Value.int m_generation, Value.ref q78, Value.ref q79, Value.int m_buffered, Value.int m_limit, Value.int m_factor, um, Value.ref q80, Value.ref q81, Value.ref q82, Value.int m_merges, Value.ref q83, Value.int m_opened, Value.int m_chosenMany, Value.int m_begun])) : Nat × va_E) := ⟨_, rfl⟩
      replace Z : gz D A s.heap h4 H locs := by rw [e_h4]; exact Z
      have f_46_h4 : h4 46 = some ((q46, Sum.inr (8, [Value.int 0, Value.int 0, Value.ref q47, Value.ref q48, Value.ref q49, Value.int m_docs, Value.ref q50, Value.ref q51, Value.ref q52, Value.ref q53, Value.int m_filesThere, Value.int m_files, Value.int m_actions, Value.int m_power, Value.int m_lost, Value.ref q54, Value.ref q62, Value.ref q70, Value.int m_open, Value.int m_isPrepared, Value.int m_generation, Value.ref q78, Value.ref q79, Value.int m_buffered, Value.int m_limit, Value.int m_factor, um, Value.ref q80, Value.ref q81, Value.ref q82, Value.int m_merges, Value.ref q83, Value.int m_opened, Value.int m_chosenMany, Value.int m_begun])) : Nat × va_E) := by rw [e_h4]; exact gm_self
      replace hU : gm_g h h4 [46] := by rw [e_h4]; exact hU.put (by simp)
      refine lv_aload_n hx hb d_Mo_done_65 rfl (lv_at hl 3 rfl) ?_
      refine gz_get (ci := 8) (v := Value.int 0) (C := "CommitLedgerModel") (T := F_Mo) (N := 35) hx hb hts i_Mo hown hK Z f_46_h4 rfl 1 (by decide) kf_Mo_80 rfl d_Mo_done_66 ?_
      refine lv_if_le (tgt := 76) hx hb d_Mo_done_69 (by decide) (fun _ => ?_) (fun c9 => absurd (by decide) c9)
      refine lv_iload_n hx hb d_Mo_done_76 rfl (lv_at hl 4 rfl) ?_
      exact gz_iret (v := p1) hx hb hr hlocks hK Z (by decide) (by decide) (by rw [← hPQ]; exact Or.inl ⟨rfl, hU, f_46_h4, c42_2, c42_3⟩) d_Mo_done_77
    · refine lv_aload_n hx hb d_Mo_done_45 rfl (lv_at hl 3 rfl) ?_
      refine lv_iload_n hx hb d_Mo_done_46 rfl (lv_at hl 0 rfl) ?_
      refine gz_put (ci := 8) (v := Value.int 2) (ty := .int) (C := "CommitLedgerModel") (T := F_Mo) (N := 35) hx hb hts i_Mo t_Mo_ok n_Mo hown hK Z f_46_h1 rfl 1 (by decide) kf_Mo_80 rfl (by decide +kernel) rfl rfl (Nat.le_of_ble_eq_true rfl) d_Mo_done_47 (fun H locs Z => ?_)
      obtain ⟨h5, e_h5⟩ : ∃ z9 : gm_M, z9 = gm_up h1 46 ((q46, Sum.inr (8, [Value.int m_error, Value.int 2, Value.ref q47, Value.ref q48, Value.ref q49, Value.int m_docs, Value.ref q50, Value.ref q51, Value.ref q52, Value.ref q53, Value.int m_filesThere, Value.int m_files, Value.int m_actions, Value.int m_power, Value.int m_lost, Value.ref q54, Value.ref q62, Value.ref q70, Value.int m_open, Value.int m_isPrepared, Value.int m_generation, Value.ref q78, Value.ref q79, Value.int m_buffered, Value.int m_limit, Value.int m_factor, um, Value.ref q80, Value.ref q81, Value.ref q82, Value.int m_merges, Value.ref q83, Value.int m_opened, Value.int m_chosenMany, Value.int m_begun])) : Nat × va_E) := ⟨_, rfl⟩
      replace Z : gz D A s.heap h5 H locs := by rw [e_h5]; exact Z
      have f_46_h5 : h5 46 = some ((q46, Sum.inr (8, [Value.int m_error, Value.int 2, Value.ref q47, Value.ref q48, Value.ref q49, Value.int m_docs, Value.ref q50, Value.ref q51, Value.ref q52, Value.ref q53, Value.int m_filesThere, Value.int m_files, Value.int m_actions, Value.int m_power, Value.int m_lost, Value.ref q54, Value.ref q62, Value.ref q70, Value.int m_open, Value.int m_isPrepared, Value.int m_generation, Value.ref q78, Value.ref q79, Value.int m_buffered, Value.int m_limit, Value.int m_factor, um, Value.ref q80, Value.ref q81, Value.ref q82, Value.int m_merges, Value.ref q83, Value.int m_opened, Value.int m_chosenMany, Value.int m_begun])) : Nat × va_E) := by rw [e_h5]; exact gm_self
      replace hU : gm_g h h5 [46] := by rw [e_h5]; exact hU.put (by simp)
      refine lv_iload hx hb d_Mo_done_50 (lv_at hl 2 rfl) ?_
      refine lv_bipush (v := 10) hx hb d_Mo_done_52 (by decide) ?_
      refine lv_idiv hx hb d_Mo_done_54 (by decide) ?_
      refine gx_topi (y := 0) (by decide) ?_
      refine lv_istore (lv' := [(4, Value.int 0), (3, Value.int 2), (5, Value.int 3), (0, Value.ref q46), (1, Value.int p1), (2, Value.int 13)]) hx hb d_Mo_done_55 hl (by decide) rfl (fun ls hl => ?_)
      refine lv_goto (tgt := 11) hx hb d_Mo_done_57 (by decide) ?_
      refine lv_iload hx hb d_Mo_done_11 (lv_at hl 0 rfl) ?_
      refine lv_if_le (tgt := 60) hx hb d_Mo_done_13 (by decide) (fun _ => ?_) (fun c9 => absurd (by decide) c9)
      refine lv_aload_n hx hb d_Mo_done_60 rfl (lv_at hl 3 rfl) ?_
      refine lv_iconst (v := 0) hx hb d_Mo_done_61 (by decide) ?_
      refine gz_put (ci := 8) (v := Value.int 0) (ty := .int) (C := "CommitLedgerModel") (T := F_Mo) (N := 35) hx hb hts i_Mo t_Mo_ok n_Mo hown hK Z f_46_h5 rfl 0 (by decide) kf_Mo_84 rfl (by decide +kernel) rfl rfl (Nat.le_of_ble_eq_true rfl) d_Mo_done_62 (fun H locs Z => ?_)
      obtain ⟨h6, e_h6⟩ : ∃ z9 : gm_M, z9 = gm_up h5 46 ((q46, Sum.inr (8, [Value.int 0, Value.int 2, Value.ref q47, Value.ref q48, Value.ref q49, Value.int m_docs, Value.ref q50, Value.ref q51, Value.ref q52, Value.ref q53, Value.int m_filesThere, Value.int m_files, Value.int m_actions, Value.int m_power, Value.int m_lost, Value.ref q54, Value.ref q62, Value.ref q70, Value.int m_open, Value.int m_isPrepared, Value.int m_generation, Value.ref q78, Value.ref q79, Value.int m_buffered, Value.int m_limit, Value.int m_factor, um, Value.ref q80, Value.ref q81, Value.ref q82, Value.int m_merges, Value.ref q83, Value.int m_opened, Value.int m_chosenMany, Value.int m_begun])) : Nat × va_E) := ⟨_, rfl⟩
      replace Z : gz D A s.heap h6 H locs := by rw [e_h6]; exact Z
      have f_46_h6 : h6 46 = some ((q46, Sum.inr (8, [Value.int 0, Value.int 2, Value.ref q47, Value.ref q48, Value.ref q49, Value.int m_docs, Value.ref q50, Value.ref q51, Value.ref q52, Value.ref q53, Value.int m_filesThere, Value.int m_files, Value.int m_actions, Value.int m_power, Value.int m_lost, Value.ref q54, Value.ref q62, Value.ref q70, Value.int m_open, Value.int m_isPrepared, Value.int m_generation, Value.ref q78, Value.ref q79, Value.int m_buffered, Value.int m_limit, Value.int m_factor, um, Value.ref q80, Value.ref q81, Value.ref q82, Value.int m_merges, Value.ref q83, Value.int m_opened, Value.int m_chosenMany, Value.int m_begun])) : Nat × va_E) := by rw [e_h6]; exact gm_self
      replace hU : gm_g h h6 [46] := by rw [e_h6]; exact hU.put (by simp)
      refine lv_aload_n hx hb d_Mo_done_65 rfl (lv_at hl 3 rfl) ?_
      refine gz_get (ci := 8) (v := Value.int 2) (C := "CommitLedgerModel") (T := F_Mo) (N := 35) hx hb hts i_Mo hown hK Z f_46_h6 rfl 1 (by decide) kf_Mo_80 rfl d_Mo_done_66 ?_
      refine lv_if_le (tgt := 76) hx hb d_Mo_done_69 (by decide) (fun c9 => absurd c9 (by decide)) (fun _ => ?_)
      refine lv_iconst (v := 0) hx hb d_Mo_done_72 (by decide) ?_
      refine lv_goto (tgt := 77) hx hb d_Mo_done_73 (by decide) ?_
      exact gz_iret (v := 0) hx hb hr hlocks hK Z (by decide) (by decide) (by rw [← hPQ]; exact Or.inr (Or.inl ⟨rfl, hU, f_46_h6, c42_2, c42_3⟩)) d_Mo_done_77
  · refine lv_aload_n hx hb d_Mo_done_45 rfl (lv_at hl 3 rfl) ?_
    refine lv_iload_n hx hb d_Mo_done_46 rfl (lv_at hl 0 rfl) ?_
    refine gz_put (ci := 8) (v := Value.int 1) (ty := .int) (C := "CommitLedgerModel") (T := F_Mo) (N := 35) hx hb hts i_Mo t_Mo_ok n_Mo hown hK Z f_46_h1 rfl 1 (by decide) kf_Mo_80 rfl (by decide +kernel) rfl rfl (Nat.le_of_ble_eq_true rfl) d_Mo_done_47 (fun H locs Z => ?_)
    obtain ⟨h7, e_h7⟩ : ∃ z9 : gm_M, z9 = gm_up h1 46 ((q46, Sum.inr (8, [Value.int m_error, Value.int 1, Value.ref q47, Value.ref q48, Value.ref q49, Value.int m_docs, Value.ref q50, Value.ref q51, Value.ref q52, Value.ref q53, Value.int m_filesThere, Value.int m_files, Value.int m_actions, Value.int m_power, Value.int m_lost, Value.ref q54, Value.ref q62, Value.ref q70, Value.int m_open, Value.int m_isPrepared, Value.int m_generation, Value.ref q78, Value.ref q79, Value.int m_buffered, Value.int m_limit, Value.int m_factor, um, Value.ref q80, Value.ref q81, Value.ref q82, Value.int m_merges, Value.ref q83, Value.int m_opened, Value.int m_chosenMany, Value.int m_begun])) : Nat × va_E) := ⟨_, rfl⟩
    replace Z : gz D A s.heap h7 H locs := by rw [e_h7]; exact Z
    have f_46_h7 : h7 46 = some ((q46, Sum.inr (8, [Value.int m_error, Value.int 1, Value.ref q47, Value.ref q48, Value.ref q49, Value.int m_docs, Value.ref q50, Value.ref q51, Value.ref q52, Value.ref q53, Value.int m_filesThere, Value.int m_files, Value.int m_actions, Value.int m_power, Value.int m_lost, Value.ref q54, Value.ref q62, Value.ref q70, Value.int m_open, Value.int m_isPrepared, Value.int m_generation, Value.ref q78, Value.ref q79, Value.int m_buffered, Value.int m_limit, Value.int m_factor, um, Value.ref q80, Value.ref q81, Value.ref q82, Value.int m_merges, Value.ref q83, Value.int m_opened, Value.int m_chosenMany, Value.int m_begun])) : Nat × va_E) := by rw [e_h7]; exact gm_self
    replace hU : gm_g h h7 [46] := by rw [e_h7]; exact hU.put (by simp)
    refine lv_iload hx hb d_Mo_done_50 (lv_at hl 2 rfl) ?_
    refine lv_bipush (v := 10) hx hb d_Mo_done_52 (by decide) ?_
    refine lv_idiv hx hb d_Mo_done_54 (by decide) ?_
    refine gx_topi (y := 1) (by decide) ?_
    refine lv_istore (lv' := [(4, Value.int 1), (3, Value.int 1), (5, Value.int 1), (0, Value.ref q46), (1, Value.int p1), (2, Value.int 13)]) hx hb d_Mo_done_55 hl (by decide) rfl (fun ls hl => ?_)
    refine lv_goto (tgt := 11) hx hb d_Mo_done_57 (by decide) ?_
    refine lv_iload hx hb d_Mo_done_11 (lv_at hl 0 rfl) ?_
    refine lv_if_le (tgt := 60) hx hb d_Mo_done_13 (by decide) (fun c9 => absurd c9 (by decide)) (fun _ => ?_)
    refine lv_iload_n hx hb d_Mo_done_16 rfl (lv_at hl 5 rfl) ?_
    refine lv_iload hx hb d_Mo_done_17 (lv_at hl 0 rfl) ?_
    refine lv_idiv hx hb d_Mo_done_19 (by decide) ?_
    refine gx_topi (y := 13) (by decide) ?_
    refine lv_bipush (v := 10) hx hb d_Mo_done_20 (by decide) ?_
    refine lv_irem hx hb d_Mo_done_22 (by decide) ?_
    refine gx_topi (y := 3) (by decide) ?_
    refine lv_istore (lv' := [(5, Value.int 3), (4, Value.int 1), (3, Value.int 1), (0, Value.ref q46), (1, Value.int p1), (2, Value.int 13)]) hx hb d_Mo_done_23 hl (by decide) rfl (fun ls hl => ?_)
    refine lv_iload hx hb d_Mo_done_25 (lv_at hl 0 rfl) ?_
    refine lv_if_ne (tgt := 33) hx hb d_Mo_done_27 (by decide) (fun _ => ?_) (fun c9 => absurd c9 (by decide))
    refine lv_iinc (v := 2) (lv' := [(3, Value.int 2), (5, Value.int 3), (4, Value.int 1), (0, Value.ref q46), (1, Value.int p1), (2, Value.int 13)]) hx hb d_Mo_done_33 hl (k := 2) rfl (by decide) (by decide) rfl (fun ls hl => ?_)
    refine lv_iload hx hb d_Mo_done_36 (lv_at hl 1 rfl) ?_
    refine lv_aload_n hx hb d_Mo_done_38 rfl (lv_at hl 3 rfl) ?_
    refine gz_get (ci := 8) (v := Value.int m_error) (C := "CommitLedgerModel") (T := F_Mo) (N := 35) hx hb hts i_Mo hown hK Z f_46_h7 rfl 0 (by decide) kf_Mo_84 rfl d_Mo_done_39 ?_
    refine lv_icmp_ne (tgt := 50) hx hb d_Mo_done_42 (by decide) (fun _ => ?_) (fun c9 => absurd c9 (fun e9 => absurd (c42_2.trans e9.symm) (by decide)))
    refine lv_iload hx hb d_Mo_done_50 (lv_at hl 2 rfl) ?_
    refine lv_bipush (v := 10) hx hb d_Mo_done_52 (by decide) ?_
    refine lv_idiv hx hb d_Mo_done_54 (by decide) ?_
    refine gx_topi (y := 0) (by decide) ?_
    refine lv_istore (lv' := [(4, Value.int 0), (3, Value.int 2), (5, Value.int 3), (0, Value.ref q46), (1, Value.int p1), (2, Value.int 13)]) hx hb d_Mo_done_55 hl (by decide) rfl (fun ls hl => ?_)
    refine lv_goto (tgt := 11) hx hb d_Mo_done_57 (by decide) ?_
    refine lv_iload hx hb d_Mo_done_11 (lv_at hl 0 rfl) ?_
    refine lv_if_le (tgt := 60) hx hb d_Mo_done_13 (by decide) (fun _ => ?_) (fun c9 => absurd (by decide) c9)
    refine lv_aload_n hx hb d_Mo_done_60 rfl (lv_at hl 3 rfl) ?_
    refine lv_iconst (v := 0) hx hb d_Mo_done_61 (by decide) ?_
    refine gz_put (ci := 8) (v := Value.int 0) (ty := .int) (C := "CommitLedgerModel") (T := F_Mo) (N := 35) hx hb hts i_Mo t_Mo_ok n_Mo hown hK Z f_46_h7 rfl 0 (by decide) kf_Mo_84 rfl (by decide +kernel) rfl rfl (Nat.le_of_ble_eq_true rfl) d_Mo_done_62 (fun H locs Z => ?_)
    obtain ⟨h9, e_h9⟩ : ∃ z9 : gm_M, z9 = gm_up h7 46 ((q46, Sum.inr (8, [Value.int 0, Value.int 1, Value.ref q47, Value.ref q48, Value.ref q49, Value.int m_docs, Value.ref q50, Value.ref q51, Value.ref q52, Value.ref q53, Value.int m_filesThere, Value.int m_files, Value.int m_actions, Value.int m_power, Value.int m_lost, Value.ref q54, Value.ref q62, Value.ref q70, Value.int m_open, Value.int m_isPrepared, Value.int m_generation, Value.ref q78, Value.ref q79, Value.int m_buffered, Value.int m_limit, Value.int m_factor, um, Value.ref q80, Value.ref q81, Value.ref q82, Value.int m_merges, Value.ref q83, Value.int m_opened, Value.int m_chosenMany, Value.int m_begun])) : Nat × va_E) := ⟨_, rfl⟩
    replace Z : gz D A s.heap h9 H locs := by rw [e_h9]; exact Z
    have f_46_h9 : h9 46 = some ((q46, Sum.inr (8, [Value.int 0, Value.int 1, Value.ref q47, Value.ref q48, Value.ref q49, Value.int m_docs, Value.ref q50, Value.ref q51, Value.ref q52, Value.ref q53, Value.int m_filesThere, Value.int m_files, Value.int m_actions, Value.int m_power, Value.int m_lost, Value.ref q54, Value.ref q62, Value.ref q70, Value.int m_open, Value.int m_isPrepared, Value.int m_generation, Value.ref q78, Value.ref q79, Value.int m_buffered, Value.int m_limit, Value.int m_factor, um, Value.ref q80, Value.ref q81, Value.ref q82, Value.int m_merges, Value.ref q83, Value.int m_opened, Value.int m_chosenMany, Value.int m_begun])) : Nat × va_E) := by rw [e_h9]; exact gm_self
    replace hU : gm_g h h9 [46] := by rw [e_h9]; exact hU.put (by simp)
    refine lv_aload_n hx hb d_Mo_done_65 rfl (lv_at hl 3 rfl) ?_
    refine gz_get (ci := 8) (v := Value.int 1) (C := "CommitLedgerModel") (T := F_Mo) (N := 35) hx hb hts i_Mo hown hK Z f_46_h9 rfl 1 (by decide) kf_Mo_80 rfl d_Mo_done_66 ?_
    refine lv_if_le (tgt := 76) hx hb d_Mo_done_69 (by decide) (fun c9 => absurd c9 (by decide)) (fun _ => ?_)
    refine lv_iconst (v := 0) hx hb d_Mo_done_72 (by decide) ?_
    refine lv_goto (tgt := 77) hx hb d_Mo_done_73 (by decide) ?_
    exact gz_iret (v := 0) hx hb hr hlocks hK Z (by decide) (by decide) (by rw [← hPQ]; exact Or.inr (Or.inr (⟨rfl, hU, f_46_h9, c42_2⟩))) d_Mo_done_77

set_option maxHeartbeats 4000000 in
set_option maxRecDepth 100000 in
theorem k_Mo_done_23 (l : Launch) (htr : l.stackTraces = false) (D : va_G) (tys : List (ClassId × FieldType)) (z sz : Nat) (ws : va_W) (h : gm_M) (hM : gm_S h ws) (q46 : Nat) (q47 : Nat) (q48 : Nat) (q49 : Nat) (q50 : Nat) (q51 : Nat) (q52 : Nat) (q53 : Nat) (q54 : Nat) (q62 : Nat) (q70 : Nat) (q78 : Nat) (q79 : Nat) (q80 : Nat) (q81 : Nat) (q82 : Nat) (q83 : Nat) (um : Value) (m_error : Int32) (m_thrown : Int32) (m_docs : Int32) (m_filesThere : Int32) (m_files : Int32) (m_actions : Int32) (m_power : Int32) (m_lost : Int32) (m_open : Int32) (m_isPrepared : Int32) (m_generation : Int32) (m_buffered : Int32) (m_limit : Int32) (m_factor : Int32) (m_merges : Int32) (m_opened : Int32) (m_chosenMany : Int32) (m_begun : Int32) (p1 : Int32) (f_46 : h 46 = some ((q46, Sum.inr (8, [Value.int m_error, Value.int m_thrown, Value.ref q47, Value.ref q48, Value.ref q49, Value.int m_docs, Value.ref q50, Value.ref q51, Value.ref q52, Value.ref q53, Value.int m_filesThere, Value.int m_files, Value.int m_actions, Value.int m_power, Value.int m_lost, Value.ref q54, Value.ref q62, Value.ref q70, Value.int m_open, Value.int m_isPrepared, Value.int m_generation, Value.ref q78, Value.ref q79, Value.int m_buffered, Value.int m_limit, Value.int m_factor, um, Value.ref q80, Value.ref q81, Value.ref q82, Value.int m_merges, Value.ref q83, Value.int m_opened, Value.int m_chosenMany, Value.int m_begun])) : Nat × va_E)) : gx_Met l y_Mo_done [Cond.code y_Mo_done b_Mo_done 6 (some .int)] { frames := 1, cells := 0, slots := 0, locals := 12 } (gx_P z sz D classes tys ws [Value.ref q46, Value.int p1, Value.int 23]) (gx_Q D classes tys (va_A ws sz) (gm_p (fun r h' => (r = Sum.inl (some (Value.int p1)) ∧ gm_g h h' [46] ∧ h' 46 = some ((q46, Sum.inr (8, [Value.int 0, Value.int 0, Value.ref q47, Value.ref q48, Value.ref q49, Value.int m_docs, Value.ref q50, Value.ref q51, Value.ref q52, Value.ref q53, Value.int m_filesThere, Value.int m_files, Value.int m_actions, Value.int m_power, Value.int m_lost, Value.ref q54, Value.ref q62, Value.ref q70, Value.int m_open, Value.int m_isPrepared, Value.int m_generation, Value.ref q78, Value.ref q79, Value.int m_buffered, Value.int m_limit, Value.int m_factor, um, Value.ref q80, Value.ref q81, Value.ref q82, Value.int m_merges, Value.ref q83, Value.int m_opened, Value.int m_chosenMany, Value.int m_begun])) : Nat × va_E) ∧ (¬ 2 = m_error) ∧ (¬ 3 = m_error)) ∨ (r = Sum.inl (some (Value.int 0)) ∧ gm_g h h' [46] ∧ h' 46 = some ((q46, Sum.inr (8, [Value.int 0, Value.int 2, Value.ref q47, Value.ref q48, Value.ref q49, Value.int m_docs, Value.ref q50, Value.ref q51, Value.ref q52, Value.ref q53, Value.int m_filesThere, Value.int m_files, Value.int m_actions, Value.int m_power, Value.int m_lost, Value.ref q54, Value.ref q62, Value.ref q70, Value.int m_open, Value.int m_isPrepared, Value.int m_generation, Value.ref q78, Value.ref q79, Value.int m_buffered, Value.int m_limit, Value.int m_factor, um, Value.ref q80, Value.ref q81, Value.ref q82, Value.int m_merges, Value.ref q83, Value.int m_opened, Value.int m_chosenMany, Value.int m_begun])) : Nat × va_E) ∧ (¬ 2 = m_error) ∧ (3 = m_error)) ∨ (r = Sum.inl (some (Value.int 0)) ∧ gm_g h h' [46] ∧ h' 46 = some ((q46, Sum.inr (8, [Value.int 0, Value.int 1, Value.ref q47, Value.ref q48, Value.ref q49, Value.int m_docs, Value.ref q50, Value.ref q51, Value.ref q52, Value.ref q53, Value.int m_filesThere, Value.int m_files, Value.int m_actions, Value.int m_power, Value.int m_lost, Value.ref q54, Value.ref q62, Value.ref q70, Value.int m_open, Value.int m_isPrepared, Value.int m_generation, Value.ref q78, Value.ref q79, Value.int m_buffered, Value.int m_limit, Value.int m_factor, um, Value.ref q80, Value.ref q81, Value.ref q82, Value.int m_merges, Value.ref q83, Value.int m_opened, Value.int m_chosenMany, Value.int m_begun])) : Nat × va_E) ∧ (2 = m_error))))) 0 0 (va_A ws sz) := by
  refine gx_ofW (cc := b_Mo_done) (maxL := 6) (ret := (some .int)) (by decide) rfl ?_
  intro p e s m args below meth c s₁ B hml hv
  obtain ⟨rfl, hsz, hz, hP, hK, hD0, hY⟩ := hv
  have hx := B.exec
  have hb := B.bytes
  have hr := B.returns
  have hts := hY.hts (#[Value.ref q46, Value.int p1, Value.int 23] : Array Value)
  have hown : s.vm.findClass "CommitLedgerModel" = some m.cls := findClass_of_methodNamed B.named
  have hlocks := B.notSynchronized
  have hne : c.exceptionTable.isEmpty = true := B.noHandlers (atoms_spec (ws := [Cond.code y_Mo_done b_Mo_done 6 (some .int)]) B.pre _ List.mem_cons_self)
  subst hsz
  have hAz := gx_az hD0 hz
  have hD := hD0.self (sz := s.heap.size)
  have hN := gx_ns hP
  have hA : ∀ q : Nat, s.heap.size ≤ q → va_A ws s.heap.size q := fun q h => Or.inr h
  generalize va_A ws s.heap.size = A at hD hN hA hAz ⊢
  generalize hPQ : (fun (r : Option Value ⊕ String) (h' : gm_M) => (r = Sum.inl (some (Value.int p1)) ∧ gm_g h h' [46] ∧ h' 46 = some ((q46, Sum.inr (8, [Value.int 0, Value.int 0, Value.ref q47, Value.ref q48, Value.ref q49, Value.int m_docs, Value.ref q50, Value.ref q51, Value.ref q52, Value.ref q53, Value.int m_filesThere, Value.int m_files, Value.int m_actions, Value.int m_power, Value.int m_lost, Value.ref q54, Value.ref q62, Value.ref q70, Value.int m_open, Value.int m_isPrepared, Value.int m_generation, Value.ref q78, Value.ref q79, Value.int m_buffered, Value.int m_limit, Value.int m_factor, um, Value.ref q80, Value.ref q81, Value.ref q82, Value.int m_merges, Value.ref q83, Value.int m_opened, Value.int m_chosenMany, Value.int m_begun])) : Nat × va_E) ∧ (¬ 2 = m_error) ∧ (¬ 3 = m_error)) ∨ (r = Sum.inl (some (Value.int 0)) ∧ gm_g h h' [46] ∧ h' 46 = some ((q46, Sum.inr (8, [Value.int 0, Value.int 2, Value.ref q47, Value.ref q48, Value.ref q49, Value.int m_docs, Value.ref q50, Value.ref q51, Value.ref q52, Value.ref q53, Value.int m_filesThere, Value.int m_files, Value.int m_actions, Value.int m_power, Value.int m_lost, Value.ref q54, Value.ref q62, Value.ref q70, Value.int m_open, Value.int m_isPrepared, Value.int m_generation, Value.ref q78, Value.ref q79, Value.int m_buffered, Value.int m_limit, Value.int m_factor, um, Value.ref q80, Value.ref q81, Value.ref q82, Value.int m_merges, Value.ref q83, Value.int m_opened, Value.int m_chosenMany, Value.int m_begun])) : Nat × va_E) ∧ (¬ 2 = m_error) ∧ (3 = m_error)) ∨ (r = Sum.inl (some (Value.int 0)) ∧ gm_g h h' [46] ∧ h' 46 = some ((q46, Sum.inr (8, [Value.int 0, Value.int 1, Value.ref q47, Value.ref q48, Value.ref q49, Value.int m_docs, Value.ref q50, Value.ref q51, Value.ref q52, Value.ref q53, Value.int m_filesThere, Value.int m_files, Value.int m_actions, Value.int m_power, Value.int m_lost, Value.ref q54, Value.ref q62, Value.ref q70, Value.int m_open, Value.int m_isPrepared, Value.int m_generation, Value.ref q78, Value.ref q79, Value.int m_buffered, Value.int m_limit, Value.int m_factor, um, Value.ref q80, Value.ref q81, Value.ref q82, Value.int m_merges, Value.ref q83, Value.int m_opened, Value.int m_chosenMany, Value.int m_begun])) : Nat × va_E) ∧ (2 = m_error))) = PQ
  have Z : gz D A s.heap h s.heap [] := ⟨ws, hM, hP, hD, va_S.rf⟩
  clear hP hD hM hD0
  have hU : gm_g h h [46] := gm_g.rf
  have hl := lv_entry ([Value.ref q46, Value.int p1, Value.int 23]) (n := 6) (Nat.le_of_ble_eq_true rfl)
  rw [lg_entry_eq]
  generalize (lg_sl ([Value.ref q46, Value.int p1, Value.int 23]) ++ List.replicate (6 - (lg_sl ([Value.ref q46, Value.int p1, Value.int 23])).length) Slot.unset).toArray = ls at hl ⊢
  have hl : lv_has ls 6 [(0, Value.ref q46), (1, Value.int p1), (2, Value.int 23)] := hl
  refine lv_aload_n hx hb d_Mo_done_0 rfl (lv_at hl 0 rfl) ?_
  refine lv_iconst (v := 0) hx hb d_Mo_done_1 (by decide) ?_
  refine gz_put (ci := 8) (v := Value.int 0) (ty := .int) (C := "CommitLedgerModel") (T := F_Mo) (N := 35) hx hb hts i_Mo t_Mo_ok n_Mo hown hK Z f_46 rfl 1 (by decide) kf_Mo_80 rfl (by decide +kernel) rfl rfl (Nat.le_of_ble_eq_true rfl) d_Mo_done_2 (fun H locs Z => ?_)
  obtain ⟨h1, e_h1⟩ : ∃ z9 : gm_M, z9 = gm_up h 46 ((q46, Sum.inr (8, [Value.int m_error, Value.int 0, Value.ref q47, Value.ref q48, Value.ref q49, Value.int m_docs, Value.ref q50, Value.ref q51, Value.ref q52, Value.ref q53, Value.int m_filesThere, Value.int m_files, Value.int m_actions, Value.int m_power, Value.int m_lost, Value.ref q54, Value.ref q62, Value.ref q70, Value.int m_open, Value.int m_isPrepared, Value.int m_generation, Value.ref q78, Value.ref q79, Value.int m_buffered, Value.int m_limit, Value.int m_factor, um, Value.ref q80, Value.ref q81, Value.ref q82, Value.int m_merges, Value.ref q83, Value.int m_opened, Value.int m_chosenMany, Value.int m_begun])) : Nat × va_E) := ⟨_, rfl⟩
  replace Z : gz D A s.heap h1 H locs := by rw [e_h1]; exact Z
  have f_46_h1 : h1 46 = some ((q46, Sum.inr (8, [Value.int m_error, Value.int 0, Value.ref q47, Value.ref q48, Value.ref q49, Value.int m_docs, Value.ref q50, Value.ref q51, Value.ref q52, Value.ref q53, Value.int m_filesThere, Value.int m_files, Value.int m_actions, Value.int m_power, Value.int m_lost, Value.ref q54, Value.ref q62, Value.ref q70, Value.int m_open, Value.int m_isPrepared, Value.int m_generation, Value.ref q78, Value.ref q79, Value.int m_buffered, Value.int m_limit, Value.int m_factor, um, Value.ref q80, Value.ref q81, Value.ref q82, Value.int m_merges, Value.ref q83, Value.int m_opened, Value.int m_chosenMany, Value.int m_begun])) : Nat × va_E) := by rw [e_h1]; exact gm_self
  replace hU : gm_g h h1 [46] := by rw [e_h1]; exact hU.put (by simp)
  refine lv_iconst (v := 0) hx hb d_Mo_done_5 (by decide) ?_
  refine lv_istore_n (lv' := [(3, Value.int 0), (0, Value.ref q46), (1, Value.int p1), (2, Value.int 23)]) hx hb d_Mo_done_6 rfl hl (by decide) rfl (fun ls hl => ?_)
  refine lv_ldc (v := 100000) hx hb hown (hts _ ki_Mo_83) d_Mo_done_7 ?_
  refine lv_istore (lv' := [(4, Value.int 100000), (3, Value.int 0), (0, Value.ref q46), (1, Value.int p1), (2, Value.int 23)]) hx hb d_Mo_done_9 hl (by decide) rfl (fun ls hl => ?_)
  refine lv_iload hx hb d_Mo_done_11 (lv_at hl 0 rfl) ?_
  refine lv_if_le (tgt := 60) hx hb d_Mo_done_13 (by decide) (fun c9 => absurd c9 (by decide)) (fun _ => ?_)
  refine lv_iload_n hx hb d_Mo_done_16 rfl (lv_at hl 4 rfl) ?_
  refine lv_iload hx hb d_Mo_done_17 (lv_at hl 0 rfl) ?_
  refine lv_idiv hx hb d_Mo_done_19 (by decide) ?_
  refine gx_topi (y := 0) (by decide) ?_
  refine lv_bipush (v := 10) hx hb d_Mo_done_20 (by decide) ?_
  refine lv_irem hx hb d_Mo_done_22 (by decide) ?_
  refine gx_topi (y := 0) (by decide) ?_
  refine lv_istore (lv' := [(5, Value.int 0), (4, Value.int 100000), (3, Value.int 0), (0, Value.ref q46), (1, Value.int p1), (2, Value.int 23)]) hx hb d_Mo_done_23 hl (by decide) rfl (fun ls hl => ?_)
  refine lv_iload hx hb d_Mo_done_25 (lv_at hl 0 rfl) ?_
  refine lv_if_ne (tgt := 33) hx hb d_Mo_done_27 (by decide) (fun c9 => absurd (by decide) c9) (fun _ => ?_)
  refine lv_goto (tgt := 50) hx hb d_Mo_done_30 (by decide) ?_
  refine lv_iload hx hb d_Mo_done_50 (lv_at hl 1 rfl) ?_
  refine lv_bipush (v := 10) hx hb d_Mo_done_52 (by decide) ?_
  refine lv_idiv hx hb d_Mo_done_54 (by decide) ?_
  refine gx_topi (y := 10000) (by decide) ?_
  refine lv_istore (lv' := [(4, Value.int 10000), (5, Value.int 0), (3, Value.int 0), (0, Value.ref q46), (1, Value.int p1), (2, Value.int 23)]) hx hb d_Mo_done_55 hl (by decide) rfl (fun ls hl => ?_)
  refine lv_goto (tgt := 11) hx hb d_Mo_done_57 (by decide) ?_
  refine lv_iload hx hb d_Mo_done_11 (lv_at hl 0 rfl) ?_
  refine lv_if_le (tgt := 60) hx hb d_Mo_done_13 (by decide) (fun c9 => absurd c9 (by decide)) (fun _ => ?_)
  refine lv_iload_n hx hb d_Mo_done_16 rfl (lv_at hl 5 rfl) ?_
  refine lv_iload hx hb d_Mo_done_17 (lv_at hl 0 rfl) ?_
  refine lv_idiv hx hb d_Mo_done_19 (by decide) ?_
  refine gx_topi (y := 0) (by decide) ?_
  refine lv_bipush (v := 10) hx hb d_Mo_done_20 (by decide) ?_
  refine lv_irem hx hb d_Mo_done_22 (by decide) ?_
  refine gx_topi (y := 0) (by decide) ?_
  refine lv_istore (lv' := [(5, Value.int 0), (4, Value.int 10000), (3, Value.int 0), (0, Value.ref q46), (1, Value.int p1), (2, Value.int 23)]) hx hb d_Mo_done_23 hl (by decide) rfl (fun ls hl => ?_)
  refine lv_iload hx hb d_Mo_done_25 (lv_at hl 0 rfl) ?_
  refine lv_if_ne (tgt := 33) hx hb d_Mo_done_27 (by decide) (fun c9 => absurd (by decide) c9) (fun _ => ?_)
  refine lv_goto (tgt := 50) hx hb d_Mo_done_30 (by decide) ?_
  refine lv_iload hx hb d_Mo_done_50 (lv_at hl 1 rfl) ?_
  refine lv_bipush (v := 10) hx hb d_Mo_done_52 (by decide) ?_
  refine lv_idiv hx hb d_Mo_done_54 (by decide) ?_
  refine gx_topi (y := 1000) (by decide) ?_
  refine lv_istore (lv' := [(4, Value.int 1000), (5, Value.int 0), (3, Value.int 0), (0, Value.ref q46), (1, Value.int p1), (2, Value.int 23)]) hx hb d_Mo_done_55 hl (by decide) rfl (fun ls hl => ?_)
  refine lv_goto (tgt := 11) hx hb d_Mo_done_57 (by decide) ?_
  refine lv_iload hx hb d_Mo_done_11 (lv_at hl 0 rfl) ?_
  refine lv_if_le (tgt := 60) hx hb d_Mo_done_13 (by decide) (fun c9 => absurd c9 (by decide)) (fun _ => ?_)
  refine lv_iload_n hx hb d_Mo_done_16 rfl (lv_at hl 5 rfl) ?_
  refine lv_iload hx hb d_Mo_done_17 (lv_at hl 0 rfl) ?_
  refine lv_idiv hx hb d_Mo_done_19 (by decide) ?_
  refine gx_topi (y := 0) (by decide) ?_
  refine lv_bipush (v := 10) hx hb d_Mo_done_20 (by decide) ?_
  refine lv_irem hx hb d_Mo_done_22 (by decide) ?_
  refine gx_topi (y := 0) (by decide) ?_
  refine lv_istore (lv' := [(5, Value.int 0), (4, Value.int 1000), (3, Value.int 0), (0, Value.ref q46), (1, Value.int p1), (2, Value.int 23)]) hx hb d_Mo_done_23 hl (by decide) rfl (fun ls hl => ?_)
  refine lv_iload hx hb d_Mo_done_25 (lv_at hl 0 rfl) ?_
  refine lv_if_ne (tgt := 33) hx hb d_Mo_done_27 (by decide) (fun c9 => absurd (by decide) c9) (fun _ => ?_)
  refine lv_goto (tgt := 50) hx hb d_Mo_done_30 (by decide) ?_
  refine lv_iload hx hb d_Mo_done_50 (lv_at hl 1 rfl) ?_
  refine lv_bipush (v := 10) hx hb d_Mo_done_52 (by decide) ?_
  refine lv_idiv hx hb d_Mo_done_54 (by decide) ?_
  refine gx_topi (y := 100) (by decide) ?_
  refine lv_istore (lv' := [(4, Value.int 100), (5, Value.int 0), (3, Value.int 0), (0, Value.ref q46), (1, Value.int p1), (2, Value.int 23)]) hx hb d_Mo_done_55 hl (by decide) rfl (fun ls hl => ?_)
  refine lv_goto (tgt := 11) hx hb d_Mo_done_57 (by decide) ?_
  refine lv_iload hx hb d_Mo_done_11 (lv_at hl 0 rfl) ?_
  refine lv_if_le (tgt := 60) hx hb d_Mo_done_13 (by decide) (fun c9 => absurd c9 (by decide)) (fun _ => ?_)
  refine lv_iload_n hx hb d_Mo_done_16 rfl (lv_at hl 5 rfl) ?_
  refine lv_iload hx hb d_Mo_done_17 (lv_at hl 0 rfl) ?_
  refine lv_idiv hx hb d_Mo_done_19 (by decide) ?_
  refine gx_topi (y := 0) (by decide) ?_
  refine lv_bipush (v := 10) hx hb d_Mo_done_20 (by decide) ?_
  refine lv_irem hx hb d_Mo_done_22 (by decide) ?_
  refine gx_topi (y := 0) (by decide) ?_
  refine lv_istore (lv' := [(5, Value.int 0), (4, Value.int 100), (3, Value.int 0), (0, Value.ref q46), (1, Value.int p1), (2, Value.int 23)]) hx hb d_Mo_done_23 hl (by decide) rfl (fun ls hl => ?_)
  refine lv_iload hx hb d_Mo_done_25 (lv_at hl 0 rfl) ?_
  refine lv_if_ne (tgt := 33) hx hb d_Mo_done_27 (by decide) (fun c9 => absurd (by decide) c9) (fun _ => ?_)
  refine lv_goto (tgt := 50) hx hb d_Mo_done_30 (by decide) ?_
  refine lv_iload hx hb d_Mo_done_50 (lv_at hl 1 rfl) ?_
  refine lv_bipush (v := 10) hx hb d_Mo_done_52 (by decide) ?_
  refine lv_idiv hx hb d_Mo_done_54 (by decide) ?_
  refine gx_topi (y := 10) (by decide) ?_
  refine lv_istore (lv' := [(4, Value.int 10), (5, Value.int 0), (3, Value.int 0), (0, Value.ref q46), (1, Value.int p1), (2, Value.int 23)]) hx hb d_Mo_done_55 hl (by decide) rfl (fun ls hl => ?_)
  refine lv_goto (tgt := 11) hx hb d_Mo_done_57 (by decide) ?_
  refine lv_iload hx hb d_Mo_done_11 (lv_at hl 0 rfl) ?_
  refine lv_if_le (tgt := 60) hx hb d_Mo_done_13 (by decide) (fun c9 => absurd c9 (by decide)) (fun _ => ?_)
  refine lv_iload_n hx hb d_Mo_done_16 rfl (lv_at hl 5 rfl) ?_
  refine lv_iload hx hb d_Mo_done_17 (lv_at hl 0 rfl) ?_
  refine lv_idiv hx hb d_Mo_done_19 (by decide) ?_
  refine gx_topi (y := 2) (by decide) ?_
  refine lv_bipush (v := 10) hx hb d_Mo_done_20 (by decide) ?_
  refine lv_irem hx hb d_Mo_done_22 (by decide) ?_
  refine gx_topi (y := 2) (by decide) ?_
  refine lv_istore (lv' := [(5, Value.int 2), (4, Value.int 10), (3, Value.int 0), (0, Value.ref q46), (1, Value.int p1), (2, Value.int 23)]) hx hb d_Mo_done_23 hl (by decide) rfl (fun ls hl => ?_)
  refine lv_iload hx hb d_Mo_done_25 (lv_at hl 0 rfl) ?_
  refine lv_if_ne (tgt := 33) hx hb d_Mo_done_27 (by decide) (fun _ => ?_) (fun c9 => absurd c9 (by decide))
  refine lv_iinc (v := 1) (lv' := [(3, Value.int 1), (5, Value.int 2), (4, Value.int 10), (0, Value.ref q46), (1, Value.int p1), (2, Value.int 23)]) hx hb d_Mo_done_33 hl (k := 2) rfl (by decide) (by decide) rfl (fun ls hl => ?_)
  refine lv_iload hx hb d_Mo_done_36 (lv_at hl 1 rfl) ?_
  refine lv_aload_n hx hb d_Mo_done_38 rfl (lv_at hl 3 rfl) ?_
  refine gz_get (ci := 8) (v := Value.int m_error) (C := "CommitLedgerModel") (T := F_Mo) (N := 35) hx hb hts i_Mo hown hK Z f_46_h1 rfl 0 (by decide) kf_Mo_84 rfl d_Mo_done_39 ?_
  refine lv_icmp_ne (tgt := 50) hx hb d_Mo_done_42 (by decide) (fun c42_2 => ?_) (fun c42_2 => ?_)
  · refine lv_iload hx hb d_Mo_done_50 (lv_at hl 2 rfl) ?_
    refine lv_bipush (v := 10) hx hb d_Mo_done_52 (by decide) ?_
    refine lv_idiv hx hb d_Mo_done_54 (by decide) ?_
    refine gx_topi (y := 1) (by decide) ?_
    refine lv_istore (lv' := [(4, Value.int 1), (3, Value.int 1), (5, Value.int 2), (0, Value.ref q46), (1, Value.int p1), (2, Value.int 23)]) hx hb d_Mo_done_55 hl (by decide) rfl (fun ls hl => ?_)
    refine lv_goto (tgt := 11) hx hb d_Mo_done_57 (by decide) ?_
    refine lv_iload hx hb d_Mo_done_11 (lv_at hl 0 rfl) ?_
    refine lv_if_le (tgt := 60) hx hb d_Mo_done_13 (by decide) (fun c9 => absurd c9 (by decide)) (fun _ => ?_)
    refine lv_iload_n hx hb d_Mo_done_16 rfl (lv_at hl 5 rfl) ?_
    refine lv_iload hx hb d_Mo_done_17 (lv_at hl 0 rfl) ?_
    refine lv_idiv hx hb d_Mo_done_19 (by decide) ?_
    refine gx_topi (y := 23) (by decide) ?_
    refine lv_bipush (v := 10) hx hb d_Mo_done_20 (by decide) ?_
    refine lv_irem hx hb d_Mo_done_22 (by decide) ?_
    refine gx_topi (y := 3) (by decide) ?_
    refine lv_istore (lv' := [(5, Value.int 3), (4, Value.int 1), (3, Value.int 1), (0, Value.ref q46), (1, Value.int p1), (2, Value.int 23)]) hx hb d_Mo_done_23 hl (by decide) rfl (fun ls hl => ?_)
    refine lv_iload hx hb d_Mo_done_25 (lv_at hl 0 rfl) ?_
    refine lv_if_ne (tgt := 33) hx hb d_Mo_done_27 (by decide) (fun _ => ?_) (fun c9 => absurd c9 (by decide))
    refine lv_iinc (v := 2) (lv' := [(3, Value.int 2), (5, Value.int 3), (4, Value.int 1), (0, Value.ref q46), (1, Value.int p1), (2, Value.int 23)]) hx hb d_Mo_done_33 hl (k := 2) rfl (by decide) (by decide) rfl (fun ls hl => ?_)
    refine lv_iload hx hb d_Mo_done_36 (lv_at hl 1 rfl) ?_
    refine lv_aload_n hx hb d_Mo_done_38 rfl (lv_at hl 3 rfl) ?_
    refine gz_get (ci := 8) (v := Value.int m_error) (C := "CommitLedgerModel") (T := F_Mo) (N := 35) hx hb hts i_Mo hown hK Z f_46_h1 rfl 0 (by decide) kf_Mo_84 rfl d_Mo_done_39 ?_
    refine lv_icmp_ne (tgt := 50) hx hb d_Mo_done_42 (by decide) (fun c42_3 => ?_) (fun c42_3 => ?_)
    · refine lv_iload hx hb d_Mo_done_50 (lv_at hl 2 rfl) ?_
      refine lv_bipush (v := 10) hx hb d_Mo_done_52 (by decide) ?_
      refine lv_idiv hx hb d_Mo_done_54 (by decide) ?_
      refine gx_topi (y := 0) (by decide) ?_
      refine lv_istore (lv' := [(4, Value.int 0), (3, Value.int 2), (5, Value.int 3), (0, Value.ref q46), (1, Value.int p1), (2, Value.int 23)]) hx hb d_Mo_done_55 hl (by decide) rfl (fun ls hl => ?_)
      refine lv_goto (tgt := 11) hx hb d_Mo_done_57 (by decide) ?_
      refine lv_iload hx hb d_Mo_done_11 (lv_at hl 0 rfl) ?_
      refine lv_if_le (tgt := 60) hx hb d_Mo_done_13 (by decide) (fun _ => ?_) (fun c9 => absurd (by decide) c9)
      refine lv_aload_n hx hb d_Mo_done_60 rfl (lv_at hl 3 rfl) ?_
      refine lv_iconst (v := 0) hx hb d_Mo_done_61 (by decide) ?_
      refine gz_put (ci := 8) (v := Value.int 0) (ty := .int) (C := "CommitLedgerModel") (T := F_Mo) (N := 35) hx hb hts i_Mo t_Mo_ok n_Mo hown hK Z f_46_h1 rfl 0 (by decide) kf_Mo_84 rfl (by decide +kernel) rfl rfl (Nat.le_of_ble_eq_true rfl) d_Mo_done_62 (fun H locs Z => ?_)
      obtain ⟨h4, e_h4⟩ : ∃ z9 : gm_M, z9 = gm_up h1 46 ((q46, Sum.inr (8, [Value.int 0, Value.int 0, Value.ref q47, Value.ref q48, Value.ref q49, Value.int m_docs, Value.ref q50, Value.ref q51, Value.ref q52, Value.ref q53, Value.int m_filesThere, Value.int m_files, Value.int m_actions, Value.int m_power, Value.int m_lost, Value.ref q54, Value.ref q62, Value.ref q70, Value.int m_open, Value.int m_isPrepared, Value.int m_generation, Value.ref q78, Value.ref q79, Value.int m_buffered, Value.int m_limit, Value.int m_factor, um, Value.ref q80, Value.ref q81, Value.ref q82, Value.int m_merges, Value.ref q83, Value.int m_opened, Value.int m_chosenMany, Value.int m_begun])) : Nat × va_E) := ⟨_, rfl⟩
      replace Z : gz D A s.heap h4 H locs := by rw [e_h4]; exact Z
      have f_46_h4 : h4 46 = some ((q46, Sum.inr (8, [Value.int 0, Value.int 0, Value.ref q47, Value.ref q48, Value.ref q49, Value.int m_docs, Value.ref q50, Value.ref q51, Value.ref q52, Value.ref q53, Value.int m_filesThere, Value.int m_files, Value.int m_actions, Value.int m_power, Value.int m_lost, Value.ref q54, Value.ref q62, Value.ref q70, Value.int m_open, Value.int m_isPrepared, Value.int m_generation, Value.ref q78, Value.ref q79, Value.int m_buffered, Value.int m_limit, Value.int m_factor, um, Value.ref q80, Value.ref q81, Value.ref q82, Value.int m_merges, Value.ref q83, Value.int m_opened, Value.int m_chosenMany, Value.int m_begun])) : Nat × va_E) := by rw [e_h4]; exact gm_self
      replace hU : gm_g h h4 [46] := by rw [e_h4]; exact hU.put (by simp)
      refine lv_aload_n hx hb d_Mo_done_65 rfl (lv_at hl 3 rfl) ?_
      refine gz_get (ci := 8) (v := Value.int 0) (C := "CommitLedgerModel") (T := F_Mo) (N := 35) hx hb hts i_Mo hown hK Z f_46_h4 rfl 1 (by decide) kf_Mo_80 rfl d_Mo_done_66 ?_
      refine lv_if_le (tgt := 76) hx hb d_Mo_done_69 (by decide) (fun _ => ?_) (fun c9 => absurd (by decide) c9)
      refine lv_iload_n hx hb d_Mo_done_76 rfl (lv_at hl 4 rfl) ?_
      exact gz_iret (v := p1) hx hb hr hlocks hK Z (by decide) (by decide) (by rw [← hPQ]; exact Or.inl ⟨rfl, hU, f_46_h4, c42_2, c42_3⟩) d_Mo_done_77
    · refine lv_aload_n hx hb d_Mo_done_45 rfl (lv_at hl 3 rfl) ?_
      refine lv_iload_n hx hb d_Mo_done_46 rfl (lv_at hl 0 rfl) ?_
      refine gz_put (ci := 8) (v := Value.int 2) (ty := .int) (C := "CommitLedgerModel") (T := F_Mo) (N := 35) hx hb hts i_Mo t_Mo_ok n_Mo hown hK Z f_46_h1 rfl 1 (by decide) kf_Mo_80 rfl (by decide +kernel) rfl rfl (Nat.le_of_ble_eq_true rfl) d_Mo_done_47 (fun H locs Z => ?_)
      obtain ⟨h5, e_h5⟩ : ∃ z9 : gm_M, z9 = gm_up h1 46 ((q46, Sum.inr (8, [Value.int m_error, Value.int 2, Value.ref q47, Value.ref q48, Value.ref q49, Value.int m_docs, Value.ref q50, Value.ref q51, Value.ref q52, Value.ref q53, Value.int m_filesThere, Value.int m_files, Value.int m_actions, Value.int m_power, Value.int m_lost, Value.ref q54, Value.ref q62, Value.ref q70, Value.int m_open, Value.int m_isPrepared, Value.int m_generation, Value.ref q78, Value.ref q79, Value.int m_buffered, Value.int m_limit, Value.int m_factor, um, Value.ref q80, Value.ref q81, Value.ref q82, Value.int m_merges, Value.ref q83, Value.int m_opened, Value.int m_chosenMany, Value.int m_begun])) : Nat × va_E) := ⟨_, rfl⟩
      replace Z : gz D A s.heap h5 H locs := by rw [e_h5]; exact Z
      have f_46_h5 : h5 46 = some ((q46, Sum.inr (8, [Value.int m_error, Value.int 2, Value.ref q47, Value.ref q48, Value.ref q49, Value.int m_docs, Value.ref q50, Value.ref q51, Value.ref q52, Value.ref q53, Value.int m_filesThere, Value.int m_files, Value.int m_actions, Value.int m_power, Value.int m_lost, Value.ref q54, Value.ref q62, Value.ref q70, Value.int m_open, Value.int m_isPrepared, Value.int m_generation, Value.ref q78, Value.ref q79, Value.int m_buffered, Value.int m_limit, Value.int m_factor, um, Value.ref q80, Value.ref q81, Value.ref q82, Value.int m_merges, Value.ref q83, Value.int m_opened, Value.int m_chosenMany, Value.int m_begun])) : Nat × va_E) := by rw [e_h5]; exact gm_self
      replace hU : gm_g h h5 [46] := by rw [e_h5]; exact hU.put (by simp)
      refine lv_iload hx hb d_Mo_done_50 (lv_at hl 2 rfl) ?_
      refine lv_bipush (v := 10) hx hb d_Mo_done_52 (by decide) ?_
      refine lv_idiv hx hb d_Mo_done_54 (by decide) ?_
      refine gx_topi (y := 0) (by decide) ?_
      refine lv_istore (lv' := [(4, Value.int 0), (3, Value.int 2), (5, Value.int 3), (0, Value.ref q46), (1, Value.int p1), (2, Value.int 23)]) hx hb d_Mo_done_55 hl (by decide) rfl (fun ls hl => ?_)
      refine lv_goto (tgt := 11) hx hb d_Mo_done_57 (by decide) ?_
      refine lv_iload hx hb d_Mo_done_11 (lv_at hl 0 rfl) ?_
      refine lv_if_le (tgt := 60) hx hb d_Mo_done_13 (by decide) (fun _ => ?_) (fun c9 => absurd (by decide) c9)
      refine lv_aload_n hx hb d_Mo_done_60 rfl (lv_at hl 3 rfl) ?_
      refine lv_iconst (v := 0) hx hb d_Mo_done_61 (by decide) ?_
      refine gz_put (ci := 8) (v := Value.int 0) (ty := .int) (C := "CommitLedgerModel") (T := F_Mo) (N := 35) hx hb hts i_Mo t_Mo_ok n_Mo hown hK Z f_46_h5 rfl 0 (by decide) kf_Mo_84 rfl (by decide +kernel) rfl rfl (Nat.le_of_ble_eq_true rfl) d_Mo_done_62 (fun H locs Z => ?_)
      obtain ⟨h6, e_h6⟩ : ∃ z9 : gm_M, z9 = gm_up h5 46 ((q46, Sum.inr (8, [Value.int 0, Value.int 2, Value.ref q47, Value.ref q48, Value.ref q49, Value.int m_docs, Value.ref q50, Value.ref q51, Value.ref q52, Value.ref q53, Value.int m_filesThere, Value.int m_files, Value.int m_actions, Value.int m_power, Value.int m_lost, Value.ref q54, Value.ref q62, Value.ref q70, Value.int m_open, Value.int m_isPrepared, Value.int m_generation, Value.ref q78, Value.ref q79, Value.int m_buffered, Value.int m_limit, Value.int m_factor, um, Value.ref q80, Value.ref q81, Value.ref q82, Value.int m_merges, Value.ref q83, Value.int m_opened, Value.int m_chosenMany, Value.int m_begun])) : Nat × va_E) := ⟨_, rfl⟩
      replace Z : gz D A s.heap h6 H locs := by rw [e_h6]; exact Z
      have f_46_h6 : h6 46 = some ((q46, Sum.inr (8, [Value.int 0, Value.int 2, Value.ref q47, Value.ref q48, Value.ref q49, Value.int m_docs, Value.ref q50, Value.ref q51, Value.ref q52, Value.ref q53, Value.int m_filesThere, Value.int m_files, Value.int m_actions, Value.int m_power, Value.int m_lost, Value.ref q54, Value.ref q62, Value.ref q70, Value.int m_open, Value.int m_isPrepared, Value.int m_generation, Value.ref q78, Value.ref q79, Value.int m_buffered, Value.int m_limit, Value.int m_factor, um, Value.ref q80, Value.ref q81, Value.ref q82, Value.int m_merges, Value.ref q83, Value.int m_opened, Value.int m_chosenMany, Value.int m_begun])) : Nat × va_E) := by rw [e_h6]; exact gm_self
      replace hU : gm_g h h6 [46] := by rw [e_h6]; exact hU.put (by simp)
      refine lv_aload_n hx hb d_Mo_done_65 rfl (lv_at hl 3 rfl) ?_
      refine gz_get (ci := 8) (v := Value.int 2) (C := "CommitLedgerModel") (T := F_Mo) (N := 35) hx hb hts i_Mo hown hK Z f_46_h6 rfl 1 (by decide) kf_Mo_80 rfl d_Mo_done_66 ?_
      refine lv_if_le (tgt := 76) hx hb d_Mo_done_69 (by decide) (fun c9 => absurd c9 (by decide)) (fun _ => ?_)
      refine lv_iconst (v := 0) hx hb d_Mo_done_72 (by decide) ?_
      refine lv_goto (tgt := 77) hx hb d_Mo_done_73 (by decide) ?_
      exact gz_iret (v := 0) hx hb hr hlocks hK Z (by decide) (by decide) (by rw [← hPQ]; exact Or.inr (Or.inl ⟨rfl, hU, f_46_h6, c42_2, c42_3⟩)) d_Mo_done_77
  · refine lv_aload_n hx hb d_Mo_done_45 rfl (lv_at hl 3 rfl) ?_
    refine lv_iload_n hx hb d_Mo_done_46 rfl (lv_at hl 0 rfl) ?_
    refine gz_put (ci := 8) (v := Value.int 1) (ty := .int) (C := "CommitLedgerModel") (T := F_Mo) (N := 35) hx hb hts i_Mo t_Mo_ok n_Mo hown hK Z f_46_h1 rfl 1 (by decide) kf_Mo_80 rfl (by decide +kernel) rfl rfl (Nat.le_of_ble_eq_true rfl) d_Mo_done_47 (fun H locs Z => ?_)
    obtain ⟨h7, e_h7⟩ : ∃ z9 : gm_M, z9 = gm_up h1 46 ((q46, Sum.inr (8, [Value.int m_error, Value.int 1, Value.ref q47, Value.ref q48, Value.ref q49, Value.int m_docs, Value.ref q50, Value.ref q51, Value.ref q52, Value.ref q53, Value.int m_filesThere, Value.int m_files, Value.int m_actions, Value.int m_power, Value.int m_lost, Value.ref q54, Value.ref q62, Value.ref q70, Value.int m_open, Value.int m_isPrepared, Value.int m_generation, Value.ref q78, Value.ref q79, Value.int m_buffered, Value.int m_limit, Value.int m_factor, um, Value.ref q80, Value.ref q81, Value.ref q82, Value.int m_merges, Value.ref q83, Value.int m_opened, Value.int m_chosenMany, Value.int m_begun])) : Nat × va_E) := ⟨_, rfl⟩
    replace Z : gz D A s.heap h7 H locs := by rw [e_h7]; exact Z
    have f_46_h7 : h7 46 = some ((q46, Sum.inr (8, [Value.int m_error, Value.int 1, Value.ref q47, Value.ref q48, Value.ref q49, Value.int m_docs, Value.ref q50, Value.ref q51, Value.ref q52, Value.ref q53, Value.int m_filesThere, Value.int m_files, Value.int m_actions, Value.int m_power, Value.int m_lost, Value.ref q54, Value.ref q62, Value.ref q70, Value.int m_open, Value.int m_isPrepared, Value.int m_generation, Value.ref q78, Value.ref q79, Value.int m_buffered, Value.int m_limit, Value.int m_factor, um, Value.ref q80, Value.ref q81, Value.ref q82, Value.int m_merges, Value.ref q83, Value.int m_opened, Value.int m_chosenMany, Value.int m_begun])) : Nat × va_E) := by rw [e_h7]; exact gm_self
    replace hU : gm_g h h7 [46] := by rw [e_h7]; exact hU.put (by simp)
    refine lv_iload hx hb d_Mo_done_50 (lv_at hl 2 rfl) ?_
    refine lv_bipush (v := 10) hx hb d_Mo_done_52 (by decide) ?_
    refine lv_idiv hx hb d_Mo_done_54 (by decide) ?_
    refine gx_topi (y := 1) (by decide) ?_
    refine lv_istore (lv' := [(4, Value.int 1), (3, Value.int 1), (5, Value.int 2), (0, Value.ref q46), (1, Value.int p1), (2, Value.int 23)]) hx hb d_Mo_done_55 hl (by decide) rfl (fun ls hl => ?_)
    refine lv_goto (tgt := 11) hx hb d_Mo_done_57 (by decide) ?_
    refine lv_iload hx hb d_Mo_done_11 (lv_at hl 0 rfl) ?_
    refine lv_if_le (tgt := 60) hx hb d_Mo_done_13 (by decide) (fun c9 => absurd c9 (by decide)) (fun _ => ?_)
    refine lv_iload_n hx hb d_Mo_done_16 rfl (lv_at hl 5 rfl) ?_
    refine lv_iload hx hb d_Mo_done_17 (lv_at hl 0 rfl) ?_
    refine lv_idiv hx hb d_Mo_done_19 (by decide) ?_
    refine gx_topi (y := 23) (by decide) ?_
    refine lv_bipush (v := 10) hx hb d_Mo_done_20 (by decide) ?_
    refine lv_irem hx hb d_Mo_done_22 (by decide) ?_
    refine gx_topi (y := 3) (by decide) ?_
    refine lv_istore (lv' := [(5, Value.int 3), (4, Value.int 1), (3, Value.int 1), (0, Value.ref q46), (1, Value.int p1), (2, Value.int 23)]) hx hb d_Mo_done_23 hl (by decide) rfl (fun ls hl => ?_)
    refine lv_iload hx hb d_Mo_done_25 (lv_at hl 0 rfl) ?_
    refine lv_if_ne (tgt := 33) hx hb d_Mo_done_27 (by decide) (fun _ => ?_) (fun c9 => absurd c9 (by decide))
    refine lv_iinc (v := 2) (lv' := [(3, Value.int 2), (5, Value.int 3), (4, Value.int 1), (0, Value.ref q46), (1, Value.int p1), (2, Value.int 23)]) hx hb d_Mo_done_33 hl (k := 2) rfl (by decide) (by decide) rfl (fun ls hl => ?_)
    refine lv_iload hx hb d_Mo_done_36 (lv_at hl 1 rfl) ?_
    refine lv_aload_n hx hb d_Mo_done_38 rfl (lv_at hl 3 rfl) ?_
    refine gz_get (ci := 8) (v := Value.int m_error) (C := "CommitLedgerModel") (T := F_Mo) (N := 35) hx hb hts i_Mo hown hK Z f_46_h7 rfl 0 (by decide) kf_Mo_84 rfl d_Mo_done_39 ?_
    refine lv_icmp_ne (tgt := 50) hx hb d_Mo_done_42 (by decide) (fun _ => ?_) (fun c9 => absurd c9 (fun e9 => absurd (c42_2.trans e9.symm) (by decide)))
    refine lv_iload hx hb d_Mo_done_50 (lv_at hl 2 rfl) ?_
    refine lv_bipush (v := 10) hx hb d_Mo_done_52 (by decide) ?_
    refine lv_idiv hx hb d_Mo_done_54 (by decide) ?_
    refine gx_topi (y := 0) (by decide) ?_
    refine lv_istore (lv' := [(4, Value.int 0), (3, Value.int 2), (5, Value.int 3), (0, Value.ref q46), (1, Value.int p1), (2, Value.int 23)]) hx hb d_Mo_done_55 hl (by decide) rfl (fun ls hl => ?_)
    refine lv_goto (tgt := 11) hx hb d_Mo_done_57 (by decide) ?_
    refine lv_iload hx hb d_Mo_done_11 (lv_at hl 0 rfl) ?_
    refine lv_if_le (tgt := 60) hx hb d_Mo_done_13 (by decide) (fun _ => ?_) (fun c9 => absurd (by decide) c9)
    refine lv_aload_n hx hb d_Mo_done_60 rfl (lv_at hl 3 rfl) ?_
    refine lv_iconst (v := 0) hx hb d_Mo_done_61 (by decide) ?_
    refine gz_put (ci := 8) (v := Value.int 0) (ty := .int) (C := "CommitLedgerModel") (T := F_Mo) (N := 35) hx hb hts i_Mo t_Mo_ok n_Mo hown hK Z f_46_h7 rfl 0 (by decide) kf_Mo_84 rfl (by decide +kernel) rfl rfl (Nat.le_of_ble_eq_true rfl) d_Mo_done_62 (fun H locs Z => ?_)
    obtain ⟨h9, e_h9⟩ : ∃ z9 : gm_M, z9 = gm_up h7 46 ((q46, Sum.inr (8, [Value.int 0, Value.int 1, Value.ref q47, Value.ref q48, Value.ref q49, Value.int m_docs, Value.ref q50, Value.ref q51, Value.ref q52, Value.ref q53, Value.int m_filesThere, Value.int m_files, Value.int m_actions, Value.int m_power, Value.int m_lost, Value.ref q54, Value.ref q62, Value.ref q70, Value.int m_open, Value.int m_isPrepared, Value.int m_generation, Value.ref q78, Value.ref q79, Value.int m_buffered, Value.int m_limit, Value.int m_factor, um, Value.ref q80, Value.ref q81, Value.ref q82, Value.int m_merges, Value.ref q83, Value.int m_opened, Value.int m_chosenMany, Value.int m_begun])) : Nat × va_E) := ⟨_, rfl⟩
    replace Z : gz D A s.heap h9 H locs := by rw [e_h9]; exact Z
    have f_46_h9 : h9 46 = some ((q46, Sum.inr (8, [Value.int 0, Value.int 1, Value.ref q47, Value.ref q48, Value.ref q49, Value.int m_docs, Value.ref q50, Value.ref q51, Value.ref q52, Value.ref q53, Value.int m_filesThere, Value.int m_files, Value.int m_actions, Value.int m_power, Value.int m_lost, Value.ref q54, Value.ref q62, Value.ref q70, Value.int m_open, Value.int m_isPrepared, Value.int m_generation, Value.ref q78, Value.ref q79, Value.int m_buffered, Value.int m_limit, Value.int m_factor, um, Value.ref q80, Value.ref q81, Value.ref q82, Value.int m_merges, Value.ref q83, Value.int m_opened, Value.int m_chosenMany, Value.int m_begun])) : Nat × va_E) := by rw [e_h9]; exact gm_self
    replace hU : gm_g h h9 [46] := by rw [e_h9]; exact hU.put (by simp)
    refine lv_aload_n hx hb d_Mo_done_65 rfl (lv_at hl 3 rfl) ?_
    refine gz_get (ci := 8) (v := Value.int 1) (C := "CommitLedgerModel") (T := F_Mo) (N := 35) hx hb hts i_Mo hown hK Z f_46_h9 rfl 1 (by decide) kf_Mo_80 rfl d_Mo_done_66 ?_
    refine lv_if_le (tgt := 76) hx hb d_Mo_done_69 (by decide) (fun c9 => absurd c9 (by decide)) (fun _ => ?_)
    refine lv_iconst (v := 0) hx hb d_Mo_done_72 (by decide) ?_
    refine lv_goto (tgt := 77) hx hb d_Mo_done_73 (by decide) ?_
    exact gz_iret (v := 0) hx hb hr hlocks hK Z (by decide) (by decide) (by rw [← hPQ]; exact Or.inr (Or.inr (⟨rfl, hU, f_46_h9, c42_2⟩))) d_Mo_done_77

set_option maxHeartbeats 4000000 in
set_option maxRecDepth 100000 in
theorem k_Mo_done_26 (l : Launch) (htr : l.stackTraces = false) (D : va_G) (tys : List (ClassId × FieldType)) (z sz : Nat) (ws : va_W) (h : gm_M) (hM : gm_S h ws) (q46 : Nat) (q47 : Nat) (q48 : Nat) (q49 : Nat) (q50 : Nat) (q51 : Nat) (q52 : Nat) (q53 : Nat) (q54 : Nat) (q62 : Nat) (q70 : Nat) (q78 : Nat) (q79 : Nat) (q80 : Nat) (q81 : Nat) (q82 : Nat) (q83 : Nat) (um : Value) (m_error : Int32) (m_thrown : Int32) (m_docs : Int32) (m_filesThere : Int32) (m_files : Int32) (m_actions : Int32) (m_power : Int32) (m_lost : Int32) (m_open : Int32) (m_isPrepared : Int32) (m_generation : Int32) (m_buffered : Int32) (m_limit : Int32) (m_factor : Int32) (m_merges : Int32) (m_opened : Int32) (m_chosenMany : Int32) (m_begun : Int32) (p1 : Int32) (f_46 : h 46 = some ((q46, Sum.inr (8, [Value.int m_error, Value.int m_thrown, Value.ref q47, Value.ref q48, Value.ref q49, Value.int m_docs, Value.ref q50, Value.ref q51, Value.ref q52, Value.ref q53, Value.int m_filesThere, Value.int m_files, Value.int m_actions, Value.int m_power, Value.int m_lost, Value.ref q54, Value.ref q62, Value.ref q70, Value.int m_open, Value.int m_isPrepared, Value.int m_generation, Value.ref q78, Value.ref q79, Value.int m_buffered, Value.int m_limit, Value.int m_factor, um, Value.ref q80, Value.ref q81, Value.ref q82, Value.int m_merges, Value.ref q83, Value.int m_opened, Value.int m_chosenMany, Value.int m_begun])) : Nat × va_E)) : gx_Met l y_Mo_done [Cond.code y_Mo_done b_Mo_done 6 (some .int)] { frames := 1, cells := 0, slots := 0, locals := 12 } (gx_P z sz D classes tys ws [Value.ref q46, Value.int p1, Value.int 26]) (gx_Q D classes tys (va_A ws sz) (gm_p (fun r h' => (r = Sum.inl (some (Value.int p1)) ∧ gm_g h h' [46] ∧ h' 46 = some ((q46, Sum.inr (8, [Value.int 0, Value.int 0, Value.ref q47, Value.ref q48, Value.ref q49, Value.int m_docs, Value.ref q50, Value.ref q51, Value.ref q52, Value.ref q53, Value.int m_filesThere, Value.int m_files, Value.int m_actions, Value.int m_power, Value.int m_lost, Value.ref q54, Value.ref q62, Value.ref q70, Value.int m_open, Value.int m_isPrepared, Value.int m_generation, Value.ref q78, Value.ref q79, Value.int m_buffered, Value.int m_limit, Value.int m_factor, um, Value.ref q80, Value.ref q81, Value.ref q82, Value.int m_merges, Value.ref q83, Value.int m_opened, Value.int m_chosenMany, Value.int m_begun])) : Nat × va_E) ∧ (¬ 2 = m_error) ∧ (¬ 6 = m_error)) ∨ (r = Sum.inl (some (Value.int 0)) ∧ gm_g h h' [46] ∧ h' 46 = some ((q46, Sum.inr (8, [Value.int 0, Value.int 2, Value.ref q47, Value.ref q48, Value.ref q49, Value.int m_docs, Value.ref q50, Value.ref q51, Value.ref q52, Value.ref q53, Value.int m_filesThere, Value.int m_files, Value.int m_actions, Value.int m_power, Value.int m_lost, Value.ref q54, Value.ref q62, Value.ref q70, Value.int m_open, Value.int m_isPrepared, Value.int m_generation, Value.ref q78, Value.ref q79, Value.int m_buffered, Value.int m_limit, Value.int m_factor, um, Value.ref q80, Value.ref q81, Value.ref q82, Value.int m_merges, Value.ref q83, Value.int m_opened, Value.int m_chosenMany, Value.int m_begun])) : Nat × va_E) ∧ (¬ 2 = m_error) ∧ (6 = m_error)) ∨ (r = Sum.inl (some (Value.int 0)) ∧ gm_g h h' [46] ∧ h' 46 = some ((q46, Sum.inr (8, [Value.int 0, Value.int 1, Value.ref q47, Value.ref q48, Value.ref q49, Value.int m_docs, Value.ref q50, Value.ref q51, Value.ref q52, Value.ref q53, Value.int m_filesThere, Value.int m_files, Value.int m_actions, Value.int m_power, Value.int m_lost, Value.ref q54, Value.ref q62, Value.ref q70, Value.int m_open, Value.int m_isPrepared, Value.int m_generation, Value.ref q78, Value.ref q79, Value.int m_buffered, Value.int m_limit, Value.int m_factor, um, Value.ref q80, Value.ref q81, Value.ref q82, Value.int m_merges, Value.ref q83, Value.int m_opened, Value.int m_chosenMany, Value.int m_begun])) : Nat × va_E) ∧ (2 = m_error))))) 0 0 (va_A ws sz) := by
  refine gx_ofW (cc := b_Mo_done) (maxL := 6) (ret := (some .int)) (by decide) rfl ?_
  intro p e s m args below meth c s₁ B hml hv
  obtain ⟨rfl, hsz, hz, hP, hK, hD0, hY⟩ := hv
  have hx := B.exec
  have hb := B.bytes
  have hr := B.returns
  have hts := hY.hts (#[Value.ref q46, Value.int p1, Value.int 26] : Array Value)
  have hown : s.vm.findClass "CommitLedgerModel" = some m.cls := findClass_of_methodNamed B.named
  have hlocks := B.notSynchronized
  have hne : c.exceptionTable.isEmpty = true := B.noHandlers (atoms_spec (ws := [Cond.code y_Mo_done b_Mo_done 6 (some .int)]) B.pre _ List.mem_cons_self)
  subst hsz
  have hAz := gx_az hD0 hz
  have hD := hD0.self (sz := s.heap.size)
  have hN := gx_ns hP
  have hA : ∀ q : Nat, s.heap.size ≤ q → va_A ws s.heap.size q := fun q h => Or.inr h
  generalize va_A ws s.heap.size = A at hD hN hA hAz ⊢
  generalize hPQ : (fun (r : Option Value ⊕ String) (h' : gm_M) => (r = Sum.inl (some (Value.int p1)) ∧ gm_g h h' [46] ∧ h' 46 = some ((q46, Sum.inr (8, [Value.int 0, Value.int 0, Value.ref q47, Value.ref q48, Value.ref q49, Value.int m_docs, Value.ref q50, Value.ref q51, Value.ref q52, Value.ref q53, Value.int m_filesThere, Value.int m_files, Value.int m_actions, Value.int m_power, Value.int m_lost, Value.ref q54, Value.ref q62, Value.ref q70, Value.int m_open, Value.int m_isPrepared, Value.int m_generation, Value.ref q78, Value.ref q79, Value.int m_buffered, Value.int m_limit, Value.int m_factor, um, Value.ref q80, Value.ref q81, Value.ref q82, Value.int m_merges, Value.ref q83, Value.int m_opened, Value.int m_chosenMany, Value.int m_begun])) : Nat × va_E) ∧ (¬ 2 = m_error) ∧ (¬ 6 = m_error)) ∨ (r = Sum.inl (some (Value.int 0)) ∧ gm_g h h' [46] ∧ h' 46 = some ((q46, Sum.inr (8, [Value.int 0, Value.int 2, Value.ref q47, Value.ref q48, Value.ref q49, Value.int m_docs, Value.ref q50, Value.ref q51, Value.ref q52, Value.ref q53, Value.int m_filesThere, Value.int m_files, Value.int m_actions, Value.int m_power, Value.int m_lost, Value.ref q54, Value.ref q62, Value.ref q70, Value.int m_open, Value.int m_isPrepared, Value.int m_generation, Value.ref q78, Value.ref q79, Value.int m_buffered, Value.int m_limit, Value.int m_factor, um, Value.ref q80, Value.ref q81, Value.ref q82, Value.int m_merges, Value.ref q83, Value.int m_opened, Value.int m_chosenMany, Value.int m_begun])) : Nat × va_E) ∧ (¬ 2 = m_error) ∧ (6 = m_error)) ∨ (r = Sum.inl (some (Value.int 0)) ∧ gm_g h h' [46] ∧ h' 46 = some ((q46, Sum.inr (8, [Value.int 0, Value.int 1, Value.ref q47, Value.ref q48, Value.ref q49, Value.int m_docs, Value.ref q50, Value.ref q51, Value.ref q52, Value.ref q53, Value.int m_filesThere, Value.int m_files, Value.int m_actions, Value.int m_power, Value.int m_lost, Value.ref q54, Value.ref q62, Value.ref q70, Value.int m_open, Value.int m_isPrepared, Value.int m_generation, Value.ref q78, Value.ref q79, Value.int m_buffered, Value.int m_limit, Value.int m_factor, um, Value.ref q80, Value.ref q81, Value.ref q82, Value.int m_merges, Value.ref q83, Value.int m_opened, Value.int m_chosenMany, Value.int m_begun])) : Nat × va_E) ∧ (2 = m_error))) = PQ
  have Z : gz D A s.heap h s.heap [] := ⟨ws, hM, hP, hD, va_S.rf⟩
  clear hP hD hM hD0
  have hU : gm_g h h [46] := gm_g.rf
  have hl := lv_entry ([Value.ref q46, Value.int p1, Value.int 26]) (n := 6) (Nat.le_of_ble_eq_true rfl)
  rw [lg_entry_eq]
  generalize (lg_sl ([Value.ref q46, Value.int p1, Value.int 26]) ++ List.replicate (6 - (lg_sl ([Value.ref q46, Value.int p1, Value.int 26])).length) Slot.unset).toArray = ls at hl ⊢
  have hl : lv_has ls 6 [(0, Value.ref q46), (1, Value.int p1), (2, Value.int 26)] := hl
  refine lv_aload_n hx hb d_Mo_done_0 rfl (lv_at hl 0 rfl) ?_
  refine lv_iconst (v := 0) hx hb d_Mo_done_1 (by decide) ?_
  refine gz_put (ci := 8) (v := Value.int 0) (ty := .int) (C := "CommitLedgerModel") (T := F_Mo) (N := 35) hx hb hts i_Mo t_Mo_ok n_Mo hown hK Z f_46 rfl 1 (by decide) kf_Mo_80 rfl (by decide +kernel) rfl rfl (Nat.le_of_ble_eq_true rfl) d_Mo_done_2 (fun H locs Z => ?_)
  obtain ⟨h1, e_h1⟩ : ∃ z9 : gm_M, z9 = gm_up h 46 ((q46, Sum.inr (8, [Value.int m_error, Value.int 0, Value.ref q47, Value.ref q48, Value.ref q49, Value.int m_docs, Value.ref q50, Value.ref q51, Value.ref q52, Value.ref q53, Value.int m_filesThere, Value.int m_files, Value.int m_actions, Value.int m_power, Value.int m_lost, Value.ref q54, Value.ref q62, Value.ref q70, Value.int m_open, Value.int m_isPrepared, Value.int m_generation, Value.ref q78, Value.ref q79, Value.int m_buffered, Value.int m_limit, Value.int m_factor, um, Value.ref q80, Value.ref q81, Value.ref q82, Value.int m_merges, Value.ref q83, Value.int m_opened, Value.int m_chosenMany, Value.int m_begun])) : Nat × va_E) := ⟨_, rfl⟩
  replace Z : gz D A s.heap h1 H locs := by rw [e_h1]; exact Z
  have f_46_h1 : h1 46 = some ((q46, Sum.inr (8, [Value.int m_error, Value.int 0, Value.ref q47, Value.ref q48, Value.ref q49, Value.int m_docs, Value.ref q50, Value.ref q51, Value.ref q52, Value.ref q53, Value.int m_filesThere, Value.int m_files, Value.int m_actions, Value.int m_power, Value.int m_lost, Value.ref q54, Value.ref q62, Value.ref q70, Value.int m_open, Value.int m_isPrepared, Value.int m_generation, Value.ref q78, Value.ref q79, Value.int m_buffered, Value.int m_limit, Value.int m_factor, um, Value.ref q80, Value.ref q81, Value.ref q82, Value.int m_merges, Value.ref q83, Value.int m_opened, Value.int m_chosenMany, Value.int m_begun])) : Nat × va_E) := by rw [e_h1]; exact gm_self
  replace hU : gm_g h h1 [46] := by rw [e_h1]; exact hU.put (by simp)
  refine lv_iconst (v := 0) hx hb d_Mo_done_5 (by decide) ?_
  refine lv_istore_n (lv' := [(3, Value.int 0), (0, Value.ref q46), (1, Value.int p1), (2, Value.int 26)]) hx hb d_Mo_done_6 rfl hl (by decide) rfl (fun ls hl => ?_)
  refine lv_ldc (v := 100000) hx hb hown (hts _ ki_Mo_83) d_Mo_done_7 ?_
  refine lv_istore (lv' := [(4, Value.int 100000), (3, Value.int 0), (0, Value.ref q46), (1, Value.int p1), (2, Value.int 26)]) hx hb d_Mo_done_9 hl (by decide) rfl (fun ls hl => ?_)
  refine lv_iload hx hb d_Mo_done_11 (lv_at hl 0 rfl) ?_
  refine lv_if_le (tgt := 60) hx hb d_Mo_done_13 (by decide) (fun c9 => absurd c9 (by decide)) (fun _ => ?_)
  refine lv_iload_n hx hb d_Mo_done_16 rfl (lv_at hl 4 rfl) ?_
  refine lv_iload hx hb d_Mo_done_17 (lv_at hl 0 rfl) ?_
  refine lv_idiv hx hb d_Mo_done_19 (by decide) ?_
  refine gx_topi (y := 0) (by decide) ?_
  refine lv_bipush (v := 10) hx hb d_Mo_done_20 (by decide) ?_
  refine lv_irem hx hb d_Mo_done_22 (by decide) ?_
  refine gx_topi (y := 0) (by decide) ?_
  refine lv_istore (lv' := [(5, Value.int 0), (4, Value.int 100000), (3, Value.int 0), (0, Value.ref q46), (1, Value.int p1), (2, Value.int 26)]) hx hb d_Mo_done_23 hl (by decide) rfl (fun ls hl => ?_)
  refine lv_iload hx hb d_Mo_done_25 (lv_at hl 0 rfl) ?_
  refine lv_if_ne (tgt := 33) hx hb d_Mo_done_27 (by decide) (fun c9 => absurd (by decide) c9) (fun _ => ?_)
  refine lv_goto (tgt := 50) hx hb d_Mo_done_30 (by decide) ?_
  refine lv_iload hx hb d_Mo_done_50 (lv_at hl 1 rfl) ?_
  refine lv_bipush (v := 10) hx hb d_Mo_done_52 (by decide) ?_
  refine lv_idiv hx hb d_Mo_done_54 (by decide) ?_
  refine gx_topi (y := 10000) (by decide) ?_
  refine lv_istore (lv' := [(4, Value.int 10000), (5, Value.int 0), (3, Value.int 0), (0, Value.ref q46), (1, Value.int p1), (2, Value.int 26)]) hx hb d_Mo_done_55 hl (by decide) rfl (fun ls hl => ?_)
  refine lv_goto (tgt := 11) hx hb d_Mo_done_57 (by decide) ?_
  refine lv_iload hx hb d_Mo_done_11 (lv_at hl 0 rfl) ?_
  refine lv_if_le (tgt := 60) hx hb d_Mo_done_13 (by decide) (fun c9 => absurd c9 (by decide)) (fun _ => ?_)
  refine lv_iload_n hx hb d_Mo_done_16 rfl (lv_at hl 5 rfl) ?_
  refine lv_iload hx hb d_Mo_done_17 (lv_at hl 0 rfl) ?_
  refine lv_idiv hx hb d_Mo_done_19 (by decide) ?_
  refine gx_topi (y := 0) (by decide) ?_
  refine lv_bipush (v := 10) hx hb d_Mo_done_20 (by decide) ?_
  refine lv_irem hx hb d_Mo_done_22 (by decide) ?_
  refine gx_topi (y := 0) (by decide) ?_
  refine lv_istore (lv' := [(5, Value.int 0), (4, Value.int 10000), (3, Value.int 0), (0, Value.ref q46), (1, Value.int p1), (2, Value.int 26)]) hx hb d_Mo_done_23 hl (by decide) rfl (fun ls hl => ?_)
  refine lv_iload hx hb d_Mo_done_25 (lv_at hl 0 rfl) ?_
  refine lv_if_ne (tgt := 33) hx hb d_Mo_done_27 (by decide) (fun c9 => absurd (by decide) c9) (fun _ => ?_)
  refine lv_goto (tgt := 50) hx hb d_Mo_done_30 (by decide) ?_
  refine lv_iload hx hb d_Mo_done_50 (lv_at hl 1 rfl) ?_
  refine lv_bipush (v := 10) hx hb d_Mo_done_52 (by decide) ?_
  refine lv_idiv hx hb d_Mo_done_54 (by decide) ?_
  refine gx_topi (y := 1000) (by decide) ?_
  refine lv_istore (lv' := [(4, Value.int 1000), (5, Value.int 0), (3, Value.int 0), (0, Value.ref q46), (1, Value.int p1), (2, Value.int 26)]) hx hb d_Mo_done_55 hl (by decide) rfl (fun ls hl => ?_)
  refine lv_goto (tgt := 11) hx hb d_Mo_done_57 (by decide) ?_
  refine lv_iload hx hb d_Mo_done_11 (lv_at hl 0 rfl) ?_
  refine lv_if_le (tgt := 60) hx hb d_Mo_done_13 (by decide) (fun c9 => absurd c9 (by decide)) (fun _ => ?_)
  refine lv_iload_n hx hb d_Mo_done_16 rfl (lv_at hl 5 rfl) ?_
  refine lv_iload hx hb d_Mo_done_17 (lv_at hl 0 rfl) ?_
  refine lv_idiv hx hb d_Mo_done_19 (by decide) ?_
  refine gx_topi (y := 0) (by decide) ?_
  refine lv_bipush (v := 10) hx hb d_Mo_done_20 (by decide) ?_
  refine lv_irem hx hb d_Mo_done_22 (by decide) ?_
  refine gx_topi (y := 0) (by decide) ?_
  refine lv_istore (lv' := [(5, Value.int 0), (4, Value.int 1000), (3, Value.int 0), (0, Value.ref q46), (1, Value.int p1), (2, Value.int 26)]) hx hb d_Mo_done_23 hl (by decide) rfl (fun ls hl => ?_)
  refine lv_iload hx hb d_Mo_done_25 (lv_at hl 0 rfl) ?_
  refine lv_if_ne (tgt := 33) hx hb d_Mo_done_27 (by decide) (fun c9 => absurd (by decide) c9) (fun _ => ?_)
  refine lv_goto (tgt := 50) hx hb d_Mo_done_30 (by decide) ?_
  refine lv_iload hx hb d_Mo_done_50 (lv_at hl 1 rfl) ?_
  refine lv_bipush (v := 10) hx hb d_Mo_done_52 (by decide) ?_
  refine lv_idiv hx hb d_Mo_done_54 (by decide) ?_
  refine gx_topi (y := 100) (by decide) ?_
  refine lv_istore (lv' := [(4, Value.int 100), (5, Value.int 0), (3, Value.int 0), (0, Value.ref q46), (1, Value.int p1), (2, Value.int 26)]) hx hb d_Mo_done_55 hl (by decide) rfl (fun ls hl => ?_)
  refine lv_goto (tgt := 11) hx hb d_Mo_done_57 (by decide) ?_
  refine lv_iload hx hb d_Mo_done_11 (lv_at hl 0 rfl) ?_
  refine lv_if_le (tgt := 60) hx hb d_Mo_done_13 (by decide) (fun c9 => absurd c9 (by decide)) (fun _ => ?_)
  refine lv_iload_n hx hb d_Mo_done_16 rfl (lv_at hl 5 rfl) ?_
  refine lv_iload hx hb d_Mo_done_17 (lv_at hl 0 rfl) ?_
  refine lv_idiv hx hb d_Mo_done_19 (by decide) ?_
  refine gx_topi (y := 0) (by decide) ?_
  refine lv_bipush (v := 10) hx hb d_Mo_done_20 (by decide) ?_
  refine lv_irem hx hb d_Mo_done_22 (by decide) ?_
  refine gx_topi (y := 0) (by decide) ?_
  refine lv_istore (lv' := [(5, Value.int 0), (4, Value.int 100), (3, Value.int 0), (0, Value.ref q46), (1, Value.int p1), (2, Value.int 26)]) hx hb d_Mo_done_23 hl (by decide) rfl (fun ls hl => ?_)
  refine lv_iload hx hb d_Mo_done_25 (lv_at hl 0 rfl) ?_
  refine lv_if_ne (tgt := 33) hx hb d_Mo_done_27 (by decide) (fun c9 => absurd (by decide) c9) (fun _ => ?_)
  refine lv_goto (tgt := 50) hx hb d_Mo_done_30 (by decide) ?_
  refine lv_iload hx hb d_Mo_done_50 (lv_at hl 1 rfl) ?_
  refine lv_bipush (v := 10) hx hb d_Mo_done_52 (by decide) ?_
  refine lv_idiv hx hb d_Mo_done_54 (by decide) ?_
  refine gx_topi (y := 10) (by decide) ?_
  refine lv_istore (lv' := [(4, Value.int 10), (5, Value.int 0), (3, Value.int 0), (0, Value.ref q46), (1, Value.int p1), (2, Value.int 26)]) hx hb d_Mo_done_55 hl (by decide) rfl (fun ls hl => ?_)
  refine lv_goto (tgt := 11) hx hb d_Mo_done_57 (by decide) ?_
  refine lv_iload hx hb d_Mo_done_11 (lv_at hl 0 rfl) ?_
  refine lv_if_le (tgt := 60) hx hb d_Mo_done_13 (by decide) (fun c9 => absurd c9 (by decide)) (fun _ => ?_)
  refine lv_iload_n hx hb d_Mo_done_16 rfl (lv_at hl 5 rfl) ?_
  refine lv_iload hx hb d_Mo_done_17 (lv_at hl 0 rfl) ?_
  refine lv_idiv hx hb d_Mo_done_19 (by decide) ?_
  refine gx_topi (y := 2) (by decide) ?_
  refine lv_bipush (v := 10) hx hb d_Mo_done_20 (by decide) ?_
  refine lv_irem hx hb d_Mo_done_22 (by decide) ?_
  refine gx_topi (y := 2) (by decide) ?_
  refine lv_istore (lv' := [(5, Value.int 2), (4, Value.int 10), (3, Value.int 0), (0, Value.ref q46), (1, Value.int p1), (2, Value.int 26)]) hx hb d_Mo_done_23 hl (by decide) rfl (fun ls hl => ?_)
  refine lv_iload hx hb d_Mo_done_25 (lv_at hl 0 rfl) ?_
  refine lv_if_ne (tgt := 33) hx hb d_Mo_done_27 (by decide) (fun _ => ?_) (fun c9 => absurd c9 (by decide))
  refine lv_iinc (v := 1) (lv' := [(3, Value.int 1), (5, Value.int 2), (4, Value.int 10), (0, Value.ref q46), (1, Value.int p1), (2, Value.int 26)]) hx hb d_Mo_done_33 hl (k := 2) rfl (by decide) (by decide) rfl (fun ls hl => ?_)
  refine lv_iload hx hb d_Mo_done_36 (lv_at hl 1 rfl) ?_
  refine lv_aload_n hx hb d_Mo_done_38 rfl (lv_at hl 3 rfl) ?_
  refine gz_get (ci := 8) (v := Value.int m_error) (C := "CommitLedgerModel") (T := F_Mo) (N := 35) hx hb hts i_Mo hown hK Z f_46_h1 rfl 0 (by decide) kf_Mo_84 rfl d_Mo_done_39 ?_
  refine lv_icmp_ne (tgt := 50) hx hb d_Mo_done_42 (by decide) (fun c42_2 => ?_) (fun c42_2 => ?_)
  · refine lv_iload hx hb d_Mo_done_50 (lv_at hl 2 rfl) ?_
    refine lv_bipush (v := 10) hx hb d_Mo_done_52 (by decide) ?_
    refine lv_idiv hx hb d_Mo_done_54 (by decide) ?_
    refine gx_topi (y := 1) (by decide) ?_
    refine lv_istore (lv' := [(4, Value.int 1), (3, Value.int 1), (5, Value.int 2), (0, Value.ref q46), (1, Value.int p1), (2, Value.int 26)]) hx hb d_Mo_done_55 hl (by decide) rfl (fun ls hl => ?_)
    refine lv_goto (tgt := 11) hx hb d_Mo_done_57 (by decide) ?_
    refine lv_iload hx hb d_Mo_done_11 (lv_at hl 0 rfl) ?_
    refine lv_if_le (tgt := 60) hx hb d_Mo_done_13 (by decide) (fun c9 => absurd c9 (by decide)) (fun _ => ?_)
    refine lv_iload_n hx hb d_Mo_done_16 rfl (lv_at hl 5 rfl) ?_
    refine lv_iload hx hb d_Mo_done_17 (lv_at hl 0 rfl) ?_
    refine lv_idiv hx hb d_Mo_done_19 (by decide) ?_
    refine gx_topi (y := 26) (by decide) ?_
    refine lv_bipush (v := 10) hx hb d_Mo_done_20 (by decide) ?_
    refine lv_irem hx hb d_Mo_done_22 (by decide) ?_
    refine gx_topi (y := 6) (by decide) ?_
    refine lv_istore (lv' := [(5, Value.int 6), (4, Value.int 1), (3, Value.int 1), (0, Value.ref q46), (1, Value.int p1), (2, Value.int 26)]) hx hb d_Mo_done_23 hl (by decide) rfl (fun ls hl => ?_)
    refine lv_iload hx hb d_Mo_done_25 (lv_at hl 0 rfl) ?_
    refine lv_if_ne (tgt := 33) hx hb d_Mo_done_27 (by decide) (fun _ => ?_) (fun c9 => absurd c9 (by decide))
    refine lv_iinc (v := 2) (lv' := [(3, Value.int 2), (5, Value.int 6), (4, Value.int 1), (0, Value.ref q46), (1, Value.int p1), (2, Value.int 26)]) hx hb d_Mo_done_33 hl (k := 2) rfl (by decide) (by decide) rfl (fun ls hl => ?_)
    refine lv_iload hx hb d_Mo_done_36 (lv_at hl 1 rfl) ?_
    refine lv_aload_n hx hb d_Mo_done_38 rfl (lv_at hl 3 rfl) ?_
    refine gz_get (ci := 8) (v := Value.int m_error) (C := "CommitLedgerModel") (T := F_Mo) (N := 35) hx hb hts i_Mo hown hK Z f_46_h1 rfl 0 (by decide) kf_Mo_84 rfl d_Mo_done_39 ?_
    refine lv_icmp_ne (tgt := 50) hx hb d_Mo_done_42 (by decide) (fun c42_3 => ?_) (fun c42_3 => ?_)
    · refine lv_iload hx hb d_Mo_done_50 (lv_at hl 2 rfl) ?_
      refine lv_bipush (v := 10) hx hb d_Mo_done_52 (by decide) ?_
      refine lv_idiv hx hb d_Mo_done_54 (by decide) ?_
      refine gx_topi (y := 0) (by decide) ?_
      refine lv_istore (lv' := [(4, Value.int 0), (3, Value.int 2), (5, Value.int 6), (0, Value.ref q46), (1, Value.int p1), (2, Value.int 26)]) hx hb d_Mo_done_55 hl (by decide) rfl (fun ls hl => ?_)
      refine lv_goto (tgt := 11) hx hb d_Mo_done_57 (by decide) ?_
      refine lv_iload hx hb d_Mo_done_11 (lv_at hl 0 rfl) ?_
      refine lv_if_le (tgt := 60) hx hb d_Mo_done_13 (by decide) (fun _ => ?_) (fun c9 => absurd (by decide) c9)
      refine lv_aload_n hx hb d_Mo_done_60 rfl (lv_at hl 3 rfl) ?_
      refine lv_iconst (v := 0) hx hb d_Mo_done_61 (by decide) ?_
      refine gz_put (ci := 8) (v := Value.int 0) (ty := .int) (C := "CommitLedgerModel") (T := F_Mo) (N := 35) hx hb hts i_Mo t_Mo_ok n_Mo hown hK Z f_46_h1 rfl 0 (by decide) kf_Mo_84 rfl (by decide +kernel) rfl rfl (Nat.le_of_ble_eq_true rfl) d_Mo_done_62 (fun H locs Z => ?_)
      obtain ⟨h4, e_h4⟩ : ∃ z9 : gm_M, z9 = gm_up h1 46 ((q46, Sum.inr (8, [Value.int 0, Value.int 0, Value.ref q47, Value.ref q48, Value.ref q49, Value.int m_docs, Value.ref q50, Value.ref q51, Value.ref q52, Value.ref q53, Value.int m_filesThere, Value.int m_files, Value.int m_actions, Value.int m_power, Value.int m_lost, Value.ref q54, Value.ref q62, Value.ref q70, Value.int m_open, Value.int m_isPrepared, Value.int m_generation, Value.ref q78, Value.ref q79, Value.int m_buffered, Value.int m_limit, Value.int m_factor, um, Value.ref q80, Value.ref q81, Value.ref q82, Value.int m_merges, Value.ref q83, Value.int m_opened, Value.int m_chosenMany, Value.int m_begun])) : Nat × va_E) := ⟨_, rfl⟩
      replace Z : gz D A s.heap h4 H locs := by rw [e_h4]; exact Z
      have f_46_h4 : h4 46 = some ((q46, Sum.inr (8, [Value.int 0, Value.int 0, Value.ref q47, Value.ref q48, Value.ref q49, Value.int m_docs, Value.ref q50, Value.ref q51, Value.ref q52, Value.ref q53, Value.int m_filesThere, Value.int m_files, Value.int m_actions, Value.int m_power, Value.int m_lost, Value.ref q54, Value.ref q62, Value.ref q70, Value.int m_open, Value.int m_isPrepared, Value.int m_generation, Value.ref q78, Value.ref q79, Value.int m_buffered, Value.int m_limit, Value.int m_factor, um, Value.ref q80, Value.ref q81, Value.ref q82, Value.int m_merges, Value.ref q83, Value.int m_opened, Value.int m_chosenMany, Value.int m_begun])) : Nat × va_E) := by rw [e_h4]; exact gm_self
      replace hU : gm_g h h4 [46] := by rw [e_h4]; exact hU.put (by simp)
      refine lv_aload_n hx hb d_Mo_done_65 rfl (lv_at hl 3 rfl) ?_
      refine gz_get (ci := 8) (v := Value.int 0) (C := "CommitLedgerModel") (T := F_Mo) (N := 35) hx hb hts i_Mo hown hK Z f_46_h4 rfl 1 (by decide) kf_Mo_80 rfl d_Mo_done_66 ?_
      refine lv_if_le (tgt := 76) hx hb d_Mo_done_69 (by decide) (fun _ => ?_) (fun c9 => absurd (by decide) c9)
      refine lv_iload_n hx hb d_Mo_done_76 rfl (lv_at hl 4 rfl) ?_
      exact gz_iret (v := p1) hx hb hr hlocks hK Z (by decide) (by decide) (by rw [← hPQ]; exact Or.inl ⟨rfl, hU, f_46_h4, c42_2, c42_3⟩) d_Mo_done_77
    · refine lv_aload_n hx hb d_Mo_done_45 rfl (lv_at hl 3 rfl) ?_
      refine lv_iload_n hx hb d_Mo_done_46 rfl (lv_at hl 0 rfl) ?_
      refine gz_put (ci := 8) (v := Value.int 2) (ty := .int) (C := "CommitLedgerModel") (T := F_Mo) (N := 35) hx hb hts i_Mo t_Mo_ok n_Mo hown hK Z f_46_h1 rfl 1 (by decide) kf_Mo_80 rfl (by decide +kernel) rfl rfl (Nat.le_of_ble_eq_true rfl) d_Mo_done_47 (fun H locs Z => ?_)
      obtain ⟨h5, e_h5⟩ : ∃ z9 : gm_M, z9 = gm_up h1 46 ((q46, Sum.inr (8, [Value.int m_error, Value.int 2, Value.ref q47, Value.ref q48, Value.ref q49, Value.int m_docs, Value.ref q50, Value.ref q51, Value.ref q52, Value.ref q53, Value.int m_filesThere, Value.int m_files, Value.int m_actions, Value.int m_power, Value.int m_lost, Value.ref q54, Value.ref q62, Value.ref q70, Value.int m_open, Value.int m_isPrepared, Value.int m_generation, Value.ref q78, Value.ref q79, Value.int m_buffered, Value.int m_limit, Value.int m_factor, um, Value.ref q80, Value.ref q81, Value.ref q82, Value.int m_merges, Value.ref q83, Value.int m_opened, Value.int m_chosenMany, Value.int m_begun])) : Nat × va_E) := ⟨_, rfl⟩
      replace Z : gz D A s.heap h5 H locs := by rw [e_h5]; exact Z
      have f_46_h5 : h5 46 = some ((q46, Sum.inr (8, [Value.int m_error, Value.int 2, Value.ref q47, Value.ref q48, Value.ref q49, Value.int m_docs, Value.ref q50, Value.ref q51, Value.ref q52, Value.ref q53, Value.int m_filesThere, Value.int m_files, Value.int m_actions, Value.int m_power, Value.int m_lost, Value.ref q54, Value.ref q62, Value.ref q70, Value.int m_open, Value.int m_isPrepared, Value.int m_generation, Value.ref q78, Value.ref q79, Value.int m_buffered, Value.int m_limit, Value.int m_factor, um, Value.ref q80, Value.ref q81, Value.ref q82, Value.int m_merges, Value.ref q83, Value.int m_opened, Value.int m_chosenMany, Value.int m_begun])) : Nat × va_E) := by rw [e_h5]; exact gm_self
      replace hU : gm_g h h5 [46] := by rw [e_h5]; exact hU.put (by simp)
      refine lv_iload hx hb d_Mo_done_50 (lv_at hl 2 rfl) ?_
      refine lv_bipush (v := 10) hx hb d_Mo_done_52 (by decide) ?_
      refine lv_idiv hx hb d_Mo_done_54 (by decide) ?_
      refine gx_topi (y := 0) (by decide) ?_
      refine lv_istore (lv' := [(4, Value.int 0), (3, Value.int 2), (5, Value.int 6), (0, Value.ref q46), (1, Value.int p1), (2, Value.int 26)]) hx hb d_Mo_done_55 hl (by decide) rfl (fun ls hl => ?_)
      refine lv_goto (tgt := 11) hx hb d_Mo_done_57 (by decide) ?_
      refine lv_iload hx hb d_Mo_done_11 (lv_at hl 0 rfl) ?_
      refine lv_if_le (tgt := 60) hx hb d_Mo_done_13 (by decide) (fun _ => ?_) (fun c9 => absurd (by decide) c9)
      refine lv_aload_n hx hb d_Mo_done_60 rfl (lv_at hl 3 rfl) ?_
      refine lv_iconst (v := 0) hx hb d_Mo_done_61 (by decide) ?_
      refine gz_put (ci := 8) (v := Value.int 0) (ty := .int) (C := "CommitLedgerModel") (T := F_Mo) (N := 35) hx hb hts i_Mo t_Mo_ok n_Mo hown hK Z f_46_h5 rfl 0 (by decide) kf_Mo_84 rfl (by decide +kernel) rfl rfl (Nat.le_of_ble_eq_true rfl) d_Mo_done_62 (fun H locs Z => ?_)
      obtain ⟨h6, e_h6⟩ : ∃ z9 : gm_M, z9 = gm_up h5 46 ((q46, Sum.inr (8, [Value.int 0, Value.int 2, Value.ref q47, Value.ref q48, Value.ref q49, Value.int m_docs, Value.ref q50, Value.ref q51, Value.ref q52, Value.ref q53, Value.int m_filesThere, Value.int m_files, Value.int m_actions, Value.int m_power, Value.int m_lost, Value.ref q54, Value.ref q62, Value.ref q70, Value.int m_open, Value.int m_isPrepared, Value.int m_generation, Value.ref q78, Value.ref q79, Value.int m_buffered, Value.int m_limit, Value.int m_factor, um, Value.ref q80, Value.ref q81, Value.ref q82, Value.int m_merges, Value.ref q83, Value.int m_opened, Value.int m_chosenMany, Value.int m_begun])) : Nat × va_E) := ⟨_, rfl⟩
      replace Z : gz D A s.heap h6 H locs := by rw [e_h6]; exact Z
      have f_46_h6 : h6 46 = some ((q46, Sum.inr (8, [Value.int 0, Value.int 2, Value.ref q47, Value.ref q48, Value.ref q49, Value.int m_docs, Value.ref q50, Value.ref q51, Value.ref q52, Value.ref q53, Value.int m_filesThere, Value.int m_files, Value.int m_actions, Value.int m_power, Value.int m_lost, Value.ref q54, Value.ref q62, Value.ref q70, Value.int m_open, Value.int m_isPrepared, Value.int m_generation, Value.ref q78, Value.ref q79, Value.int m_buffered, Value.int m_limit, Value.int m_factor, um, Value.ref q80, Value.ref q81, Value.ref q82, Value.int m_merges, Value.ref q83, Value.int m_opened, Value.int m_chosenMany, Value.int m_begun])) : Nat × va_E) := by rw [e_h6]; exact gm_self
      replace hU : gm_g h h6 [46] := by rw [e_h6]; exact hU.put (by simp)
      refine lv_aload_n hx hb d_Mo_done_65 rfl (lv_at hl 3 rfl) ?_
      refine gz_get (ci := 8) (v := Value.int 2) (C := "CommitLedgerModel") (T := F_Mo) (N := 35) hx hb hts i_Mo hown hK Z f_46_h6 rfl 1 (by decide) kf_Mo_80 rfl d_Mo_done_66 ?_
      refine lv_if_le (tgt := 76) hx hb d_Mo_done_69 (by decide) (fun c9 => absurd c9 (by decide)) (fun _ => ?_)
      refine lv_iconst (v := 0) hx hb d_Mo_done_72 (by decide) ?_
      refine lv_goto (tgt := 77) hx hb d_Mo_done_73 (by decide) ?_
      exact gz_iret (v := 0) hx hb hr hlocks hK Z (by decide) (by decide) (by rw [← hPQ]; exact Or.inr (Or.inl ⟨rfl, hU, f_46_h6, c42_2, c42_3⟩)) d_Mo_done_77
  · refine lv_aload_n hx hb d_Mo_done_45 rfl (lv_at hl 3 rfl) ?_
    refine lv_iload_n hx hb d_Mo_done_46 rfl (lv_at hl 0 rfl) ?_
    refine gz_put (ci := 8) (v := Value.int 1) (ty := .int) (C := "CommitLedgerModel") (T := F_Mo) (N := 35) hx hb hts i_Mo t_Mo_ok n_Mo hown hK Z f_46_h1 rfl 1 (by decide) kf_Mo_80 rfl (by decide +kernel) rfl rfl (Nat.le_of_ble_eq_true rfl) d_Mo_done_47 (fun H locs Z => ?_)
    obtain ⟨h7, e_h7⟩ : ∃ z9 : gm_M, z9 = gm_up h1 46 ((q46, Sum.inr (8, [Value.int m_error, Value.int 1, Value.ref q47, Value.ref q48, Value.ref q49, Value.int m_docs, Value.ref q50, Value.ref q51, Value.ref q52, Value.ref q53, Value.int m_filesThere, Value.int m_files, Value.int m_actions, Value.int m_power, Value.int m_lost, Value.ref q54, Value.ref q62, Value.ref q70, Value.int m_open, Value.int m_isPrepared, Value.int m_generation, Value.ref q78, Value.ref q79, Value.int m_buffered, Value.int m_limit, Value.int m_factor, um, Value.ref q80, Value.ref q81, Value.ref q82, Value.int m_merges, Value.ref q83, Value.int m_opened, Value.int m_chosenMany, Value.int m_begun])) : Nat × va_E) := ⟨_, rfl⟩
    replace Z : gz D A s.heap h7 H locs := by rw [e_h7]; exact Z
    have f_46_h7 : h7 46 = some ((q46, Sum.inr (8, [Value.int m_error, Value.int 1, Value.ref q47, Value.ref q48, Value.ref q49, Value.int m_docs, Value.ref q50, Value.ref q51, Value.ref q52, Value.ref q53, Value.int m_filesThere, Value.int m_files, Value.int m_actions, Value.int m_power, Value.int m_lost, Value.ref q54, Value.ref q62, Value.ref q70, Value.int m_open, Value.int m_isPrepared, Value.int m_generation, Value.ref q78, Value.ref q79, Value.int m_buffered, Value.int m_limit, Value.int m_factor, um, Value.ref q80, Value.ref q81, Value.ref q82, Value.int m_merges, Value.ref q83, Value.int m_opened, Value.int m_chosenMany, Value.int m_begun])) : Nat × va_E) := by rw [e_h7]; exact gm_self
    replace hU : gm_g h h7 [46] := by rw [e_h7]; exact hU.put (by simp)
    refine lv_iload hx hb d_Mo_done_50 (lv_at hl 2 rfl) ?_
    refine lv_bipush (v := 10) hx hb d_Mo_done_52 (by decide) ?_
    refine lv_idiv hx hb d_Mo_done_54 (by decide) ?_
    refine gx_topi (y := 1) (by decide) ?_
    refine lv_istore (lv' := [(4, Value.int 1), (3, Value.int 1), (5, Value.int 2), (0, Value.ref q46), (1, Value.int p1), (2, Value.int 26)]) hx hb d_Mo_done_55 hl (by decide) rfl (fun ls hl => ?_)
    refine lv_goto (tgt := 11) hx hb d_Mo_done_57 (by decide) ?_
    refine lv_iload hx hb d_Mo_done_11 (lv_at hl 0 rfl) ?_
    refine lv_if_le (tgt := 60) hx hb d_Mo_done_13 (by decide) (fun c9 => absurd c9 (by decide)) (fun _ => ?_)
    refine lv_iload_n hx hb d_Mo_done_16 rfl (lv_at hl 5 rfl) ?_
    refine lv_iload hx hb d_Mo_done_17 (lv_at hl 0 rfl) ?_
    refine lv_idiv hx hb d_Mo_done_19 (by decide) ?_
    refine gx_topi (y := 26) (by decide) ?_
    refine lv_bipush (v := 10) hx hb d_Mo_done_20 (by decide) ?_
    refine lv_irem hx hb d_Mo_done_22 (by decide) ?_
    refine gx_topi (y := 6) (by decide) ?_
    refine lv_istore (lv' := [(5, Value.int 6), (4, Value.int 1), (3, Value.int 1), (0, Value.ref q46), (1, Value.int p1), (2, Value.int 26)]) hx hb d_Mo_done_23 hl (by decide) rfl (fun ls hl => ?_)
    refine lv_iload hx hb d_Mo_done_25 (lv_at hl 0 rfl) ?_
    refine lv_if_ne (tgt := 33) hx hb d_Mo_done_27 (by decide) (fun _ => ?_) (fun c9 => absurd c9 (by decide))
    refine lv_iinc (v := 2) (lv' := [(3, Value.int 2), (5, Value.int 6), (4, Value.int 1), (0, Value.ref q46), (1, Value.int p1), (2, Value.int 26)]) hx hb d_Mo_done_33 hl (k := 2) rfl (by decide) (by decide) rfl (fun ls hl => ?_)
    refine lv_iload hx hb d_Mo_done_36 (lv_at hl 1 rfl) ?_
    refine lv_aload_n hx hb d_Mo_done_38 rfl (lv_at hl 3 rfl) ?_
    refine gz_get (ci := 8) (v := Value.int m_error) (C := "CommitLedgerModel") (T := F_Mo) (N := 35) hx hb hts i_Mo hown hK Z f_46_h7 rfl 0 (by decide) kf_Mo_84 rfl d_Mo_done_39 ?_
    refine lv_icmp_ne (tgt := 50) hx hb d_Mo_done_42 (by decide) (fun _ => ?_) (fun c9 => absurd c9 (fun e9 => absurd (c42_2.trans e9.symm) (by decide)))
    refine lv_iload hx hb d_Mo_done_50 (lv_at hl 2 rfl) ?_
    refine lv_bipush (v := 10) hx hb d_Mo_done_52 (by decide) ?_
    refine lv_idiv hx hb d_Mo_done_54 (by decide) ?_
    refine gx_topi (y := 0) (by decide) ?_
    refine lv_istore (lv' := [(4, Value.int 0), (3, Value.int 2), (5, Value.int 6), (0, Value.ref q46), (1, Value.int p1), (2, Value.int 26)]) hx hb d_Mo_done_55 hl (by decide) rfl (fun ls hl => ?_)
    refine lv_goto (tgt := 11) hx hb d_Mo_done_57 (by decide) ?_
    refine lv_iload hx hb d_Mo_done_11 (lv_at hl 0 rfl) ?_
    refine lv_if_le (tgt := 60) hx hb d_Mo_done_13 (by decide) (fun _ => ?_) (fun c9 => absurd (by decide) c9)
    refine lv_aload_n hx hb d_Mo_done_60 rfl (lv_at hl 3 rfl) ?_
    refine lv_iconst (v := 0) hx hb d_Mo_done_61 (by decide) ?_
    refine gz_put (ci := 8) (v := Value.int 0) (ty := .int) (C := "CommitLedgerModel") (T := F_Mo) (N := 35) hx hb hts i_Mo t_Mo_ok n_Mo hown hK Z f_46_h7 rfl 0 (by decide) kf_Mo_84 rfl (by decide +kernel) rfl rfl (Nat.le_of_ble_eq_true rfl) d_Mo_done_62 (fun H locs Z => ?_)
    obtain ⟨h9, e_h9⟩ : ∃ z9 : gm_M, z9 = gm_up h7 46 ((q46, Sum.inr (8, [Value.int 0, Value.int 1, Value.ref q47, Value.ref q48, Value.ref q49, Value.int m_docs, Value.ref q50, Value.ref q51, Value.ref q52, Value.ref q53, Value.int m_filesThere, Value.int m_files, Value.int m_actions, Value.int m_power, Value.int m_lost, Value.ref q54, Value.ref q62, Value.ref q70, Value.int m_open, Value.int m_isPrepared, Value.int m_generation, Value.ref q78, Value.ref q79, Value.int m_buffered, Value.int m_limit, Value.int m_factor, um, Value.ref q80, Value.ref q81, Value.ref q82, Value.int m_merges, Value.ref q83, Value.int m_opened, Value.int m_chosenMany, Value.int m_begun])) : Nat × va_E) := ⟨_, rfl⟩
    replace Z : gz D A s.heap h9 H locs := by rw [e_h9]; exact Z
    have f_46_h9 : h9 46 = some ((q46, Sum.inr (8, [Value.int 0, Value.int 1, Value.ref q47, Value.ref q48, Value.ref q49, Value.int m_docs, Value.ref q50, Value.ref q51, Value.ref q52, Value.ref q53, Value.int m_filesThere, Value.int m_files, Value.int m_actions, Value.int m_power, Value.int m_lost, Value.ref q54, Value.ref q62, Value.ref q70, Value.int m_open, Value.int m_isPrepared, Value.int m_generation, Value.ref q78, Value.ref q79, Value.int m_buffered, Value.int m_limit, Value.int m_factor, um, Value.ref q80, Value.ref q81, Value.ref q82, Value.int m_merges, Value.ref q83, Value.int m_opened, Value.int m_chosenMany, Value.int m_begun])) : Nat × va_E) := by rw [e_h9]; exact gm_self
    replace hU : gm_g h h9 [46] := by rw [e_h9]; exact hU.put (by simp)
    refine lv_aload_n hx hb d_Mo_done_65 rfl (lv_at hl 3 rfl) ?_
    refine gz_get (ci := 8) (v := Value.int 1) (C := "CommitLedgerModel") (T := F_Mo) (N := 35) hx hb hts i_Mo hown hK Z f_46_h9 rfl 1 (by decide) kf_Mo_80 rfl d_Mo_done_66 ?_
    refine lv_if_le (tgt := 76) hx hb d_Mo_done_69 (by decide) (fun c9 => absurd c9 (by decide)) (fun _ => ?_)
    refine lv_iconst (v := 0) hx hb d_Mo_done_72 (by decide) ?_
    refine lv_goto (tgt := 77) hx hb d_Mo_done_73 (by decide) ?_
    exact gz_iret (v := 0) hx hb hr hlocks hK Z (by decide) (by decide) (by rw [← hPQ]; exact Or.inr (Or.inr (⟨rfl, hU, f_46_h9, c42_2⟩))) d_Mo_done_77

set_option maxHeartbeats 4000000 in
set_option maxRecDepth 100000 in
theorem k_Mo_done_123 (l : Launch) (htr : l.stackTraces = false) (D : va_G) (tys : List (ClassId × FieldType)) (z sz : Nat) (ws : va_W) (h : gm_M) (hM : gm_S h ws) (q46 : Nat) (q47 : Nat) (q48 : Nat) (q49 : Nat) (q50 : Nat) (q51 : Nat) (q52 : Nat) (q53 : Nat) (q54 : Nat) (q62 : Nat) (q70 : Nat) (q78 : Nat) (q79 : Nat) (q80 : Nat) (q81 : Nat) (q82 : Nat) (q83 : Nat) (um : Value) (m_error : Int32) (m_thrown : Int32) (m_docs : Int32) (m_filesThere : Int32) (m_files : Int32) (m_actions : Int32) (m_power : Int32) (m_lost : Int32) (m_open : Int32) (m_isPrepared : Int32) (m_generation : Int32) (m_buffered : Int32) (m_limit : Int32) (m_factor : Int32) (m_merges : Int32) (m_opened : Int32) (m_chosenMany : Int32) (m_begun : Int32) (p1 : Int32) (f_46 : h 46 = some ((q46, Sum.inr (8, [Value.int m_error, Value.int m_thrown, Value.ref q47, Value.ref q48, Value.ref q49, Value.int m_docs, Value.ref q50, Value.ref q51, Value.ref q52, Value.ref q53, Value.int m_filesThere, Value.int m_files, Value.int m_actions, Value.int m_power, Value.int m_lost, Value.ref q54, Value.ref q62, Value.ref q70, Value.int m_open, Value.int m_isPrepared, Value.int m_generation, Value.ref q78, Value.ref q79, Value.int m_buffered, Value.int m_limit, Value.int m_factor, um, Value.ref q80, Value.ref q81, Value.ref q82, Value.int m_merges, Value.ref q83, Value.int m_opened, Value.int m_chosenMany, Value.int m_begun])) : Nat × va_E)) : gx_Met l y_Mo_done [Cond.code y_Mo_done b_Mo_done 6 (some .int)] { frames := 1, cells := 0, slots := 0, locals := 12 } (gx_P z sz D classes tys ws [Value.ref q46, Value.int p1, Value.int 123]) (gx_Q D classes tys (va_A ws sz) (gm_p (fun r h' => (r = Sum.inl (some (Value.int p1)) ∧ gm_g h h' [46] ∧ h' 46 = some ((q46, Sum.inr (8, [Value.int 0, Value.int 0, Value.ref q47, Value.ref q48, Value.ref q49, Value.int m_docs, Value.ref q50, Value.ref q51, Value.ref q52, Value.ref q53, Value.int m_filesThere, Value.int m_files, Value.int m_actions, Value.int m_power, Value.int m_lost, Value.ref q54, Value.ref q62, Value.ref q70, Value.int m_open, Value.int m_isPrepared, Value.int m_generation, Value.ref q78, Value.ref q79, Value.int m_buffered, Value.int m_limit, Value.int m_factor, um, Value.ref q80, Value.ref q81, Value.ref q82, Value.int m_merges, Value.ref q83, Value.int m_opened, Value.int m_chosenMany, Value.int m_begun])) : Nat × va_E) ∧ (¬ 1 = m_error) ∧ (¬ 2 = m_error) ∧ (¬ 3 = m_error)) ∨ (r = Sum.inl (some (Value.int 0)) ∧ gm_g h h' [46] ∧ h' 46 = some ((q46, Sum.inr (8, [Value.int 0, Value.int 3, Value.ref q47, Value.ref q48, Value.ref q49, Value.int m_docs, Value.ref q50, Value.ref q51, Value.ref q52, Value.ref q53, Value.int m_filesThere, Value.int m_files, Value.int m_actions, Value.int m_power, Value.int m_lost, Value.ref q54, Value.ref q62, Value.ref q70, Value.int m_open, Value.int m_isPrepared, Value.int m_generation, Value.ref q78, Value.ref q79, Value.int m_buffered, Value.int m_limit, Value.int m_factor, um, Value.ref q80, Value.ref q81, Value.ref q82, Value.int m_merges, Value.ref q83, Value.int m_opened, Value.int m_chosenMany, Value.int m_begun])) : Nat × va_E) ∧ (¬ 1 = m_error) ∧ (¬ 2 = m_error) ∧ (3 = m_error)) ∨ (r = Sum.inl (some (Value.int 0)) ∧ gm_g h h' [46] ∧ h' 46 = some ((q46, Sum.inr (8, [Value.int 0, Value.int 2, Value.ref q47, Value.ref q48, Value.ref q49, Value.int m_docs, Value.ref q50, Value.ref q51, Value.ref q52, Value.ref q53, Value.int m_filesThere, Value.int m_files, Value.int m_actions, Value.int m_power, Value.int m_lost, Value.ref q54, Value.ref q62, Value.ref q70, Value.int m_open, Value.int m_isPrepared, Value.int m_generation, Value.ref q78, Value.ref q79, Value.int m_buffered, Value.int m_limit, Value.int m_factor, um, Value.ref q80, Value.ref q81, Value.ref q82, Value.int m_merges, Value.ref q83, Value.int m_opened, Value.int m_chosenMany, Value.int m_begun])) : Nat × va_E) ∧ (¬ 1 = m_error) ∧ (2 = m_error)) ∨ (r = Sum.inl (some (Value.int 0)) ∧ gm_g h h' [46] ∧ h' 46 = some ((q46, Sum.inr (8, [Value.int 0, Value.int 1, Value.ref q47, Value.ref q48, Value.ref q49, Value.int m_docs, Value.ref q50, Value.ref q51, Value.ref q52, Value.ref q53, Value.int m_filesThere, Value.int m_files, Value.int m_actions, Value.int m_power, Value.int m_lost, Value.ref q54, Value.ref q62, Value.ref q70, Value.int m_open, Value.int m_isPrepared, Value.int m_generation, Value.ref q78, Value.ref q79, Value.int m_buffered, Value.int m_limit, Value.int m_factor, um, Value.ref q80, Value.ref q81, Value.ref q82, Value.int m_merges, Value.ref q83, Value.int m_opened, Value.int m_chosenMany, Value.int m_begun])) : Nat × va_E) ∧ (1 = m_error))))) 0 0 (va_A ws sz) := by
  refine gx_ofW (cc := b_Mo_done) (maxL := 6) (ret := (some .int)) (by decide) rfl ?_
  intro p e s m args below meth c s₁ B hml hv
  obtain ⟨rfl, hsz, hz, hP, hK, hD0, hY⟩ := hv
  have hx := B.exec
  have hb := B.bytes
  have hr := B.returns
  have hts := hY.hts (#[Value.ref q46, Value.int p1, Value.int 123] : Array Value)
  have hown : s.vm.findClass "CommitLedgerModel" = some m.cls := findClass_of_methodNamed B.named
  have hlocks := B.notSynchronized
  have hne : c.exceptionTable.isEmpty = true := B.noHandlers (atoms_spec (ws := [Cond.code y_Mo_done b_Mo_done 6 (some .int)]) B.pre _ List.mem_cons_self)
  subst hsz
  have hAz := gx_az hD0 hz
  have hD := hD0.self (sz := s.heap.size)
  have hN := gx_ns hP
  have hA : ∀ q : Nat, s.heap.size ≤ q → va_A ws s.heap.size q := fun q h => Or.inr h
  generalize va_A ws s.heap.size = A at hD hN hA hAz ⊢
  generalize hPQ : (fun (r : Option Value ⊕ String) (h' : gm_M) => (r = Sum.inl (some (Value.int p1)) ∧ gm_g h h' [46] ∧ h' 46 = some ((q46, Sum.inr (8, [Value.int 0, Value.int 0, Value.ref q47, Value.ref q48, Value.ref q49, Value.int m_docs, Value.ref q50, Value.ref q51, Value.ref q52, Value.ref q53, Value.int m_filesThere, Value.int m_files, Value.int m_actions, Value.int m_power, Value.int m_lost, Value.ref q54, Value.ref q62, Value.ref q70, Value.int m_open, Value.int m_isPrepared, Value.int m_generation, Value.ref q78, Value.ref q79, Value.int m_buffered, Value.int m_limit, Value.int m_factor, um, Value.ref q80, Value.ref q81, Value.ref q82, Value.int m_merges, Value.ref q83, Value.int m_opened, Value.int m_chosenMany, Value.int m_begun])) : Nat × va_E) ∧ (¬ 1 = m_error) ∧ (¬ 2 = m_error) ∧ (¬ 3 = m_error)) ∨ (r = Sum.inl (some (Value.int 0)) ∧ gm_g h h' [46] ∧ h' 46 = some ((q46, Sum.inr (8, [Value.int 0, Value.int 3, Value.ref q47, Value.ref q48, Value.ref q49, Value.int m_docs, Value.ref q50, Value.ref q51, Value.ref q52, Value.ref q53, Value.int m_filesThere, Value.int m_files, Value.int m_actions, Value.int m_power, Value.int m_lost, Value.ref q54, Value.ref q62, Value.ref q70, Value.int m_open, Value.int m_isPrepared, Value.int m_generation, Value.ref q78, Value.ref q79, Value.int m_buffered, Value.int m_limit, Value.int m_factor, um, Value.ref q80, Value.ref q81, Value.ref q82, Value.int m_merges, Value.ref q83, Value.int m_opened, Value.int m_chosenMany, Value.int m_begun])) : Nat × va_E) ∧ (¬ 1 = m_error) ∧ (¬ 2 = m_error) ∧ (3 = m_error)) ∨ (r = Sum.inl (some (Value.int 0)) ∧ gm_g h h' [46] ∧ h' 46 = some ((q46, Sum.inr (8, [Value.int 0, Value.int 2, Value.ref q47, Value.ref q48, Value.ref q49, Value.int m_docs, Value.ref q50, Value.ref q51, Value.ref q52, Value.ref q53, Value.int m_filesThere, Value.int m_files, Value.int m_actions, Value.int m_power, Value.int m_lost, Value.ref q54, Value.ref q62, Value.ref q70, Value.int m_open, Value.int m_isPrepared, Value.int m_generation, Value.ref q78, Value.ref q79, Value.int m_buffered, Value.int m_limit, Value.int m_factor, um, Value.ref q80, Value.ref q81, Value.ref q82, Value.int m_merges, Value.ref q83, Value.int m_opened, Value.int m_chosenMany, Value.int m_begun])) : Nat × va_E) ∧ (¬ 1 = m_error) ∧ (2 = m_error)) ∨ (r = Sum.inl (some (Value.int 0)) ∧ gm_g h h' [46] ∧ h' 46 = some ((q46, Sum.inr (8, [Value.int 0, Value.int 1, Value.ref q47, Value.ref q48, Value.ref q49, Value.int m_docs, Value.ref q50, Value.ref q51, Value.ref q52, Value.ref q53, Value.int m_filesThere, Value.int m_files, Value.int m_actions, Value.int m_power, Value.int m_lost, Value.ref q54, Value.ref q62, Value.ref q70, Value.int m_open, Value.int m_isPrepared, Value.int m_generation, Value.ref q78, Value.ref q79, Value.int m_buffered, Value.int m_limit, Value.int m_factor, um, Value.ref q80, Value.ref q81, Value.ref q82, Value.int m_merges, Value.ref q83, Value.int m_opened, Value.int m_chosenMany, Value.int m_begun])) : Nat × va_E) ∧ (1 = m_error))) = PQ
  have Z : gz D A s.heap h s.heap [] := ⟨ws, hM, hP, hD, va_S.rf⟩
  clear hP hD hM hD0
  have hU : gm_g h h [46] := gm_g.rf
  have hl := lv_entry ([Value.ref q46, Value.int p1, Value.int 123]) (n := 6) (Nat.le_of_ble_eq_true rfl)
  rw [lg_entry_eq]
  generalize (lg_sl ([Value.ref q46, Value.int p1, Value.int 123]) ++ List.replicate (6 - (lg_sl ([Value.ref q46, Value.int p1, Value.int 123])).length) Slot.unset).toArray = ls at hl ⊢
  have hl : lv_has ls 6 [(0, Value.ref q46), (1, Value.int p1), (2, Value.int 123)] := hl
  refine lv_aload_n hx hb d_Mo_done_0 rfl (lv_at hl 0 rfl) ?_
  refine lv_iconst (v := 0) hx hb d_Mo_done_1 (by decide) ?_
  refine gz_put (ci := 8) (v := Value.int 0) (ty := .int) (C := "CommitLedgerModel") (T := F_Mo) (N := 35) hx hb hts i_Mo t_Mo_ok n_Mo hown hK Z f_46 rfl 1 (by decide) kf_Mo_80 rfl (by decide +kernel) rfl rfl (Nat.le_of_ble_eq_true rfl) d_Mo_done_2 (fun H locs Z => ?_)
  obtain ⟨h1, e_h1⟩ : ∃ z9 : gm_M, z9 = gm_up h 46 ((q46, Sum.inr (8, [Value.int m_error, Value.int 0, Value.ref q47, Value.ref q48, Value.ref q49, Value.int m_docs, Value.ref q50, Value.ref q51, Value.ref q52, Value.ref q53, Value.int m_filesThere, Value.int m_files, Value.int m_actions, Value.int m_power, Value.int m_lost, Value.ref q54, Value.ref q62, Value.ref q70, Value.int m_open, Value.int m_isPrepared, Value.int m_generation, Value.ref q78, Value.ref q79, Value.int m_buffered, Value.int m_limit, Value.int m_factor, um, Value.ref q80, Value.ref q81, Value.ref q82, Value.int m_merges, Value.ref q83, Value.int m_opened, Value.int m_chosenMany, Value.int m_begun])) : Nat × va_E) := ⟨_, rfl⟩
  replace Z : gz D A s.heap h1 H locs := by rw [e_h1]; exact Z
  have f_46_h1 : h1 46 = some ((q46, Sum.inr (8, [Value.int m_error, Value.int 0, Value.ref q47, Value.ref q48, Value.ref q49, Value.int m_docs, Value.ref q50, Value.ref q51, Value.ref q52, Value.ref q53, Value.int m_filesThere, Value.int m_files, Value.int m_actions, Value.int m_power, Value.int m_lost, Value.ref q54, Value.ref q62, Value.ref q70, Value.int m_open, Value.int m_isPrepared, Value.int m_generation, Value.ref q78, Value.ref q79, Value.int m_buffered, Value.int m_limit, Value.int m_factor, um, Value.ref q80, Value.ref q81, Value.ref q82, Value.int m_merges, Value.ref q83, Value.int m_opened, Value.int m_chosenMany, Value.int m_begun])) : Nat × va_E) := by rw [e_h1]; exact gm_self
  replace hU : gm_g h h1 [46] := by rw [e_h1]; exact hU.put (by simp)
  refine lv_iconst (v := 0) hx hb d_Mo_done_5 (by decide) ?_
  refine lv_istore_n (lv' := [(3, Value.int 0), (0, Value.ref q46), (1, Value.int p1), (2, Value.int 123)]) hx hb d_Mo_done_6 rfl hl (by decide) rfl (fun ls hl => ?_)
  refine lv_ldc (v := 100000) hx hb hown (hts _ ki_Mo_83) d_Mo_done_7 ?_
  refine lv_istore (lv' := [(4, Value.int 100000), (3, Value.int 0), (0, Value.ref q46), (1, Value.int p1), (2, Value.int 123)]) hx hb d_Mo_done_9 hl (by decide) rfl (fun ls hl => ?_)
  refine lv_iload hx hb d_Mo_done_11 (lv_at hl 0 rfl) ?_
  refine lv_if_le (tgt := 60) hx hb d_Mo_done_13 (by decide) (fun c9 => absurd c9 (by decide)) (fun _ => ?_)
  refine lv_iload_n hx hb d_Mo_done_16 rfl (lv_at hl 4 rfl) ?_
  refine lv_iload hx hb d_Mo_done_17 (lv_at hl 0 rfl) ?_
  refine lv_idiv hx hb d_Mo_done_19 (by decide) ?_
  refine gx_topi (y := 0) (by decide) ?_
  refine lv_bipush (v := 10) hx hb d_Mo_done_20 (by decide) ?_
  refine lv_irem hx hb d_Mo_done_22 (by decide) ?_
  refine gx_topi (y := 0) (by decide) ?_
  refine lv_istore (lv' := [(5, Value.int 0), (4, Value.int 100000), (3, Value.int 0), (0, Value.ref q46), (1, Value.int p1), (2, Value.int 123)]) hx hb d_Mo_done_23 hl (by decide) rfl (fun ls hl => ?_)
  refine lv_iload hx hb d_Mo_done_25 (lv_at hl 0 rfl) ?_
  refine lv_if_ne (tgt := 33) hx hb d_Mo_done_27 (by decide) (fun c9 => absurd (by decide) c9) (fun _ => ?_)
  refine lv_goto (tgt := 50) hx hb d_Mo_done_30 (by decide) ?_
  refine lv_iload hx hb d_Mo_done_50 (lv_at hl 1 rfl) ?_
  refine lv_bipush (v := 10) hx hb d_Mo_done_52 (by decide) ?_
  refine lv_idiv hx hb d_Mo_done_54 (by decide) ?_
  refine gx_topi (y := 10000) (by decide) ?_
  refine lv_istore (lv' := [(4, Value.int 10000), (5, Value.int 0), (3, Value.int 0), (0, Value.ref q46), (1, Value.int p1), (2, Value.int 123)]) hx hb d_Mo_done_55 hl (by decide) rfl (fun ls hl => ?_)
  refine lv_goto (tgt := 11) hx hb d_Mo_done_57 (by decide) ?_
  refine lv_iload hx hb d_Mo_done_11 (lv_at hl 0 rfl) ?_
  refine lv_if_le (tgt := 60) hx hb d_Mo_done_13 (by decide) (fun c9 => absurd c9 (by decide)) (fun _ => ?_)
  refine lv_iload_n hx hb d_Mo_done_16 rfl (lv_at hl 5 rfl) ?_
  refine lv_iload hx hb d_Mo_done_17 (lv_at hl 0 rfl) ?_
  refine lv_idiv hx hb d_Mo_done_19 (by decide) ?_
  refine gx_topi (y := 0) (by decide) ?_
  refine lv_bipush (v := 10) hx hb d_Mo_done_20 (by decide) ?_
  refine lv_irem hx hb d_Mo_done_22 (by decide) ?_
  refine gx_topi (y := 0) (by decide) ?_
  refine lv_istore (lv' := [(5, Value.int 0), (4, Value.int 10000), (3, Value.int 0), (0, Value.ref q46), (1, Value.int p1), (2, Value.int 123)]) hx hb d_Mo_done_23 hl (by decide) rfl (fun ls hl => ?_)
  refine lv_iload hx hb d_Mo_done_25 (lv_at hl 0 rfl) ?_
  refine lv_if_ne (tgt := 33) hx hb d_Mo_done_27 (by decide) (fun c9 => absurd (by decide) c9) (fun _ => ?_)
  refine lv_goto (tgt := 50) hx hb d_Mo_done_30 (by decide) ?_
  refine lv_iload hx hb d_Mo_done_50 (lv_at hl 1 rfl) ?_
  refine lv_bipush (v := 10) hx hb d_Mo_done_52 (by decide) ?_
  refine lv_idiv hx hb d_Mo_done_54 (by decide) ?_
  refine gx_topi (y := 1000) (by decide) ?_
  refine lv_istore (lv' := [(4, Value.int 1000), (5, Value.int 0), (3, Value.int 0), (0, Value.ref q46), (1, Value.int p1), (2, Value.int 123)]) hx hb d_Mo_done_55 hl (by decide) rfl (fun ls hl => ?_)
  refine lv_goto (tgt := 11) hx hb d_Mo_done_57 (by decide) ?_
  refine lv_iload hx hb d_Mo_done_11 (lv_at hl 0 rfl) ?_
  refine lv_if_le (tgt := 60) hx hb d_Mo_done_13 (by decide) (fun c9 => absurd c9 (by decide)) (fun _ => ?_)
  refine lv_iload_n hx hb d_Mo_done_16 rfl (lv_at hl 5 rfl) ?_
  refine lv_iload hx hb d_Mo_done_17 (lv_at hl 0 rfl) ?_
  refine lv_idiv hx hb d_Mo_done_19 (by decide) ?_
  refine gx_topi (y := 0) (by decide) ?_
  refine lv_bipush (v := 10) hx hb d_Mo_done_20 (by decide) ?_
  refine lv_irem hx hb d_Mo_done_22 (by decide) ?_
  refine gx_topi (y := 0) (by decide) ?_
  refine lv_istore (lv' := [(5, Value.int 0), (4, Value.int 1000), (3, Value.int 0), (0, Value.ref q46), (1, Value.int p1), (2, Value.int 123)]) hx hb d_Mo_done_23 hl (by decide) rfl (fun ls hl => ?_)
  refine lv_iload hx hb d_Mo_done_25 (lv_at hl 0 rfl) ?_
  refine lv_if_ne (tgt := 33) hx hb d_Mo_done_27 (by decide) (fun c9 => absurd (by decide) c9) (fun _ => ?_)
  refine lv_goto (tgt := 50) hx hb d_Mo_done_30 (by decide) ?_
  refine lv_iload hx hb d_Mo_done_50 (lv_at hl 1 rfl) ?_
  refine lv_bipush (v := 10) hx hb d_Mo_done_52 (by decide) ?_
  refine lv_idiv hx hb d_Mo_done_54 (by decide) ?_
  refine gx_topi (y := 100) (by decide) ?_
  refine lv_istore (lv' := [(4, Value.int 100), (5, Value.int 0), (3, Value.int 0), (0, Value.ref q46), (1, Value.int p1), (2, Value.int 123)]) hx hb d_Mo_done_55 hl (by decide) rfl (fun ls hl => ?_)
  refine lv_goto (tgt := 11) hx hb d_Mo_done_57 (by decide) ?_
  refine lv_iload hx hb d_Mo_done_11 (lv_at hl 0 rfl) ?_
  refine lv_if_le (tgt := 60) hx hb d_Mo_done_13 (by decide) (fun c9 => absurd c9 (by decide)) (fun _ => ?_)
  refine lv_iload_n hx hb d_Mo_done_16 rfl (lv_at hl 5 rfl) ?_
  refine lv_iload hx hb d_Mo_done_17 (lv_at hl 0 rfl) ?_
  refine lv_idiv hx hb d_Mo_done_19 (by decide) ?_
  refine gx_topi (y := 1) (by decide) ?_
  refine lv_bipush (v := 10) hx hb d_Mo_done_20 (by decide) ?_
  refine lv_irem hx hb d_Mo_done_22 (by decide) ?_
  refine gx_topi (y := 1) (by decide) ?_
  refine lv_istore (lv' := [(5, Value.int 1), (4, Value.int 100), (3, Value.int 0), (0, Value.ref q46), (1, Value.int p1), (2, Value.int 123)]) hx hb d_Mo_done_23 hl (by decide) rfl (fun ls hl => ?_)
  refine lv_iload hx hb d_Mo_done_25 (lv_at hl 0 rfl) ?_
  refine lv_if_ne (tgt := 33) hx hb d_Mo_done_27 (by decide) (fun _ => ?_) (fun c9 => absurd c9 (by decide))
  refine lv_iinc (v := 1) (lv' := [(3, Value.int 1), (5, Value.int 1), (4, Value.int 100), (0, Value.ref q46), (1, Value.int p1), (2, Value.int 123)]) hx hb d_Mo_done_33 hl (k := 2) rfl (by decide) (by decide) rfl (fun ls hl => ?_)
  refine lv_iload hx hb d_Mo_done_36 (lv_at hl 1 rfl) ?_
  refine lv_aload_n hx hb d_Mo_done_38 rfl (lv_at hl 3 rfl) ?_
  refine gz_get (ci := 8) (v := Value.int m_error) (C := "CommitLedgerModel") (T := F_Mo) (N := 35) hx hb hts i_Mo hown hK Z f_46_h1 rfl 0 (by decide) kf_Mo_84 rfl d_Mo_done_39 ?_
  refine lv_icmp_ne (tgt := 50) hx hb d_Mo_done_42 (by decide) (fun c42_2 => ?_) (fun c42_2 => ?_)
  · refine lv_iload hx hb d_Mo_done_50 (lv_at hl 2 rfl) ?_
    refine lv_bipush (v := 10) hx hb d_Mo_done_52 (by decide) ?_
    refine lv_idiv hx hb d_Mo_done_54 (by decide) ?_
    refine gx_topi (y := 10) (by decide) ?_
    refine lv_istore (lv' := [(4, Value.int 10), (3, Value.int 1), (5, Value.int 1), (0, Value.ref q46), (1, Value.int p1), (2, Value.int 123)]) hx hb d_Mo_done_55 hl (by decide) rfl (fun ls hl => ?_)
    refine lv_goto (tgt := 11) hx hb d_Mo_done_57 (by decide) ?_
    refine lv_iload hx hb d_Mo_done_11 (lv_at hl 0 rfl) ?_
    refine lv_if_le (tgt := 60) hx hb d_Mo_done_13 (by decide) (fun c9 => absurd c9 (by decide)) (fun _ => ?_)
    refine lv_iload_n hx hb d_Mo_done_16 rfl (lv_at hl 5 rfl) ?_
    refine lv_iload hx hb d_Mo_done_17 (lv_at hl 0 rfl) ?_
    refine lv_idiv hx hb d_Mo_done_19 (by decide) ?_
    refine gx_topi (y := 12) (by decide) ?_
    refine lv_bipush (v := 10) hx hb d_Mo_done_20 (by decide) ?_
    refine lv_irem hx hb d_Mo_done_22 (by decide) ?_
    refine gx_topi (y := 2) (by decide) ?_
    refine lv_istore (lv' := [(5, Value.int 2), (4, Value.int 10), (3, Value.int 1), (0, Value.ref q46), (1, Value.int p1), (2, Value.int 123)]) hx hb d_Mo_done_23 hl (by decide) rfl (fun ls hl => ?_)
    refine lv_iload hx hb d_Mo_done_25 (lv_at hl 0 rfl) ?_
    refine lv_if_ne (tgt := 33) hx hb d_Mo_done_27 (by decide) (fun _ => ?_) (fun c9 => absurd c9 (by decide))
    refine lv_iinc (v := 2) (lv' := [(3, Value.int 2), (5, Value.int 2), (4, Value.int 10), (0, Value.ref q46), (1, Value.int p1), (2, Value.int 123)]) hx hb d_Mo_done_33 hl (k := 2) rfl (by decide) (by decide) rfl (fun ls hl => ?_)
    refine lv_iload hx hb d_Mo_done_36 (lv_at hl 1 rfl) ?_
    refine lv_aload_n hx hb d_Mo_done_38 rfl (lv_at hl 3 rfl) ?_
    refine gz_get (ci := 8) (v := Value.int m_error) (C := "CommitLedgerModel") (T := F_Mo) (N := 35) hx hb hts i_Mo hown hK Z f_46_h1 rfl 0 (by decide) kf_Mo_84 rfl d_Mo_done_39 ?_
    refine lv_icmp_ne (tgt := 50) hx hb d_Mo_done_42 (by decide) (fun c42_3 => ?_) (fun c42_3 => ?_)
    · refine lv_iload hx hb d_Mo_done_50 (lv_at hl 2 rfl) ?_
      refine lv_bipush (v := 10) hx hb d_Mo_done_52 (by decide) ?_
      refine lv_idiv hx hb d_Mo_done_54 (by decide) ?_
      refine gx_topi (y := 1) (by decide) ?_
      refine lv_istore (lv' := [(4, Value.int 1), (3, Value.int 2), (5, Value.int 2), (0, Value.ref q46), (1, Value.int p1), (2, Value.int 123)]) hx hb d_Mo_done_55 hl (by decide) rfl (fun ls hl => ?_)
      refine lv_goto (tgt := 11) hx hb d_Mo_done_57 (by decide) ?_
      refine lv_iload hx hb d_Mo_done_11 (lv_at hl 0 rfl) ?_
      refine lv_if_le (tgt := 60) hx hb d_Mo_done_13 (by decide) (fun c9 => absurd c9 (by decide)) (fun _ => ?_)
      refine lv_iload_n hx hb d_Mo_done_16 rfl (lv_at hl 5 rfl) ?_
      refine lv_iload hx hb d_Mo_done_17 (lv_at hl 0 rfl) ?_
      refine lv_idiv hx hb d_Mo_done_19 (by decide) ?_
      refine gx_topi (y := 123) (by decide) ?_
      refine lv_bipush (v := 10) hx hb d_Mo_done_20 (by decide) ?_
      refine lv_irem hx hb d_Mo_done_22 (by decide) ?_
      refine gx_topi (y := 3) (by decide) ?_
      refine lv_istore (lv' := [(5, Value.int 3), (4, Value.int 1), (3, Value.int 2), (0, Value.ref q46), (1, Value.int p1), (2, Value.int 123)]) hx hb d_Mo_done_23 hl (by decide) rfl (fun ls hl => ?_)
      refine lv_iload hx hb d_Mo_done_25 (lv_at hl 0 rfl) ?_
      refine lv_if_ne (tgt := 33) hx hb d_Mo_done_27 (by decide) (fun _ => ?_) (fun c9 => absurd c9 (by decide))
      refine lv_iinc (v := 3) (lv' := [(3, Value.int 3), (5, Value.int 3), (4, Value.int 1), (0, Value.ref q46), (1, Value.int p1), (2, Value.int 123)]) hx hb d_Mo_done_33 hl (k := 2) rfl (by decide) (by decide) rfl (fun ls hl => ?_)
      refine lv_iload hx hb d_Mo_done_36 (lv_at hl 1 rfl) ?_
      refine lv_aload_n hx hb d_Mo_done_38 rfl (lv_at hl 3 rfl) ?_
      refine gz_get (ci := 8) (v := Value.int m_error) (C := "CommitLedgerModel") (T := F_Mo) (N := 35) hx hb hts i_Mo hown hK Z f_46_h1 rfl 0 (by decide) kf_Mo_84 rfl d_Mo_done_39 ?_
      refine lv_icmp_ne (tgt := 50) hx hb d_Mo_done_42 (by decide) (fun c42_4 => ?_) (fun c42_4 => ?_)
      · refine lv_iload hx hb d_Mo_done_50 (lv_at hl 2 rfl) ?_
        refine lv_bipush (v := 10) hx hb d_Mo_done_52 (by decide) ?_
        refine lv_idiv hx hb d_Mo_done_54 (by decide) ?_
        refine gx_topi (y := 0) (by decide) ?_
        refine lv_istore (lv' := [(4, Value.int 0), (3, Value.int 3), (5, Value.int 3), (0, Value.ref q46), (1, Value.int p1), (2, Value.int 123)]) hx hb d_Mo_done_55 hl (by decide) rfl (fun ls hl => ?_)
        refine lv_goto (tgt := 11) hx hb d_Mo_done_57 (by decide) ?_
        refine lv_iload hx hb d_Mo_done_11 (lv_at hl 0 rfl) ?_
        refine lv_if_le (tgt := 60) hx hb d_Mo_done_13 (by decide) (fun _ => ?_) (fun c9 => absurd (by decide) c9)
        refine lv_aload_n hx hb d_Mo_done_60 rfl (lv_at hl 3 rfl) ?_
        refine lv_iconst (v := 0) hx hb d_Mo_done_61 (by decide) ?_
        refine gz_put (ci := 8) (v := Value.int 0) (ty := .int) (C := "CommitLedgerModel") (T := F_Mo) (N := 35) hx hb hts i_Mo t_Mo_ok n_Mo hown hK Z f_46_h1 rfl 0 (by decide) kf_Mo_84 rfl (by decide +kernel) rfl rfl (Nat.le_of_ble_eq_true rfl) d_Mo_done_62 (fun H locs Z => ?_)
        obtain ⟨h5, e_h5⟩ : ∃ z9 : gm_M, z9 = gm_up h1 46 ((q46, Sum.inr (8, [Value.int 0, Value.int 0, Value.ref q47, Value.ref q48, Value.ref q49, Value.int m_docs, Value.ref q50, Value.ref q51, Value.ref q52, Value.ref q53, Value.int m_filesThere, Value.int m_files, Value.int m_actions, Value.int m_power, Value.int m_lost, Value.ref q54, Value.ref q62, Value.ref q70, Value.int m_open, Value.int m_isPrepared, Value.int m_generation, Value.ref q78, Value.ref q79, Value.int m_buffered, Value.int m_limit, Value.int m_factor, um, Value.ref q80, Value.ref q81, Value.ref q82, Value.int m_merges, Value.ref q83, Value.int m_opened, Value.int m_chosenMany, Value.int m_begun])) : Nat × va_E) := ⟨_, rfl⟩
        replace Z : gz D A s.heap h5 H locs := by rw [e_h5]; exact Z
        have f_46_h5 : h5 46 = some ((q46, Sum.inr (8, [Value.int 0, Value.int 0, Value.ref q47, Value.ref q48, Value.ref q49, Value.int m_docs, Value.ref q50, Value.ref q51, Value.ref q52, Value.ref q53, Value.int m_filesThere, Value.int m_files, Value.int m_actions, Value.int m_power, Value.int m_lost, Value.ref q54, Value.ref q62, Value.ref q70, Value.int m_open, Value.int m_isPrepared, Value.int m_generation, Value.ref q78, Value.ref q79, Value.int m_buffered, Value.int m_limit, Value.int m_factor, um, Value.ref q80, Value.ref q81, Value.ref q82, Value.int m_merges, Value.ref q83, Value.int m_opened, Value.int m_chosenMany, Value.int m_begun])) : Nat × va_E) := by rw [e_h5]; exact gm_self
        replace hU : gm_g h h5 [46] := by rw [e_h5]; exact hU.put (by simp)
        refine lv_aload_n hx hb d_Mo_done_65 rfl (lv_at hl 3 rfl) ?_
        refine gz_get (ci := 8) (v := Value.int 0) (C := "CommitLedgerModel") (T := F_Mo) (N := 35) hx hb hts i_Mo hown hK Z f_46_h5 rfl 1 (by decide) kf_Mo_80 rfl d_Mo_done_66 ?_
        refine lv_if_le (tgt := 76) hx hb d_Mo_done_69 (by decide) (fun _ => ?_) (fun c9 => absurd (by decide) c9)
        refine lv_iload_n hx hb d_Mo_done_76 rfl (lv_at hl 4 rfl) ?_
        exact gz_iret (v := p1) hx hb hr hlocks hK Z (by decide) (by decide) (by rw [← hPQ]; exact Or.inl ⟨rfl, hU, f_46_h5, c42_2, c42_3, c42_4⟩) d_Mo_done_77
      · refine lv_aload_n hx hb d_Mo_done_45 rfl (lv_at hl 3 rfl) ?_
        refine lv_iload_n hx hb d_Mo_done_46 rfl (lv_at hl 0 rfl) ?_
        refine gz_put (ci := 8) (v := Value.int 3) (ty := .int) (C := "CommitLedgerModel") (T := F_Mo) (N := 35) hx hb hts i_Mo t_Mo_ok n_Mo hown hK Z f_46_h1 rfl 1 (by decide) kf_Mo_80 rfl (by decide +kernel) rfl rfl (Nat.le_of_ble_eq_true rfl) d_Mo_done_47 (fun H locs Z => ?_)
        obtain ⟨h6, e_h6⟩ : ∃ z9 : gm_M, z9 = gm_up h1 46 ((q46, Sum.inr (8, [Value.int m_error, Value.int 3, Value.ref q47, Value.ref q48, Value.ref q49, Value.int m_docs, Value.ref q50, Value.ref q51, Value.ref q52, Value.ref q53, Value.int m_filesThere, Value.int m_files, Value.int m_actions, Value.int m_power, Value.int m_lost, Value.ref q54, Value.ref q62, Value.ref q70, Value.int m_open, Value.int m_isPrepared, Value.int m_generation, Value.ref q78, Value.ref q79, Value.int m_buffered, Value.int m_limit, Value.int m_factor, um, Value.ref q80, Value.ref q81, Value.ref q82, Value.int m_merges, Value.ref q83, Value.int m_opened, Value.int m_chosenMany, Value.int m_begun])) : Nat × va_E) := ⟨_, rfl⟩
        replace Z : gz D A s.heap h6 H locs := by rw [e_h6]; exact Z
        have f_46_h6 : h6 46 = some ((q46, Sum.inr (8, [Value.int m_error, Value.int 3, Value.ref q47, Value.ref q48, Value.ref q49, Value.int m_docs, Value.ref q50, Value.ref q51, Value.ref q52, Value.ref q53, Value.int m_filesThere, Value.int m_files, Value.int m_actions, Value.int m_power, Value.int m_lost, Value.ref q54, Value.ref q62, Value.ref q70, Value.int m_open, Value.int m_isPrepared, Value.int m_generation, Value.ref q78, Value.ref q79, Value.int m_buffered, Value.int m_limit, Value.int m_factor, um, Value.ref q80, Value.ref q81, Value.ref q82, Value.int m_merges, Value.ref q83, Value.int m_opened, Value.int m_chosenMany, Value.int m_begun])) : Nat × va_E) := by rw [e_h6]; exact gm_self
        replace hU : gm_g h h6 [46] := by rw [e_h6]; exact hU.put (by simp)
        refine lv_iload hx hb d_Mo_done_50 (lv_at hl 2 rfl) ?_
        refine lv_bipush (v := 10) hx hb d_Mo_done_52 (by decide) ?_
        refine lv_idiv hx hb d_Mo_done_54 (by decide) ?_
        refine gx_topi (y := 0) (by decide) ?_
        refine lv_istore (lv' := [(4, Value.int 0), (3, Value.int 3), (5, Value.int 3), (0, Value.ref q46), (1, Value.int p1), (2, Value.int 123)]) hx hb d_Mo_done_55 hl (by decide) rfl (fun ls hl => ?_)
        refine lv_goto (tgt := 11) hx hb d_Mo_done_57 (by decide) ?_
        refine lv_iload hx hb d_Mo_done_11 (lv_at hl 0 rfl) ?_
        refine lv_if_le (tgt := 60) hx hb d_Mo_done_13 (by decide) (fun _ => ?_) (fun c9 => absurd (by decide) c9)
        refine lv_aload_n hx hb d_Mo_done_60 rfl (lv_at hl 3 rfl) ?_
        refine lv_iconst (v := 0) hx hb d_Mo_done_61 (by decide) ?_
        refine gz_put (ci := 8) (v := Value.int 0) (ty := .int) (C := "CommitLedgerModel") (T := F_Mo) (N := 35) hx hb hts i_Mo t_Mo_ok n_Mo hown hK Z f_46_h6 rfl 0 (by decide) kf_Mo_84 rfl (by decide +kernel) rfl rfl (Nat.le_of_ble_eq_true rfl) d_Mo_done_62 (fun H locs Z => ?_)
        obtain ⟨h7, e_h7⟩ : ∃ z9 : gm_M, z9 = gm_up h6 46 ((q46, Sum.inr (8, [Value.int 0, Value.int 3, Value.ref q47, Value.ref q48, Value.ref q49, Value.int m_docs, Value.ref q50, Value.ref q51, Value.ref q52, Value.ref q53, Value.int m_filesThere, Value.int m_files, Value.int m_actions, Value.int m_power, Value.int m_lost, Value.ref q54, Value.ref q62, Value.ref q70, Value.int m_open, Value.int m_isPrepared, Value.int m_generation, Value.ref q78, Value.ref q79, Value.int m_buffered, Value.int m_limit, Value.int m_factor, um, Value.ref q80, Value.ref q81, Value.ref q82, Value.int m_merges, Value.ref q83, Value.int m_opened, Value.int m_chosenMany, Value.int m_begun])) : Nat × va_E) := ⟨_, rfl⟩
        replace Z : gz D A s.heap h7 H locs := by rw [e_h7]; exact Z
        have f_46_h7 : h7 46 = some ((q46, Sum.inr (8, [Value.int 0, Value.int 3, Value.ref q47, Value.ref q48, Value.ref q49, Value.int m_docs, Value.ref q50, Value.ref q51, Value.ref q52, Value.ref q53, Value.int m_filesThere, Value.int m_files, Value.int m_actions, Value.int m_power, Value.int m_lost, Value.ref q54, Value.ref q62, Value.ref q70, Value.int m_open, Value.int m_isPrepared, Value.int m_generation, Value.ref q78, Value.ref q79, Value.int m_buffered, Value.int m_limit, Value.int m_factor, um, Value.ref q80, Value.ref q81, Value.ref q82, Value.int m_merges, Value.ref q83, Value.int m_opened, Value.int m_chosenMany, Value.int m_begun])) : Nat × va_E) := by rw [e_h7]; exact gm_self
        replace hU : gm_g h h7 [46] := by rw [e_h7]; exact hU.put (by simp)
        refine lv_aload_n hx hb d_Mo_done_65 rfl (lv_at hl 3 rfl) ?_
        refine gz_get (ci := 8) (v := Value.int 3) (C := "CommitLedgerModel") (T := F_Mo) (N := 35) hx hb hts i_Mo hown hK Z f_46_h7 rfl 1 (by decide) kf_Mo_80 rfl d_Mo_done_66 ?_
        refine lv_if_le (tgt := 76) hx hb d_Mo_done_69 (by decide) (fun c9 => absurd c9 (by decide)) (fun _ => ?_)
        refine lv_iconst (v := 0) hx hb d_Mo_done_72 (by decide) ?_
        refine lv_goto (tgt := 77) hx hb d_Mo_done_73 (by decide) ?_
        exact gz_iret (v := 0) hx hb hr hlocks hK Z (by decide) (by decide) (by rw [← hPQ]; exact Or.inr (Or.inl ⟨rfl, hU, f_46_h7, c42_2, c42_3, c42_4⟩)) d_Mo_done_77
    · refine lv_aload_n hx hb d_Mo_done_45 rfl (lv_at hl 3 rfl) ?_
      refine lv_iload_n hx hb d_Mo_done_46 rfl (lv_at hl 0 rfl) ?_
      refine gz_put (ci := 8) (v := Value.int 2) (ty := .int) (C := "CommitLedgerModel") (T := F_Mo) (N := 35) hx hb hts i_Mo t_Mo_ok n_Mo hown hK Z f_46_h1 rfl 1 (by decide) kf_Mo_80 rfl (by decide +kernel) rfl rfl (Nat.le_of_ble_eq_true rfl) d_Mo_done_47 (fun H locs Z => ?_)
      obtain ⟨h8, e_h8⟩ : ∃ z9 : gm_M, z9 = gm_up h1 46 ((q46, Sum.inr (8, [Value.int m_error, Value.int 2, Value.ref q47, Value.ref q48, Value.ref q49, Value.int m_docs, Value.ref q50, Value.ref q51, Value.ref q52, Value.ref q53, Value.int m_filesThere, Value.int m_files, Value.int m_actions, Value.int m_power, Value.int m_lost, Value.ref q54, Value.ref q62, Value.ref q70, Value.int m_open, Value.int m_isPrepared, Value.int m_generation, Value.ref q78, Value.ref q79, Value.int m_buffered, Value.int m_limit, Value.int m_factor, um, Value.ref q80, Value.ref q81, Value.ref q82, Value.int m_merges, Value.ref q83, Value.int m_opened, Value.int m_chosenMany, Value.int m_begun])) : Nat × va_E) := ⟨_, rfl⟩
      replace Z : gz D A s.heap h8 H locs := by rw [e_h8]; exact Z
      have f_46_h8 : h8 46 = some ((q46, Sum.inr (8, [Value.int m_error, Value.int 2, Value.ref q47, Value.ref q48, Value.ref q49, Value.int m_docs, Value.ref q50, Value.ref q51, Value.ref q52, Value.ref q53, Value.int m_filesThere, Value.int m_files, Value.int m_actions, Value.int m_power, Value.int m_lost, Value.ref q54, Value.ref q62, Value.ref q70, Value.int m_open, Value.int m_isPrepared, Value.int m_generation, Value.ref q78, Value.ref q79, Value.int m_buffered, Value.int m_limit, Value.int m_factor, um, Value.ref q80, Value.ref q81, Value.ref q82, Value.int m_merges, Value.ref q83, Value.int m_opened, Value.int m_chosenMany, Value.int m_begun])) : Nat × va_E) := by rw [e_h8]; exact gm_self
      replace hU : gm_g h h8 [46] := by rw [e_h8]; exact hU.put (by simp)
      refine lv_iload hx hb d_Mo_done_50 (lv_at hl 2 rfl) ?_
      refine lv_bipush (v := 10) hx hb d_Mo_done_52 (by decide) ?_
      refine lv_idiv hx hb d_Mo_done_54 (by decide) ?_
      refine gx_topi (y := 1) (by decide) ?_
      refine lv_istore (lv' := [(4, Value.int 1), (3, Value.int 2), (5, Value.int 2), (0, Value.ref q46), (1, Value.int p1), (2, Value.int 123)]) hx hb d_Mo_done_55 hl (by decide) rfl (fun ls hl => ?_)
      refine lv_goto (tgt := 11) hx hb d_Mo_done_57 (by decide) ?_
      refine lv_iload hx hb d_Mo_done_11 (lv_at hl 0 rfl) ?_
      refine lv_if_le (tgt := 60) hx hb d_Mo_done_13 (by decide) (fun c9 => absurd c9 (by decide)) (fun _ => ?_)
      refine lv_iload_n hx hb d_Mo_done_16 rfl (lv_at hl 5 rfl) ?_
      refine lv_iload hx hb d_Mo_done_17 (lv_at hl 0 rfl) ?_
      refine lv_idiv hx hb d_Mo_done_19 (by decide) ?_
      refine gx_topi (y := 123) (by decide) ?_
      refine lv_bipush (v := 10) hx hb d_Mo_done_20 (by decide) ?_
      refine lv_irem hx hb d_Mo_done_22 (by decide) ?_
      refine gx_topi (y := 3) (by decide) ?_
      refine lv_istore (lv' := [(5, Value.int 3), (4, Value.int 1), (3, Value.int 2), (0, Value.ref q46), (1, Value.int p1), (2, Value.int 123)]) hx hb d_Mo_done_23 hl (by decide) rfl (fun ls hl => ?_)
      refine lv_iload hx hb d_Mo_done_25 (lv_at hl 0 rfl) ?_
      refine lv_if_ne (tgt := 33) hx hb d_Mo_done_27 (by decide) (fun _ => ?_) (fun c9 => absurd c9 (by decide))
      refine lv_iinc (v := 3) (lv' := [(3, Value.int 3), (5, Value.int 3), (4, Value.int 1), (0, Value.ref q46), (1, Value.int p1), (2, Value.int 123)]) hx hb d_Mo_done_33 hl (k := 2) rfl (by decide) (by decide) rfl (fun ls hl => ?_)
      refine lv_iload hx hb d_Mo_done_36 (lv_at hl 1 rfl) ?_
      refine lv_aload_n hx hb d_Mo_done_38 rfl (lv_at hl 3 rfl) ?_
      refine gz_get (ci := 8) (v := Value.int m_error) (C := "CommitLedgerModel") (T := F_Mo) (N := 35) hx hb hts i_Mo hown hK Z f_46_h8 rfl 0 (by decide) kf_Mo_84 rfl d_Mo_done_39 ?_
      refine lv_icmp_ne (tgt := 50) hx hb d_Mo_done_42 (by decide) (fun _ => ?_) (fun c9 => absurd c9 (fun e9 => absurd (c42_3.trans e9.symm) (by decide)))
      refine lv_iload hx hb d_Mo_done_50 (lv_at hl 2 rfl) ?_
      refine lv_bipush (v := 10) hx hb d_Mo_done_52 (by decide) ?_
      refine lv_idiv hx hb d_Mo_done_54 (by decide) ?_
      refine gx_topi (y := 0) (by decide) ?_
      refine lv_istore (lv' := [(4, Value.int 0), (3, Value.int 3), (5, Value.int 3), (0, Value.ref q46), (1, Value.int p1), (2, Value.int 123)]) hx hb d_Mo_done_55 hl (by decide) rfl (fun ls hl => ?_)
      refine lv_goto (tgt := 11) hx hb d_Mo_done_57 (by decide) ?_
      refine lv_iload hx hb d_Mo_done_11 (lv_at hl 0 rfl) ?_
      refine lv_if_le (tgt := 60) hx hb d_Mo_done_13 (by decide) (fun _ => ?_) (fun c9 => absurd (by decide) c9)
      refine lv_aload_n hx hb d_Mo_done_60 rfl (lv_at hl 3 rfl) ?_
      refine lv_iconst (v := 0) hx hb d_Mo_done_61 (by decide) ?_
      refine gz_put (ci := 8) (v := Value.int 0) (ty := .int) (C := "CommitLedgerModel") (T := F_Mo) (N := 35) hx hb hts i_Mo t_Mo_ok n_Mo hown hK Z f_46_h8 rfl 0 (by decide) kf_Mo_84 rfl (by decide +kernel) rfl rfl (Nat.le_of_ble_eq_true rfl) d_Mo_done_62 (fun H locs Z => ?_)
      obtain ⟨h10, e_h10⟩ : ∃ z9 : gm_M, z9 = gm_up h8 46 ((q46, Sum.inr (8, [Value.int 0, Value.int 2, Value.ref q47, Value.ref q48, Value.ref q49, Value.int m_docs, Value.ref q50, Value.ref q51, Value.ref q52, Value.ref q53, Value.int m_filesThere, Value.int m_files, Value.int m_actions, Value.int m_power, Value.int m_lost, Value.ref q54, Value.ref q62, Value.ref q70, Value.int m_open, Value.int m_isPrepared, Value.int m_generation, Value.ref q78, Value.ref q79, Value.int m_buffered, Value.int m_limit, Value.int m_factor, um, Value.ref q80, Value.ref q81, Value.ref q82, Value.int m_merges, Value.ref q83, Value.int m_opened, Value.int m_chosenMany, Value.int m_begun])) : Nat × va_E) := ⟨_, rfl⟩
      replace Z : gz D A s.heap h10 H locs := by rw [e_h10]; exact Z
      have f_46_h10 : h10 46 = some ((q46, Sum.inr (8, [Value.int 0, Value.int 2, Value.ref q47, Value.ref q48, Value.ref q49, Value.int m_docs, Value.ref q50, Value.ref q51, Value.ref q52, Value.ref q53, Value.int m_filesThere, Value.int m_files, Value.int m_actions, Value.int m_power, Value.int m_lost, Value.ref q54, Value.ref q62, Value.ref q70, Value.int m_open, Value.int m_isPrepared, Value.int m_generation, Value.ref q78, Value.ref q79, Value.int m_buffered, Value.int m_limit, Value.int m_factor, um, Value.ref q80, Value.ref q81, Value.ref q82, Value.int m_merges, Value.ref q83, Value.int m_opened, Value.int m_chosenMany, Value.int m_begun])) : Nat × va_E) := by rw [e_h10]; exact gm_self
      replace hU : gm_g h h10 [46] := by rw [e_h10]; exact hU.put (by simp)
      refine lv_aload_n hx hb d_Mo_done_65 rfl (lv_at hl 3 rfl) ?_
      refine gz_get (ci := 8) (v := Value.int 2) (C := "CommitLedgerModel") (T := F_Mo) (N := 35) hx hb hts i_Mo hown hK Z f_46_h10 rfl 1 (by decide) kf_Mo_80 rfl d_Mo_done_66 ?_
      refine lv_if_le (tgt := 76) hx hb d_Mo_done_69 (by decide) (fun c9 => absurd c9 (by decide)) (fun _ => ?_)
      refine lv_iconst (v := 0) hx hb d_Mo_done_72 (by decide) ?_
      refine lv_goto (tgt := 77) hx hb d_Mo_done_73 (by decide) ?_
      exact gz_iret (v := 0) hx hb hr hlocks hK Z (by decide) (by decide) (by rw [← hPQ]; exact Or.inr (Or.inr (Or.inl ⟨rfl, hU, f_46_h10, c42_2, c42_3⟩))) d_Mo_done_77
  · refine lv_aload_n hx hb d_Mo_done_45 rfl (lv_at hl 3 rfl) ?_
    refine lv_iload_n hx hb d_Mo_done_46 rfl (lv_at hl 0 rfl) ?_
    refine gz_put (ci := 8) (v := Value.int 1) (ty := .int) (C := "CommitLedgerModel") (T := F_Mo) (N := 35) hx hb hts i_Mo t_Mo_ok n_Mo hown hK Z f_46_h1 rfl 1 (by decide) kf_Mo_80 rfl (by decide +kernel) rfl rfl (Nat.le_of_ble_eq_true rfl) d_Mo_done_47 (fun H locs Z => ?_)
    obtain ⟨h11, e_h11⟩ : ∃ z9 : gm_M, z9 = gm_up h1 46 ((q46, Sum.inr (8, [Value.int m_error, Value.int 1, Value.ref q47, Value.ref q48, Value.ref q49, Value.int m_docs, Value.ref q50, Value.ref q51, Value.ref q52, Value.ref q53, Value.int m_filesThere, Value.int m_files, Value.int m_actions, Value.int m_power, Value.int m_lost, Value.ref q54, Value.ref q62, Value.ref q70, Value.int m_open, Value.int m_isPrepared, Value.int m_generation, Value.ref q78, Value.ref q79, Value.int m_buffered, Value.int m_limit, Value.int m_factor, um, Value.ref q80, Value.ref q81, Value.ref q82, Value.int m_merges, Value.ref q83, Value.int m_opened, Value.int m_chosenMany, Value.int m_begun])) : Nat × va_E) := ⟨_, rfl⟩
    replace Z : gz D A s.heap h11 H locs := by rw [e_h11]; exact Z
    have f_46_h11 : h11 46 = some ((q46, Sum.inr (8, [Value.int m_error, Value.int 1, Value.ref q47, Value.ref q48, Value.ref q49, Value.int m_docs, Value.ref q50, Value.ref q51, Value.ref q52, Value.ref q53, Value.int m_filesThere, Value.int m_files, Value.int m_actions, Value.int m_power, Value.int m_lost, Value.ref q54, Value.ref q62, Value.ref q70, Value.int m_open, Value.int m_isPrepared, Value.int m_generation, Value.ref q78, Value.ref q79, Value.int m_buffered, Value.int m_limit, Value.int m_factor, um, Value.ref q80, Value.ref q81, Value.ref q82, Value.int m_merges, Value.ref q83, Value.int m_opened, Value.int m_chosenMany, Value.int m_begun])) : Nat × va_E) := by rw [e_h11]; exact gm_self
    replace hU : gm_g h h11 [46] := by rw [e_h11]; exact hU.put (by simp)
    refine lv_iload hx hb d_Mo_done_50 (lv_at hl 2 rfl) ?_
    refine lv_bipush (v := 10) hx hb d_Mo_done_52 (by decide) ?_
    refine lv_idiv hx hb d_Mo_done_54 (by decide) ?_
    refine gx_topi (y := 10) (by decide) ?_
    refine lv_istore (lv' := [(4, Value.int 10), (3, Value.int 1), (5, Value.int 1), (0, Value.ref q46), (1, Value.int p1), (2, Value.int 123)]) hx hb d_Mo_done_55 hl (by decide) rfl (fun ls hl => ?_)
    refine lv_goto (tgt := 11) hx hb d_Mo_done_57 (by decide) ?_
    refine lv_iload hx hb d_Mo_done_11 (lv_at hl 0 rfl) ?_
    refine lv_if_le (tgt := 60) hx hb d_Mo_done_13 (by decide) (fun c9 => absurd c9 (by decide)) (fun _ => ?_)
    refine lv_iload_n hx hb d_Mo_done_16 rfl (lv_at hl 5 rfl) ?_
    refine lv_iload hx hb d_Mo_done_17 (lv_at hl 0 rfl) ?_
    refine lv_idiv hx hb d_Mo_done_19 (by decide) ?_
    refine gx_topi (y := 12) (by decide) ?_
    refine lv_bipush (v := 10) hx hb d_Mo_done_20 (by decide) ?_
    refine lv_irem hx hb d_Mo_done_22 (by decide) ?_
    refine gx_topi (y := 2) (by decide) ?_
    refine lv_istore (lv' := [(5, Value.int 2), (4, Value.int 10), (3, Value.int 1), (0, Value.ref q46), (1, Value.int p1), (2, Value.int 123)]) hx hb d_Mo_done_23 hl (by decide) rfl (fun ls hl => ?_)
    refine lv_iload hx hb d_Mo_done_25 (lv_at hl 0 rfl) ?_
    refine lv_if_ne (tgt := 33) hx hb d_Mo_done_27 (by decide) (fun _ => ?_) (fun c9 => absurd c9 (by decide))
    refine lv_iinc (v := 2) (lv' := [(3, Value.int 2), (5, Value.int 2), (4, Value.int 10), (0, Value.ref q46), (1, Value.int p1), (2, Value.int 123)]) hx hb d_Mo_done_33 hl (k := 2) rfl (by decide) (by decide) rfl (fun ls hl => ?_)
    refine lv_iload hx hb d_Mo_done_36 (lv_at hl 1 rfl) ?_
    refine lv_aload_n hx hb d_Mo_done_38 rfl (lv_at hl 3 rfl) ?_
    refine gz_get (ci := 8) (v := Value.int m_error) (C := "CommitLedgerModel") (T := F_Mo) (N := 35) hx hb hts i_Mo hown hK Z f_46_h11 rfl 0 (by decide) kf_Mo_84 rfl d_Mo_done_39 ?_
    refine lv_icmp_ne (tgt := 50) hx hb d_Mo_done_42 (by decide) (fun _ => ?_) (fun c9 => absurd c9 (fun e9 => absurd (c42_2.trans e9.symm) (by decide)))
    refine lv_iload hx hb d_Mo_done_50 (lv_at hl 2 rfl) ?_
    refine lv_bipush (v := 10) hx hb d_Mo_done_52 (by decide) ?_
    refine lv_idiv hx hb d_Mo_done_54 (by decide) ?_
    refine gx_topi (y := 1) (by decide) ?_
    refine lv_istore (lv' := [(4, Value.int 1), (3, Value.int 2), (5, Value.int 2), (0, Value.ref q46), (1, Value.int p1), (2, Value.int 123)]) hx hb d_Mo_done_55 hl (by decide) rfl (fun ls hl => ?_)
    refine lv_goto (tgt := 11) hx hb d_Mo_done_57 (by decide) ?_
    refine lv_iload hx hb d_Mo_done_11 (lv_at hl 0 rfl) ?_
    refine lv_if_le (tgt := 60) hx hb d_Mo_done_13 (by decide) (fun c9 => absurd c9 (by decide)) (fun _ => ?_)
    refine lv_iload_n hx hb d_Mo_done_16 rfl (lv_at hl 5 rfl) ?_
    refine lv_iload hx hb d_Mo_done_17 (lv_at hl 0 rfl) ?_
    refine lv_idiv hx hb d_Mo_done_19 (by decide) ?_
    refine gx_topi (y := 123) (by decide) ?_
    refine lv_bipush (v := 10) hx hb d_Mo_done_20 (by decide) ?_
    refine lv_irem hx hb d_Mo_done_22 (by decide) ?_
    refine gx_topi (y := 3) (by decide) ?_
    refine lv_istore (lv' := [(5, Value.int 3), (4, Value.int 1), (3, Value.int 2), (0, Value.ref q46), (1, Value.int p1), (2, Value.int 123)]) hx hb d_Mo_done_23 hl (by decide) rfl (fun ls hl => ?_)
    refine lv_iload hx hb d_Mo_done_25 (lv_at hl 0 rfl) ?_
    refine lv_if_ne (tgt := 33) hx hb d_Mo_done_27 (by decide) (fun _ => ?_) (fun c9 => absurd c9 (by decide))
    refine lv_iinc (v := 3) (lv' := [(3, Value.int 3), (5, Value.int 3), (4, Value.int 1), (0, Value.ref q46), (1, Value.int p1), (2, Value.int 123)]) hx hb d_Mo_done_33 hl (k := 2) rfl (by decide) (by decide) rfl (fun ls hl => ?_)
    refine lv_iload hx hb d_Mo_done_36 (lv_at hl 1 rfl) ?_
    refine lv_aload_n hx hb d_Mo_done_38 rfl (lv_at hl 3 rfl) ?_
    refine gz_get (ci := 8) (v := Value.int m_error) (C := "CommitLedgerModel") (T := F_Mo) (N := 35) hx hb hts i_Mo hown hK Z f_46_h11 rfl 0 (by decide) kf_Mo_84 rfl d_Mo_done_39 ?_
    refine lv_icmp_ne (tgt := 50) hx hb d_Mo_done_42 (by decide) (fun _ => ?_) (fun c9 => absurd c9 (fun e9 => absurd (c42_2.trans e9.symm) (by decide)))
    refine lv_iload hx hb d_Mo_done_50 (lv_at hl 2 rfl) ?_
    refine lv_bipush (v := 10) hx hb d_Mo_done_52 (by decide) ?_
    refine lv_idiv hx hb d_Mo_done_54 (by decide) ?_
    refine gx_topi (y := 0) (by decide) ?_
    refine lv_istore (lv' := [(4, Value.int 0), (3, Value.int 3), (5, Value.int 3), (0, Value.ref q46), (1, Value.int p1), (2, Value.int 123)]) hx hb d_Mo_done_55 hl (by decide) rfl (fun ls hl => ?_)
    refine lv_goto (tgt := 11) hx hb d_Mo_done_57 (by decide) ?_
    refine lv_iload hx hb d_Mo_done_11 (lv_at hl 0 rfl) ?_
    refine lv_if_le (tgt := 60) hx hb d_Mo_done_13 (by decide) (fun _ => ?_) (fun c9 => absurd (by decide) c9)
    refine lv_aload_n hx hb d_Mo_done_60 rfl (lv_at hl 3 rfl) ?_
    refine lv_iconst (v := 0) hx hb d_Mo_done_61 (by decide) ?_
    refine gz_put (ci := 8) (v := Value.int 0) (ty := .int) (C := "CommitLedgerModel") (T := F_Mo) (N := 35) hx hb hts i_Mo t_Mo_ok n_Mo hown hK Z f_46_h11 rfl 0 (by decide) kf_Mo_84 rfl (by decide +kernel) rfl rfl (Nat.le_of_ble_eq_true rfl) d_Mo_done_62 (fun H locs Z => ?_)
    obtain ⟨h14, e_h14⟩ : ∃ z9 : gm_M, z9 = gm_up h11 46 ((q46, Sum.inr (8, [Value.int 0, Value.int 1, Value.ref q47, Value.ref q48, Value.ref q49, Value.int m_docs, Value.ref q50, Value.ref q51, Value.ref q52, Value.ref q53, Value.int m_filesThere, Value.int m_files, Value.int m_actions, Value.int m_power, Value.int m_lost, Value.ref q54, Value.ref q62, Value.ref q70, Value.int m_open, Value.int m_isPrepared, Value.int m_generation, Value.ref q78, Value.ref q79, Value.int m_buffered, Value.int m_limit, Value.int m_factor, um, Value.ref q80, Value.ref q81, Value.ref q82, Value.int m_merges, Value.ref q83, Value.int m_opened, Value.int m_chosenMany, Value.int m_begun])) : Nat × va_E) := ⟨_, rfl⟩
    replace Z : gz D A s.heap h14 H locs := by rw [e_h14]; exact Z
    have f_46_h14 : h14 46 = some ((q46, Sum.inr (8, [Value.int 0, Value.int 1, Value.ref q47, Value.ref q48, Value.ref q49, Value.int m_docs, Value.ref q50, Value.ref q51, Value.ref q52, Value.ref q53, Value.int m_filesThere, Value.int m_files, Value.int m_actions, Value.int m_power, Value.int m_lost, Value.ref q54, Value.ref q62, Value.ref q70, Value.int m_open, Value.int m_isPrepared, Value.int m_generation, Value.ref q78, Value.ref q79, Value.int m_buffered, Value.int m_limit, Value.int m_factor, um, Value.ref q80, Value.ref q81, Value.ref q82, Value.int m_merges, Value.ref q83, Value.int m_opened, Value.int m_chosenMany, Value.int m_begun])) : Nat × va_E) := by rw [e_h14]; exact gm_self
    replace hU : gm_g h h14 [46] := by rw [e_h14]; exact hU.put (by simp)
    refine lv_aload_n hx hb d_Mo_done_65 rfl (lv_at hl 3 rfl) ?_
    refine gz_get (ci := 8) (v := Value.int 1) (C := "CommitLedgerModel") (T := F_Mo) (N := 35) hx hb hts i_Mo hown hK Z f_46_h14 rfl 1 (by decide) kf_Mo_80 rfl d_Mo_done_66 ?_
    refine lv_if_le (tgt := 76) hx hb d_Mo_done_69 (by decide) (fun c9 => absurd c9 (by decide)) (fun _ => ?_)
    refine lv_iconst (v := 0) hx hb d_Mo_done_72 (by decide) ?_
    refine lv_goto (tgt := 77) hx hb d_Mo_done_73 (by decide) ?_
    exact gz_iret (v := 0) hx hb hr hlocks hK Z (by decide) (by decide) (by rw [← hPQ]; exact Or.inr (Or.inr (Or.inr (⟨rfl, hU, f_46_h14, c42_2⟩)))) d_Mo_done_77

set_option maxHeartbeats 4000000 in
set_option maxRecDepth 100000 in
theorem k_Mo_done_124 (l : Launch) (htr : l.stackTraces = false) (D : va_G) (tys : List (ClassId × FieldType)) (z sz : Nat) (ws : va_W) (h : gm_M) (hM : gm_S h ws) (q46 : Nat) (q47 : Nat) (q48 : Nat) (q49 : Nat) (q50 : Nat) (q51 : Nat) (q52 : Nat) (q53 : Nat) (q54 : Nat) (q62 : Nat) (q70 : Nat) (q78 : Nat) (q79 : Nat) (q80 : Nat) (q81 : Nat) (q82 : Nat) (q83 : Nat) (um : Value) (m_error : Int32) (m_thrown : Int32) (m_docs : Int32) (m_filesThere : Int32) (m_files : Int32) (m_actions : Int32) (m_power : Int32) (m_lost : Int32) (m_open : Int32) (m_isPrepared : Int32) (m_generation : Int32) (m_buffered : Int32) (m_limit : Int32) (m_factor : Int32) (m_merges : Int32) (m_opened : Int32) (m_chosenMany : Int32) (m_begun : Int32) (p1 : Int32) (f_46 : h 46 = some ((q46, Sum.inr (8, [Value.int m_error, Value.int m_thrown, Value.ref q47, Value.ref q48, Value.ref q49, Value.int m_docs, Value.ref q50, Value.ref q51, Value.ref q52, Value.ref q53, Value.int m_filesThere, Value.int m_files, Value.int m_actions, Value.int m_power, Value.int m_lost, Value.ref q54, Value.ref q62, Value.ref q70, Value.int m_open, Value.int m_isPrepared, Value.int m_generation, Value.ref q78, Value.ref q79, Value.int m_buffered, Value.int m_limit, Value.int m_factor, um, Value.ref q80, Value.ref q81, Value.ref q82, Value.int m_merges, Value.ref q83, Value.int m_opened, Value.int m_chosenMany, Value.int m_begun])) : Nat × va_E)) : gx_Met l y_Mo_done [Cond.code y_Mo_done b_Mo_done 6 (some .int)] { frames := 1, cells := 0, slots := 0, locals := 12 } (gx_P z sz D classes tys ws [Value.ref q46, Value.int p1, Value.int 124]) (gx_Q D classes tys (va_A ws sz) (gm_p (fun r h' => (r = Sum.inl (some (Value.int p1)) ∧ gm_g h h' [46] ∧ h' 46 = some ((q46, Sum.inr (8, [Value.int 0, Value.int 0, Value.ref q47, Value.ref q48, Value.ref q49, Value.int m_docs, Value.ref q50, Value.ref q51, Value.ref q52, Value.ref q53, Value.int m_filesThere, Value.int m_files, Value.int m_actions, Value.int m_power, Value.int m_lost, Value.ref q54, Value.ref q62, Value.ref q70, Value.int m_open, Value.int m_isPrepared, Value.int m_generation, Value.ref q78, Value.ref q79, Value.int m_buffered, Value.int m_limit, Value.int m_factor, um, Value.ref q80, Value.ref q81, Value.ref q82, Value.int m_merges, Value.ref q83, Value.int m_opened, Value.int m_chosenMany, Value.int m_begun])) : Nat × va_E) ∧ (¬ 1 = m_error) ∧ (¬ 2 = m_error) ∧ (¬ 4 = m_error)) ∨ (r = Sum.inl (some (Value.int 0)) ∧ gm_g h h' [46] ∧ h' 46 = some ((q46, Sum.inr (8, [Value.int 0, Value.int 3, Value.ref q47, Value.ref q48, Value.ref q49, Value.int m_docs, Value.ref q50, Value.ref q51, Value.ref q52, Value.ref q53, Value.int m_filesThere, Value.int m_files, Value.int m_actions, Value.int m_power, Value.int m_lost, Value.ref q54, Value.ref q62, Value.ref q70, Value.int m_open, Value.int m_isPrepared, Value.int m_generation, Value.ref q78, Value.ref q79, Value.int m_buffered, Value.int m_limit, Value.int m_factor, um, Value.ref q80, Value.ref q81, Value.ref q82, Value.int m_merges, Value.ref q83, Value.int m_opened, Value.int m_chosenMany, Value.int m_begun])) : Nat × va_E) ∧ (¬ 1 = m_error) ∧ (¬ 2 = m_error) ∧ (4 = m_error)) ∨ (r = Sum.inl (some (Value.int 0)) ∧ gm_g h h' [46] ∧ h' 46 = some ((q46, Sum.inr (8, [Value.int 0, Value.int 2, Value.ref q47, Value.ref q48, Value.ref q49, Value.int m_docs, Value.ref q50, Value.ref q51, Value.ref q52, Value.ref q53, Value.int m_filesThere, Value.int m_files, Value.int m_actions, Value.int m_power, Value.int m_lost, Value.ref q54, Value.ref q62, Value.ref q70, Value.int m_open, Value.int m_isPrepared, Value.int m_generation, Value.ref q78, Value.ref q79, Value.int m_buffered, Value.int m_limit, Value.int m_factor, um, Value.ref q80, Value.ref q81, Value.ref q82, Value.int m_merges, Value.ref q83, Value.int m_opened, Value.int m_chosenMany, Value.int m_begun])) : Nat × va_E) ∧ (¬ 1 = m_error) ∧ (2 = m_error)) ∨ (r = Sum.inl (some (Value.int 0)) ∧ gm_g h h' [46] ∧ h' 46 = some ((q46, Sum.inr (8, [Value.int 0, Value.int 1, Value.ref q47, Value.ref q48, Value.ref q49, Value.int m_docs, Value.ref q50, Value.ref q51, Value.ref q52, Value.ref q53, Value.int m_filesThere, Value.int m_files, Value.int m_actions, Value.int m_power, Value.int m_lost, Value.ref q54, Value.ref q62, Value.ref q70, Value.int m_open, Value.int m_isPrepared, Value.int m_generation, Value.ref q78, Value.ref q79, Value.int m_buffered, Value.int m_limit, Value.int m_factor, um, Value.ref q80, Value.ref q81, Value.ref q82, Value.int m_merges, Value.ref q83, Value.int m_opened, Value.int m_chosenMany, Value.int m_begun])) : Nat × va_E) ∧ (1 = m_error))))) 0 0 (va_A ws sz) := by
  refine gx_ofW (cc := b_Mo_done) (maxL := 6) (ret := (some .int)) (by decide) rfl ?_
  intro p e s m args below meth c s₁ B hml hv
  obtain ⟨rfl, hsz, hz, hP, hK, hD0, hY⟩ := hv
  have hx := B.exec
  have hb := B.bytes
  have hr := B.returns
  have hts := hY.hts (#[Value.ref q46, Value.int p1, Value.int 124] : Array Value)
  have hown : s.vm.findClass "CommitLedgerModel" = some m.cls := findClass_of_methodNamed B.named
  have hlocks := B.notSynchronized
  have hne : c.exceptionTable.isEmpty = true := B.noHandlers (atoms_spec (ws := [Cond.code y_Mo_done b_Mo_done 6 (some .int)]) B.pre _ List.mem_cons_self)
  subst hsz
  have hAz := gx_az hD0 hz
  have hD := hD0.self (sz := s.heap.size)
  have hN := gx_ns hP
  have hA : ∀ q : Nat, s.heap.size ≤ q → va_A ws s.heap.size q := fun q h => Or.inr h
  generalize va_A ws s.heap.size = A at hD hN hA hAz ⊢
  generalize hPQ : (fun (r : Option Value ⊕ String) (h' : gm_M) => (r = Sum.inl (some (Value.int p1)) ∧ gm_g h h' [46] ∧ h' 46 = some ((q46, Sum.inr (8, [Value.int 0, Value.int 0, Value.ref q47, Value.ref q48, Value.ref q49, Value.int m_docs, Value.ref q50, Value.ref q51, Value.ref q52, Value.ref q53, Value.int m_filesThere, Value.int m_files, Value.int m_actions, Value.int m_power, Value.int m_lost, Value.ref q54, Value.ref q62, Value.ref q70, Value.int m_open, Value.int m_isPrepared, Value.int m_generation, Value.ref q78, Value.ref q79, Value.int m_buffered, Value.int m_limit, Value.int m_factor, um, Value.ref q80, Value.ref q81, Value.ref q82, Value.int m_merges, Value.ref q83, Value.int m_opened, Value.int m_chosenMany, Value.int m_begun])) : Nat × va_E) ∧ (¬ 1 = m_error) ∧ (¬ 2 = m_error) ∧ (¬ 4 = m_error)) ∨ (r = Sum.inl (some (Value.int 0)) ∧ gm_g h h' [46] ∧ h' 46 = some ((q46, Sum.inr (8, [Value.int 0, Value.int 3, Value.ref q47, Value.ref q48, Value.ref q49, Value.int m_docs, Value.ref q50, Value.ref q51, Value.ref q52, Value.ref q53, Value.int m_filesThere, Value.int m_files, Value.int m_actions, Value.int m_power, Value.int m_lost, Value.ref q54, Value.ref q62, Value.ref q70, Value.int m_open, Value.int m_isPrepared, Value.int m_generation, Value.ref q78, Value.ref q79, Value.int m_buffered, Value.int m_limit, Value.int m_factor, um, Value.ref q80, Value.ref q81, Value.ref q82, Value.int m_merges, Value.ref q83, Value.int m_opened, Value.int m_chosenMany, Value.int m_begun])) : Nat × va_E) ∧ (¬ 1 = m_error) ∧ (¬ 2 = m_error) ∧ (4 = m_error)) ∨ (r = Sum.inl (some (Value.int 0)) ∧ gm_g h h' [46] ∧ h' 46 = some ((q46, Sum.inr (8, [Value.int 0, Value.int 2, Value.ref q47, Value.ref q48, Value.ref q49, Value.int m_docs, Value.ref q50, Value.ref q51, Value.ref q52, Value.ref q53, Value.int m_filesThere, Value.int m_files, Value.int m_actions, Value.int m_power, Value.int m_lost, Value.ref q54, Value.ref q62, Value.ref q70, Value.int m_open, Value.int m_isPrepared, Value.int m_generation, Value.ref q78, Value.ref q79, Value.int m_buffered, Value.int m_limit, Value.int m_factor, um, Value.ref q80, Value.ref q81, Value.ref q82, Value.int m_merges, Value.ref q83, Value.int m_opened, Value.int m_chosenMany, Value.int m_begun])) : Nat × va_E) ∧ (¬ 1 = m_error) ∧ (2 = m_error)) ∨ (r = Sum.inl (some (Value.int 0)) ∧ gm_g h h' [46] ∧ h' 46 = some ((q46, Sum.inr (8, [Value.int 0, Value.int 1, Value.ref q47, Value.ref q48, Value.ref q49, Value.int m_docs, Value.ref q50, Value.ref q51, Value.ref q52, Value.ref q53, Value.int m_filesThere, Value.int m_files, Value.int m_actions, Value.int m_power, Value.int m_lost, Value.ref q54, Value.ref q62, Value.ref q70, Value.int m_open, Value.int m_isPrepared, Value.int m_generation, Value.ref q78, Value.ref q79, Value.int m_buffered, Value.int m_limit, Value.int m_factor, um, Value.ref q80, Value.ref q81, Value.ref q82, Value.int m_merges, Value.ref q83, Value.int m_opened, Value.int m_chosenMany, Value.int m_begun])) : Nat × va_E) ∧ (1 = m_error))) = PQ
  have Z : gz D A s.heap h s.heap [] := ⟨ws, hM, hP, hD, va_S.rf⟩
  clear hP hD hM hD0
  have hU : gm_g h h [46] := gm_g.rf
  have hl := lv_entry ([Value.ref q46, Value.int p1, Value.int 124]) (n := 6) (Nat.le_of_ble_eq_true rfl)
  rw [lg_entry_eq]
  generalize (lg_sl ([Value.ref q46, Value.int p1, Value.int 124]) ++ List.replicate (6 - (lg_sl ([Value.ref q46, Value.int p1, Value.int 124])).length) Slot.unset).toArray = ls at hl ⊢
  have hl : lv_has ls 6 [(0, Value.ref q46), (1, Value.int p1), (2, Value.int 124)] := hl
  refine lv_aload_n hx hb d_Mo_done_0 rfl (lv_at hl 0 rfl) ?_
  refine lv_iconst (v := 0) hx hb d_Mo_done_1 (by decide) ?_
  refine gz_put (ci := 8) (v := Value.int 0) (ty := .int) (C := "CommitLedgerModel") (T := F_Mo) (N := 35) hx hb hts i_Mo t_Mo_ok n_Mo hown hK Z f_46 rfl 1 (by decide) kf_Mo_80 rfl (by decide +kernel) rfl rfl (Nat.le_of_ble_eq_true rfl) d_Mo_done_2 (fun H locs Z => ?_)
  obtain ⟨h1, e_h1⟩ : ∃ z9 : gm_M, z9 = gm_up h 46 ((q46, Sum.inr (8, [Value.int m_error, Value.int 0, Value.ref q47, Value.ref q48, Value.ref q49, Value.int m_docs, Value.ref q50, Value.ref q51, Value.ref q52, Value.ref q53, Value.int m_filesThere, Value.int m_files, Value.int m_actions, Value.int m_power, Value.int m_lost, Value.ref q54, Value.ref q62, Value.ref q70, Value.int m_open, Value.int m_isPrepared, Value.int m_generation, Value.ref q78, Value.ref q79, Value.int m_buffered, Value.int m_limit, Value.int m_factor, um, Value.ref q80, Value.ref q81, Value.ref q82, Value.int m_merges, Value.ref q83, Value.int m_opened, Value.int m_chosenMany, Value.int m_begun])) : Nat × va_E) := ⟨_, rfl⟩
  replace Z : gz D A s.heap h1 H locs := by rw [e_h1]; exact Z
  have f_46_h1 : h1 46 = some ((q46, Sum.inr (8, [Value.int m_error, Value.int 0, Value.ref q47, Value.ref q48, Value.ref q49, Value.int m_docs, Value.ref q50, Value.ref q51, Value.ref q52, Value.ref q53, Value.int m_filesThere, Value.int m_files, Value.int m_actions, Value.int m_power, Value.int m_lost, Value.ref q54, Value.ref q62, Value.ref q70, Value.int m_open, Value.int m_isPrepared, Value.int m_generation, Value.ref q78, Value.ref q79, Value.int m_buffered, Value.int m_limit, Value.int m_factor, um, Value.ref q80, Value.ref q81, Value.ref q82, Value.int m_merges, Value.ref q83, Value.int m_opened, Value.int m_chosenMany, Value.int m_begun])) : Nat × va_E) := by rw [e_h1]; exact gm_self
  replace hU : gm_g h h1 [46] := by rw [e_h1]; exact hU.put (by simp)
  refine lv_iconst (v := 0) hx hb d_Mo_done_5 (by decide) ?_
  refine lv_istore_n (lv' := [(3, Value.int 0), (0, Value.ref q46), (1, Value.int p1), (2, Value.int 124)]) hx hb d_Mo_done_6 rfl hl (by decide) rfl (fun ls hl => ?_)
  refine lv_ldc (v := 100000) hx hb hown (hts _ ki_Mo_83) d_Mo_done_7 ?_
  refine lv_istore (lv' := [(4, Value.int 100000), (3, Value.int 0), (0, Value.ref q46), (1, Value.int p1), (2, Value.int 124)]) hx hb d_Mo_done_9 hl (by decide) rfl (fun ls hl => ?_)
  refine lv_iload hx hb d_Mo_done_11 (lv_at hl 0 rfl) ?_
  refine lv_if_le (tgt := 60) hx hb d_Mo_done_13 (by decide) (fun c9 => absurd c9 (by decide)) (fun _ => ?_)
  refine lv_iload_n hx hb d_Mo_done_16 rfl (lv_at hl 4 rfl) ?_
  refine lv_iload hx hb d_Mo_done_17 (lv_at hl 0 rfl) ?_
  refine lv_idiv hx hb d_Mo_done_19 (by decide) ?_
  refine gx_topi (y := 0) (by decide) ?_
  refine lv_bipush (v := 10) hx hb d_Mo_done_20 (by decide) ?_
  refine lv_irem hx hb d_Mo_done_22 (by decide) ?_
  refine gx_topi (y := 0) (by decide) ?_
  refine lv_istore (lv' := [(5, Value.int 0), (4, Value.int 100000), (3, Value.int 0), (0, Value.ref q46), (1, Value.int p1), (2, Value.int 124)]) hx hb d_Mo_done_23 hl (by decide) rfl (fun ls hl => ?_)
  refine lv_iload hx hb d_Mo_done_25 (lv_at hl 0 rfl) ?_
  refine lv_if_ne (tgt := 33) hx hb d_Mo_done_27 (by decide) (fun c9 => absurd (by decide) c9) (fun _ => ?_)
  refine lv_goto (tgt := 50) hx hb d_Mo_done_30 (by decide) ?_
  refine lv_iload hx hb d_Mo_done_50 (lv_at hl 1 rfl) ?_
  refine lv_bipush (v := 10) hx hb d_Mo_done_52 (by decide) ?_
  refine lv_idiv hx hb d_Mo_done_54 (by decide) ?_
  refine gx_topi (y := 10000) (by decide) ?_
  refine lv_istore (lv' := [(4, Value.int 10000), (5, Value.int 0), (3, Value.int 0), (0, Value.ref q46), (1, Value.int p1), (2, Value.int 124)]) hx hb d_Mo_done_55 hl (by decide) rfl (fun ls hl => ?_)
  refine lv_goto (tgt := 11) hx hb d_Mo_done_57 (by decide) ?_
  refine lv_iload hx hb d_Mo_done_11 (lv_at hl 0 rfl) ?_
  refine lv_if_le (tgt := 60) hx hb d_Mo_done_13 (by decide) (fun c9 => absurd c9 (by decide)) (fun _ => ?_)
  refine lv_iload_n hx hb d_Mo_done_16 rfl (lv_at hl 5 rfl) ?_
  refine lv_iload hx hb d_Mo_done_17 (lv_at hl 0 rfl) ?_
  refine lv_idiv hx hb d_Mo_done_19 (by decide) ?_
  refine gx_topi (y := 0) (by decide) ?_
  refine lv_bipush (v := 10) hx hb d_Mo_done_20 (by decide) ?_
  refine lv_irem hx hb d_Mo_done_22 (by decide) ?_
  refine gx_topi (y := 0) (by decide) ?_
  refine lv_istore (lv' := [(5, Value.int 0), (4, Value.int 10000), (3, Value.int 0), (0, Value.ref q46), (1, Value.int p1), (2, Value.int 124)]) hx hb d_Mo_done_23 hl (by decide) rfl (fun ls hl => ?_)
  refine lv_iload hx hb d_Mo_done_25 (lv_at hl 0 rfl) ?_
  refine lv_if_ne (tgt := 33) hx hb d_Mo_done_27 (by decide) (fun c9 => absurd (by decide) c9) (fun _ => ?_)
  refine lv_goto (tgt := 50) hx hb d_Mo_done_30 (by decide) ?_
  refine lv_iload hx hb d_Mo_done_50 (lv_at hl 1 rfl) ?_
  refine lv_bipush (v := 10) hx hb d_Mo_done_52 (by decide) ?_
  refine lv_idiv hx hb d_Mo_done_54 (by decide) ?_
  refine gx_topi (y := 1000) (by decide) ?_
  refine lv_istore (lv' := [(4, Value.int 1000), (5, Value.int 0), (3, Value.int 0), (0, Value.ref q46), (1, Value.int p1), (2, Value.int 124)]) hx hb d_Mo_done_55 hl (by decide) rfl (fun ls hl => ?_)
  refine lv_goto (tgt := 11) hx hb d_Mo_done_57 (by decide) ?_
  refine lv_iload hx hb d_Mo_done_11 (lv_at hl 0 rfl) ?_
  refine lv_if_le (tgt := 60) hx hb d_Mo_done_13 (by decide) (fun c9 => absurd c9 (by decide)) (fun _ => ?_)
  refine lv_iload_n hx hb d_Mo_done_16 rfl (lv_at hl 5 rfl) ?_
  refine lv_iload hx hb d_Mo_done_17 (lv_at hl 0 rfl) ?_
  refine lv_idiv hx hb d_Mo_done_19 (by decide) ?_
  refine gx_topi (y := 0) (by decide) ?_
  refine lv_bipush (v := 10) hx hb d_Mo_done_20 (by decide) ?_
  refine lv_irem hx hb d_Mo_done_22 (by decide) ?_
  refine gx_topi (y := 0) (by decide) ?_
  refine lv_istore (lv' := [(5, Value.int 0), (4, Value.int 1000), (3, Value.int 0), (0, Value.ref q46), (1, Value.int p1), (2, Value.int 124)]) hx hb d_Mo_done_23 hl (by decide) rfl (fun ls hl => ?_)
  refine lv_iload hx hb d_Mo_done_25 (lv_at hl 0 rfl) ?_
  refine lv_if_ne (tgt := 33) hx hb d_Mo_done_27 (by decide) (fun c9 => absurd (by decide) c9) (fun _ => ?_)
  refine lv_goto (tgt := 50) hx hb d_Mo_done_30 (by decide) ?_
  refine lv_iload hx hb d_Mo_done_50 (lv_at hl 1 rfl) ?_
  refine lv_bipush (v := 10) hx hb d_Mo_done_52 (by decide) ?_
  refine lv_idiv hx hb d_Mo_done_54 (by decide) ?_
  refine gx_topi (y := 100) (by decide) ?_
  refine lv_istore (lv' := [(4, Value.int 100), (5, Value.int 0), (3, Value.int 0), (0, Value.ref q46), (1, Value.int p1), (2, Value.int 124)]) hx hb d_Mo_done_55 hl (by decide) rfl (fun ls hl => ?_)
  refine lv_goto (tgt := 11) hx hb d_Mo_done_57 (by decide) ?_
  refine lv_iload hx hb d_Mo_done_11 (lv_at hl 0 rfl) ?_
  refine lv_if_le (tgt := 60) hx hb d_Mo_done_13 (by decide) (fun c9 => absurd c9 (by decide)) (fun _ => ?_)
  refine lv_iload_n hx hb d_Mo_done_16 rfl (lv_at hl 5 rfl) ?_
  refine lv_iload hx hb d_Mo_done_17 (lv_at hl 0 rfl) ?_
  refine lv_idiv hx hb d_Mo_done_19 (by decide) ?_
  refine gx_topi (y := 1) (by decide) ?_
  refine lv_bipush (v := 10) hx hb d_Mo_done_20 (by decide) ?_
  refine lv_irem hx hb d_Mo_done_22 (by decide) ?_
  refine gx_topi (y := 1) (by decide) ?_
  refine lv_istore (lv' := [(5, Value.int 1), (4, Value.int 100), (3, Value.int 0), (0, Value.ref q46), (1, Value.int p1), (2, Value.int 124)]) hx hb d_Mo_done_23 hl (by decide) rfl (fun ls hl => ?_)
  refine lv_iload hx hb d_Mo_done_25 (lv_at hl 0 rfl) ?_
  refine lv_if_ne (tgt := 33) hx hb d_Mo_done_27 (by decide) (fun _ => ?_) (fun c9 => absurd c9 (by decide))
  refine lv_iinc (v := 1) (lv' := [(3, Value.int 1), (5, Value.int 1), (4, Value.int 100), (0, Value.ref q46), (1, Value.int p1), (2, Value.int 124)]) hx hb d_Mo_done_33 hl (k := 2) rfl (by decide) (by decide) rfl (fun ls hl => ?_)
  refine lv_iload hx hb d_Mo_done_36 (lv_at hl 1 rfl) ?_
  refine lv_aload_n hx hb d_Mo_done_38 rfl (lv_at hl 3 rfl) ?_
  refine gz_get (ci := 8) (v := Value.int m_error) (C := "CommitLedgerModel") (T := F_Mo) (N := 35) hx hb hts i_Mo hown hK Z f_46_h1 rfl 0 (by decide) kf_Mo_84 rfl d_Mo_done_39 ?_
  refine lv_icmp_ne (tgt := 50) hx hb d_Mo_done_42 (by decide) (fun c42_2 => ?_) (fun c42_2 => ?_)
  · refine lv_iload hx hb d_Mo_done_50 (lv_at hl 2 rfl) ?_
    refine lv_bipush (v := 10) hx hb d_Mo_done_52 (by decide) ?_
    refine lv_idiv hx hb d_Mo_done_54 (by decide) ?_
    refine gx_topi (y := 10) (by decide) ?_
    refine lv_istore (lv' := [(4, Value.int 10), (3, Value.int 1), (5, Value.int 1), (0, Value.ref q46), (1, Value.int p1), (2, Value.int 124)]) hx hb d_Mo_done_55 hl (by decide) rfl (fun ls hl => ?_)
    refine lv_goto (tgt := 11) hx hb d_Mo_done_57 (by decide) ?_
    refine lv_iload hx hb d_Mo_done_11 (lv_at hl 0 rfl) ?_
    refine lv_if_le (tgt := 60) hx hb d_Mo_done_13 (by decide) (fun c9 => absurd c9 (by decide)) (fun _ => ?_)
    refine lv_iload_n hx hb d_Mo_done_16 rfl (lv_at hl 5 rfl) ?_
    refine lv_iload hx hb d_Mo_done_17 (lv_at hl 0 rfl) ?_
    refine lv_idiv hx hb d_Mo_done_19 (by decide) ?_
    refine gx_topi (y := 12) (by decide) ?_
    refine lv_bipush (v := 10) hx hb d_Mo_done_20 (by decide) ?_
    refine lv_irem hx hb d_Mo_done_22 (by decide) ?_
    refine gx_topi (y := 2) (by decide) ?_
    refine lv_istore (lv' := [(5, Value.int 2), (4, Value.int 10), (3, Value.int 1), (0, Value.ref q46), (1, Value.int p1), (2, Value.int 124)]) hx hb d_Mo_done_23 hl (by decide) rfl (fun ls hl => ?_)
    refine lv_iload hx hb d_Mo_done_25 (lv_at hl 0 rfl) ?_
    refine lv_if_ne (tgt := 33) hx hb d_Mo_done_27 (by decide) (fun _ => ?_) (fun c9 => absurd c9 (by decide))
    refine lv_iinc (v := 2) (lv' := [(3, Value.int 2), (5, Value.int 2), (4, Value.int 10), (0, Value.ref q46), (1, Value.int p1), (2, Value.int 124)]) hx hb d_Mo_done_33 hl (k := 2) rfl (by decide) (by decide) rfl (fun ls hl => ?_)
    refine lv_iload hx hb d_Mo_done_36 (lv_at hl 1 rfl) ?_
    refine lv_aload_n hx hb d_Mo_done_38 rfl (lv_at hl 3 rfl) ?_
    refine gz_get (ci := 8) (v := Value.int m_error) (C := "CommitLedgerModel") (T := F_Mo) (N := 35) hx hb hts i_Mo hown hK Z f_46_h1 rfl 0 (by decide) kf_Mo_84 rfl d_Mo_done_39 ?_
    refine lv_icmp_ne (tgt := 50) hx hb d_Mo_done_42 (by decide) (fun c42_3 => ?_) (fun c42_3 => ?_)
    · refine lv_iload hx hb d_Mo_done_50 (lv_at hl 2 rfl) ?_
      refine lv_bipush (v := 10) hx hb d_Mo_done_52 (by decide) ?_
      refine lv_idiv hx hb d_Mo_done_54 (by decide) ?_
      refine gx_topi (y := 1) (by decide) ?_
      refine lv_istore (lv' := [(4, Value.int 1), (3, Value.int 2), (5, Value.int 2), (0, Value.ref q46), (1, Value.int p1), (2, Value.int 124)]) hx hb d_Mo_done_55 hl (by decide) rfl (fun ls hl => ?_)
      refine lv_goto (tgt := 11) hx hb d_Mo_done_57 (by decide) ?_
      refine lv_iload hx hb d_Mo_done_11 (lv_at hl 0 rfl) ?_
      refine lv_if_le (tgt := 60) hx hb d_Mo_done_13 (by decide) (fun c9 => absurd c9 (by decide)) (fun _ => ?_)
      refine lv_iload_n hx hb d_Mo_done_16 rfl (lv_at hl 5 rfl) ?_
      refine lv_iload hx hb d_Mo_done_17 (lv_at hl 0 rfl) ?_
      refine lv_idiv hx hb d_Mo_done_19 (by decide) ?_
      refine gx_topi (y := 124) (by decide) ?_
      refine lv_bipush (v := 10) hx hb d_Mo_done_20 (by decide) ?_
      refine lv_irem hx hb d_Mo_done_22 (by decide) ?_
      refine gx_topi (y := 4) (by decide) ?_
      refine lv_istore (lv' := [(5, Value.int 4), (4, Value.int 1), (3, Value.int 2), (0, Value.ref q46), (1, Value.int p1), (2, Value.int 124)]) hx hb d_Mo_done_23 hl (by decide) rfl (fun ls hl => ?_)
      refine lv_iload hx hb d_Mo_done_25 (lv_at hl 0 rfl) ?_
      refine lv_if_ne (tgt := 33) hx hb d_Mo_done_27 (by decide) (fun _ => ?_) (fun c9 => absurd c9 (by decide))
      refine lv_iinc (v := 3) (lv' := [(3, Value.int 3), (5, Value.int 4), (4, Value.int 1), (0, Value.ref q46), (1, Value.int p1), (2, Value.int 124)]) hx hb d_Mo_done_33 hl (k := 2) rfl (by decide) (by decide) rfl (fun ls hl => ?_)
      refine lv_iload hx hb d_Mo_done_36 (lv_at hl 1 rfl) ?_
      refine lv_aload_n hx hb d_Mo_done_38 rfl (lv_at hl 3 rfl) ?_
      refine gz_get (ci := 8) (v := Value.int m_error) (C := "CommitLedgerModel") (T := F_Mo) (N := 35) hx hb hts i_Mo hown hK Z f_46_h1 rfl 0 (by decide) kf_Mo_84 rfl d_Mo_done_39 ?_
      refine lv_icmp_ne (tgt := 50) hx hb d_Mo_done_42 (by decide) (fun c42_4 => ?_) (fun c42_4 => ?_)
      · refine lv_iload hx hb d_Mo_done_50 (lv_at hl 2 rfl) ?_
        refine lv_bipush (v := 10) hx hb d_Mo_done_52 (by decide) ?_
        refine lv_idiv hx hb d_Mo_done_54 (by decide) ?_
        refine gx_topi (y := 0) (by decide) ?_
        refine lv_istore (lv' := [(4, Value.int 0), (3, Value.int 3), (5, Value.int 4), (0, Value.ref q46), (1, Value.int p1), (2, Value.int 124)]) hx hb d_Mo_done_55 hl (by decide) rfl (fun ls hl => ?_)
        refine lv_goto (tgt := 11) hx hb d_Mo_done_57 (by decide) ?_
        refine lv_iload hx hb d_Mo_done_11 (lv_at hl 0 rfl) ?_
        refine lv_if_le (tgt := 60) hx hb d_Mo_done_13 (by decide) (fun _ => ?_) (fun c9 => absurd (by decide) c9)
        refine lv_aload_n hx hb d_Mo_done_60 rfl (lv_at hl 3 rfl) ?_
        refine lv_iconst (v := 0) hx hb d_Mo_done_61 (by decide) ?_
        refine gz_put (ci := 8) (v := Value.int 0) (ty := .int) (C := "CommitLedgerModel") (T := F_Mo) (N := 35) hx hb hts i_Mo t_Mo_ok n_Mo hown hK Z f_46_h1 rfl 0 (by decide) kf_Mo_84 rfl (by decide +kernel) rfl rfl (Nat.le_of_ble_eq_true rfl) d_Mo_done_62 (fun H locs Z => ?_)
        obtain ⟨h5, e_h5⟩ : ∃ z9 : gm_M, z9 = gm_up h1 46 ((q46, Sum.inr (8, [Value.int 0, Value.int 0, Value.ref q47, Value.ref q48, Value.ref q49, Value.int m_docs, Value.ref q50, Value.ref q51, Value.ref q52, Value.ref q53, Value.int m_filesThere, Value.int m_files, Value.int m_actions, Value.int m_power, Value.int m_lost, Value.ref q54, Value.ref q62, Value.ref q70, Value.int m_open, Value.int m_isPrepared, Value.int m_generation, Value.ref q78, Value.ref q79, Value.int m_buffered, Value.int m_limit, Value.int m_factor, um, Value.ref q80, Value.ref q81, Value.ref q82, Value.int m_merges, Value.ref q83, Value.int m_opened, Value.int m_chosenMany, Value.int m_begun])) : Nat × va_E) := ⟨_, rfl⟩
        replace Z : gz D A s.heap h5 H locs := by rw [e_h5]; exact Z
        have f_46_h5 : h5 46 = some ((q46, Sum.inr (8, [Value.int 0, Value.int 0, Value.ref q47, Value.ref q48, Value.ref q49, Value.int m_docs, Value.ref q50, Value.ref q51, Value.ref q52, Value.ref q53, Value.int m_filesThere, Value.int m_files, Value.int m_actions, Value.int m_power, Value.int m_lost, Value.ref q54, Value.ref q62, Value.ref q70, Value.int m_open, Value.int m_isPrepared, Value.int m_generation, Value.ref q78, Value.ref q79, Value.int m_buffered, Value.int m_limit, Value.int m_factor, um, Value.ref q80, Value.ref q81, Value.ref q82, Value.int m_merges, Value.ref q83, Value.int m_opened, Value.int m_chosenMany, Value.int m_begun])) : Nat × va_E) := by rw [e_h5]; exact gm_self
        replace hU : gm_g h h5 [46] := by rw [e_h5]; exact hU.put (by simp)
        refine lv_aload_n hx hb d_Mo_done_65 rfl (lv_at hl 3 rfl) ?_
        refine gz_get (ci := 8) (v := Value.int 0) (C := "CommitLedgerModel") (T := F_Mo) (N := 35) hx hb hts i_Mo hown hK Z f_46_h5 rfl 1 (by decide) kf_Mo_80 rfl d_Mo_done_66 ?_
        refine lv_if_le (tgt := 76) hx hb d_Mo_done_69 (by decide) (fun _ => ?_) (fun c9 => absurd (by decide) c9)
        refine lv_iload_n hx hb d_Mo_done_76 rfl (lv_at hl 4 rfl) ?_
        exact gz_iret (v := p1) hx hb hr hlocks hK Z (by decide) (by decide) (by rw [← hPQ]; exact Or.inl ⟨rfl, hU, f_46_h5, c42_2, c42_3, c42_4⟩) d_Mo_done_77
      · refine lv_aload_n hx hb d_Mo_done_45 rfl (lv_at hl 3 rfl) ?_
        refine lv_iload_n hx hb d_Mo_done_46 rfl (lv_at hl 0 rfl) ?_
        refine gz_put (ci := 8) (v := Value.int 3) (ty := .int) (C := "CommitLedgerModel") (T := F_Mo) (N := 35) hx hb hts i_Mo t_Mo_ok n_Mo hown hK Z f_46_h1 rfl 1 (by decide) kf_Mo_80 rfl (by decide +kernel) rfl rfl (Nat.le_of_ble_eq_true rfl) d_Mo_done_47 (fun H locs Z => ?_)
        obtain ⟨h6, e_h6⟩ : ∃ z9 : gm_M, z9 = gm_up h1 46 ((q46, Sum.inr (8, [Value.int m_error, Value.int 3, Value.ref q47, Value.ref q48, Value.ref q49, Value.int m_docs, Value.ref q50, Value.ref q51, Value.ref q52, Value.ref q53, Value.int m_filesThere, Value.int m_files, Value.int m_actions, Value.int m_power, Value.int m_lost, Value.ref q54, Value.ref q62, Value.ref q70, Value.int m_open, Value.int m_isPrepared, Value.int m_generation, Value.ref q78, Value.ref q79, Value.int m_buffered, Value.int m_limit, Value.int m_factor, um, Value.ref q80, Value.ref q81, Value.ref q82, Value.int m_merges, Value.ref q83, Value.int m_opened, Value.int m_chosenMany, Value.int m_begun])) : Nat × va_E) := ⟨_, rfl⟩
        replace Z : gz D A s.heap h6 H locs := by rw [e_h6]; exact Z
        have f_46_h6 : h6 46 = some ((q46, Sum.inr (8, [Value.int m_error, Value.int 3, Value.ref q47, Value.ref q48, Value.ref q49, Value.int m_docs, Value.ref q50, Value.ref q51, Value.ref q52, Value.ref q53, Value.int m_filesThere, Value.int m_files, Value.int m_actions, Value.int m_power, Value.int m_lost, Value.ref q54, Value.ref q62, Value.ref q70, Value.int m_open, Value.int m_isPrepared, Value.int m_generation, Value.ref q78, Value.ref q79, Value.int m_buffered, Value.int m_limit, Value.int m_factor, um, Value.ref q80, Value.ref q81, Value.ref q82, Value.int m_merges, Value.ref q83, Value.int m_opened, Value.int m_chosenMany, Value.int m_begun])) : Nat × va_E) := by rw [e_h6]; exact gm_self
        replace hU : gm_g h h6 [46] := by rw [e_h6]; exact hU.put (by simp)
        refine lv_iload hx hb d_Mo_done_50 (lv_at hl 2 rfl) ?_
        refine lv_bipush (v := 10) hx hb d_Mo_done_52 (by decide) ?_
        refine lv_idiv hx hb d_Mo_done_54 (by decide) ?_
        refine gx_topi (y := 0) (by decide) ?_
        refine lv_istore (lv' := [(4, Value.int 0), (3, Value.int 3), (5, Value.int 4), (0, Value.ref q46), (1, Value.int p1), (2, Value.int 124)]) hx hb d_Mo_done_55 hl (by decide) rfl (fun ls hl => ?_)
        refine lv_goto (tgt := 11) hx hb d_Mo_done_57 (by decide) ?_
        refine lv_iload hx hb d_Mo_done_11 (lv_at hl 0 rfl) ?_
        refine lv_if_le (tgt := 60) hx hb d_Mo_done_13 (by decide) (fun _ => ?_) (fun c9 => absurd (by decide) c9)
        refine lv_aload_n hx hb d_Mo_done_60 rfl (lv_at hl 3 rfl) ?_
        refine lv_iconst (v := 0) hx hb d_Mo_done_61 (by decide) ?_
        refine gz_put (ci := 8) (v := Value.int 0) (ty := .int) (C := "CommitLedgerModel") (T := F_Mo) (N := 35) hx hb hts i_Mo t_Mo_ok n_Mo hown hK Z f_46_h6 rfl 0 (by decide) kf_Mo_84 rfl (by decide +kernel) rfl rfl (Nat.le_of_ble_eq_true rfl) d_Mo_done_62 (fun H locs Z => ?_)
        obtain ⟨h7, e_h7⟩ : ∃ z9 : gm_M, z9 = gm_up h6 46 ((q46, Sum.inr (8, [Value.int 0, Value.int 3, Value.ref q47, Value.ref q48, Value.ref q49, Value.int m_docs, Value.ref q50, Value.ref q51, Value.ref q52, Value.ref q53, Value.int m_filesThere, Value.int m_files, Value.int m_actions, Value.int m_power, Value.int m_lost, Value.ref q54, Value.ref q62, Value.ref q70, Value.int m_open, Value.int m_isPrepared, Value.int m_generation, Value.ref q78, Value.ref q79, Value.int m_buffered, Value.int m_limit, Value.int m_factor, um, Value.ref q80, Value.ref q81, Value.ref q82, Value.int m_merges, Value.ref q83, Value.int m_opened, Value.int m_chosenMany, Value.int m_begun])) : Nat × va_E) := ⟨_, rfl⟩
        replace Z : gz D A s.heap h7 H locs := by rw [e_h7]; exact Z
        have f_46_h7 : h7 46 = some ((q46, Sum.inr (8, [Value.int 0, Value.int 3, Value.ref q47, Value.ref q48, Value.ref q49, Value.int m_docs, Value.ref q50, Value.ref q51, Value.ref q52, Value.ref q53, Value.int m_filesThere, Value.int m_files, Value.int m_actions, Value.int m_power, Value.int m_lost, Value.ref q54, Value.ref q62, Value.ref q70, Value.int m_open, Value.int m_isPrepared, Value.int m_generation, Value.ref q78, Value.ref q79, Value.int m_buffered, Value.int m_limit, Value.int m_factor, um, Value.ref q80, Value.ref q81, Value.ref q82, Value.int m_merges, Value.ref q83, Value.int m_opened, Value.int m_chosenMany, Value.int m_begun])) : Nat × va_E) := by rw [e_h7]; exact gm_self
        replace hU : gm_g h h7 [46] := by rw [e_h7]; exact hU.put (by simp)
        refine lv_aload_n hx hb d_Mo_done_65 rfl (lv_at hl 3 rfl) ?_
        refine gz_get (ci := 8) (v := Value.int 3) (C := "CommitLedgerModel") (T := F_Mo) (N := 35) hx hb hts i_Mo hown hK Z f_46_h7 rfl 1 (by decide) kf_Mo_80 rfl d_Mo_done_66 ?_
        refine lv_if_le (tgt := 76) hx hb d_Mo_done_69 (by decide) (fun c9 => absurd c9 (by decide)) (fun _ => ?_)
        refine lv_iconst (v := 0) hx hb d_Mo_done_72 (by decide) ?_
        refine lv_goto (tgt := 77) hx hb d_Mo_done_73 (by decide) ?_
        exact gz_iret (v := 0) hx hb hr hlocks hK Z (by decide) (by decide) (by rw [← hPQ]; exact Or.inr (Or.inl ⟨rfl, hU, f_46_h7, c42_2, c42_3, c42_4⟩)) d_Mo_done_77
    · refine lv_aload_n hx hb d_Mo_done_45 rfl (lv_at hl 3 rfl) ?_
      refine lv_iload_n hx hb d_Mo_done_46 rfl (lv_at hl 0 rfl) ?_
      refine gz_put (ci := 8) (v := Value.int 2) (ty := .int) (C := "CommitLedgerModel") (T := F_Mo) (N := 35) hx hb hts i_Mo t_Mo_ok n_Mo hown hK Z f_46_h1 rfl 1 (by decide) kf_Mo_80 rfl (by decide +kernel) rfl rfl (Nat.le_of_ble_eq_true rfl) d_Mo_done_47 (fun H locs Z => ?_)
      obtain ⟨h8, e_h8⟩ : ∃ z9 : gm_M, z9 = gm_up h1 46 ((q46, Sum.inr (8, [Value.int m_error, Value.int 2, Value.ref q47, Value.ref q48, Value.ref q49, Value.int m_docs, Value.ref q50, Value.ref q51, Value.ref q52, Value.ref q53, Value.int m_filesThere, Value.int m_files, Value.int m_actions, Value.int m_power, Value.int m_lost, Value.ref q54, Value.ref q62, Value.ref q70, Value.int m_open, Value.int m_isPrepared, Value.int m_generation, Value.ref q78, Value.ref q79, Value.int m_buffered, Value.int m_limit, Value.int m_factor, um, Value.ref q80, Value.ref q81, Value.ref q82, Value.int m_merges, Value.ref q83, Value.int m_opened, Value.int m_chosenMany, Value.int m_begun])) : Nat × va_E) := ⟨_, rfl⟩
      replace Z : gz D A s.heap h8 H locs := by rw [e_h8]; exact Z
      have f_46_h8 : h8 46 = some ((q46, Sum.inr (8, [Value.int m_error, Value.int 2, Value.ref q47, Value.ref q48, Value.ref q49, Value.int m_docs, Value.ref q50, Value.ref q51, Value.ref q52, Value.ref q53, Value.int m_filesThere, Value.int m_files, Value.int m_actions, Value.int m_power, Value.int m_lost, Value.ref q54, Value.ref q62, Value.ref q70, Value.int m_open, Value.int m_isPrepared, Value.int m_generation, Value.ref q78, Value.ref q79, Value.int m_buffered, Value.int m_limit, Value.int m_factor, um, Value.ref q80, Value.ref q81, Value.ref q82, Value.int m_merges, Value.ref q83, Value.int m_opened, Value.int m_chosenMany, Value.int m_begun])) : Nat × va_E) := by rw [e_h8]; exact gm_self
      replace hU : gm_g h h8 [46] := by rw [e_h8]; exact hU.put (by simp)
      refine lv_iload hx hb d_Mo_done_50 (lv_at hl 2 rfl) ?_
      refine lv_bipush (v := 10) hx hb d_Mo_done_52 (by decide) ?_
      refine lv_idiv hx hb d_Mo_done_54 (by decide) ?_
      refine gx_topi (y := 1) (by decide) ?_
      refine lv_istore (lv' := [(4, Value.int 1), (3, Value.int 2), (5, Value.int 2), (0, Value.ref q46), (1, Value.int p1), (2, Value.int 124)]) hx hb d_Mo_done_55 hl (by decide) rfl (fun ls hl => ?_)
      refine lv_goto (tgt := 11) hx hb d_Mo_done_57 (by decide) ?_
      refine lv_iload hx hb d_Mo_done_11 (lv_at hl 0 rfl) ?_
      refine lv_if_le (tgt := 60) hx hb d_Mo_done_13 (by decide) (fun c9 => absurd c9 (by decide)) (fun _ => ?_)
      refine lv_iload_n hx hb d_Mo_done_16 rfl (lv_at hl 5 rfl) ?_
      refine lv_iload hx hb d_Mo_done_17 (lv_at hl 0 rfl) ?_
      refine lv_idiv hx hb d_Mo_done_19 (by decide) ?_
      refine gx_topi (y := 124) (by decide) ?_
      refine lv_bipush (v := 10) hx hb d_Mo_done_20 (by decide) ?_
      refine lv_irem hx hb d_Mo_done_22 (by decide) ?_
      refine gx_topi (y := 4) (by decide) ?_
      refine lv_istore (lv' := [(5, Value.int 4), (4, Value.int 1), (3, Value.int 2), (0, Value.ref q46), (1, Value.int p1), (2, Value.int 124)]) hx hb d_Mo_done_23 hl (by decide) rfl (fun ls hl => ?_)
      refine lv_iload hx hb d_Mo_done_25 (lv_at hl 0 rfl) ?_
      refine lv_if_ne (tgt := 33) hx hb d_Mo_done_27 (by decide) (fun _ => ?_) (fun c9 => absurd c9 (by decide))
      refine lv_iinc (v := 3) (lv' := [(3, Value.int 3), (5, Value.int 4), (4, Value.int 1), (0, Value.ref q46), (1, Value.int p1), (2, Value.int 124)]) hx hb d_Mo_done_33 hl (k := 2) rfl (by decide) (by decide) rfl (fun ls hl => ?_)
      refine lv_iload hx hb d_Mo_done_36 (lv_at hl 1 rfl) ?_
      refine lv_aload_n hx hb d_Mo_done_38 rfl (lv_at hl 3 rfl) ?_
      refine gz_get (ci := 8) (v := Value.int m_error) (C := "CommitLedgerModel") (T := F_Mo) (N := 35) hx hb hts i_Mo hown hK Z f_46_h8 rfl 0 (by decide) kf_Mo_84 rfl d_Mo_done_39 ?_
      refine lv_icmp_ne (tgt := 50) hx hb d_Mo_done_42 (by decide) (fun _ => ?_) (fun c9 => absurd c9 (fun e9 => absurd (c42_3.trans e9.symm) (by decide)))
      refine lv_iload hx hb d_Mo_done_50 (lv_at hl 2 rfl) ?_
      refine lv_bipush (v := 10) hx hb d_Mo_done_52 (by decide) ?_
      refine lv_idiv hx hb d_Mo_done_54 (by decide) ?_
      refine gx_topi (y := 0) (by decide) ?_
      refine lv_istore (lv' := [(4, Value.int 0), (3, Value.int 3), (5, Value.int 4), (0, Value.ref q46), (1, Value.int p1), (2, Value.int 124)]) hx hb d_Mo_done_55 hl (by decide) rfl (fun ls hl => ?_)
      refine lv_goto (tgt := 11) hx hb d_Mo_done_57 (by decide) ?_
      refine lv_iload hx hb d_Mo_done_11 (lv_at hl 0 rfl) ?_
      refine lv_if_le (tgt := 60) hx hb d_Mo_done_13 (by decide) (fun _ => ?_) (fun c9 => absurd (by decide) c9)
      refine lv_aload_n hx hb d_Mo_done_60 rfl (lv_at hl 3 rfl) ?_
      refine lv_iconst (v := 0) hx hb d_Mo_done_61 (by decide) ?_
      refine gz_put (ci := 8) (v := Value.int 0) (ty := .int) (C := "CommitLedgerModel") (T := F_Mo) (N := 35) hx hb hts i_Mo t_Mo_ok n_Mo hown hK Z f_46_h8 rfl 0 (by decide) kf_Mo_84 rfl (by decide +kernel) rfl rfl (Nat.le_of_ble_eq_true rfl) d_Mo_done_62 (fun H locs Z => ?_)
      obtain ⟨h10, e_h10⟩ : ∃ z9 : gm_M, z9 = gm_up h8 46 ((q46, Sum.inr (8, [Value.int 0, Value.int 2, Value.ref q47, Value.ref q48, Value.ref q49, Value.int m_docs, Value.ref q50, Value.ref q51, Value.ref q52, Value.ref q53, Value.int m_filesThere, Value.int m_files, Value.int m_actions, Value.int m_power, Value.int m_lost, Value.ref q54, Value.ref q62, Value.ref q70, Value.int m_open, Value.int m_isPrepared, Value.int m_generation, Value.ref q78, Value.ref q79, Value.int m_buffered, Value.int m_limit, Value.int m_factor, um, Value.ref q80, Value.ref q81, Value.ref q82, Value.int m_merges, Value.ref q83, Value.int m_opened, Value.int m_chosenMany, Value.int m_begun])) : Nat × va_E) := ⟨_, rfl⟩
      replace Z : gz D A s.heap h10 H locs := by rw [e_h10]; exact Z
      have f_46_h10 : h10 46 = some ((q46, Sum.inr (8, [Value.int 0, Value.int 2, Value.ref q47, Value.ref q48, Value.ref q49, Value.int m_docs, Value.ref q50, Value.ref q51, Value.ref q52, Value.ref q53, Value.int m_filesThere, Value.int m_files, Value.int m_actions, Value.int m_power, Value.int m_lost, Value.ref q54, Value.ref q62, Value.ref q70, Value.int m_open, Value.int m_isPrepared, Value.int m_generation, Value.ref q78, Value.ref q79, Value.int m_buffered, Value.int m_limit, Value.int m_factor, um, Value.ref q80, Value.ref q81, Value.ref q82, Value.int m_merges, Value.ref q83, Value.int m_opened, Value.int m_chosenMany, Value.int m_begun])) : Nat × va_E) := by rw [e_h10]; exact gm_self
      replace hU : gm_g h h10 [46] := by rw [e_h10]; exact hU.put (by simp)
      refine lv_aload_n hx hb d_Mo_done_65 rfl (lv_at hl 3 rfl) ?_
      refine gz_get (ci := 8) (v := Value.int 2) (C := "CommitLedgerModel") (T := F_Mo) (N := 35) hx hb hts i_Mo hown hK Z f_46_h10 rfl 1 (by decide) kf_Mo_80 rfl d_Mo_done_66 ?_
      refine lv_if_le (tgt := 76) hx hb d_Mo_done_69 (by decide) (fun c9 => absurd c9 (by decide)) (fun _ => ?_)
      refine lv_iconst (v := 0) hx hb d_Mo_done_72 (by decide) ?_
      refine lv_goto (tgt := 77) hx hb d_Mo_done_73 (by decide) ?_
      exact gz_iret (v := 0) hx hb hr hlocks hK Z (by decide) (by decide) (by rw [← hPQ]; exact Or.inr (Or.inr (Or.inl ⟨rfl, hU, f_46_h10, c42_2, c42_3⟩))) d_Mo_done_77
  · refine lv_aload_n hx hb d_Mo_done_45 rfl (lv_at hl 3 rfl) ?_
    refine lv_iload_n hx hb d_Mo_done_46 rfl (lv_at hl 0 rfl) ?_
    refine gz_put (ci := 8) (v := Value.int 1) (ty := .int) (C := "CommitLedgerModel") (T := F_Mo) (N := 35) hx hb hts i_Mo t_Mo_ok n_Mo hown hK Z f_46_h1 rfl 1 (by decide) kf_Mo_80 rfl (by decide +kernel) rfl rfl (Nat.le_of_ble_eq_true rfl) d_Mo_done_47 (fun H locs Z => ?_)
    obtain ⟨h11, e_h11⟩ : ∃ z9 : gm_M, z9 = gm_up h1 46 ((q46, Sum.inr (8, [Value.int m_error, Value.int 1, Value.ref q47, Value.ref q48, Value.ref q49, Value.int m_docs, Value.ref q50, Value.ref q51, Value.ref q52, Value.ref q53, Value.int m_filesThere, Value.int m_files, Value.int m_actions, Value.int m_power, Value.int m_lost, Value.ref q54, Value.ref q62, Value.ref q70, Value.int m_open, Value.int m_isPrepared, Value.int m_generation, Value.ref q78, Value.ref q79, Value.int m_buffered, Value.int m_limit, Value.int m_factor, um, Value.ref q80, Value.ref q81, Value.ref q82, Value.int m_merges, Value.ref q83, Value.int m_opened, Value.int m_chosenMany, Value.int m_begun])) : Nat × va_E) := ⟨_, rfl⟩
    replace Z : gz D A s.heap h11 H locs := by rw [e_h11]; exact Z
    have f_46_h11 : h11 46 = some ((q46, Sum.inr (8, [Value.int m_error, Value.int 1, Value.ref q47, Value.ref q48, Value.ref q49, Value.int m_docs, Value.ref q50, Value.ref q51, Value.ref q52, Value.ref q53, Value.int m_filesThere, Value.int m_files, Value.int m_actions, Value.int m_power, Value.int m_lost, Value.ref q54, Value.ref q62, Value.ref q70, Value.int m_open, Value.int m_isPrepared, Value.int m_generation, Value.ref q78, Value.ref q79, Value.int m_buffered, Value.int m_limit, Value.int m_factor, um, Value.ref q80, Value.ref q81, Value.ref q82, Value.int m_merges, Value.ref q83, Value.int m_opened, Value.int m_chosenMany, Value.int m_begun])) : Nat × va_E) := by rw [e_h11]; exact gm_self
    replace hU : gm_g h h11 [46] := by rw [e_h11]; exact hU.put (by simp)
    refine lv_iload hx hb d_Mo_done_50 (lv_at hl 2 rfl) ?_
    refine lv_bipush (v := 10) hx hb d_Mo_done_52 (by decide) ?_
    refine lv_idiv hx hb d_Mo_done_54 (by decide) ?_
    refine gx_topi (y := 10) (by decide) ?_
    refine lv_istore (lv' := [(4, Value.int 10), (3, Value.int 1), (5, Value.int 1), (0, Value.ref q46), (1, Value.int p1), (2, Value.int 124)]) hx hb d_Mo_done_55 hl (by decide) rfl (fun ls hl => ?_)
    refine lv_goto (tgt := 11) hx hb d_Mo_done_57 (by decide) ?_
    refine lv_iload hx hb d_Mo_done_11 (lv_at hl 0 rfl) ?_
    refine lv_if_le (tgt := 60) hx hb d_Mo_done_13 (by decide) (fun c9 => absurd c9 (by decide)) (fun _ => ?_)
    refine lv_iload_n hx hb d_Mo_done_16 rfl (lv_at hl 5 rfl) ?_
    refine lv_iload hx hb d_Mo_done_17 (lv_at hl 0 rfl) ?_
    refine lv_idiv hx hb d_Mo_done_19 (by decide) ?_
    refine gx_topi (y := 12) (by decide) ?_
    refine lv_bipush (v := 10) hx hb d_Mo_done_20 (by decide) ?_
    refine lv_irem hx hb d_Mo_done_22 (by decide) ?_
    refine gx_topi (y := 2) (by decide) ?_
    refine lv_istore (lv' := [(5, Value.int 2), (4, Value.int 10), (3, Value.int 1), (0, Value.ref q46), (1, Value.int p1), (2, Value.int 124)]) hx hb d_Mo_done_23 hl (by decide) rfl (fun ls hl => ?_)
    refine lv_iload hx hb d_Mo_done_25 (lv_at hl 0 rfl) ?_
    refine lv_if_ne (tgt := 33) hx hb d_Mo_done_27 (by decide) (fun _ => ?_) (fun c9 => absurd c9 (by decide))
    refine lv_iinc (v := 2) (lv' := [(3, Value.int 2), (5, Value.int 2), (4, Value.int 10), (0, Value.ref q46), (1, Value.int p1), (2, Value.int 124)]) hx hb d_Mo_done_33 hl (k := 2) rfl (by decide) (by decide) rfl (fun ls hl => ?_)
    refine lv_iload hx hb d_Mo_done_36 (lv_at hl 1 rfl) ?_
    refine lv_aload_n hx hb d_Mo_done_38 rfl (lv_at hl 3 rfl) ?_
    refine gz_get (ci := 8) (v := Value.int m_error) (C := "CommitLedgerModel") (T := F_Mo) (N := 35) hx hb hts i_Mo hown hK Z f_46_h11 rfl 0 (by decide) kf_Mo_84 rfl d_Mo_done_39 ?_
    refine lv_icmp_ne (tgt := 50) hx hb d_Mo_done_42 (by decide) (fun _ => ?_) (fun c9 => absurd c9 (fun e9 => absurd (c42_2.trans e9.symm) (by decide)))
    refine lv_iload hx hb d_Mo_done_50 (lv_at hl 2 rfl) ?_
    refine lv_bipush (v := 10) hx hb d_Mo_done_52 (by decide) ?_
    refine lv_idiv hx hb d_Mo_done_54 (by decide) ?_
    refine gx_topi (y := 1) (by decide) ?_
    refine lv_istore (lv' := [(4, Value.int 1), (3, Value.int 2), (5, Value.int 2), (0, Value.ref q46), (1, Value.int p1), (2, Value.int 124)]) hx hb d_Mo_done_55 hl (by decide) rfl (fun ls hl => ?_)
    refine lv_goto (tgt := 11) hx hb d_Mo_done_57 (by decide) ?_
    refine lv_iload hx hb d_Mo_done_11 (lv_at hl 0 rfl) ?_
    refine lv_if_le (tgt := 60) hx hb d_Mo_done_13 (by decide) (fun c9 => absurd c9 (by decide)) (fun _ => ?_)
    refine lv_iload_n hx hb d_Mo_done_16 rfl (lv_at hl 5 rfl) ?_
    refine lv_iload hx hb d_Mo_done_17 (lv_at hl 0 rfl) ?_
    refine lv_idiv hx hb d_Mo_done_19 (by decide) ?_
    refine gx_topi (y := 124) (by decide) ?_
    refine lv_bipush (v := 10) hx hb d_Mo_done_20 (by decide) ?_
    refine lv_irem hx hb d_Mo_done_22 (by decide) ?_
    refine gx_topi (y := 4) (by decide) ?_
    refine lv_istore (lv' := [(5, Value.int 4), (4, Value.int 1), (3, Value.int 2), (0, Value.ref q46), (1, Value.int p1), (2, Value.int 124)]) hx hb d_Mo_done_23 hl (by decide) rfl (fun ls hl => ?_)
    refine lv_iload hx hb d_Mo_done_25 (lv_at hl 0 rfl) ?_
    refine lv_if_ne (tgt := 33) hx hb d_Mo_done_27 (by decide) (fun _ => ?_) (fun c9 => absurd c9 (by decide))
    refine lv_iinc (v := 3) (lv' := [(3, Value.int 3), (5, Value.int 4), (4, Value.int 1), (0, Value.ref q46), (1, Value.int p1), (2, Value.int 124)]) hx hb d_Mo_done_33 hl (k := 2) rfl (by decide) (by decide) rfl (fun ls hl => ?_)
    refine lv_iload hx hb d_Mo_done_36 (lv_at hl 1 rfl) ?_
    refine lv_aload_n hx hb d_Mo_done_38 rfl (lv_at hl 3 rfl) ?_
    refine gz_get (ci := 8) (v := Value.int m_error) (C := "CommitLedgerModel") (T := F_Mo) (N := 35) hx hb hts i_Mo hown hK Z f_46_h11 rfl 0 (by decide) kf_Mo_84 rfl d_Mo_done_39 ?_
    refine lv_icmp_ne (tgt := 50) hx hb d_Mo_done_42 (by decide) (fun _ => ?_) (fun c9 => absurd c9 (fun e9 => absurd (c42_2.trans e9.symm) (by decide)))
    refine lv_iload hx hb d_Mo_done_50 (lv_at hl 2 rfl) ?_
    refine lv_bipush (v := 10) hx hb d_Mo_done_52 (by decide) ?_
    refine lv_idiv hx hb d_Mo_done_54 (by decide) ?_
    refine gx_topi (y := 0) (by decide) ?_
    refine lv_istore (lv' := [(4, Value.int 0), (3, Value.int 3), (5, Value.int 4), (0, Value.ref q46), (1, Value.int p1), (2, Value.int 124)]) hx hb d_Mo_done_55 hl (by decide) rfl (fun ls hl => ?_)
    refine lv_goto (tgt := 11) hx hb d_Mo_done_57 (by decide) ?_
    refine lv_iload hx hb d_Mo_done_11 (lv_at hl 0 rfl) ?_
    refine lv_if_le (tgt := 60) hx hb d_Mo_done_13 (by decide) (fun _ => ?_) (fun c9 => absurd (by decide) c9)
    refine lv_aload_n hx hb d_Mo_done_60 rfl (lv_at hl 3 rfl) ?_
    refine lv_iconst (v := 0) hx hb d_Mo_done_61 (by decide) ?_
    refine gz_put (ci := 8) (v := Value.int 0) (ty := .int) (C := "CommitLedgerModel") (T := F_Mo) (N := 35) hx hb hts i_Mo t_Mo_ok n_Mo hown hK Z f_46_h11 rfl 0 (by decide) kf_Mo_84 rfl (by decide +kernel) rfl rfl (Nat.le_of_ble_eq_true rfl) d_Mo_done_62 (fun H locs Z => ?_)
    obtain ⟨h14, e_h14⟩ : ∃ z9 : gm_M, z9 = gm_up h11 46 ((q46, Sum.inr (8, [Value.int 0, Value.int 1, Value.ref q47, Value.ref q48, Value.ref q49, Value.int m_docs, Value.ref q50, Value.ref q51, Value.ref q52, Value.ref q53, Value.int m_filesThere, Value.int m_files, Value.int m_actions, Value.int m_power, Value.int m_lost, Value.ref q54, Value.ref q62, Value.ref q70, Value.int m_open, Value.int m_isPrepared, Value.int m_generation, Value.ref q78, Value.ref q79, Value.int m_buffered, Value.int m_limit, Value.int m_factor, um, Value.ref q80, Value.ref q81, Value.ref q82, Value.int m_merges, Value.ref q83, Value.int m_opened, Value.int m_chosenMany, Value.int m_begun])) : Nat × va_E) := ⟨_, rfl⟩
    replace Z : gz D A s.heap h14 H locs := by rw [e_h14]; exact Z
    have f_46_h14 : h14 46 = some ((q46, Sum.inr (8, [Value.int 0, Value.int 1, Value.ref q47, Value.ref q48, Value.ref q49, Value.int m_docs, Value.ref q50, Value.ref q51, Value.ref q52, Value.ref q53, Value.int m_filesThere, Value.int m_files, Value.int m_actions, Value.int m_power, Value.int m_lost, Value.ref q54, Value.ref q62, Value.ref q70, Value.int m_open, Value.int m_isPrepared, Value.int m_generation, Value.ref q78, Value.ref q79, Value.int m_buffered, Value.int m_limit, Value.int m_factor, um, Value.ref q80, Value.ref q81, Value.ref q82, Value.int m_merges, Value.ref q83, Value.int m_opened, Value.int m_chosenMany, Value.int m_begun])) : Nat × va_E) := by rw [e_h14]; exact gm_self
    replace hU : gm_g h h14 [46] := by rw [e_h14]; exact hU.put (by simp)
    refine lv_aload_n hx hb d_Mo_done_65 rfl (lv_at hl 3 rfl) ?_
    refine gz_get (ci := 8) (v := Value.int 1) (C := "CommitLedgerModel") (T := F_Mo) (N := 35) hx hb hts i_Mo hown hK Z f_46_h14 rfl 1 (by decide) kf_Mo_80 rfl d_Mo_done_66 ?_
    refine lv_if_le (tgt := 76) hx hb d_Mo_done_69 (by decide) (fun c9 => absurd c9 (by decide)) (fun _ => ?_)
    refine lv_iconst (v := 0) hx hb d_Mo_done_72 (by decide) ?_
    refine lv_goto (tgt := 77) hx hb d_Mo_done_73 (by decide) ?_
    exact gz_iret (v := 0) hx hb hr hlocks hK Z (by decide) (by decide) (by rw [← hPQ]; exact Or.inr (Or.inr (Or.inr (⟨rfl, hU, f_46_h14, c42_2⟩)))) d_Mo_done_77

set_option maxHeartbeats 4000000 in
set_option maxRecDepth 100000 in
theorem k_Mo_done_1256 (l : Launch) (htr : l.stackTraces = false) (D : va_G) (tys : List (ClassId × FieldType)) (z sz : Nat) (ws : va_W) (h : gm_M) (hM : gm_S h ws) (q46 : Nat) (q47 : Nat) (q48 : Nat) (q49 : Nat) (q50 : Nat) (q51 : Nat) (q52 : Nat) (q53 : Nat) (q54 : Nat) (q62 : Nat) (q70 : Nat) (q78 : Nat) (q79 : Nat) (q80 : Nat) (q81 : Nat) (q82 : Nat) (q83 : Nat) (um : Value) (m_error : Int32) (m_thrown : Int32) (m_docs : Int32) (m_filesThere : Int32) (m_files : Int32) (m_actions : Int32) (m_power : Int32) (m_lost : Int32) (m_open : Int32) (m_isPrepared : Int32) (m_generation : Int32) (m_buffered : Int32) (m_limit : Int32) (m_factor : Int32) (m_merges : Int32) (m_opened : Int32) (m_chosenMany : Int32) (m_begun : Int32) (p1 : Int32) (f_46 : h 46 = some ((q46, Sum.inr (8, [Value.int m_error, Value.int m_thrown, Value.ref q47, Value.ref q48, Value.ref q49, Value.int m_docs, Value.ref q50, Value.ref q51, Value.ref q52, Value.ref q53, Value.int m_filesThere, Value.int m_files, Value.int m_actions, Value.int m_power, Value.int m_lost, Value.ref q54, Value.ref q62, Value.ref q70, Value.int m_open, Value.int m_isPrepared, Value.int m_generation, Value.ref q78, Value.ref q79, Value.int m_buffered, Value.int m_limit, Value.int m_factor, um, Value.ref q80, Value.ref q81, Value.ref q82, Value.int m_merges, Value.ref q83, Value.int m_opened, Value.int m_chosenMany, Value.int m_begun])) : Nat × va_E)) : gx_Met l y_Mo_done [Cond.code y_Mo_done b_Mo_done 6 (some .int)] { frames := 1, cells := 0, slots := 0, locals := 12 } (gx_P z sz D classes tys ws [Value.ref q46, Value.int p1, Value.int 1256]) (gx_Q D classes tys (va_A ws sz) (gm_p (fun r h' => (r = Sum.inl (some (Value.int p1)) ∧ gm_g h h' [46] ∧ h' 46 = some ((q46, Sum.inr (8, [Value.int 0, Value.int 0, Value.ref q47, Value.ref q48, Value.ref q49, Value.int m_docs, Value.ref q50, Value.ref q51, Value.ref q52, Value.ref q53, Value.int m_filesThere, Value.int m_files, Value.int m_actions, Value.int m_power, Value.int m_lost, Value.ref q54, Value.ref q62, Value.ref q70, Value.int m_open, Value.int m_isPrepared, Value.int m_generation, Value.ref q78, Value.ref q79, Value.int m_buffered, Value.int m_limit, Value.int m_factor, um, Value.ref q80, Value.ref q81, Value.ref q82, Value.int m_merges, Value.ref q83, Value.int m_opened, Value.int m_chosenMany, Value.int m_begun])) : Nat × va_E) ∧ (¬ 1 = m_error) ∧ (¬ 2 = m_error) ∧ (¬ 5 = m_error) ∧ (¬ 6 = m_error)) ∨ (r = Sum.inl (some (Value.int 0)) ∧ gm_g h h' [46] ∧ h' 46 = some ((q46, Sum.inr (8, [Value.int 0, Value.int 4, Value.ref q47, Value.ref q48, Value.ref q49, Value.int m_docs, Value.ref q50, Value.ref q51, Value.ref q52, Value.ref q53, Value.int m_filesThere, Value.int m_files, Value.int m_actions, Value.int m_power, Value.int m_lost, Value.ref q54, Value.ref q62, Value.ref q70, Value.int m_open, Value.int m_isPrepared, Value.int m_generation, Value.ref q78, Value.ref q79, Value.int m_buffered, Value.int m_limit, Value.int m_factor, um, Value.ref q80, Value.ref q81, Value.ref q82, Value.int m_merges, Value.ref q83, Value.int m_opened, Value.int m_chosenMany, Value.int m_begun])) : Nat × va_E) ∧ (¬ 1 = m_error) ∧ (¬ 2 = m_error) ∧ (¬ 5 = m_error) ∧ (6 = m_error)) ∨ (r = Sum.inl (some (Value.int 0)) ∧ gm_g h h' [46] ∧ h' 46 = some ((q46, Sum.inr (8, [Value.int 0, Value.int 3, Value.ref q47, Value.ref q48, Value.ref q49, Value.int m_docs, Value.ref q50, Value.ref q51, Value.ref q52, Value.ref q53, Value.int m_filesThere, Value.int m_files, Value.int m_actions, Value.int m_power, Value.int m_lost, Value.ref q54, Value.ref q62, Value.ref q70, Value.int m_open, Value.int m_isPrepared, Value.int m_generation, Value.ref q78, Value.ref q79, Value.int m_buffered, Value.int m_limit, Value.int m_factor, um, Value.ref q80, Value.ref q81, Value.ref q82, Value.int m_merges, Value.ref q83, Value.int m_opened, Value.int m_chosenMany, Value.int m_begun])) : Nat × va_E) ∧ (¬ 1 = m_error) ∧ (¬ 2 = m_error) ∧ (5 = m_error)) ∨ (r = Sum.inl (some (Value.int 0)) ∧ gm_g h h' [46] ∧ h' 46 = some ((q46, Sum.inr (8, [Value.int 0, Value.int 2, Value.ref q47, Value.ref q48, Value.ref q49, Value.int m_docs, Value.ref q50, Value.ref q51, Value.ref q52, Value.ref q53, Value.int m_filesThere, Value.int m_files, Value.int m_actions, Value.int m_power, Value.int m_lost, Value.ref q54, Value.ref q62, Value.ref q70, Value.int m_open, Value.int m_isPrepared, Value.int m_generation, Value.ref q78, Value.ref q79, Value.int m_buffered, Value.int m_limit, Value.int m_factor, um, Value.ref q80, Value.ref q81, Value.ref q82, Value.int m_merges, Value.ref q83, Value.int m_opened, Value.int m_chosenMany, Value.int m_begun])) : Nat × va_E) ∧ (¬ 1 = m_error) ∧ (2 = m_error)) ∨ (r = Sum.inl (some (Value.int 0)) ∧ gm_g h h' [46] ∧ h' 46 = some ((q46, Sum.inr (8, [Value.int 0, Value.int 1, Value.ref q47, Value.ref q48, Value.ref q49, Value.int m_docs, Value.ref q50, Value.ref q51, Value.ref q52, Value.ref q53, Value.int m_filesThere, Value.int m_files, Value.int m_actions, Value.int m_power, Value.int m_lost, Value.ref q54, Value.ref q62, Value.ref q70, Value.int m_open, Value.int m_isPrepared, Value.int m_generation, Value.ref q78, Value.ref q79, Value.int m_buffered, Value.int m_limit, Value.int m_factor, um, Value.ref q80, Value.ref q81, Value.ref q82, Value.int m_merges, Value.ref q83, Value.int m_opened, Value.int m_chosenMany, Value.int m_begun])) : Nat × va_E) ∧ (1 = m_error))))) 0 0 (va_A ws sz) := by
  refine gx_ofW (cc := b_Mo_done) (maxL := 6) (ret := (some .int)) (by decide) rfl ?_
  intro p e s m args below meth c s₁ B hml hv
  obtain ⟨rfl, hsz, hz, hP, hK, hD0, hY⟩ := hv
  have hx := B.exec
  have hb := B.bytes
  have hr := B.returns
  have hts := hY.hts (#[Value.ref q46, Value.int p1, Value.int 1256] : Array Value)
  have hown : s.vm.findClass "CommitLedgerModel" = some m.cls := findClass_of_methodNamed B.named
  have hlocks := B.notSynchronized
  have hne : c.exceptionTable.isEmpty = true := B.noHandlers (atoms_spec (ws := [Cond.code y_Mo_done b_Mo_done 6 (some .int)]) B.pre _ List.mem_cons_self)
  subst hsz
  have hAz := gx_az hD0 hz
  have hD := hD0.self (sz := s.heap.size)
  have hN := gx_ns hP
  have hA : ∀ q : Nat, s.heap.size ≤ q → va_A ws s.heap.size q := fun q h => Or.inr h
  generalize va_A ws s.heap.size = A at hD hN hA hAz ⊢
  generalize hPQ : (fun (r : Option Value ⊕ String) (h' : gm_M) => (r = Sum.inl (some (Value.int p1)) ∧ gm_g h h' [46] ∧ h' 46 = some ((q46, Sum.inr (8, [Value.int 0, Value.int 0, Value.ref q47, Value.ref q48, Value.ref q49, Value.int m_docs, Value.ref q50, Value.ref q51, Value.ref q52, Value.ref q53, Value.int m_filesThere, Value.int m_files, Value.int m_actions, Value.int m_power, Value.int m_lost, Value.ref q54, Value.ref q62, Value.ref q70, Value.int m_open, Value.int m_isPrepared, Value.int m_generation, Value.ref q78, Value.ref q79, Value.int m_buffered, Value.int m_limit, Value.int m_factor, um, Value.ref q80, Value.ref q81, Value.ref q82, Value.int m_merges, Value.ref q83, Value.int m_opened, Value.int m_chosenMany, Value.int m_begun])) : Nat × va_E) ∧ (¬ 1 = m_error) ∧ (¬ 2 = m_error) ∧ (¬ 5 = m_error) ∧ (¬ 6 = m_error)) ∨ (r = Sum.inl (some (Value.int 0)) ∧ gm_g h h' [46] ∧ h' 46 = some ((q46, Sum.inr (8, [Value.int 0, Value.int 4, Value.ref q47, Value.ref q48, Value.ref q49, Value.int m_docs, Value.ref q50, Value.ref q51, Value.ref q52, Value.ref q53, Value.int m_filesThere, Value.int m_files, Value.int m_actions, Value.int m_power, Value.int m_lost, Value.ref q54, Value.ref q62, Value.ref q70, Value.int m_open, Value.int m_isPrepared, Value.int m_generation, Value.ref q78, Value.ref q79, Value.int m_buffered, Value.int m_limit, Value.int m_factor, um, Value.ref q80, Value.ref q81, Value.ref q82, Value.int m_merges, Value.ref q83, Value.int m_opened, Value.int m_chosenMany, Value.int m_begun])) : Nat × va_E) ∧ (¬ 1 = m_error) ∧ (¬ 2 = m_error) ∧ (¬ 5 = m_error) ∧ (6 = m_error)) ∨ (r = Sum.inl (some (Value.int 0)) ∧ gm_g h h' [46] ∧ h' 46 = some ((q46, Sum.inr (8, [Value.int 0, Value.int 3, Value.ref q47, Value.ref q48, Value.ref q49, Value.int m_docs, Value.ref q50, Value.ref q51, Value.ref q52, Value.ref q53, Value.int m_filesThere, Value.int m_files, Value.int m_actions, Value.int m_power, Value.int m_lost, Value.ref q54, Value.ref q62, Value.ref q70, Value.int m_open, Value.int m_isPrepared, Value.int m_generation, Value.ref q78, Value.ref q79, Value.int m_buffered, Value.int m_limit, Value.int m_factor, um, Value.ref q80, Value.ref q81, Value.ref q82, Value.int m_merges, Value.ref q83, Value.int m_opened, Value.int m_chosenMany, Value.int m_begun])) : Nat × va_E) ∧ (¬ 1 = m_error) ∧ (¬ 2 = m_error) ∧ (5 = m_error)) ∨ (r = Sum.inl (some (Value.int 0)) ∧ gm_g h h' [46] ∧ h' 46 = some ((q46, Sum.inr (8, [Value.int 0, Value.int 2, Value.ref q47, Value.ref q48, Value.ref q49, Value.int m_docs, Value.ref q50, Value.ref q51, Value.ref q52, Value.ref q53, Value.int m_filesThere, Value.int m_files, Value.int m_actions, Value.int m_power, Value.int m_lost, Value.ref q54, Value.ref q62, Value.ref q70, Value.int m_open, Value.int m_isPrepared, Value.int m_generation, Value.ref q78, Value.ref q79, Value.int m_buffered, Value.int m_limit, Value.int m_factor, um, Value.ref q80, Value.ref q81, Value.ref q82, Value.int m_merges, Value.ref q83, Value.int m_opened, Value.int m_chosenMany, Value.int m_begun])) : Nat × va_E) ∧ (¬ 1 = m_error) ∧ (2 = m_error)) ∨ (r = Sum.inl (some (Value.int 0)) ∧ gm_g h h' [46] ∧ h' 46 = some ((q46, Sum.inr (8, [Value.int 0, Value.int 1, Value.ref q47, Value.ref q48, Value.ref q49, Value.int m_docs, Value.ref q50, Value.ref q51, Value.ref q52, Value.ref q53, Value.int m_filesThere, Value.int m_files, Value.int m_actions, Value.int m_power, Value.int m_lost, Value.ref q54, Value.ref q62, Value.ref q70, Value.int m_open, Value.int m_isPrepared, Value.int m_generation, Value.ref q78, Value.ref q79, Value.int m_buffered, Value.int m_limit, Value.int m_factor, um, Value.ref q80, Value.ref q81, Value.ref q82, Value.int m_merges, Value.ref q83, Value.int m_opened, Value.int m_chosenMany, Value.int m_begun])) : Nat × va_E) ∧ (1 = m_error))) = PQ
  have Z : gz D A s.heap h s.heap [] := ⟨ws, hM, hP, hD, va_S.rf⟩
  clear hP hD hM hD0
  have hU : gm_g h h [46] := gm_g.rf
  have hl := lv_entry ([Value.ref q46, Value.int p1, Value.int 1256]) (n := 6) (Nat.le_of_ble_eq_true rfl)
  rw [lg_entry_eq]
  generalize (lg_sl ([Value.ref q46, Value.int p1, Value.int 1256]) ++ List.replicate (6 - (lg_sl ([Value.ref q46, Value.int p1, Value.int 1256])).length) Slot.unset).toArray = ls at hl ⊢
  have hl : lv_has ls 6 [(0, Value.ref q46), (1, Value.int p1), (2, Value.int 1256)] := hl
  refine lv_aload_n hx hb d_Mo_done_0 rfl (lv_at hl 0 rfl) ?_
  refine lv_iconst (v := 0) hx hb d_Mo_done_1 (by decide) ?_
  refine gz_put (ci := 8) (v := Value.int 0) (ty := .int) (C := "CommitLedgerModel") (T := F_Mo) (N := 35) hx hb hts i_Mo t_Mo_ok n_Mo hown hK Z f_46 rfl 1 (by decide) kf_Mo_80 rfl (by decide +kernel) rfl rfl (Nat.le_of_ble_eq_true rfl) d_Mo_done_2 (fun H locs Z => ?_)
  obtain ⟨h1, e_h1⟩ : ∃ z9 : gm_M, z9 = gm_up h 46 ((q46, Sum.inr (8, [Value.int m_error, Value.int 0, Value.ref q47, Value.ref q48, Value.ref q49, Value.int m_docs, Value.ref q50, Value.ref q51, Value.ref q52, Value.ref q53, Value.int m_filesThere, Value.int m_files, Value.int m_actions, Value.int m_power, Value.int m_lost, Value.ref q54, Value.ref q62, Value.ref q70, Value.int m_open, Value.int m_isPrepared, Value.int m_generation, Value.ref q78, Value.ref q79, Value.int m_buffered, Value.int m_limit, Value.int m_factor, um, Value.ref q80, Value.ref q81, Value.ref q82, Value.int m_merges, Value.ref q83, Value.int m_opened, Value.int m_chosenMany, Value.int m_begun])) : Nat × va_E) := ⟨_, rfl⟩
  replace Z : gz D A s.heap h1 H locs := by rw [e_h1]; exact Z
  have f_46_h1 : h1 46 = some ((q46, Sum.inr (8, [Value.int m_error, Value.int 0, Value.ref q47, Value.ref q48, Value.ref q49, Value.int m_docs, Value.ref q50, Value.ref q51, Value.ref q52, Value.ref q53, Value.int m_filesThere, Value.int m_files, Value.int m_actions, Value.int m_power, Value.int m_lost, Value.ref q54, Value.ref q62, Value.ref q70, Value.int m_open, Value.int m_isPrepared, Value.int m_generation, Value.ref q78, Value.ref q79, Value.int m_buffered, Value.int m_limit, Value.int m_factor, um, Value.ref q80, Value.ref q81, Value.ref q82, Value.int m_merges, Value.ref q83, Value.int m_opened, Value.int m_chosenMany, Value.int m_begun])) : Nat × va_E) := by rw [e_h1]; exact gm_self
  replace hU : gm_g h h1 [46] := by rw [e_h1]; exact hU.put (by simp)
  refine lv_iconst (v := 0) hx hb d_Mo_done_5 (by decide) ?_
  refine lv_istore_n (lv' := [(3, Value.int 0), (0, Value.ref q46), (1, Value.int p1), (2, Value.int 1256)]) hx hb d_Mo_done_6 rfl hl (by decide) rfl (fun ls hl => ?_)
  refine lv_ldc (v := 100000) hx hb hown (hts _ ki_Mo_83) d_Mo_done_7 ?_
  refine lv_istore (lv' := [(4, Value.int 100000), (3, Value.int 0), (0, Value.ref q46), (1, Value.int p1), (2, Value.int 1256)]) hx hb d_Mo_done_9 hl (by decide) rfl (fun ls hl => ?_)
  refine lv_iload hx hb d_Mo_done_11 (lv_at hl 0 rfl) ?_
  refine lv_if_le (tgt := 60) hx hb d_Mo_done_13 (by decide) (fun c9 => absurd c9 (by decide)) (fun _ => ?_)
  refine lv_iload_n hx hb d_Mo_done_16 rfl (lv_at hl 4 rfl) ?_
  refine lv_iload hx hb d_Mo_done_17 (lv_at hl 0 rfl) ?_
  refine lv_idiv hx hb d_Mo_done_19 (by decide) ?_
  refine gx_topi (y := 0) (by decide) ?_
  refine lv_bipush (v := 10) hx hb d_Mo_done_20 (by decide) ?_
  refine lv_irem hx hb d_Mo_done_22 (by decide) ?_
  refine gx_topi (y := 0) (by decide) ?_
  refine lv_istore (lv' := [(5, Value.int 0), (4, Value.int 100000), (3, Value.int 0), (0, Value.ref q46), (1, Value.int p1), (2, Value.int 1256)]) hx hb d_Mo_done_23 hl (by decide) rfl (fun ls hl => ?_)
  refine lv_iload hx hb d_Mo_done_25 (lv_at hl 0 rfl) ?_
  refine lv_if_ne (tgt := 33) hx hb d_Mo_done_27 (by decide) (fun c9 => absurd (by decide) c9) (fun _ => ?_)
  refine lv_goto (tgt := 50) hx hb d_Mo_done_30 (by decide) ?_
  refine lv_iload hx hb d_Mo_done_50 (lv_at hl 1 rfl) ?_
  refine lv_bipush (v := 10) hx hb d_Mo_done_52 (by decide) ?_
  refine lv_idiv hx hb d_Mo_done_54 (by decide) ?_
  refine gx_topi (y := 10000) (by decide) ?_
  refine lv_istore (lv' := [(4, Value.int 10000), (5, Value.int 0), (3, Value.int 0), (0, Value.ref q46), (1, Value.int p1), (2, Value.int 1256)]) hx hb d_Mo_done_55 hl (by decide) rfl (fun ls hl => ?_)
  refine lv_goto (tgt := 11) hx hb d_Mo_done_57 (by decide) ?_
  refine lv_iload hx hb d_Mo_done_11 (lv_at hl 0 rfl) ?_
  refine lv_if_le (tgt := 60) hx hb d_Mo_done_13 (by decide) (fun c9 => absurd c9 (by decide)) (fun _ => ?_)
  refine lv_iload_n hx hb d_Mo_done_16 rfl (lv_at hl 5 rfl) ?_
  refine lv_iload hx hb d_Mo_done_17 (lv_at hl 0 rfl) ?_
  refine lv_idiv hx hb d_Mo_done_19 (by decide) ?_
  refine gx_topi (y := 0) (by decide) ?_
  refine lv_bipush (v := 10) hx hb d_Mo_done_20 (by decide) ?_
  refine lv_irem hx hb d_Mo_done_22 (by decide) ?_
  refine gx_topi (y := 0) (by decide) ?_
  refine lv_istore (lv' := [(5, Value.int 0), (4, Value.int 10000), (3, Value.int 0), (0, Value.ref q46), (1, Value.int p1), (2, Value.int 1256)]) hx hb d_Mo_done_23 hl (by decide) rfl (fun ls hl => ?_)
  refine lv_iload hx hb d_Mo_done_25 (lv_at hl 0 rfl) ?_
  refine lv_if_ne (tgt := 33) hx hb d_Mo_done_27 (by decide) (fun c9 => absurd (by decide) c9) (fun _ => ?_)
  refine lv_goto (tgt := 50) hx hb d_Mo_done_30 (by decide) ?_
  refine lv_iload hx hb d_Mo_done_50 (lv_at hl 1 rfl) ?_
  refine lv_bipush (v := 10) hx hb d_Mo_done_52 (by decide) ?_
  refine lv_idiv hx hb d_Mo_done_54 (by decide) ?_
  refine gx_topi (y := 1000) (by decide) ?_
  refine lv_istore (lv' := [(4, Value.int 1000), (5, Value.int 0), (3, Value.int 0), (0, Value.ref q46), (1, Value.int p1), (2, Value.int 1256)]) hx hb d_Mo_done_55 hl (by decide) rfl (fun ls hl => ?_)
  refine lv_goto (tgt := 11) hx hb d_Mo_done_57 (by decide) ?_
  refine lv_iload hx hb d_Mo_done_11 (lv_at hl 0 rfl) ?_
  refine lv_if_le (tgt := 60) hx hb d_Mo_done_13 (by decide) (fun c9 => absurd c9 (by decide)) (fun _ => ?_)
  refine lv_iload_n hx hb d_Mo_done_16 rfl (lv_at hl 5 rfl) ?_
  refine lv_iload hx hb d_Mo_done_17 (lv_at hl 0 rfl) ?_
  refine lv_idiv hx hb d_Mo_done_19 (by decide) ?_
  refine gx_topi (y := 1) (by decide) ?_
  refine lv_bipush (v := 10) hx hb d_Mo_done_20 (by decide) ?_
  refine lv_irem hx hb d_Mo_done_22 (by decide) ?_
  refine gx_topi (y := 1) (by decide) ?_
  refine lv_istore (lv' := [(5, Value.int 1), (4, Value.int 1000), (3, Value.int 0), (0, Value.ref q46), (1, Value.int p1), (2, Value.int 1256)]) hx hb d_Mo_done_23 hl (by decide) rfl (fun ls hl => ?_)
  refine lv_iload hx hb d_Mo_done_25 (lv_at hl 0 rfl) ?_
  refine lv_if_ne (tgt := 33) hx hb d_Mo_done_27 (by decide) (fun _ => ?_) (fun c9 => absurd c9 (by decide))
  refine lv_iinc (v := 1) (lv' := [(3, Value.int 1), (5, Value.int 1), (4, Value.int 1000), (0, Value.ref q46), (1, Value.int p1), (2, Value.int 1256)]) hx hb d_Mo_done_33 hl (k := 2) rfl (by decide) (by decide) rfl (fun ls hl => ?_)
  refine lv_iload hx hb d_Mo_done_36 (lv_at hl 1 rfl) ?_
  refine lv_aload_n hx hb d_Mo_done_38 rfl (lv_at hl 3 rfl) ?_
  refine gz_get (ci := 8) (v := Value.int m_error) (C := "CommitLedgerModel") (T := F_Mo) (N := 35) hx hb hts i_Mo hown hK Z f_46_h1 rfl 0 (by decide) kf_Mo_84 rfl d_Mo_done_39 ?_
  refine lv_icmp_ne (tgt := 50) hx hb d_Mo_done_42 (by decide) (fun c42_2 => ?_) (fun c42_2 => ?_)
  · refine lv_iload hx hb d_Mo_done_50 (lv_at hl 2 rfl) ?_
    refine lv_bipush (v := 10) hx hb d_Mo_done_52 (by decide) ?_
    refine lv_idiv hx hb d_Mo_done_54 (by decide) ?_
    refine gx_topi (y := 100) (by decide) ?_
    refine lv_istore (lv' := [(4, Value.int 100), (3, Value.int 1), (5, Value.int 1), (0, Value.ref q46), (1, Value.int p1), (2, Value.int 1256)]) hx hb d_Mo_done_55 hl (by decide) rfl (fun ls hl => ?_)
    refine lv_goto (tgt := 11) hx hb d_Mo_done_57 (by decide) ?_
    refine lv_iload hx hb d_Mo_done_11 (lv_at hl 0 rfl) ?_
    refine lv_if_le (tgt := 60) hx hb d_Mo_done_13 (by decide) (fun c9 => absurd c9 (by decide)) (fun _ => ?_)
    refine lv_iload_n hx hb d_Mo_done_16 rfl (lv_at hl 5 rfl) ?_
    refine lv_iload hx hb d_Mo_done_17 (lv_at hl 0 rfl) ?_
    refine lv_idiv hx hb d_Mo_done_19 (by decide) ?_
    refine gx_topi (y := 12) (by decide) ?_
    refine lv_bipush (v := 10) hx hb d_Mo_done_20 (by decide) ?_
    refine lv_irem hx hb d_Mo_done_22 (by decide) ?_
    refine gx_topi (y := 2) (by decide) ?_
    refine lv_istore (lv' := [(5, Value.int 2), (4, Value.int 100), (3, Value.int 1), (0, Value.ref q46), (1, Value.int p1), (2, Value.int 1256)]) hx hb d_Mo_done_23 hl (by decide) rfl (fun ls hl => ?_)
    refine lv_iload hx hb d_Mo_done_25 (lv_at hl 0 rfl) ?_
    refine lv_if_ne (tgt := 33) hx hb d_Mo_done_27 (by decide) (fun _ => ?_) (fun c9 => absurd c9 (by decide))
    refine lv_iinc (v := 2) (lv' := [(3, Value.int 2), (5, Value.int 2), (4, Value.int 100), (0, Value.ref q46), (1, Value.int p1), (2, Value.int 1256)]) hx hb d_Mo_done_33 hl (k := 2) rfl (by decide) (by decide) rfl (fun ls hl => ?_)
    refine lv_iload hx hb d_Mo_done_36 (lv_at hl 1 rfl) ?_
    refine lv_aload_n hx hb d_Mo_done_38 rfl (lv_at hl 3 rfl) ?_
    refine gz_get (ci := 8) (v := Value.int m_error) (C := "CommitLedgerModel") (T := F_Mo) (N := 35) hx hb hts i_Mo hown hK Z f_46_h1 rfl 0 (by decide) kf_Mo_84 rfl d_Mo_done_39 ?_
    refine lv_icmp_ne (tgt := 50) hx hb d_Mo_done_42 (by decide) (fun c42_3 => ?_) (fun c42_3 => ?_)
    · refine lv_iload hx hb d_Mo_done_50 (lv_at hl 2 rfl) ?_
      refine lv_bipush (v := 10) hx hb d_Mo_done_52 (by decide) ?_
      refine lv_idiv hx hb d_Mo_done_54 (by decide) ?_
      refine gx_topi (y := 10) (by decide) ?_
      refine lv_istore (lv' := [(4, Value.int 10), (3, Value.int 2), (5, Value.int 2), (0, Value.ref q46), (1, Value.int p1), (2, Value.int 1256)]) hx hb d_Mo_done_55 hl (by decide) rfl (fun ls hl => ?_)
      refine lv_goto (tgt := 11) hx hb d_Mo_done_57 (by decide) ?_
      refine lv_iload hx hb d_Mo_done_11 (lv_at hl 0 rfl) ?_
      refine lv_if_le (tgt := 60) hx hb d_Mo_done_13 (by decide) (fun c9 => absurd c9 (by decide)) (fun _ => ?_)
      refine lv_iload_n hx hb d_Mo_done_16 rfl (lv_at hl 5 rfl) ?_
      refine lv_iload hx hb d_Mo_done_17 (lv_at hl 0 rfl) ?_
      refine lv_idiv hx hb d_Mo_done_19 (by decide) ?_
      refine gx_topi (y := 125) (by decide) ?_
      refine lv_bipush (v := 10) hx hb d_Mo_done_20 (by decide) ?_
      refine lv_irem hx hb d_Mo_done_22 (by decide) ?_
      refine gx_topi (y := 5) (by decide) ?_
      refine lv_istore (lv' := [(5, Value.int 5), (4, Value.int 10), (3, Value.int 2), (0, Value.ref q46), (1, Value.int p1), (2, Value.int 1256)]) hx hb d_Mo_done_23 hl (by decide) rfl (fun ls hl => ?_)
      refine lv_iload hx hb d_Mo_done_25 (lv_at hl 0 rfl) ?_
      refine lv_if_ne (tgt := 33) hx hb d_Mo_done_27 (by decide) (fun _ => ?_) (fun c9 => absurd c9 (by decide))
      refine lv_iinc (v := 3) (lv' := [(3, Value.int 3), (5, Value.int 5), (4, Value.int 10), (0, Value.ref q46), (1, Value.int p1), (2, Value.int 1256)]) hx hb d_Mo_done_33 hl (k := 2) rfl (by decide) (by decide) rfl (fun ls hl => ?_)
      refine lv_iload hx hb d_Mo_done_36 (lv_at hl 1 rfl) ?_
      refine lv_aload_n hx hb d_Mo_done_38 rfl (lv_at hl 3 rfl) ?_
      refine gz_get (ci := 8) (v := Value.int m_error) (C := "CommitLedgerModel") (T := F_Mo) (N := 35) hx hb hts i_Mo hown hK Z f_46_h1 rfl 0 (by decide) kf_Mo_84 rfl d_Mo_done_39 ?_
      refine lv_icmp_ne (tgt := 50) hx hb d_Mo_done_42 (by decide) (fun c42_4 => ?_) (fun c42_4 => ?_)
      · refine lv_iload hx hb d_Mo_done_50 (lv_at hl 2 rfl) ?_
        refine lv_bipush (v := 10) hx hb d_Mo_done_52 (by decide) ?_
        refine lv_idiv hx hb d_Mo_done_54 (by decide) ?_
        refine gx_topi (y := 1) (by decide) ?_
        refine lv_istore (lv' := [(4, Value.int 1), (3, Value.int 3), (5, Value.int 5), (0, Value.ref q46), (1, Value.int p1), (2, Value.int 1256)]) hx hb d_Mo_done_55 hl (by decide) rfl (fun ls hl => ?_)
        refine lv_goto (tgt := 11) hx hb d_Mo_done_57 (by decide) ?_
        refine lv_iload hx hb d_Mo_done_11 (lv_at hl 0 rfl) ?_
        refine lv_if_le (tgt := 60) hx hb d_Mo_done_13 (by decide) (fun c9 => absurd c9 (by decide)) (fun _ => ?_)
        refine lv_iload_n hx hb d_Mo_done_16 rfl (lv_at hl 5 rfl) ?_
        refine lv_iload hx hb d_Mo_done_17 (lv_at hl 0 rfl) ?_
        refine lv_idiv hx hb d_Mo_done_19 (by decide) ?_
        refine gx_topi (y := 1256) (by decide) ?_
        refine lv_bipush (v := 10) hx hb d_Mo_done_20 (by decide) ?_
        refine lv_irem hx hb d_Mo_done_22 (by decide) ?_
        refine gx_topi (y := 6) (by decide) ?_
        refine lv_istore (lv' := [(5, Value.int 6), (4, Value.int 1), (3, Value.int 3), (0, Value.ref q46), (1, Value.int p1), (2, Value.int 1256)]) hx hb d_Mo_done_23 hl (by decide) rfl (fun ls hl => ?_)
        refine lv_iload hx hb d_Mo_done_25 (lv_at hl 0 rfl) ?_
        refine lv_if_ne (tgt := 33) hx hb d_Mo_done_27 (by decide) (fun _ => ?_) (fun c9 => absurd c9 (by decide))
        refine lv_iinc (v := 4) (lv' := [(3, Value.int 4), (5, Value.int 6), (4, Value.int 1), (0, Value.ref q46), (1, Value.int p1), (2, Value.int 1256)]) hx hb d_Mo_done_33 hl (k := 2) rfl (by decide) (by decide) rfl (fun ls hl => ?_)
        refine lv_iload hx hb d_Mo_done_36 (lv_at hl 1 rfl) ?_
        refine lv_aload_n hx hb d_Mo_done_38 rfl (lv_at hl 3 rfl) ?_
        refine gz_get (ci := 8) (v := Value.int m_error) (C := "CommitLedgerModel") (T := F_Mo) (N := 35) hx hb hts i_Mo hown hK Z f_46_h1 rfl 0 (by decide) kf_Mo_84 rfl d_Mo_done_39 ?_
        refine lv_icmp_ne (tgt := 50) hx hb d_Mo_done_42 (by decide) (fun c42_5 => ?_) (fun c42_5 => ?_)
        · refine lv_iload hx hb d_Mo_done_50 (lv_at hl 2 rfl) ?_
          refine lv_bipush (v := 10) hx hb d_Mo_done_52 (by decide) ?_
          refine lv_idiv hx hb d_Mo_done_54 (by decide) ?_
          refine gx_topi (y := 0) (by decide) ?_
          refine lv_istore (lv' := [(4, Value.int 0), (3, Value.int 4), (5, Value.int 6), (0, Value.ref q46), (1, Value.int p1), (2, Value.int 1256)]) hx hb d_Mo_done_55 hl (by decide) rfl (fun ls hl => ?_)
          refine lv_goto (tgt := 11) hx hb d_Mo_done_57 (by decide) ?_
          refine lv_iload hx hb d_Mo_done_11 (lv_at hl 0 rfl) ?_
          refine lv_if_le (tgt := 60) hx hb d_Mo_done_13 (by decide) (fun _ => ?_) (fun c9 => absurd (by decide) c9)
          refine lv_aload_n hx hb d_Mo_done_60 rfl (lv_at hl 3 rfl) ?_
          refine lv_iconst (v := 0) hx hb d_Mo_done_61 (by decide) ?_
          refine gz_put (ci := 8) (v := Value.int 0) (ty := .int) (C := "CommitLedgerModel") (T := F_Mo) (N := 35) hx hb hts i_Mo t_Mo_ok n_Mo hown hK Z f_46_h1 rfl 0 (by decide) kf_Mo_84 rfl (by decide +kernel) rfl rfl (Nat.le_of_ble_eq_true rfl) d_Mo_done_62 (fun H locs Z => ?_)
          obtain ⟨h6, e_h6⟩ : ∃ z9 : gm_M, z9 = gm_up h1 46 ((q46, Sum.inr (8, [Value.int 0, Value.int 0, Value.ref q47, Value.ref q48, Value.ref q49, Value.int m_docs, Value.ref q50, Value.ref q51, Value.ref q52, Value.ref q53, Value.int m_filesThere, Value.int m_files, Value.int m_actions, Value.int m_power, Value.int m_lost, Value.ref q54, Value.ref q62, Value.ref q70, Value.int m_open, Value.int m_isPrepared, Value.int m_generation, Value.ref q78, Value.ref q79, Value.int m_buffered, Value.int m_limit, Value.int m_factor, um, Value.ref q80, Value.ref q81, Value.ref q82, Value.int m_merges, Value.ref q83, Value.int m_opened, Value.int m_chosenMany, Value.int m_begun])) : Nat × va_E) := ⟨_, rfl⟩
          replace Z : gz D A s.heap h6 H locs := by rw [e_h6]; exact Z
          have f_46_h6 : h6 46 = some ((q46, Sum.inr (8, [Value.int 0, Value.int 0, Value.ref q47, Value.ref q48, Value.ref q49, Value.int m_docs, Value.ref q50, Value.ref q51, Value.ref q52, Value.ref q53, Value.int m_filesThere, Value.int m_files, Value.int m_actions, Value.int m_power, Value.int m_lost, Value.ref q54, Value.ref q62, Value.ref q70, Value.int m_open, Value.int m_isPrepared, Value.int m_generation, Value.ref q78, Value.ref q79, Value.int m_buffered, Value.int m_limit, Value.int m_factor, um, Value.ref q80, Value.ref q81, Value.ref q82, Value.int m_merges, Value.ref q83, Value.int m_opened, Value.int m_chosenMany, Value.int m_begun])) : Nat × va_E) := by rw [e_h6]; exact gm_self
          replace hU : gm_g h h6 [46] := by rw [e_h6]; exact hU.put (by simp)
          refine lv_aload_n hx hb d_Mo_done_65 rfl (lv_at hl 3 rfl) ?_
          refine gz_get (ci := 8) (v := Value.int 0) (C := "CommitLedgerModel") (T := F_Mo) (N := 35) hx hb hts i_Mo hown hK Z f_46_h6 rfl 1 (by decide) kf_Mo_80 rfl d_Mo_done_66 ?_
          refine lv_if_le (tgt := 76) hx hb d_Mo_done_69 (by decide) (fun _ => ?_) (fun c9 => absurd (by decide) c9)
          refine lv_iload_n hx hb d_Mo_done_76 rfl (lv_at hl 4 rfl) ?_
          exact gz_iret (v := p1) hx hb hr hlocks hK Z (by decide) (by decide) (by rw [← hPQ]; exact Or.inl ⟨rfl, hU, f_46_h6, c42_2, c42_3, c42_4, c42_5⟩) d_Mo_done_77
        · refine lv_aload_n hx hb d_Mo_done_45 rfl (lv_at hl 3 rfl) ?_
          refine lv_iload_n hx hb d_Mo_done_46 rfl (lv_at hl 0 rfl) ?_
          refine gz_put (ci := 8) (v := Value.int 4) (ty := .int) (C := "CommitLedgerModel") (T := F_Mo) (N := 35) hx hb hts i_Mo t_Mo_ok n_Mo hown hK Z f_46_h1 rfl 1 (by decide) kf_Mo_80 rfl (by decide +kernel) rfl rfl (Nat.le_of_ble_eq_true rfl) d_Mo_done_47 (fun H locs Z => ?_)
          obtain ⟨h7, e_h7⟩ : ∃ z9 : gm_M, z9 = gm_up h1 46 ((q46, Sum.inr (8, [Value.int m_error, Value.int 4, Value.ref q47, Value.ref q48, Value.ref q49, Value.int m_docs, Value.ref q50, Value.ref q51, Value.ref q52, Value.ref q53, Value.int m_filesThere, Value.int m_files, Value.int m_actions, Value.int m_power, Value.int m_lost, Value.ref q54, Value.ref q62, Value.ref q70, Value.int m_open, Value.int m_isPrepared, Value.int m_generation, Value.ref q78, Value.ref q79, Value.int m_buffered, Value.int m_limit, Value.int m_factor, um, Value.ref q80, Value.ref q81, Value.ref q82, Value.int m_merges, Value.ref q83, Value.int m_opened, Value.int m_chosenMany, Value.int m_begun])) : Nat × va_E) := ⟨_, rfl⟩
          replace Z : gz D A s.heap h7 H locs := by rw [e_h7]; exact Z
          have f_46_h7 : h7 46 = some ((q46, Sum.inr (8, [Value.int m_error, Value.int 4, Value.ref q47, Value.ref q48, Value.ref q49, Value.int m_docs, Value.ref q50, Value.ref q51, Value.ref q52, Value.ref q53, Value.int m_filesThere, Value.int m_files, Value.int m_actions, Value.int m_power, Value.int m_lost, Value.ref q54, Value.ref q62, Value.ref q70, Value.int m_open, Value.int m_isPrepared, Value.int m_generation, Value.ref q78, Value.ref q79, Value.int m_buffered, Value.int m_limit, Value.int m_factor, um, Value.ref q80, Value.ref q81, Value.ref q82, Value.int m_merges, Value.ref q83, Value.int m_opened, Value.int m_chosenMany, Value.int m_begun])) : Nat × va_E) := by rw [e_h7]; exact gm_self
          replace hU : gm_g h h7 [46] := by rw [e_h7]; exact hU.put (by simp)
          refine lv_iload hx hb d_Mo_done_50 (lv_at hl 2 rfl) ?_
          refine lv_bipush (v := 10) hx hb d_Mo_done_52 (by decide) ?_
          refine lv_idiv hx hb d_Mo_done_54 (by decide) ?_
          refine gx_topi (y := 0) (by decide) ?_
          refine lv_istore (lv' := [(4, Value.int 0), (3, Value.int 4), (5, Value.int 6), (0, Value.ref q46), (1, Value.int p1), (2, Value.int 1256)]) hx hb d_Mo_done_55 hl (by decide) rfl (fun ls hl => ?_)
          refine lv_goto (tgt := 11) hx hb d_Mo_done_57 (by decide) ?_
          refine lv_iload hx hb d_Mo_done_11 (lv_at hl 0 rfl) ?_
          refine lv_if_le (tgt := 60) hx hb d_Mo_done_13 (by decide) (fun _ => ?_) (fun c9 => absurd (by decide) c9)
          refine lv_aload_n hx hb d_Mo_done_60 rfl (lv_at hl 3 rfl) ?_
          refine lv_iconst (v := 0) hx hb d_Mo_done_61 (by decide) ?_
          refine gz_put (ci := 8) (v := Value.int 0) (ty := .int) (C := "CommitLedgerModel") (T := F_Mo) (N := 35) hx hb hts i_Mo t_Mo_ok n_Mo hown hK Z f_46_h7 rfl 0 (by decide) kf_Mo_84 rfl (by decide +kernel) rfl rfl (Nat.le_of_ble_eq_true rfl) d_Mo_done_62 (fun H locs Z => ?_)
          obtain ⟨h8, e_h8⟩ : ∃ z9 : gm_M, z9 = gm_up h7 46 ((q46, Sum.inr (8, [Value.int 0, Value.int 4, Value.ref q47, Value.ref q48, Value.ref q49, Value.int m_docs, Value.ref q50, Value.ref q51, Value.ref q52, Value.ref q53, Value.int m_filesThere, Value.int m_files, Value.int m_actions, Value.int m_power, Value.int m_lost, Value.ref q54, Value.ref q62, Value.ref q70, Value.int m_open, Value.int m_isPrepared, Value.int m_generation, Value.ref q78, Value.ref q79, Value.int m_buffered, Value.int m_limit, Value.int m_factor, um, Value.ref q80, Value.ref q81, Value.ref q82, Value.int m_merges, Value.ref q83, Value.int m_opened, Value.int m_chosenMany, Value.int m_begun])) : Nat × va_E) := ⟨_, rfl⟩
          replace Z : gz D A s.heap h8 H locs := by rw [e_h8]; exact Z
          have f_46_h8 : h8 46 = some ((q46, Sum.inr (8, [Value.int 0, Value.int 4, Value.ref q47, Value.ref q48, Value.ref q49, Value.int m_docs, Value.ref q50, Value.ref q51, Value.ref q52, Value.ref q53, Value.int m_filesThere, Value.int m_files, Value.int m_actions, Value.int m_power, Value.int m_lost, Value.ref q54, Value.ref q62, Value.ref q70, Value.int m_open, Value.int m_isPrepared, Value.int m_generation, Value.ref q78, Value.ref q79, Value.int m_buffered, Value.int m_limit, Value.int m_factor, um, Value.ref q80, Value.ref q81, Value.ref q82, Value.int m_merges, Value.ref q83, Value.int m_opened, Value.int m_chosenMany, Value.int m_begun])) : Nat × va_E) := by rw [e_h8]; exact gm_self
          replace hU : gm_g h h8 [46] := by rw [e_h8]; exact hU.put (by simp)
          refine lv_aload_n hx hb d_Mo_done_65 rfl (lv_at hl 3 rfl) ?_
          refine gz_get (ci := 8) (v := Value.int 4) (C := "CommitLedgerModel") (T := F_Mo) (N := 35) hx hb hts i_Mo hown hK Z f_46_h8 rfl 1 (by decide) kf_Mo_80 rfl d_Mo_done_66 ?_
          refine lv_if_le (tgt := 76) hx hb d_Mo_done_69 (by decide) (fun c9 => absurd c9 (by decide)) (fun _ => ?_)
          refine lv_iconst (v := 0) hx hb d_Mo_done_72 (by decide) ?_
          refine lv_goto (tgt := 77) hx hb d_Mo_done_73 (by decide) ?_
          exact gz_iret (v := 0) hx hb hr hlocks hK Z (by decide) (by decide) (by rw [← hPQ]; exact Or.inr (Or.inl ⟨rfl, hU, f_46_h8, c42_2, c42_3, c42_4, c42_5⟩)) d_Mo_done_77
      · refine lv_aload_n hx hb d_Mo_done_45 rfl (lv_at hl 3 rfl) ?_
        refine lv_iload_n hx hb d_Mo_done_46 rfl (lv_at hl 0 rfl) ?_
        refine gz_put (ci := 8) (v := Value.int 3) (ty := .int) (C := "CommitLedgerModel") (T := F_Mo) (N := 35) hx hb hts i_Mo t_Mo_ok n_Mo hown hK Z f_46_h1 rfl 1 (by decide) kf_Mo_80 rfl (by decide +kernel) rfl rfl (Nat.le_of_ble_eq_true rfl) d_Mo_done_47 (fun H locs Z => ?_)
        obtain ⟨h9, e_h9⟩ : ∃ z9 : gm_M, z9 = gm_up h1 46 ((q46, Sum.inr (8, [Value.int m_error, Value.int 3, Value.ref q47, Value.ref q48, Value.ref q49, Value.int m_docs, Value.ref q50, Value.ref q51, Value.ref q52, Value.ref q53, Value.int m_filesThere, Value.int m_files, Value.int m_actions, Value.int m_power, Value.int m_lost, Value.ref q54, Value.ref q62, Value.ref q70, Value.int m_open, Value.int m_isPrepared, Value.int m_generation, Value.ref q78, Value.ref q79, Value.int m_buffered, Value.int m_limit, Value.int m_factor, um, Value.ref q80, Value.ref q81, Value.ref q82, Value.int m_merges, Value.ref q83, Value.int m_opened, Value.int m_chosenMany, Value.int m_begun])) : Nat × va_E) := ⟨_, rfl⟩
        replace Z : gz D A s.heap h9 H locs := by rw [e_h9]; exact Z
        have f_46_h9 : h9 46 = some ((q46, Sum.inr (8, [Value.int m_error, Value.int 3, Value.ref q47, Value.ref q48, Value.ref q49, Value.int m_docs, Value.ref q50, Value.ref q51, Value.ref q52, Value.ref q53, Value.int m_filesThere, Value.int m_files, Value.int m_actions, Value.int m_power, Value.int m_lost, Value.ref q54, Value.ref q62, Value.ref q70, Value.int m_open, Value.int m_isPrepared, Value.int m_generation, Value.ref q78, Value.ref q79, Value.int m_buffered, Value.int m_limit, Value.int m_factor, um, Value.ref q80, Value.ref q81, Value.ref q82, Value.int m_merges, Value.ref q83, Value.int m_opened, Value.int m_chosenMany, Value.int m_begun])) : Nat × va_E) := by rw [e_h9]; exact gm_self
        replace hU : gm_g h h9 [46] := by rw [e_h9]; exact hU.put (by simp)
        refine lv_iload hx hb d_Mo_done_50 (lv_at hl 2 rfl) ?_
        refine lv_bipush (v := 10) hx hb d_Mo_done_52 (by decide) ?_
        refine lv_idiv hx hb d_Mo_done_54 (by decide) ?_
        refine gx_topi (y := 1) (by decide) ?_
        refine lv_istore (lv' := [(4, Value.int 1), (3, Value.int 3), (5, Value.int 5), (0, Value.ref q46), (1, Value.int p1), (2, Value.int 1256)]) hx hb d_Mo_done_55 hl (by decide) rfl (fun ls hl => ?_)
        refine lv_goto (tgt := 11) hx hb d_Mo_done_57 (by decide) ?_
        refine lv_iload hx hb d_Mo_done_11 (lv_at hl 0 rfl) ?_
        refine lv_if_le (tgt := 60) hx hb d_Mo_done_13 (by decide) (fun c9 => absurd c9 (by decide)) (fun _ => ?_)
        refine lv_iload_n hx hb d_Mo_done_16 rfl (lv_at hl 5 rfl) ?_
        refine lv_iload hx hb d_Mo_done_17 (lv_at hl 0 rfl) ?_
        refine lv_idiv hx hb d_Mo_done_19 (by decide) ?_
        refine gx_topi (y := 1256) (by decide) ?_
        refine lv_bipush (v := 10) hx hb d_Mo_done_20 (by decide) ?_
        refine lv_irem hx hb d_Mo_done_22 (by decide) ?_
        refine gx_topi (y := 6) (by decide) ?_
        refine lv_istore (lv' := [(5, Value.int 6), (4, Value.int 1), (3, Value.int 3), (0, Value.ref q46), (1, Value.int p1), (2, Value.int 1256)]) hx hb d_Mo_done_23 hl (by decide) rfl (fun ls hl => ?_)
        refine lv_iload hx hb d_Mo_done_25 (lv_at hl 0 rfl) ?_
        refine lv_if_ne (tgt := 33) hx hb d_Mo_done_27 (by decide) (fun _ => ?_) (fun c9 => absurd c9 (by decide))
        refine lv_iinc (v := 4) (lv' := [(3, Value.int 4), (5, Value.int 6), (4, Value.int 1), (0, Value.ref q46), (1, Value.int p1), (2, Value.int 1256)]) hx hb d_Mo_done_33 hl (k := 2) rfl (by decide) (by decide) rfl (fun ls hl => ?_)
        refine lv_iload hx hb d_Mo_done_36 (lv_at hl 1 rfl) ?_
        refine lv_aload_n hx hb d_Mo_done_38 rfl (lv_at hl 3 rfl) ?_
        refine gz_get (ci := 8) (v := Value.int m_error) (C := "CommitLedgerModel") (T := F_Mo) (N := 35) hx hb hts i_Mo hown hK Z f_46_h9 rfl 0 (by decide) kf_Mo_84 rfl d_Mo_done_39 ?_
        refine lv_icmp_ne (tgt := 50) hx hb d_Mo_done_42 (by decide) (fun _ => ?_) (fun c9 => absurd c9 (fun e9 => absurd (c42_4.trans e9.symm) (by decide)))
        refine lv_iload hx hb d_Mo_done_50 (lv_at hl 2 rfl) ?_
        refine lv_bipush (v := 10) hx hb d_Mo_done_52 (by decide) ?_
        refine lv_idiv hx hb d_Mo_done_54 (by decide) ?_
        refine gx_topi (y := 0) (by decide) ?_
        refine lv_istore (lv' := [(4, Value.int 0), (3, Value.int 4), (5, Value.int 6), (0, Value.ref q46), (1, Value.int p1), (2, Value.int 1256)]) hx hb d_Mo_done_55 hl (by decide) rfl (fun ls hl => ?_)
        refine lv_goto (tgt := 11) hx hb d_Mo_done_57 (by decide) ?_
        refine lv_iload hx hb d_Mo_done_11 (lv_at hl 0 rfl) ?_
        refine lv_if_le (tgt := 60) hx hb d_Mo_done_13 (by decide) (fun _ => ?_) (fun c9 => absurd (by decide) c9)
        refine lv_aload_n hx hb d_Mo_done_60 rfl (lv_at hl 3 rfl) ?_
        refine lv_iconst (v := 0) hx hb d_Mo_done_61 (by decide) ?_
        refine gz_put (ci := 8) (v := Value.int 0) (ty := .int) (C := "CommitLedgerModel") (T := F_Mo) (N := 35) hx hb hts i_Mo t_Mo_ok n_Mo hown hK Z f_46_h9 rfl 0 (by decide) kf_Mo_84 rfl (by decide +kernel) rfl rfl (Nat.le_of_ble_eq_true rfl) d_Mo_done_62 (fun H locs Z => ?_)
        obtain ⟨h11, e_h11⟩ : ∃ z9 : gm_M, z9 = gm_up h9 46 ((q46, Sum.inr (8, [Value.int 0, Value.int 3, Value.ref q47, Value.ref q48, Value.ref q49, Value.int m_docs, Value.ref q50, Value.ref q51, Value.ref q52, Value.ref q53, Value.int m_filesThere, Value.int m_files, Value.int m_actions, Value.int m_power, Value.int m_lost, Value.ref q54, Value.ref q62, Value.ref q70, Value.int m_open, Value.int m_isPrepared, Value.int m_generation, Value.ref q78, Value.ref q79, Value.int m_buffered, Value.int m_limit, Value.int m_factor, um, Value.ref q80, Value.ref q81, Value.ref q82, Value.int m_merges, Value.ref q83, Value.int m_opened, Value.int m_chosenMany, Value.int m_begun])) : Nat × va_E) := ⟨_, rfl⟩
        replace Z : gz D A s.heap h11 H locs := by rw [e_h11]; exact Z
        have f_46_h11 : h11 46 = some ((q46, Sum.inr (8, [Value.int 0, Value.int 3, Value.ref q47, Value.ref q48, Value.ref q49, Value.int m_docs, Value.ref q50, Value.ref q51, Value.ref q52, Value.ref q53, Value.int m_filesThere, Value.int m_files, Value.int m_actions, Value.int m_power, Value.int m_lost, Value.ref q54, Value.ref q62, Value.ref q70, Value.int m_open, Value.int m_isPrepared, Value.int m_generation, Value.ref q78, Value.ref q79, Value.int m_buffered, Value.int m_limit, Value.int m_factor, um, Value.ref q80, Value.ref q81, Value.ref q82, Value.int m_merges, Value.ref q83, Value.int m_opened, Value.int m_chosenMany, Value.int m_begun])) : Nat × va_E) := by rw [e_h11]; exact gm_self
        replace hU : gm_g h h11 [46] := by rw [e_h11]; exact hU.put (by simp)
        refine lv_aload_n hx hb d_Mo_done_65 rfl (lv_at hl 3 rfl) ?_
        refine gz_get (ci := 8) (v := Value.int 3) (C := "CommitLedgerModel") (T := F_Mo) (N := 35) hx hb hts i_Mo hown hK Z f_46_h11 rfl 1 (by decide) kf_Mo_80 rfl d_Mo_done_66 ?_
        refine lv_if_le (tgt := 76) hx hb d_Mo_done_69 (by decide) (fun c9 => absurd c9 (by decide)) (fun _ => ?_)
        refine lv_iconst (v := 0) hx hb d_Mo_done_72 (by decide) ?_
        refine lv_goto (tgt := 77) hx hb d_Mo_done_73 (by decide) ?_
        exact gz_iret (v := 0) hx hb hr hlocks hK Z (by decide) (by decide) (by rw [← hPQ]; exact Or.inr (Or.inr (Or.inl ⟨rfl, hU, f_46_h11, c42_2, c42_3, c42_4⟩))) d_Mo_done_77
    · refine lv_aload_n hx hb d_Mo_done_45 rfl (lv_at hl 3 rfl) ?_
      refine lv_iload_n hx hb d_Mo_done_46 rfl (lv_at hl 0 rfl) ?_
      refine gz_put (ci := 8) (v := Value.int 2) (ty := .int) (C := "CommitLedgerModel") (T := F_Mo) (N := 35) hx hb hts i_Mo t_Mo_ok n_Mo hown hK Z f_46_h1 rfl 1 (by decide) kf_Mo_80 rfl (by decide +kernel) rfl rfl (Nat.le_of_ble_eq_true rfl) d_Mo_done_47 (fun H locs Z => ?_)
      obtain ⟨h12, e_h12⟩ : ∃ z9 : gm_M, z9 = gm_up h1 46 ((q46, Sum.inr (8, [Value.int m_error, Value.int 2, Value.ref q47, Value.ref q48, Value.ref q49, Value.int m_docs, Value.ref q50, Value.ref q51, Value.ref q52, Value.ref q53, Value.int m_filesThere, Value.int m_files, Value.int m_actions, Value.int m_power, Value.int m_lost, Value.ref q54, Value.ref q62, Value.ref q70, Value.int m_open, Value.int m_isPrepared, Value.int m_generation, Value.ref q78, Value.ref q79, Value.int m_buffered, Value.int m_limit, Value.int m_factor, um, Value.ref q80, Value.ref q81, Value.ref q82, Value.int m_merges, Value.ref q83, Value.int m_opened, Value.int m_chosenMany, Value.int m_begun])) : Nat × va_E) := ⟨_, rfl⟩
      replace Z : gz D A s.heap h12 H locs := by rw [e_h12]; exact Z
      have f_46_h12 : h12 46 = some ((q46, Sum.inr (8, [Value.int m_error, Value.int 2, Value.ref q47, Value.ref q48, Value.ref q49, Value.int m_docs, Value.ref q50, Value.ref q51, Value.ref q52, Value.ref q53, Value.int m_filesThere, Value.int m_files, Value.int m_actions, Value.int m_power, Value.int m_lost, Value.ref q54, Value.ref q62, Value.ref q70, Value.int m_open, Value.int m_isPrepared, Value.int m_generation, Value.ref q78, Value.ref q79, Value.int m_buffered, Value.int m_limit, Value.int m_factor, um, Value.ref q80, Value.ref q81, Value.ref q82, Value.int m_merges, Value.ref q83, Value.int m_opened, Value.int m_chosenMany, Value.int m_begun])) : Nat × va_E) := by rw [e_h12]; exact gm_self
      replace hU : gm_g h h12 [46] := by rw [e_h12]; exact hU.put (by simp)
      refine lv_iload hx hb d_Mo_done_50 (lv_at hl 2 rfl) ?_
      refine lv_bipush (v := 10) hx hb d_Mo_done_52 (by decide) ?_
      refine lv_idiv hx hb d_Mo_done_54 (by decide) ?_
      refine gx_topi (y := 10) (by decide) ?_
      refine lv_istore (lv' := [(4, Value.int 10), (3, Value.int 2), (5, Value.int 2), (0, Value.ref q46), (1, Value.int p1), (2, Value.int 1256)]) hx hb d_Mo_done_55 hl (by decide) rfl (fun ls hl => ?_)
      refine lv_goto (tgt := 11) hx hb d_Mo_done_57 (by decide) ?_
      refine lv_iload hx hb d_Mo_done_11 (lv_at hl 0 rfl) ?_
      refine lv_if_le (tgt := 60) hx hb d_Mo_done_13 (by decide) (fun c9 => absurd c9 (by decide)) (fun _ => ?_)
      refine lv_iload_n hx hb d_Mo_done_16 rfl (lv_at hl 5 rfl) ?_
      refine lv_iload hx hb d_Mo_done_17 (lv_at hl 0 rfl) ?_
      refine lv_idiv hx hb d_Mo_done_19 (by decide) ?_
      refine gx_topi (y := 125) (by decide) ?_
      refine lv_bipush (v := 10) hx hb d_Mo_done_20 (by decide) ?_
      refine lv_irem hx hb d_Mo_done_22 (by decide) ?_
      refine gx_topi (y := 5) (by decide) ?_
      refine lv_istore (lv' := [(5, Value.int 5), (4, Value.int 10), (3, Value.int 2), (0, Value.ref q46), (1, Value.int p1), (2, Value.int 1256)]) hx hb d_Mo_done_23 hl (by decide) rfl (fun ls hl => ?_)
      refine lv_iload hx hb d_Mo_done_25 (lv_at hl 0 rfl) ?_
      refine lv_if_ne (tgt := 33) hx hb d_Mo_done_27 (by decide) (fun _ => ?_) (fun c9 => absurd c9 (by decide))
      refine lv_iinc (v := 3) (lv' := [(3, Value.int 3), (5, Value.int 5), (4, Value.int 10), (0, Value.ref q46), (1, Value.int p1), (2, Value.int 1256)]) hx hb d_Mo_done_33 hl (k := 2) rfl (by decide) (by decide) rfl (fun ls hl => ?_)
      refine lv_iload hx hb d_Mo_done_36 (lv_at hl 1 rfl) ?_
      refine lv_aload_n hx hb d_Mo_done_38 rfl (lv_at hl 3 rfl) ?_
      refine gz_get (ci := 8) (v := Value.int m_error) (C := "CommitLedgerModel") (T := F_Mo) (N := 35) hx hb hts i_Mo hown hK Z f_46_h12 rfl 0 (by decide) kf_Mo_84 rfl d_Mo_done_39 ?_
      refine lv_icmp_ne (tgt := 50) hx hb d_Mo_done_42 (by decide) (fun _ => ?_) (fun c9 => absurd c9 (fun e9 => absurd (c42_3.trans e9.symm) (by decide)))
      refine lv_iload hx hb d_Mo_done_50 (lv_at hl 2 rfl) ?_
      refine lv_bipush (v := 10) hx hb d_Mo_done_52 (by decide) ?_
      refine lv_idiv hx hb d_Mo_done_54 (by decide) ?_
      refine gx_topi (y := 1) (by decide) ?_
      refine lv_istore (lv' := [(4, Value.int 1), (3, Value.int 3), (5, Value.int 5), (0, Value.ref q46), (1, Value.int p1), (2, Value.int 1256)]) hx hb d_Mo_done_55 hl (by decide) rfl (fun ls hl => ?_)
      refine lv_goto (tgt := 11) hx hb d_Mo_done_57 (by decide) ?_
      refine lv_iload hx hb d_Mo_done_11 (lv_at hl 0 rfl) ?_
      refine lv_if_le (tgt := 60) hx hb d_Mo_done_13 (by decide) (fun c9 => absurd c9 (by decide)) (fun _ => ?_)
      refine lv_iload_n hx hb d_Mo_done_16 rfl (lv_at hl 5 rfl) ?_
      refine lv_iload hx hb d_Mo_done_17 (lv_at hl 0 rfl) ?_
      refine lv_idiv hx hb d_Mo_done_19 (by decide) ?_
      refine gx_topi (y := 1256) (by decide) ?_
      refine lv_bipush (v := 10) hx hb d_Mo_done_20 (by decide) ?_
      refine lv_irem hx hb d_Mo_done_22 (by decide) ?_
      refine gx_topi (y := 6) (by decide) ?_
      refine lv_istore (lv' := [(5, Value.int 6), (4, Value.int 1), (3, Value.int 3), (0, Value.ref q46), (1, Value.int p1), (2, Value.int 1256)]) hx hb d_Mo_done_23 hl (by decide) rfl (fun ls hl => ?_)
      refine lv_iload hx hb d_Mo_done_25 (lv_at hl 0 rfl) ?_
      refine lv_if_ne (tgt := 33) hx hb d_Mo_done_27 (by decide) (fun _ => ?_) (fun c9 => absurd c9 (by decide))
      refine lv_iinc (v := 4) (lv' := [(3, Value.int 4), (5, Value.int 6), (4, Value.int 1), (0, Value.ref q46), (1, Value.int p1), (2, Value.int 1256)]) hx hb d_Mo_done_33 hl (k := 2) rfl (by decide) (by decide) rfl (fun ls hl => ?_)
      refine lv_iload hx hb d_Mo_done_36 (lv_at hl 1 rfl) ?_
      refine lv_aload_n hx hb d_Mo_done_38 rfl (lv_at hl 3 rfl) ?_
      refine gz_get (ci := 8) (v := Value.int m_error) (C := "CommitLedgerModel") (T := F_Mo) (N := 35) hx hb hts i_Mo hown hK Z f_46_h12 rfl 0 (by decide) kf_Mo_84 rfl d_Mo_done_39 ?_
      refine lv_icmp_ne (tgt := 50) hx hb d_Mo_done_42 (by decide) (fun _ => ?_) (fun c9 => absurd c9 (fun e9 => absurd (c42_3.trans e9.symm) (by decide)))
      refine lv_iload hx hb d_Mo_done_50 (lv_at hl 2 rfl) ?_
      refine lv_bipush (v := 10) hx hb d_Mo_done_52 (by decide) ?_
      refine lv_idiv hx hb d_Mo_done_54 (by decide) ?_
      refine gx_topi (y := 0) (by decide) ?_
      refine lv_istore (lv' := [(4, Value.int 0), (3, Value.int 4), (5, Value.int 6), (0, Value.ref q46), (1, Value.int p1), (2, Value.int 1256)]) hx hb d_Mo_done_55 hl (by decide) rfl (fun ls hl => ?_)
      refine lv_goto (tgt := 11) hx hb d_Mo_done_57 (by decide) ?_
      refine lv_iload hx hb d_Mo_done_11 (lv_at hl 0 rfl) ?_
      refine lv_if_le (tgt := 60) hx hb d_Mo_done_13 (by decide) (fun _ => ?_) (fun c9 => absurd (by decide) c9)
      refine lv_aload_n hx hb d_Mo_done_60 rfl (lv_at hl 3 rfl) ?_
      refine lv_iconst (v := 0) hx hb d_Mo_done_61 (by decide) ?_
      refine gz_put (ci := 8) (v := Value.int 0) (ty := .int) (C := "CommitLedgerModel") (T := F_Mo) (N := 35) hx hb hts i_Mo t_Mo_ok n_Mo hown hK Z f_46_h12 rfl 0 (by decide) kf_Mo_84 rfl (by decide +kernel) rfl rfl (Nat.le_of_ble_eq_true rfl) d_Mo_done_62 (fun H locs Z => ?_)
      obtain ⟨h15, e_h15⟩ : ∃ z9 : gm_M, z9 = gm_up h12 46 ((q46, Sum.inr (8, [Value.int 0, Value.int 2, Value.ref q47, Value.ref q48, Value.ref q49, Value.int m_docs, Value.ref q50, Value.ref q51, Value.ref q52, Value.ref q53, Value.int m_filesThere, Value.int m_files, Value.int m_actions, Value.int m_power, Value.int m_lost, Value.ref q54, Value.ref q62, Value.ref q70, Value.int m_open, Value.int m_isPrepared, Value.int m_generation, Value.ref q78, Value.ref q79, Value.int m_buffered, Value.int m_limit, Value.int m_factor, um, Value.ref q80, Value.ref q81, Value.ref q82, Value.int m_merges, Value.ref q83, Value.int m_opened, Value.int m_chosenMany, Value.int m_begun])) : Nat × va_E) := ⟨_, rfl⟩
      replace Z : gz D A s.heap h15 H locs := by rw [e_h15]; exact Z
      have f_46_h15 : h15 46 = some ((q46, Sum.inr (8, [Value.int 0, Value.int 2, Value.ref q47, Value.ref q48, Value.ref q49, Value.int m_docs, Value.ref q50, Value.ref q51, Value.ref q52, Value.ref q53, Value.int m_filesThere, Value.int m_files, Value.int m_actions, Value.int m_power, Value.int m_lost, Value.ref q54, Value.ref q62, Value.ref q70, Value.int m_open, Value.int m_isPrepared, Value.int m_generation, Value.ref q78, Value.ref q79, Value.int m_buffered, Value.int m_limit, Value.int m_factor, um, Value.ref q80, Value.ref q81, Value.ref q82, Value.int m_merges, Value.ref q83, Value.int m_opened, Value.int m_chosenMany, Value.int m_begun])) : Nat × va_E) := by rw [e_h15]; exact gm_self
      replace hU : gm_g h h15 [46] := by rw [e_h15]; exact hU.put (by simp)
      refine lv_aload_n hx hb d_Mo_done_65 rfl (lv_at hl 3 rfl) ?_
      refine gz_get (ci := 8) (v := Value.int 2) (C := "CommitLedgerModel") (T := F_Mo) (N := 35) hx hb hts i_Mo hown hK Z f_46_h15 rfl 1 (by decide) kf_Mo_80 rfl d_Mo_done_66 ?_
      refine lv_if_le (tgt := 76) hx hb d_Mo_done_69 (by decide) (fun c9 => absurd c9 (by decide)) (fun _ => ?_)
      refine lv_iconst (v := 0) hx hb d_Mo_done_72 (by decide) ?_
      refine lv_goto (tgt := 77) hx hb d_Mo_done_73 (by decide) ?_
      exact gz_iret (v := 0) hx hb hr hlocks hK Z (by decide) (by decide) (by rw [← hPQ]; exact Or.inr (Or.inr (Or.inr (Or.inl ⟨rfl, hU, f_46_h15, c42_2, c42_3⟩)))) d_Mo_done_77
  · refine lv_aload_n hx hb d_Mo_done_45 rfl (lv_at hl 3 rfl) ?_
    refine lv_iload_n hx hb d_Mo_done_46 rfl (lv_at hl 0 rfl) ?_
    refine gz_put (ci := 8) (v := Value.int 1) (ty := .int) (C := "CommitLedgerModel") (T := F_Mo) (N := 35) hx hb hts i_Mo t_Mo_ok n_Mo hown hK Z f_46_h1 rfl 1 (by decide) kf_Mo_80 rfl (by decide +kernel) rfl rfl (Nat.le_of_ble_eq_true rfl) d_Mo_done_47 (fun H locs Z => ?_)
    obtain ⟨h16, e_h16⟩ : ∃ z9 : gm_M, z9 = gm_up h1 46 ((q46, Sum.inr (8, [Value.int m_error, Value.int 1, Value.ref q47, Value.ref q48, Value.ref q49, Value.int m_docs, Value.ref q50, Value.ref q51, Value.ref q52, Value.ref q53, Value.int m_filesThere, Value.int m_files, Value.int m_actions, Value.int m_power, Value.int m_lost, Value.ref q54, Value.ref q62, Value.ref q70, Value.int m_open, Value.int m_isPrepared, Value.int m_generation, Value.ref q78, Value.ref q79, Value.int m_buffered, Value.int m_limit, Value.int m_factor, um, Value.ref q80, Value.ref q81, Value.ref q82, Value.int m_merges, Value.ref q83, Value.int m_opened, Value.int m_chosenMany, Value.int m_begun])) : Nat × va_E) := ⟨_, rfl⟩
    replace Z : gz D A s.heap h16 H locs := by rw [e_h16]; exact Z
    have f_46_h16 : h16 46 = some ((q46, Sum.inr (8, [Value.int m_error, Value.int 1, Value.ref q47, Value.ref q48, Value.ref q49, Value.int m_docs, Value.ref q50, Value.ref q51, Value.ref q52, Value.ref q53, Value.int m_filesThere, Value.int m_files, Value.int m_actions, Value.int m_power, Value.int m_lost, Value.ref q54, Value.ref q62, Value.ref q70, Value.int m_open, Value.int m_isPrepared, Value.int m_generation, Value.ref q78, Value.ref q79, Value.int m_buffered, Value.int m_limit, Value.int m_factor, um, Value.ref q80, Value.ref q81, Value.ref q82, Value.int m_merges, Value.ref q83, Value.int m_opened, Value.int m_chosenMany, Value.int m_begun])) : Nat × va_E) := by rw [e_h16]; exact gm_self
    replace hU : gm_g h h16 [46] := by rw [e_h16]; exact hU.put (by simp)
    refine lv_iload hx hb d_Mo_done_50 (lv_at hl 2 rfl) ?_
    refine lv_bipush (v := 10) hx hb d_Mo_done_52 (by decide) ?_
    refine lv_idiv hx hb d_Mo_done_54 (by decide) ?_
    refine gx_topi (y := 100) (by decide) ?_
    refine lv_istore (lv' := [(4, Value.int 100), (3, Value.int 1), (5, Value.int 1), (0, Value.ref q46), (1, Value.int p1), (2, Value.int 1256)]) hx hb d_Mo_done_55 hl (by decide) rfl (fun ls hl => ?_)
    refine lv_goto (tgt := 11) hx hb d_Mo_done_57 (by decide) ?_
    refine lv_iload hx hb d_Mo_done_11 (lv_at hl 0 rfl) ?_
    refine lv_if_le (tgt := 60) hx hb d_Mo_done_13 (by decide) (fun c9 => absurd c9 (by decide)) (fun _ => ?_)
    refine lv_iload_n hx hb d_Mo_done_16 rfl (lv_at hl 5 rfl) ?_
    refine lv_iload hx hb d_Mo_done_17 (lv_at hl 0 rfl) ?_
    refine lv_idiv hx hb d_Mo_done_19 (by decide) ?_
    refine gx_topi (y := 12) (by decide) ?_
    refine lv_bipush (v := 10) hx hb d_Mo_done_20 (by decide) ?_
    refine lv_irem hx hb d_Mo_done_22 (by decide) ?_
    refine gx_topi (y := 2) (by decide) ?_
    refine lv_istore (lv' := [(5, Value.int 2), (4, Value.int 100), (3, Value.int 1), (0, Value.ref q46), (1, Value.int p1), (2, Value.int 1256)]) hx hb d_Mo_done_23 hl (by decide) rfl (fun ls hl => ?_)
    refine lv_iload hx hb d_Mo_done_25 (lv_at hl 0 rfl) ?_
    refine lv_if_ne (tgt := 33) hx hb d_Mo_done_27 (by decide) (fun _ => ?_) (fun c9 => absurd c9 (by decide))
    refine lv_iinc (v := 2) (lv' := [(3, Value.int 2), (5, Value.int 2), (4, Value.int 100), (0, Value.ref q46), (1, Value.int p1), (2, Value.int 1256)]) hx hb d_Mo_done_33 hl (k := 2) rfl (by decide) (by decide) rfl (fun ls hl => ?_)
    refine lv_iload hx hb d_Mo_done_36 (lv_at hl 1 rfl) ?_
    refine lv_aload_n hx hb d_Mo_done_38 rfl (lv_at hl 3 rfl) ?_
    refine gz_get (ci := 8) (v := Value.int m_error) (C := "CommitLedgerModel") (T := F_Mo) (N := 35) hx hb hts i_Mo hown hK Z f_46_h16 rfl 0 (by decide) kf_Mo_84 rfl d_Mo_done_39 ?_
    refine lv_icmp_ne (tgt := 50) hx hb d_Mo_done_42 (by decide) (fun _ => ?_) (fun c9 => absurd c9 (fun e9 => absurd (c42_2.trans e9.symm) (by decide)))
    refine lv_iload hx hb d_Mo_done_50 (lv_at hl 2 rfl) ?_
    refine lv_bipush (v := 10) hx hb d_Mo_done_52 (by decide) ?_
    refine lv_idiv hx hb d_Mo_done_54 (by decide) ?_
    refine gx_topi (y := 10) (by decide) ?_
    refine lv_istore (lv' := [(4, Value.int 10), (3, Value.int 2), (5, Value.int 2), (0, Value.ref q46), (1, Value.int p1), (2, Value.int 1256)]) hx hb d_Mo_done_55 hl (by decide) rfl (fun ls hl => ?_)
    refine lv_goto (tgt := 11) hx hb d_Mo_done_57 (by decide) ?_
    refine lv_iload hx hb d_Mo_done_11 (lv_at hl 0 rfl) ?_
    refine lv_if_le (tgt := 60) hx hb d_Mo_done_13 (by decide) (fun c9 => absurd c9 (by decide)) (fun _ => ?_)
    refine lv_iload_n hx hb d_Mo_done_16 rfl (lv_at hl 5 rfl) ?_
    refine lv_iload hx hb d_Mo_done_17 (lv_at hl 0 rfl) ?_
    refine lv_idiv hx hb d_Mo_done_19 (by decide) ?_
    refine gx_topi (y := 125) (by decide) ?_
    refine lv_bipush (v := 10) hx hb d_Mo_done_20 (by decide) ?_
    refine lv_irem hx hb d_Mo_done_22 (by decide) ?_
    refine gx_topi (y := 5) (by decide) ?_
    refine lv_istore (lv' := [(5, Value.int 5), (4, Value.int 10), (3, Value.int 2), (0, Value.ref q46), (1, Value.int p1), (2, Value.int 1256)]) hx hb d_Mo_done_23 hl (by decide) rfl (fun ls hl => ?_)
    refine lv_iload hx hb d_Mo_done_25 (lv_at hl 0 rfl) ?_
    refine lv_if_ne (tgt := 33) hx hb d_Mo_done_27 (by decide) (fun _ => ?_) (fun c9 => absurd c9 (by decide))
    refine lv_iinc (v := 3) (lv' := [(3, Value.int 3), (5, Value.int 5), (4, Value.int 10), (0, Value.ref q46), (1, Value.int p1), (2, Value.int 1256)]) hx hb d_Mo_done_33 hl (k := 2) rfl (by decide) (by decide) rfl (fun ls hl => ?_)
    refine lv_iload hx hb d_Mo_done_36 (lv_at hl 1 rfl) ?_
    refine lv_aload_n hx hb d_Mo_done_38 rfl (lv_at hl 3 rfl) ?_
    refine gz_get (ci := 8) (v := Value.int m_error) (C := "CommitLedgerModel") (T := F_Mo) (N := 35) hx hb hts i_Mo hown hK Z f_46_h16 rfl 0 (by decide) kf_Mo_84 rfl d_Mo_done_39 ?_
    refine lv_icmp_ne (tgt := 50) hx hb d_Mo_done_42 (by decide) (fun _ => ?_) (fun c9 => absurd c9 (fun e9 => absurd (c42_2.trans e9.symm) (by decide)))
    refine lv_iload hx hb d_Mo_done_50 (lv_at hl 2 rfl) ?_
    refine lv_bipush (v := 10) hx hb d_Mo_done_52 (by decide) ?_
    refine lv_idiv hx hb d_Mo_done_54 (by decide) ?_
    refine gx_topi (y := 1) (by decide) ?_
    refine lv_istore (lv' := [(4, Value.int 1), (3, Value.int 3), (5, Value.int 5), (0, Value.ref q46), (1, Value.int p1), (2, Value.int 1256)]) hx hb d_Mo_done_55 hl (by decide) rfl (fun ls hl => ?_)
    refine lv_goto (tgt := 11) hx hb d_Mo_done_57 (by decide) ?_
    refine lv_iload hx hb d_Mo_done_11 (lv_at hl 0 rfl) ?_
    refine lv_if_le (tgt := 60) hx hb d_Mo_done_13 (by decide) (fun c9 => absurd c9 (by decide)) (fun _ => ?_)
    refine lv_iload_n hx hb d_Mo_done_16 rfl (lv_at hl 5 rfl) ?_
    refine lv_iload hx hb d_Mo_done_17 (lv_at hl 0 rfl) ?_
    refine lv_idiv hx hb d_Mo_done_19 (by decide) ?_
    refine gx_topi (y := 1256) (by decide) ?_
    refine lv_bipush (v := 10) hx hb d_Mo_done_20 (by decide) ?_
    refine lv_irem hx hb d_Mo_done_22 (by decide) ?_
    refine gx_topi (y := 6) (by decide) ?_
    refine lv_istore (lv' := [(5, Value.int 6), (4, Value.int 1), (3, Value.int 3), (0, Value.ref q46), (1, Value.int p1), (2, Value.int 1256)]) hx hb d_Mo_done_23 hl (by decide) rfl (fun ls hl => ?_)
    refine lv_iload hx hb d_Mo_done_25 (lv_at hl 0 rfl) ?_
    refine lv_if_ne (tgt := 33) hx hb d_Mo_done_27 (by decide) (fun _ => ?_) (fun c9 => absurd c9 (by decide))
    refine lv_iinc (v := 4) (lv' := [(3, Value.int 4), (5, Value.int 6), (4, Value.int 1), (0, Value.ref q46), (1, Value.int p1), (2, Value.int 1256)]) hx hb d_Mo_done_33 hl (k := 2) rfl (by decide) (by decide) rfl (fun ls hl => ?_)
    refine lv_iload hx hb d_Mo_done_36 (lv_at hl 1 rfl) ?_
    refine lv_aload_n hx hb d_Mo_done_38 rfl (lv_at hl 3 rfl) ?_
    refine gz_get (ci := 8) (v := Value.int m_error) (C := "CommitLedgerModel") (T := F_Mo) (N := 35) hx hb hts i_Mo hown hK Z f_46_h16 rfl 0 (by decide) kf_Mo_84 rfl d_Mo_done_39 ?_
    refine lv_icmp_ne (tgt := 50) hx hb d_Mo_done_42 (by decide) (fun _ => ?_) (fun c9 => absurd c9 (fun e9 => absurd (c42_2.trans e9.symm) (by decide)))
    refine lv_iload hx hb d_Mo_done_50 (lv_at hl 2 rfl) ?_
    refine lv_bipush (v := 10) hx hb d_Mo_done_52 (by decide) ?_
    refine lv_idiv hx hb d_Mo_done_54 (by decide) ?_
    refine gx_topi (y := 0) (by decide) ?_
    refine lv_istore (lv' := [(4, Value.int 0), (3, Value.int 4), (5, Value.int 6), (0, Value.ref q46), (1, Value.int p1), (2, Value.int 1256)]) hx hb d_Mo_done_55 hl (by decide) rfl (fun ls hl => ?_)
    refine lv_goto (tgt := 11) hx hb d_Mo_done_57 (by decide) ?_
    refine lv_iload hx hb d_Mo_done_11 (lv_at hl 0 rfl) ?_
    refine lv_if_le (tgt := 60) hx hb d_Mo_done_13 (by decide) (fun _ => ?_) (fun c9 => absurd (by decide) c9)
    refine lv_aload_n hx hb d_Mo_done_60 rfl (lv_at hl 3 rfl) ?_
    refine lv_iconst (v := 0) hx hb d_Mo_done_61 (by decide) ?_
    refine gz_put (ci := 8) (v := Value.int 0) (ty := .int) (C := "CommitLedgerModel") (T := F_Mo) (N := 35) hx hb hts i_Mo t_Mo_ok n_Mo hown hK Z f_46_h16 rfl 0 (by decide) kf_Mo_84 rfl (by decide +kernel) rfl rfl (Nat.le_of_ble_eq_true rfl) d_Mo_done_62 (fun H locs Z => ?_)
    obtain ⟨h20, e_h20⟩ : ∃ z9 : gm_M, z9 = gm_up h16 46 ((q46, Sum.inr (8, [Value.int 0, Value.int 1, Value.ref q47, Value.ref q48, Value.ref q49, Value.int m_docs, Value.ref q50, Value.ref q51, Value.ref q52, Value.ref q53, Value.int m_filesThere, Value.int m_files, Value.int m_actions, Value.int m_power, Value.int m_lost, Value.ref q54, Value.ref q62, Value.ref q70, Value.int m_open, Value.int m_isPrepared, Value.int m_generation, Value.ref q78, Value.ref q79, Value.int m_buffered, Value.int m_limit, Value.int m_factor, um, Value.ref q80, Value.ref q81, Value.ref q82, Value.int m_merges, Value.ref q83, Value.int m_opened, Value.int m_chosenMany, Value.int m_begun])) : Nat × va_E) := ⟨_, rfl⟩
    replace Z : gz D A s.heap h20 H locs := by rw [e_h20]; exact Z
    have f_46_h20 : h20 46 = some ((q46, Sum.inr (8, [Value.int 0, Value.int 1, Value.ref q47, Value.ref q48, Value.ref q49, Value.int m_docs, Value.ref q50, Value.ref q51, Value.ref q52, Value.ref q53, Value.int m_filesThere, Value.int m_files, Value.int m_actions, Value.int m_power, Value.int m_lost, Value.ref q54, Value.ref q62, Value.ref q70, Value.int m_open, Value.int m_isPrepared, Value.int m_generation, Value.ref q78, Value.ref q79, Value.int m_buffered, Value.int m_limit, Value.int m_factor, um, Value.ref q80, Value.ref q81, Value.ref q82, Value.int m_merges, Value.ref q83, Value.int m_opened, Value.int m_chosenMany, Value.int m_begun])) : Nat × va_E) := by rw [e_h20]; exact gm_self
    replace hU : gm_g h h20 [46] := by rw [e_h20]; exact hU.put (by simp)
    refine lv_aload_n hx hb d_Mo_done_65 rfl (lv_at hl 3 rfl) ?_
    refine gz_get (ci := 8) (v := Value.int 1) (C := "CommitLedgerModel") (T := F_Mo) (N := 35) hx hb hts i_Mo hown hK Z f_46_h20 rfl 1 (by decide) kf_Mo_80 rfl d_Mo_done_66 ?_
    refine lv_if_le (tgt := 76) hx hb d_Mo_done_69 (by decide) (fun c9 => absurd c9 (by decide)) (fun _ => ?_)
    refine lv_iconst (v := 0) hx hb d_Mo_done_72 (by decide) ?_
    refine lv_goto (tgt := 77) hx hb d_Mo_done_73 (by decide) ?_
    exact gz_iret (v := 0) hx hb hr hlocks hK Z (by decide) (by decide) (by rw [← hPQ]; exact Or.inr (Or.inr (Or.inr (Or.inr (⟨rfl, hU, f_46_h20, c42_2⟩))))) d_Mo_done_77

set_option maxHeartbeats 4000000 in
set_option maxRecDepth 100000 in
theorem k_Mo_done_12356 (l : Launch) (htr : l.stackTraces = false) (D : va_G) (tys : List (ClassId × FieldType)) (z sz : Nat) (ws : va_W) (h : gm_M) (hM : gm_S h ws) (q46 : Nat) (q47 : Nat) (q48 : Nat) (q49 : Nat) (q50 : Nat) (q51 : Nat) (q52 : Nat) (q53 : Nat) (q54 : Nat) (q62 : Nat) (q70 : Nat) (q78 : Nat) (q79 : Nat) (q80 : Nat) (q81 : Nat) (q82 : Nat) (q83 : Nat) (um : Value) (m_error : Int32) (m_thrown : Int32) (m_docs : Int32) (m_filesThere : Int32) (m_files : Int32) (m_actions : Int32) (m_power : Int32) (m_lost : Int32) (m_open : Int32) (m_isPrepared : Int32) (m_generation : Int32) (m_buffered : Int32) (m_limit : Int32) (m_factor : Int32) (m_merges : Int32) (m_opened : Int32) (m_chosenMany : Int32) (m_begun : Int32) (p1 : Int32) (f_46 : h 46 = some ((q46, Sum.inr (8, [Value.int m_error, Value.int m_thrown, Value.ref q47, Value.ref q48, Value.ref q49, Value.int m_docs, Value.ref q50, Value.ref q51, Value.ref q52, Value.ref q53, Value.int m_filesThere, Value.int m_files, Value.int m_actions, Value.int m_power, Value.int m_lost, Value.ref q54, Value.ref q62, Value.ref q70, Value.int m_open, Value.int m_isPrepared, Value.int m_generation, Value.ref q78, Value.ref q79, Value.int m_buffered, Value.int m_limit, Value.int m_factor, um, Value.ref q80, Value.ref q81, Value.ref q82, Value.int m_merges, Value.ref q83, Value.int m_opened, Value.int m_chosenMany, Value.int m_begun])) : Nat × va_E)) : gx_Met l y_Mo_done [Cond.code y_Mo_done b_Mo_done 6 (some .int)] { frames := 1, cells := 0, slots := 0, locals := 12 } (gx_P z sz D classes tys ws [Value.ref q46, Value.int p1, Value.int 12356]) (gx_Q D classes tys (va_A ws sz) (gm_p (fun r h' => (r = Sum.inl (some (Value.int p1)) ∧ gm_g h h' [46] ∧ h' 46 = some ((q46, Sum.inr (8, [Value.int 0, Value.int 0, Value.ref q47, Value.ref q48, Value.ref q49, Value.int m_docs, Value.ref q50, Value.ref q51, Value.ref q52, Value.ref q53, Value.int m_filesThere, Value.int m_files, Value.int m_actions, Value.int m_power, Value.int m_lost, Value.ref q54, Value.ref q62, Value.ref q70, Value.int m_open, Value.int m_isPrepared, Value.int m_generation, Value.ref q78, Value.ref q79, Value.int m_buffered, Value.int m_limit, Value.int m_factor, um, Value.ref q80, Value.ref q81, Value.ref q82, Value.int m_merges, Value.ref q83, Value.int m_opened, Value.int m_chosenMany, Value.int m_begun])) : Nat × va_E) ∧ (¬ 1 = m_error) ∧ (¬ 2 = m_error) ∧ (¬ 3 = m_error) ∧ (¬ 5 = m_error) ∧ (¬ 6 = m_error)) ∨ (r = Sum.inl (some (Value.int 0)) ∧ gm_g h h' [46] ∧ h' 46 = some ((q46, Sum.inr (8, [Value.int 0, Value.int 5, Value.ref q47, Value.ref q48, Value.ref q49, Value.int m_docs, Value.ref q50, Value.ref q51, Value.ref q52, Value.ref q53, Value.int m_filesThere, Value.int m_files, Value.int m_actions, Value.int m_power, Value.int m_lost, Value.ref q54, Value.ref q62, Value.ref q70, Value.int m_open, Value.int m_isPrepared, Value.int m_generation, Value.ref q78, Value.ref q79, Value.int m_buffered, Value.int m_limit, Value.int m_factor, um, Value.ref q80, Value.ref q81, Value.ref q82, Value.int m_merges, Value.ref q83, Value.int m_opened, Value.int m_chosenMany, Value.int m_begun])) : Nat × va_E) ∧ (¬ 1 = m_error) ∧ (¬ 2 = m_error) ∧ (¬ 3 = m_error) ∧ (¬ 5 = m_error) ∧ (6 = m_error)) ∨ (r = Sum.inl (some (Value.int 0)) ∧ gm_g h h' [46] ∧ h' 46 = some ((q46, Sum.inr (8, [Value.int 0, Value.int 4, Value.ref q47, Value.ref q48, Value.ref q49, Value.int m_docs, Value.ref q50, Value.ref q51, Value.ref q52, Value.ref q53, Value.int m_filesThere, Value.int m_files, Value.int m_actions, Value.int m_power, Value.int m_lost, Value.ref q54, Value.ref q62, Value.ref q70, Value.int m_open, Value.int m_isPrepared, Value.int m_generation, Value.ref q78, Value.ref q79, Value.int m_buffered, Value.int m_limit, Value.int m_factor, um, Value.ref q80, Value.ref q81, Value.ref q82, Value.int m_merges, Value.ref q83, Value.int m_opened, Value.int m_chosenMany, Value.int m_begun])) : Nat × va_E) ∧ (¬ 1 = m_error) ∧ (¬ 2 = m_error) ∧ (¬ 3 = m_error) ∧ (5 = m_error)) ∨ (r = Sum.inl (some (Value.int 0)) ∧ gm_g h h' [46] ∧ h' 46 = some ((q46, Sum.inr (8, [Value.int 0, Value.int 3, Value.ref q47, Value.ref q48, Value.ref q49, Value.int m_docs, Value.ref q50, Value.ref q51, Value.ref q52, Value.ref q53, Value.int m_filesThere, Value.int m_files, Value.int m_actions, Value.int m_power, Value.int m_lost, Value.ref q54, Value.ref q62, Value.ref q70, Value.int m_open, Value.int m_isPrepared, Value.int m_generation, Value.ref q78, Value.ref q79, Value.int m_buffered, Value.int m_limit, Value.int m_factor, um, Value.ref q80, Value.ref q81, Value.ref q82, Value.int m_merges, Value.ref q83, Value.int m_opened, Value.int m_chosenMany, Value.int m_begun])) : Nat × va_E) ∧ (¬ 1 = m_error) ∧ (¬ 2 = m_error) ∧ (3 = m_error)) ∨ (r = Sum.inl (some (Value.int 0)) ∧ gm_g h h' [46] ∧ h' 46 = some ((q46, Sum.inr (8, [Value.int 0, Value.int 2, Value.ref q47, Value.ref q48, Value.ref q49, Value.int m_docs, Value.ref q50, Value.ref q51, Value.ref q52, Value.ref q53, Value.int m_filesThere, Value.int m_files, Value.int m_actions, Value.int m_power, Value.int m_lost, Value.ref q54, Value.ref q62, Value.ref q70, Value.int m_open, Value.int m_isPrepared, Value.int m_generation, Value.ref q78, Value.ref q79, Value.int m_buffered, Value.int m_limit, Value.int m_factor, um, Value.ref q80, Value.ref q81, Value.ref q82, Value.int m_merges, Value.ref q83, Value.int m_opened, Value.int m_chosenMany, Value.int m_begun])) : Nat × va_E) ∧ (¬ 1 = m_error) ∧ (2 = m_error)) ∨ (r = Sum.inl (some (Value.int 0)) ∧ gm_g h h' [46] ∧ h' 46 = some ((q46, Sum.inr (8, [Value.int 0, Value.int 1, Value.ref q47, Value.ref q48, Value.ref q49, Value.int m_docs, Value.ref q50, Value.ref q51, Value.ref q52, Value.ref q53, Value.int m_filesThere, Value.int m_files, Value.int m_actions, Value.int m_power, Value.int m_lost, Value.ref q54, Value.ref q62, Value.ref q70, Value.int m_open, Value.int m_isPrepared, Value.int m_generation, Value.ref q78, Value.ref q79, Value.int m_buffered, Value.int m_limit, Value.int m_factor, um, Value.ref q80, Value.ref q81, Value.ref q82, Value.int m_merges, Value.ref q83, Value.int m_opened, Value.int m_chosenMany, Value.int m_begun])) : Nat × va_E) ∧ (1 = m_error))))) 0 0 (va_A ws sz) := by
  refine gx_ofW (cc := b_Mo_done) (maxL := 6) (ret := (some .int)) (by decide) rfl ?_
  intro p e s m args below meth c s₁ B hml hv
  obtain ⟨rfl, hsz, hz, hP, hK, hD0, hY⟩ := hv
  have hx := B.exec
  have hb := B.bytes
  have hr := B.returns
  have hts := hY.hts (#[Value.ref q46, Value.int p1, Value.int 12356] : Array Value)
  have hown : s.vm.findClass "CommitLedgerModel" = some m.cls := findClass_of_methodNamed B.named
  have hlocks := B.notSynchronized
  have hne : c.exceptionTable.isEmpty = true := B.noHandlers (atoms_spec (ws := [Cond.code y_Mo_done b_Mo_done 6 (some .int)]) B.pre _ List.mem_cons_self)
  subst hsz
  have hAz := gx_az hD0 hz
  have hD := hD0.self (sz := s.heap.size)
  have hN := gx_ns hP
  have hA : ∀ q : Nat, s.heap.size ≤ q → va_A ws s.heap.size q := fun q h => Or.inr h
  generalize va_A ws s.heap.size = A at hD hN hA hAz ⊢
  generalize hPQ : (fun (r : Option Value ⊕ String) (h' : gm_M) => (r = Sum.inl (some (Value.int p1)) ∧ gm_g h h' [46] ∧ h' 46 = some ((q46, Sum.inr (8, [Value.int 0, Value.int 0, Value.ref q47, Value.ref q48, Value.ref q49, Value.int m_docs, Value.ref q50, Value.ref q51, Value.ref q52, Value.ref q53, Value.int m_filesThere, Value.int m_files, Value.int m_actions, Value.int m_power, Value.int m_lost, Value.ref q54, Value.ref q62, Value.ref q70, Value.int m_open, Value.int m_isPrepared, Value.int m_generation, Value.ref q78, Value.ref q79, Value.int m_buffered, Value.int m_limit, Value.int m_factor, um, Value.ref q80, Value.ref q81, Value.ref q82, Value.int m_merges, Value.ref q83, Value.int m_opened, Value.int m_chosenMany, Value.int m_begun])) : Nat × va_E) ∧ (¬ 1 = m_error) ∧ (¬ 2 = m_error) ∧ (¬ 3 = m_error) ∧ (¬ 5 = m_error) ∧ (¬ 6 = m_error)) ∨ (r = Sum.inl (some (Value.int 0)) ∧ gm_g h h' [46] ∧ h' 46 = some ((q46, Sum.inr (8, [Value.int 0, Value.int 5, Value.ref q47, Value.ref q48, Value.ref q49, Value.int m_docs, Value.ref q50, Value.ref q51, Value.ref q52, Value.ref q53, Value.int m_filesThere, Value.int m_files, Value.int m_actions, Value.int m_power, Value.int m_lost, Value.ref q54, Value.ref q62, Value.ref q70, Value.int m_open, Value.int m_isPrepared, Value.int m_generation, Value.ref q78, Value.ref q79, Value.int m_buffered, Value.int m_limit, Value.int m_factor, um, Value.ref q80, Value.ref q81, Value.ref q82, Value.int m_merges, Value.ref q83, Value.int m_opened, Value.int m_chosenMany, Value.int m_begun])) : Nat × va_E) ∧ (¬ 1 = m_error) ∧ (¬ 2 = m_error) ∧ (¬ 3 = m_error) ∧ (¬ 5 = m_error) ∧ (6 = m_error)) ∨ (r = Sum.inl (some (Value.int 0)) ∧ gm_g h h' [46] ∧ h' 46 = some ((q46, Sum.inr (8, [Value.int 0, Value.int 4, Value.ref q47, Value.ref q48, Value.ref q49, Value.int m_docs, Value.ref q50, Value.ref q51, Value.ref q52, Value.ref q53, Value.int m_filesThere, Value.int m_files, Value.int m_actions, Value.int m_power, Value.int m_lost, Value.ref q54, Value.ref q62, Value.ref q70, Value.int m_open, Value.int m_isPrepared, Value.int m_generation, Value.ref q78, Value.ref q79, Value.int m_buffered, Value.int m_limit, Value.int m_factor, um, Value.ref q80, Value.ref q81, Value.ref q82, Value.int m_merges, Value.ref q83, Value.int m_opened, Value.int m_chosenMany, Value.int m_begun])) : Nat × va_E) ∧ (¬ 1 = m_error) ∧ (¬ 2 = m_error) ∧ (¬ 3 = m_error) ∧ (5 = m_error)) ∨ (r = Sum.inl (some (Value.int 0)) ∧ gm_g h h' [46] ∧ h' 46 = some ((q46, Sum.inr (8, [Value.int 0, Value.int 3, Value.ref q47, Value.ref q48, Value.ref q49, Value.int m_docs, Value.ref q50, Value.ref q51, Value.ref q52, Value.ref q53, Value.int m_filesThere, Value.int m_files, Value.int m_actions, Value.int m_power, Value.int m_lost, Value.ref q54, Value.ref q62, Value.ref q70, Value.int m_open, Value.int m_isPrepared, Value.int m_generation, Value.ref q78, Value.ref q79, Value.int m_buffered, Value.int m_limit, Value.int m_factor, um, Value.ref q80, Value.ref q81, Value.ref q82, Value.int m_merges, Value.ref q83, Value.int m_opened, Value.int m_chosenMany, Value.int m_begun])) : Nat × va_E) ∧ (¬ 1 = m_error) ∧ (¬ 2 = m_error) ∧ (3 = m_error)) ∨ (r = Sum.inl (some (Value.int 0)) ∧ gm_g h h' [46] ∧ h' 46 = some ((q46, Sum.inr (8, [Value.int 0, Value.int 2, Value.ref q47, Value.ref q48, Value.ref q49, Value.int m_docs, Value.ref q50, Value.ref q51, Value.ref q52, Value.ref q53, Value.int m_filesThere, Value.int m_files, Value.int m_actions, Value.int m_power, Value.int m_lost, Value.ref q54, Value.ref q62, Value.ref q70, Value.int m_open, Value.int m_isPrepared, Value.int m_generation, Value.ref q78, Value.ref q79, Value.int m_buffered, Value.int m_limit, Value.int m_factor, um, Value.ref q80, Value.ref q81, Value.ref q82, Value.int m_merges, Value.ref q83, Value.int m_opened, Value.int m_chosenMany, Value.int m_begun])) : Nat × va_E) ∧ (¬ 1 = m_error) ∧ (2 = m_error)) ∨ (r = Sum.inl (some (Value.int 0)) ∧ gm_g h h' [46] ∧ h' 46 = some ((q46, Sum.inr (8, [Value.int 0, Value.int 1, Value.ref q47, Value.ref q48, Value.ref q49, Value.int m_docs, Value.ref q50, Value.ref q51, Value.ref q52, Value.ref q53, Value.int m_filesThere, Value.int m_files, Value.int m_actions, Value.int m_power, Value.int m_lost, Value.ref q54, Value.ref q62, Value.ref q70, Value.int m_open, Value.int m_isPrepared, Value.int m_generation, Value.ref q78, Value.ref q79, Value.int m_buffered, Value.int m_limit, Value.int m_factor, um, Value.ref q80, Value.ref q81, Value.ref q82, Value.int m_merges, Value.ref q83, Value.int m_opened, Value.int m_chosenMany, Value.int m_begun])) : Nat × va_E) ∧ (1 = m_error))) = PQ
  have Z : gz D A s.heap h s.heap [] := ⟨ws, hM, hP, hD, va_S.rf⟩
  clear hP hD hM hD0
  have hU : gm_g h h [46] := gm_g.rf
  have hl := lv_entry ([Value.ref q46, Value.int p1, Value.int 12356]) (n := 6) (Nat.le_of_ble_eq_true rfl)
  rw [lg_entry_eq]
  generalize (lg_sl ([Value.ref q46, Value.int p1, Value.int 12356]) ++ List.replicate (6 - (lg_sl ([Value.ref q46, Value.int p1, Value.int 12356])).length) Slot.unset).toArray = ls at hl ⊢
  have hl : lv_has ls 6 [(0, Value.ref q46), (1, Value.int p1), (2, Value.int 12356)] := hl
  refine lv_aload_n hx hb d_Mo_done_0 rfl (lv_at hl 0 rfl) ?_
  refine lv_iconst (v := 0) hx hb d_Mo_done_1 (by decide) ?_
  refine gz_put (ci := 8) (v := Value.int 0) (ty := .int) (C := "CommitLedgerModel") (T := F_Mo) (N := 35) hx hb hts i_Mo t_Mo_ok n_Mo hown hK Z f_46 rfl 1 (by decide) kf_Mo_80 rfl (by decide +kernel) rfl rfl (Nat.le_of_ble_eq_true rfl) d_Mo_done_2 (fun H locs Z => ?_)
  obtain ⟨h1, e_h1⟩ : ∃ z9 : gm_M, z9 = gm_up h 46 ((q46, Sum.inr (8, [Value.int m_error, Value.int 0, Value.ref q47, Value.ref q48, Value.ref q49, Value.int m_docs, Value.ref q50, Value.ref q51, Value.ref q52, Value.ref q53, Value.int m_filesThere, Value.int m_files, Value.int m_actions, Value.int m_power, Value.int m_lost, Value.ref q54, Value.ref q62, Value.ref q70, Value.int m_open, Value.int m_isPrepared, Value.int m_generation, Value.ref q78, Value.ref q79, Value.int m_buffered, Value.int m_limit, Value.int m_factor, um, Value.ref q80, Value.ref q81, Value.ref q82, Value.int m_merges, Value.ref q83, Value.int m_opened, Value.int m_chosenMany, Value.int m_begun])) : Nat × va_E) := ⟨_, rfl⟩
  replace Z : gz D A s.heap h1 H locs := by rw [e_h1]; exact Z
  have f_46_h1 : h1 46 = some ((q46, Sum.inr (8, [Value.int m_error, Value.int 0, Value.ref q47, Value.ref q48, Value.ref q49, Value.int m_docs, Value.ref q50, Value.ref q51, Value.ref q52, Value.ref q53, Value.int m_filesThere, Value.int m_files, Value.int m_actions, Value.int m_power, Value.int m_lost, Value.ref q54, Value.ref q62, Value.ref q70, Value.int m_open, Value.int m_isPrepared, Value.int m_generation, Value.ref q78, Value.ref q79, Value.int m_buffered, Value.int m_limit, Value.int m_factor, um, Value.ref q80, Value.ref q81, Value.ref q82, Value.int m_merges, Value.ref q83, Value.int m_opened, Value.int m_chosenMany, Value.int m_begun])) : Nat × va_E) := by rw [e_h1]; exact gm_self
  replace hU : gm_g h h1 [46] := by rw [e_h1]; exact hU.put (by simp)
  refine lv_iconst (v := 0) hx hb d_Mo_done_5 (by decide) ?_
  refine lv_istore_n (lv' := [(3, Value.int 0), (0, Value.ref q46), (1, Value.int p1), (2, Value.int 12356)]) hx hb d_Mo_done_6 rfl hl (by decide) rfl (fun ls hl => ?_)
  refine lv_ldc (v := 100000) hx hb hown (hts _ ki_Mo_83) d_Mo_done_7 ?_
  refine lv_istore (lv' := [(4, Value.int 100000), (3, Value.int 0), (0, Value.ref q46), (1, Value.int p1), (2, Value.int 12356)]) hx hb d_Mo_done_9 hl (by decide) rfl (fun ls hl => ?_)
  refine lv_iload hx hb d_Mo_done_11 (lv_at hl 0 rfl) ?_
  refine lv_if_le (tgt := 60) hx hb d_Mo_done_13 (by decide) (fun c9 => absurd c9 (by decide)) (fun _ => ?_)
  refine lv_iload_n hx hb d_Mo_done_16 rfl (lv_at hl 4 rfl) ?_
  refine lv_iload hx hb d_Mo_done_17 (lv_at hl 0 rfl) ?_
  refine lv_idiv hx hb d_Mo_done_19 (by decide) ?_
  refine gx_topi (y := 0) (by decide) ?_
  refine lv_bipush (v := 10) hx hb d_Mo_done_20 (by decide) ?_
  refine lv_irem hx hb d_Mo_done_22 (by decide) ?_
  refine gx_topi (y := 0) (by decide) ?_
  refine lv_istore (lv' := [(5, Value.int 0), (4, Value.int 100000), (3, Value.int 0), (0, Value.ref q46), (1, Value.int p1), (2, Value.int 12356)]) hx hb d_Mo_done_23 hl (by decide) rfl (fun ls hl => ?_)
  refine lv_iload hx hb d_Mo_done_25 (lv_at hl 0 rfl) ?_
  refine lv_if_ne (tgt := 33) hx hb d_Mo_done_27 (by decide) (fun c9 => absurd (by decide) c9) (fun _ => ?_)
  refine lv_goto (tgt := 50) hx hb d_Mo_done_30 (by decide) ?_
  refine lv_iload hx hb d_Mo_done_50 (lv_at hl 1 rfl) ?_
  refine lv_bipush (v := 10) hx hb d_Mo_done_52 (by decide) ?_
  refine lv_idiv hx hb d_Mo_done_54 (by decide) ?_
  refine gx_topi (y := 10000) (by decide) ?_
  refine lv_istore (lv' := [(4, Value.int 10000), (5, Value.int 0), (3, Value.int 0), (0, Value.ref q46), (1, Value.int p1), (2, Value.int 12356)]) hx hb d_Mo_done_55 hl (by decide) rfl (fun ls hl => ?_)
  refine lv_goto (tgt := 11) hx hb d_Mo_done_57 (by decide) ?_
  refine lv_iload hx hb d_Mo_done_11 (lv_at hl 0 rfl) ?_
  refine lv_if_le (tgt := 60) hx hb d_Mo_done_13 (by decide) (fun c9 => absurd c9 (by decide)) (fun _ => ?_)
  refine lv_iload_n hx hb d_Mo_done_16 rfl (lv_at hl 5 rfl) ?_
  refine lv_iload hx hb d_Mo_done_17 (lv_at hl 0 rfl) ?_
  refine lv_idiv hx hb d_Mo_done_19 (by decide) ?_
  refine gx_topi (y := 1) (by decide) ?_
  refine lv_bipush (v := 10) hx hb d_Mo_done_20 (by decide) ?_
  refine lv_irem hx hb d_Mo_done_22 (by decide) ?_
  refine gx_topi (y := 1) (by decide) ?_
  refine lv_istore (lv' := [(5, Value.int 1), (4, Value.int 10000), (3, Value.int 0), (0, Value.ref q46), (1, Value.int p1), (2, Value.int 12356)]) hx hb d_Mo_done_23 hl (by decide) rfl (fun ls hl => ?_)
  refine lv_iload hx hb d_Mo_done_25 (lv_at hl 0 rfl) ?_
  refine lv_if_ne (tgt := 33) hx hb d_Mo_done_27 (by decide) (fun _ => ?_) (fun c9 => absurd c9 (by decide))
  refine lv_iinc (v := 1) (lv' := [(3, Value.int 1), (5, Value.int 1), (4, Value.int 10000), (0, Value.ref q46), (1, Value.int p1), (2, Value.int 12356)]) hx hb d_Mo_done_33 hl (k := 2) rfl (by decide) (by decide) rfl (fun ls hl => ?_)
  refine lv_iload hx hb d_Mo_done_36 (lv_at hl 1 rfl) ?_
  refine lv_aload_n hx hb d_Mo_done_38 rfl (lv_at hl 3 rfl) ?_
  refine gz_get (ci := 8) (v := Value.int m_error) (C := "CommitLedgerModel") (T := F_Mo) (N := 35) hx hb hts i_Mo hown hK Z f_46_h1 rfl 0 (by decide) kf_Mo_84 rfl d_Mo_done_39 ?_
  refine lv_icmp_ne (tgt := 50) hx hb d_Mo_done_42 (by decide) (fun c42_2 => ?_) (fun c42_2 => ?_)
  · refine lv_iload hx hb d_Mo_done_50 (lv_at hl 2 rfl) ?_
    refine lv_bipush (v := 10) hx hb d_Mo_done_52 (by decide) ?_
    refine lv_idiv hx hb d_Mo_done_54 (by decide) ?_
    refine gx_topi (y := 1000) (by decide) ?_
    refine lv_istore (lv' := [(4, Value.int 1000), (3, Value.int 1), (5, Value.int 1), (0, Value.ref q46), (1, Value.int p1), (2, Value.int 12356)]) hx hb d_Mo_done_55 hl (by decide) rfl (fun ls hl => ?_)
    refine lv_goto (tgt := 11) hx hb d_Mo_done_57 (by decide) ?_
    refine lv_iload hx hb d_Mo_done_11 (lv_at hl 0 rfl) ?_
    refine lv_if_le (tgt := 60) hx hb d_Mo_done_13 (by decide) (fun c9 => absurd c9 (by decide)) (fun _ => ?_)
    refine lv_iload_n hx hb d_Mo_done_16 rfl (lv_at hl 5 rfl) ?_
    refine lv_iload hx hb d_Mo_done_17 (lv_at hl 0 rfl) ?_
    refine lv_idiv hx hb d_Mo_done_19 (by decide) ?_
    refine gx_topi (y := 12) (by decide) ?_
    refine lv_bipush (v := 10) hx hb d_Mo_done_20 (by decide) ?_
    refine lv_irem hx hb d_Mo_done_22 (by decide) ?_
    refine gx_topi (y := 2) (by decide) ?_
    refine lv_istore (lv' := [(5, Value.int 2), (4, Value.int 1000), (3, Value.int 1), (0, Value.ref q46), (1, Value.int p1), (2, Value.int 12356)]) hx hb d_Mo_done_23 hl (by decide) rfl (fun ls hl => ?_)
    refine lv_iload hx hb d_Mo_done_25 (lv_at hl 0 rfl) ?_
    refine lv_if_ne (tgt := 33) hx hb d_Mo_done_27 (by decide) (fun _ => ?_) (fun c9 => absurd c9 (by decide))
    refine lv_iinc (v := 2) (lv' := [(3, Value.int 2), (5, Value.int 2), (4, Value.int 1000), (0, Value.ref q46), (1, Value.int p1), (2, Value.int 12356)]) hx hb d_Mo_done_33 hl (k := 2) rfl (by decide) (by decide) rfl (fun ls hl => ?_)
    refine lv_iload hx hb d_Mo_done_36 (lv_at hl 1 rfl) ?_
    refine lv_aload_n hx hb d_Mo_done_38 rfl (lv_at hl 3 rfl) ?_
    refine gz_get (ci := 8) (v := Value.int m_error) (C := "CommitLedgerModel") (T := F_Mo) (N := 35) hx hb hts i_Mo hown hK Z f_46_h1 rfl 0 (by decide) kf_Mo_84 rfl d_Mo_done_39 ?_
    refine lv_icmp_ne (tgt := 50) hx hb d_Mo_done_42 (by decide) (fun c42_3 => ?_) (fun c42_3 => ?_)
    · refine lv_iload hx hb d_Mo_done_50 (lv_at hl 2 rfl) ?_
      refine lv_bipush (v := 10) hx hb d_Mo_done_52 (by decide) ?_
      refine lv_idiv hx hb d_Mo_done_54 (by decide) ?_
      refine gx_topi (y := 100) (by decide) ?_
      refine lv_istore (lv' := [(4, Value.int 100), (3, Value.int 2), (5, Value.int 2), (0, Value.ref q46), (1, Value.int p1), (2, Value.int 12356)]) hx hb d_Mo_done_55 hl (by decide) rfl (fun ls hl => ?_)
      refine lv_goto (tgt := 11) hx hb d_Mo_done_57 (by decide) ?_
      refine lv_iload hx hb d_Mo_done_11 (lv_at hl 0 rfl) ?_
      refine lv_if_le (tgt := 60) hx hb d_Mo_done_13 (by decide) (fun c9 => absurd c9 (by decide)) (fun _ => ?_)
      refine lv_iload_n hx hb d_Mo_done_16 rfl (lv_at hl 5 rfl) ?_
      refine lv_iload hx hb d_Mo_done_17 (lv_at hl 0 rfl) ?_
      refine lv_idiv hx hb d_Mo_done_19 (by decide) ?_
      refine gx_topi (y := 123) (by decide) ?_
      refine lv_bipush (v := 10) hx hb d_Mo_done_20 (by decide) ?_
      refine lv_irem hx hb d_Mo_done_22 (by decide) ?_
      refine gx_topi (y := 3) (by decide) ?_
      refine lv_istore (lv' := [(5, Value.int 3), (4, Value.int 100), (3, Value.int 2), (0, Value.ref q46), (1, Value.int p1), (2, Value.int 12356)]) hx hb d_Mo_done_23 hl (by decide) rfl (fun ls hl => ?_)
      refine lv_iload hx hb d_Mo_done_25 (lv_at hl 0 rfl) ?_
      refine lv_if_ne (tgt := 33) hx hb d_Mo_done_27 (by decide) (fun _ => ?_) (fun c9 => absurd c9 (by decide))
      refine lv_iinc (v := 3) (lv' := [(3, Value.int 3), (5, Value.int 3), (4, Value.int 100), (0, Value.ref q46), (1, Value.int p1), (2, Value.int 12356)]) hx hb d_Mo_done_33 hl (k := 2) rfl (by decide) (by decide) rfl (fun ls hl => ?_)
      refine lv_iload hx hb d_Mo_done_36 (lv_at hl 1 rfl) ?_
      refine lv_aload_n hx hb d_Mo_done_38 rfl (lv_at hl 3 rfl) ?_
      refine gz_get (ci := 8) (v := Value.int m_error) (C := "CommitLedgerModel") (T := F_Mo) (N := 35) hx hb hts i_Mo hown hK Z f_46_h1 rfl 0 (by decide) kf_Mo_84 rfl d_Mo_done_39 ?_
      refine lv_icmp_ne (tgt := 50) hx hb d_Mo_done_42 (by decide) (fun c42_4 => ?_) (fun c42_4 => ?_)
      · refine lv_iload hx hb d_Mo_done_50 (lv_at hl 2 rfl) ?_
        refine lv_bipush (v := 10) hx hb d_Mo_done_52 (by decide) ?_
        refine lv_idiv hx hb d_Mo_done_54 (by decide) ?_
        refine gx_topi (y := 10) (by decide) ?_
        refine lv_istore (lv' := [(4, Value.int 10), (3, Value.int 3), (5, Value.int 3), (0, Value.ref q46), (1, Value.int p1), (2, Value.int 12356)]) hx hb d_Mo_done_55 hl (by decide) rfl (fun ls hl => ?_)
        refine lv_goto (tgt := 11) hx hb d_Mo_done_57 (by decide) ?_
        refine lv_iload hx hb d_Mo_done_11 (lv_at hl 0 rfl) ?_
        refine lv_if_le (tgt := 60) hx hb d_Mo_done_13 (by decide) (fun c9 => absurd c9 (by decide)) (fun _ => ?_)
        refine lv_iload_n hx hb d_Mo_done_16 rfl (lv_at hl 5 rfl) ?_
        refine lv_iload hx hb d_Mo_done_17 (lv_at hl 0 rfl) ?_
        refine lv_idiv hx hb d_Mo_done_19 (by decide) ?_
        refine gx_topi (y := 1235) (by decide) ?_
        refine lv_bipush (v := 10) hx hb d_Mo_done_20 (by decide) ?_
        refine lv_irem hx hb d_Mo_done_22 (by decide) ?_
        refine gx_topi (y := 5) (by decide) ?_
        refine lv_istore (lv' := [(5, Value.int 5), (4, Value.int 10), (3, Value.int 3), (0, Value.ref q46), (1, Value.int p1), (2, Value.int 12356)]) hx hb d_Mo_done_23 hl (by decide) rfl (fun ls hl => ?_)
        refine lv_iload hx hb d_Mo_done_25 (lv_at hl 0 rfl) ?_
        refine lv_if_ne (tgt := 33) hx hb d_Mo_done_27 (by decide) (fun _ => ?_) (fun c9 => absurd c9 (by decide))
        refine lv_iinc (v := 4) (lv' := [(3, Value.int 4), (5, Value.int 5), (4, Value.int 10), (0, Value.ref q46), (1, Value.int p1), (2, Value.int 12356)]) hx hb d_Mo_done_33 hl (k := 2) rfl (by decide) (by decide) rfl (fun ls hl => ?_)
        refine lv_iload hx hb d_Mo_done_36 (lv_at hl 1 rfl) ?_
        refine lv_aload_n hx hb d_Mo_done_38 rfl (lv_at hl 3 rfl) ?_
        refine gz_get (ci := 8) (v := Value.int m_error) (C := "CommitLedgerModel") (T := F_Mo) (N := 35) hx hb hts i_Mo hown hK Z f_46_h1 rfl 0 (by decide) kf_Mo_84 rfl d_Mo_done_39 ?_
        refine lv_icmp_ne (tgt := 50) hx hb d_Mo_done_42 (by decide) (fun c42_5 => ?_) (fun c42_5 => ?_)
        · refine lv_iload hx hb d_Mo_done_50 (lv_at hl 2 rfl) ?_
          refine lv_bipush (v := 10) hx hb d_Mo_done_52 (by decide) ?_
          refine lv_idiv hx hb d_Mo_done_54 (by decide) ?_
          refine gx_topi (y := 1) (by decide) ?_
          refine lv_istore (lv' := [(4, Value.int 1), (3, Value.int 4), (5, Value.int 5), (0, Value.ref q46), (1, Value.int p1), (2, Value.int 12356)]) hx hb d_Mo_done_55 hl (by decide) rfl (fun ls hl => ?_)
          refine lv_goto (tgt := 11) hx hb d_Mo_done_57 (by decide) ?_
          refine lv_iload hx hb d_Mo_done_11 (lv_at hl 0 rfl) ?_
          refine lv_if_le (tgt := 60) hx hb d_Mo_done_13 (by decide) (fun c9 => absurd c9 (by decide)) (fun _ => ?_)
          refine lv_iload_n hx hb d_Mo_done_16 rfl (lv_at hl 5 rfl) ?_
          refine lv_iload hx hb d_Mo_done_17 (lv_at hl 0 rfl) ?_
          refine lv_idiv hx hb d_Mo_done_19 (by decide) ?_
          refine gx_topi (y := 12356) (by decide) ?_
          refine lv_bipush (v := 10) hx hb d_Mo_done_20 (by decide) ?_
          refine lv_irem hx hb d_Mo_done_22 (by decide) ?_
          refine gx_topi (y := 6) (by decide) ?_
          refine lv_istore (lv' := [(5, Value.int 6), (4, Value.int 1), (3, Value.int 4), (0, Value.ref q46), (1, Value.int p1), (2, Value.int 12356)]) hx hb d_Mo_done_23 hl (by decide) rfl (fun ls hl => ?_)
          refine lv_iload hx hb d_Mo_done_25 (lv_at hl 0 rfl) ?_
          refine lv_if_ne (tgt := 33) hx hb d_Mo_done_27 (by decide) (fun _ => ?_) (fun c9 => absurd c9 (by decide))
          refine lv_iinc (v := 5) (lv' := [(3, Value.int 5), (5, Value.int 6), (4, Value.int 1), (0, Value.ref q46), (1, Value.int p1), (2, Value.int 12356)]) hx hb d_Mo_done_33 hl (k := 2) rfl (by decide) (by decide) rfl (fun ls hl => ?_)
          refine lv_iload hx hb d_Mo_done_36 (lv_at hl 1 rfl) ?_
          refine lv_aload_n hx hb d_Mo_done_38 rfl (lv_at hl 3 rfl) ?_
          refine gz_get (ci := 8) (v := Value.int m_error) (C := "CommitLedgerModel") (T := F_Mo) (N := 35) hx hb hts i_Mo hown hK Z f_46_h1 rfl 0 (by decide) kf_Mo_84 rfl d_Mo_done_39 ?_
          refine lv_icmp_ne (tgt := 50) hx hb d_Mo_done_42 (by decide) (fun c42_6 => ?_) (fun c42_6 => ?_)
          · refine lv_iload hx hb d_Mo_done_50 (lv_at hl 2 rfl) ?_
            refine lv_bipush (v := 10) hx hb d_Mo_done_52 (by decide) ?_
            refine lv_idiv hx hb d_Mo_done_54 (by decide) ?_
            refine gx_topi (y := 0) (by decide) ?_
            refine lv_istore (lv' := [(4, Value.int 0), (3, Value.int 5), (5, Value.int 6), (0, Value.ref q46), (1, Value.int p1), (2, Value.int 12356)]) hx hb d_Mo_done_55 hl (by decide) rfl (fun ls hl => ?_)
            refine lv_goto (tgt := 11) hx hb d_Mo_done_57 (by decide) ?_
            refine lv_iload hx hb d_Mo_done_11 (lv_at hl 0 rfl) ?_
            refine lv_if_le (tgt := 60) hx hb d_Mo_done_13 (by decide) (fun _ => ?_) (fun c9 => absurd (by decide) c9)
            refine lv_aload_n hx hb d_Mo_done_60 rfl (lv_at hl 3 rfl) ?_
            refine lv_iconst (v := 0) hx hb d_Mo_done_61 (by decide) ?_
            refine gz_put (ci := 8) (v := Value.int 0) (ty := .int) (C := "CommitLedgerModel") (T := F_Mo) (N := 35) hx hb hts i_Mo t_Mo_ok n_Mo hown hK Z f_46_h1 rfl 0 (by decide) kf_Mo_84 rfl (by decide +kernel) rfl rfl (Nat.le_of_ble_eq_true rfl) d_Mo_done_62 (fun H locs Z => ?_)
            obtain ⟨h7, e_h7⟩ : ∃ z9 : gm_M, z9 = gm_up h1 46 ((q46, Sum.inr (8, [Value.int 0, Value.int 0, Value.ref q47, Value.ref q48, Value.ref q49, Value.int m_docs, Value.ref q50, Value.ref q51, Value.ref q52, Value.ref q53, Value.int m_filesThere, Value.int m_files, Value.int m_actions, Value.int m_power, Value.int m_lost, Value.ref q54, Value.ref q62, Value.ref q70, Value.int m_open, Value.int m_isPrepared, Value.int m_generation, Value.ref q78, Value.ref q79, Value.int m_buffered, Value.int m_limit, Value.int m_factor, um, Value.ref q80, Value.ref q81, Value.ref q82, Value.int m_merges, Value.ref q83, Value.int m_opened, Value.int m_chosenMany, Value.int m_begun])) : Nat × va_E) := ⟨_, rfl⟩
            replace Z : gz D A s.heap h7 H locs := by rw [e_h7]; exact Z
            have f_46_h7 : h7 46 = some ((q46, Sum.inr (8, [Value.int 0, Value.int 0, Value.ref q47, Value.ref q48, Value.ref q49, Value.int m_docs, Value.ref q50, Value.ref q51, Value.ref q52, Value.ref q53, Value.int m_filesThere, Value.int m_files, Value.int m_actions, Value.int m_power, Value.int m_lost, Value.ref q54, Value.ref q62, Value.ref q70, Value.int m_open, Value.int m_isPrepared, Value.int m_generation, Value.ref q78, Value.ref q79, Value.int m_buffered, Value.int m_limit, Value.int m_factor, um, Value.ref q80, Value.ref q81, Value.ref q82, Value.int m_merges, Value.ref q83, Value.int m_opened, Value.int m_chosenMany, Value.int m_begun])) : Nat × va_E) := by rw [e_h7]; exact gm_self
            replace hU : gm_g h h7 [46] := by rw [e_h7]; exact hU.put (by simp)
            refine lv_aload_n hx hb d_Mo_done_65 rfl (lv_at hl 3 rfl) ?_
            refine gz_get (ci := 8) (v := Value.int 0) (C := "CommitLedgerModel") (T := F_Mo) (N := 35) hx hb hts i_Mo hown hK Z f_46_h7 rfl 1 (by decide) kf_Mo_80 rfl d_Mo_done_66 ?_
            refine lv_if_le (tgt := 76) hx hb d_Mo_done_69 (by decide) (fun _ => ?_) (fun c9 => absurd (by decide) c9)
            refine lv_iload_n hx hb d_Mo_done_76 rfl (lv_at hl 4 rfl) ?_
            exact gz_iret (v := p1) hx hb hr hlocks hK Z (by decide) (by decide) (by rw [← hPQ]; exact Or.inl ⟨rfl, hU, f_46_h7, c42_2, c42_3, c42_4, c42_5, c42_6⟩) d_Mo_done_77
          · refine lv_aload_n hx hb d_Mo_done_45 rfl (lv_at hl 3 rfl) ?_
            refine lv_iload_n hx hb d_Mo_done_46 rfl (lv_at hl 0 rfl) ?_
            refine gz_put (ci := 8) (v := Value.int 5) (ty := .int) (C := "CommitLedgerModel") (T := F_Mo) (N := 35) hx hb hts i_Mo t_Mo_ok n_Mo hown hK Z f_46_h1 rfl 1 (by decide) kf_Mo_80 rfl (by decide +kernel) rfl rfl (Nat.le_of_ble_eq_true rfl) d_Mo_done_47 (fun H locs Z => ?_)
            obtain ⟨h8, e_h8⟩ : ∃ z9 : gm_M, z9 = gm_up h1 46 ((q46, Sum.inr (8, [Value.int m_error, Value.int 5, Value.ref q47, Value.ref q48, Value.ref q49, Value.int m_docs, Value.ref q50, Value.ref q51, Value.ref q52, Value.ref q53, Value.int m_filesThere, Value.int m_files, Value.int m_actions, Value.int m_power, Value.int m_lost, Value.ref q54, Value.ref q62, Value.ref q70, Value.int m_open, Value.int m_isPrepared, Value.int m_generation, Value.ref q78, Value.ref q79, Value.int m_buffered, Value.int m_limit, Value.int m_factor, um, Value.ref q80, Value.ref q81, Value.ref q82, Value.int m_merges, Value.ref q83, Value.int m_opened, Value.int m_chosenMany, Value.int m_begun])) : Nat × va_E) := ⟨_, rfl⟩
            replace Z : gz D A s.heap h8 H locs := by rw [e_h8]; exact Z
            have f_46_h8 : h8 46 = some ((q46, Sum.inr (8, [Value.int m_error, Value.int 5, Value.ref q47, Value.ref q48, Value.ref q49, Value.int m_docs, Value.ref q50, Value.ref q51, Value.ref q52, Value.ref q53, Value.int m_filesThere, Value.int m_files, Value.int m_actions, Value.int m_power, Value.int m_lost, Value.ref q54, Value.ref q62, Value.ref q70, Value.int m_open, Value.int m_isPrepared, Value.int m_generation, Value.ref q78, Value.ref q79, Value.int m_buffered, Value.int m_limit, Value.int m_factor, um, Value.ref q80, Value.ref q81, Value.ref q82, Value.int m_merges, Value.ref q83, Value.int m_opened, Value.int m_chosenMany, Value.int m_begun])) : Nat × va_E) := by rw [e_h8]; exact gm_self
            replace hU : gm_g h h8 [46] := by rw [e_h8]; exact hU.put (by simp)
            refine lv_iload hx hb d_Mo_done_50 (lv_at hl 2 rfl) ?_
            refine lv_bipush (v := 10) hx hb d_Mo_done_52 (by decide) ?_
            refine lv_idiv hx hb d_Mo_done_54 (by decide) ?_
            refine gx_topi (y := 0) (by decide) ?_
            refine lv_istore (lv' := [(4, Value.int 0), (3, Value.int 5), (5, Value.int 6), (0, Value.ref q46), (1, Value.int p1), (2, Value.int 12356)]) hx hb d_Mo_done_55 hl (by decide) rfl (fun ls hl => ?_)
            refine lv_goto (tgt := 11) hx hb d_Mo_done_57 (by decide) ?_
            refine lv_iload hx hb d_Mo_done_11 (lv_at hl 0 rfl) ?_
            refine lv_if_le (tgt := 60) hx hb d_Mo_done_13 (by decide) (fun _ => ?_) (fun c9 => absurd (by decide) c9)
            refine lv_aload_n hx hb d_Mo_done_60 rfl (lv_at hl 3 rfl) ?_
            refine lv_iconst (v := 0) hx hb d_Mo_done_61 (by decide) ?_
            refine gz_put (ci := 8) (v := Value.int 0) (ty := .int) (C := "CommitLedgerModel") (T := F_Mo) (N := 35) hx hb hts i_Mo t_Mo_ok n_Mo hown hK Z f_46_h8 rfl 0 (by decide) kf_Mo_84 rfl (by decide +kernel) rfl rfl (Nat.le_of_ble_eq_true rfl) d_Mo_done_62 (fun H locs Z => ?_)
            obtain ⟨h9, e_h9⟩ : ∃ z9 : gm_M, z9 = gm_up h8 46 ((q46, Sum.inr (8, [Value.int 0, Value.int 5, Value.ref q47, Value.ref q48, Value.ref q49, Value.int m_docs, Value.ref q50, Value.ref q51, Value.ref q52, Value.ref q53, Value.int m_filesThere, Value.int m_files, Value.int m_actions, Value.int m_power, Value.int m_lost, Value.ref q54, Value.ref q62, Value.ref q70, Value.int m_open, Value.int m_isPrepared, Value.int m_generation, Value.ref q78, Value.ref q79, Value.int m_buffered, Value.int m_limit, Value.int m_factor, um, Value.ref q80, Value.ref q81, Value.ref q82, Value.int m_merges, Value.ref q83, Value.int m_opened, Value.int m_chosenMany, Value.int m_begun])) : Nat × va_E) := ⟨_, rfl⟩
            replace Z : gz D A s.heap h9 H locs := by rw [e_h9]; exact Z
            have f_46_h9 : h9 46 = some ((q46, Sum.inr (8, [Value.int 0, Value.int 5, Value.ref q47, Value.ref q48, Value.ref q49, Value.int m_docs, Value.ref q50, Value.ref q51, Value.ref q52, Value.ref q53, Value.int m_filesThere, Value.int m_files, Value.int m_actions, Value.int m_power, Value.int m_lost, Value.ref q54, Value.ref q62, Value.ref q70, Value.int m_open, Value.int m_isPrepared, Value.int m_generation, Value.ref q78, Value.ref q79, Value.int m_buffered, Value.int m_limit, Value.int m_factor, um, Value.ref q80, Value.ref q81, Value.ref q82, Value.int m_merges, Value.ref q83, Value.int m_opened, Value.int m_chosenMany, Value.int m_begun])) : Nat × va_E) := by rw [e_h9]; exact gm_self
            replace hU : gm_g h h9 [46] := by rw [e_h9]; exact hU.put (by simp)
            refine lv_aload_n hx hb d_Mo_done_65 rfl (lv_at hl 3 rfl) ?_
            refine gz_get (ci := 8) (v := Value.int 5) (C := "CommitLedgerModel") (T := F_Mo) (N := 35) hx hb hts i_Mo hown hK Z f_46_h9 rfl 1 (by decide) kf_Mo_80 rfl d_Mo_done_66 ?_
            refine lv_if_le (tgt := 76) hx hb d_Mo_done_69 (by decide) (fun c9 => absurd c9 (by decide)) (fun _ => ?_)
            refine lv_iconst (v := 0) hx hb d_Mo_done_72 (by decide) ?_
            refine lv_goto (tgt := 77) hx hb d_Mo_done_73 (by decide) ?_
            exact gz_iret (v := 0) hx hb hr hlocks hK Z (by decide) (by decide) (by rw [← hPQ]; exact Or.inr (Or.inl ⟨rfl, hU, f_46_h9, c42_2, c42_3, c42_4, c42_5, c42_6⟩)) d_Mo_done_77
        · refine lv_aload_n hx hb d_Mo_done_45 rfl (lv_at hl 3 rfl) ?_
          refine lv_iload_n hx hb d_Mo_done_46 rfl (lv_at hl 0 rfl) ?_
          refine gz_put (ci := 8) (v := Value.int 4) (ty := .int) (C := "CommitLedgerModel") (T := F_Mo) (N := 35) hx hb hts i_Mo t_Mo_ok n_Mo hown hK Z f_46_h1 rfl 1 (by decide) kf_Mo_80 rfl (by decide +kernel) rfl rfl (Nat.le_of_ble_eq_true rfl) d_Mo_done_47 (fun H locs Z => ?_)
          obtain ⟨h10, e_h10⟩ : ∃ z9 : gm_M, z9 = gm_up h1 46 ((q46, Sum.inr (8, [Value.int m_error, Value.int 4, Value.ref q47, Value.ref q48, Value.ref q49, Value.int m_docs, Value.ref q50, Value.ref q51, Value.ref q52, Value.ref q53, Value.int m_filesThere, Value.int m_files, Value.int m_actions, Value.int m_power, Value.int m_lost, Value.ref q54, Value.ref q62, Value.ref q70, Value.int m_open, Value.int m_isPrepared, Value.int m_generation, Value.ref q78, Value.ref q79, Value.int m_buffered, Value.int m_limit, Value.int m_factor, um, Value.ref q80, Value.ref q81, Value.ref q82, Value.int m_merges, Value.ref q83, Value.int m_opened, Value.int m_chosenMany, Value.int m_begun])) : Nat × va_E) := ⟨_, rfl⟩
          replace Z : gz D A s.heap h10 H locs := by rw [e_h10]; exact Z
          have f_46_h10 : h10 46 = some ((q46, Sum.inr (8, [Value.int m_error, Value.int 4, Value.ref q47, Value.ref q48, Value.ref q49, Value.int m_docs, Value.ref q50, Value.ref q51, Value.ref q52, Value.ref q53, Value.int m_filesThere, Value.int m_files, Value.int m_actions, Value.int m_power, Value.int m_lost, Value.ref q54, Value.ref q62, Value.ref q70, Value.int m_open, Value.int m_isPrepared, Value.int m_generation, Value.ref q78, Value.ref q79, Value.int m_buffered, Value.int m_limit, Value.int m_factor, um, Value.ref q80, Value.ref q81, Value.ref q82, Value.int m_merges, Value.ref q83, Value.int m_opened, Value.int m_chosenMany, Value.int m_begun])) : Nat × va_E) := by rw [e_h10]; exact gm_self
          replace hU : gm_g h h10 [46] := by rw [e_h10]; exact hU.put (by simp)
          refine lv_iload hx hb d_Mo_done_50 (lv_at hl 2 rfl) ?_
          refine lv_bipush (v := 10) hx hb d_Mo_done_52 (by decide) ?_
          refine lv_idiv hx hb d_Mo_done_54 (by decide) ?_
          refine gx_topi (y := 1) (by decide) ?_
          refine lv_istore (lv' := [(4, Value.int 1), (3, Value.int 4), (5, Value.int 5), (0, Value.ref q46), (1, Value.int p1), (2, Value.int 12356)]) hx hb d_Mo_done_55 hl (by decide) rfl (fun ls hl => ?_)
          refine lv_goto (tgt := 11) hx hb d_Mo_done_57 (by decide) ?_
          refine lv_iload hx hb d_Mo_done_11 (lv_at hl 0 rfl) ?_
          refine lv_if_le (tgt := 60) hx hb d_Mo_done_13 (by decide) (fun c9 => absurd c9 (by decide)) (fun _ => ?_)
          refine lv_iload_n hx hb d_Mo_done_16 rfl (lv_at hl 5 rfl) ?_
          refine lv_iload hx hb d_Mo_done_17 (lv_at hl 0 rfl) ?_
          refine lv_idiv hx hb d_Mo_done_19 (by decide) ?_
          refine gx_topi (y := 12356) (by decide) ?_
          refine lv_bipush (v := 10) hx hb d_Mo_done_20 (by decide) ?_
          refine lv_irem hx hb d_Mo_done_22 (by decide) ?_
          refine gx_topi (y := 6) (by decide) ?_
          refine lv_istore (lv' := [(5, Value.int 6), (4, Value.int 1), (3, Value.int 4), (0, Value.ref q46), (1, Value.int p1), (2, Value.int 12356)]) hx hb d_Mo_done_23 hl (by decide) rfl (fun ls hl => ?_)
          refine lv_iload hx hb d_Mo_done_25 (lv_at hl 0 rfl) ?_
          refine lv_if_ne (tgt := 33) hx hb d_Mo_done_27 (by decide) (fun _ => ?_) (fun c9 => absurd c9 (by decide))
          refine lv_iinc (v := 5) (lv' := [(3, Value.int 5), (5, Value.int 6), (4, Value.int 1), (0, Value.ref q46), (1, Value.int p1), (2, Value.int 12356)]) hx hb d_Mo_done_33 hl (k := 2) rfl (by decide) (by decide) rfl (fun ls hl => ?_)
          refine lv_iload hx hb d_Mo_done_36 (lv_at hl 1 rfl) ?_
          refine lv_aload_n hx hb d_Mo_done_38 rfl (lv_at hl 3 rfl) ?_
          refine gz_get (ci := 8) (v := Value.int m_error) (C := "CommitLedgerModel") (T := F_Mo) (N := 35) hx hb hts i_Mo hown hK Z f_46_h10 rfl 0 (by decide) kf_Mo_84 rfl d_Mo_done_39 ?_
          refine lv_icmp_ne (tgt := 50) hx hb d_Mo_done_42 (by decide) (fun _ => ?_) (fun c9 => absurd c9 (fun e9 => absurd (c42_5.trans e9.symm) (by decide)))
          refine lv_iload hx hb d_Mo_done_50 (lv_at hl 2 rfl) ?_
          refine lv_bipush (v := 10) hx hb d_Mo_done_52 (by decide) ?_
          refine lv_idiv hx hb d_Mo_done_54 (by decide) ?_
          refine gx_topi (y := 0) (by decide) ?_
          refine lv_istore (lv' := [(4, Value.int 0), (3, Value.int 5), (5, Value.int 6), (0, Value.ref q46), (1, Value.int p1), (2, Value.int 12356)]) hx hb d_Mo_done_55 hl (by decide) rfl (fun ls hl => ?_)
          refine lv_goto (tgt := 11) hx hb d_Mo_done_57 (by decide) ?_
          refine lv_iload hx hb d_Mo_done_11 (lv_at hl 0 rfl) ?_
          refine lv_if_le (tgt := 60) hx hb d_Mo_done_13 (by decide) (fun _ => ?_) (fun c9 => absurd (by decide) c9)
          refine lv_aload_n hx hb d_Mo_done_60 rfl (lv_at hl 3 rfl) ?_
          refine lv_iconst (v := 0) hx hb d_Mo_done_61 (by decide) ?_
          refine gz_put (ci := 8) (v := Value.int 0) (ty := .int) (C := "CommitLedgerModel") (T := F_Mo) (N := 35) hx hb hts i_Mo t_Mo_ok n_Mo hown hK Z f_46_h10 rfl 0 (by decide) kf_Mo_84 rfl (by decide +kernel) rfl rfl (Nat.le_of_ble_eq_true rfl) d_Mo_done_62 (fun H locs Z => ?_)
          obtain ⟨h12, e_h12⟩ : ∃ z9 : gm_M, z9 = gm_up h10 46 ((q46, Sum.inr (8, [Value.int 0, Value.int 4, Value.ref q47, Value.ref q48, Value.ref q49, Value.int m_docs, Value.ref q50, Value.ref q51, Value.ref q52, Value.ref q53, Value.int m_filesThere, Value.int m_files, Value.int m_actions, Value.int m_power, Value.int m_lost, Value.ref q54, Value.ref q62, Value.ref q70, Value.int m_open, Value.int m_isPrepared, Value.int m_generation, Value.ref q78, Value.ref q79, Value.int m_buffered, Value.int m_limit, Value.int m_factor, um, Value.ref q80, Value.ref q81, Value.ref q82, Value.int m_merges, Value.ref q83, Value.int m_opened, Value.int m_chosenMany, Value.int m_begun])) : Nat × va_E) := ⟨_, rfl⟩
          replace Z : gz D A s.heap h12 H locs := by rw [e_h12]; exact Z
          have f_46_h12 : h12 46 = some ((q46, Sum.inr (8, [Value.int 0, Value.int 4, Value.ref q47, Value.ref q48, Value.ref q49, Value.int m_docs, Value.ref q50, Value.ref q51, Value.ref q52, Value.ref q53, Value.int m_filesThere, Value.int m_files, Value.int m_actions, Value.int m_power, Value.int m_lost, Value.ref q54, Value.ref q62, Value.ref q70, Value.int m_open, Value.int m_isPrepared, Value.int m_generation, Value.ref q78, Value.ref q79, Value.int m_buffered, Value.int m_limit, Value.int m_factor, um, Value.ref q80, Value.ref q81, Value.ref q82, Value.int m_merges, Value.ref q83, Value.int m_opened, Value.int m_chosenMany, Value.int m_begun])) : Nat × va_E) := by rw [e_h12]; exact gm_self
          replace hU : gm_g h h12 [46] := by rw [e_h12]; exact hU.put (by simp)
          refine lv_aload_n hx hb d_Mo_done_65 rfl (lv_at hl 3 rfl) ?_
          refine gz_get (ci := 8) (v := Value.int 4) (C := "CommitLedgerModel") (T := F_Mo) (N := 35) hx hb hts i_Mo hown hK Z f_46_h12 rfl 1 (by decide) kf_Mo_80 rfl d_Mo_done_66 ?_
          refine lv_if_le (tgt := 76) hx hb d_Mo_done_69 (by decide) (fun c9 => absurd c9 (by decide)) (fun _ => ?_)
          refine lv_iconst (v := 0) hx hb d_Mo_done_72 (by decide) ?_
          refine lv_goto (tgt := 77) hx hb d_Mo_done_73 (by decide) ?_
          exact gz_iret (v := 0) hx hb hr hlocks hK Z (by decide) (by decide) (by rw [← hPQ]; exact Or.inr (Or.inr (Or.inl ⟨rfl, hU, f_46_h12, c42_2, c42_3, c42_4, c42_5⟩))) d_Mo_done_77
      · refine lv_aload_n hx hb d_Mo_done_45 rfl (lv_at hl 3 rfl) ?_
        refine lv_iload_n hx hb d_Mo_done_46 rfl (lv_at hl 0 rfl) ?_
        refine gz_put (ci := 8) (v := Value.int 3) (ty := .int) (C := "CommitLedgerModel") (T := F_Mo) (N := 35) hx hb hts i_Mo t_Mo_ok n_Mo hown hK Z f_46_h1 rfl 1 (by decide) kf_Mo_80 rfl (by decide +kernel) rfl rfl (Nat.le_of_ble_eq_true rfl) d_Mo_done_47 (fun H locs Z => ?_)
        obtain ⟨h13, e_h13⟩ : ∃ z9 : gm_M, z9 = gm_up h1 46 ((q46, Sum.inr (8, [Value.int m_error, Value.int 3, Value.ref q47, Value.ref q48, Value.ref q49, Value.int m_docs, Value.ref q50, Value.ref q51, Value.ref q52, Value.ref q53, Value.int m_filesThere, Value.int m_files, Value.int m_actions, Value.int m_power, Value.int m_lost, Value.ref q54, Value.ref q62, Value.ref q70, Value.int m_open, Value.int m_isPrepared, Value.int m_generation, Value.ref q78, Value.ref q79, Value.int m_buffered, Value.int m_limit, Value.int m_factor, um, Value.ref q80, Value.ref q81, Value.ref q82, Value.int m_merges, Value.ref q83, Value.int m_opened, Value.int m_chosenMany, Value.int m_begun])) : Nat × va_E) := ⟨_, rfl⟩
        replace Z : gz D A s.heap h13 H locs := by rw [e_h13]; exact Z
        have f_46_h13 : h13 46 = some ((q46, Sum.inr (8, [Value.int m_error, Value.int 3, Value.ref q47, Value.ref q48, Value.ref q49, Value.int m_docs, Value.ref q50, Value.ref q51, Value.ref q52, Value.ref q53, Value.int m_filesThere, Value.int m_files, Value.int m_actions, Value.int m_power, Value.int m_lost, Value.ref q54, Value.ref q62, Value.ref q70, Value.int m_open, Value.int m_isPrepared, Value.int m_generation, Value.ref q78, Value.ref q79, Value.int m_buffered, Value.int m_limit, Value.int m_factor, um, Value.ref q80, Value.ref q81, Value.ref q82, Value.int m_merges, Value.ref q83, Value.int m_opened, Value.int m_chosenMany, Value.int m_begun])) : Nat × va_E) := by rw [e_h13]; exact gm_self
        replace hU : gm_g h h13 [46] := by rw [e_h13]; exact hU.put (by simp)
        refine lv_iload hx hb d_Mo_done_50 (lv_at hl 2 rfl) ?_
        refine lv_bipush (v := 10) hx hb d_Mo_done_52 (by decide) ?_
        refine lv_idiv hx hb d_Mo_done_54 (by decide) ?_
        refine gx_topi (y := 10) (by decide) ?_
        refine lv_istore (lv' := [(4, Value.int 10), (3, Value.int 3), (5, Value.int 3), (0, Value.ref q46), (1, Value.int p1), (2, Value.int 12356)]) hx hb d_Mo_done_55 hl (by decide) rfl (fun ls hl => ?_)
        refine lv_goto (tgt := 11) hx hb d_Mo_done_57 (by decide) ?_
        refine lv_iload hx hb d_Mo_done_11 (lv_at hl 0 rfl) ?_
        refine lv_if_le (tgt := 60) hx hb d_Mo_done_13 (by decide) (fun c9 => absurd c9 (by decide)) (fun _ => ?_)
        refine lv_iload_n hx hb d_Mo_done_16 rfl (lv_at hl 5 rfl) ?_
        refine lv_iload hx hb d_Mo_done_17 (lv_at hl 0 rfl) ?_
        refine lv_idiv hx hb d_Mo_done_19 (by decide) ?_
        refine gx_topi (y := 1235) (by decide) ?_
        refine lv_bipush (v := 10) hx hb d_Mo_done_20 (by decide) ?_
        refine lv_irem hx hb d_Mo_done_22 (by decide) ?_
        refine gx_topi (y := 5) (by decide) ?_
        refine lv_istore (lv' := [(5, Value.int 5), (4, Value.int 10), (3, Value.int 3), (0, Value.ref q46), (1, Value.int p1), (2, Value.int 12356)]) hx hb d_Mo_done_23 hl (by decide) rfl (fun ls hl => ?_)
        refine lv_iload hx hb d_Mo_done_25 (lv_at hl 0 rfl) ?_
        refine lv_if_ne (tgt := 33) hx hb d_Mo_done_27 (by decide) (fun _ => ?_) (fun c9 => absurd c9 (by decide))
        refine lv_iinc (v := 4) (lv' := [(3, Value.int 4), (5, Value.int 5), (4, Value.int 10), (0, Value.ref q46), (1, Value.int p1), (2, Value.int 12356)]) hx hb d_Mo_done_33 hl (k := 2) rfl (by decide) (by decide) rfl (fun ls hl => ?_)
        refine lv_iload hx hb d_Mo_done_36 (lv_at hl 1 rfl) ?_
        refine lv_aload_n hx hb d_Mo_done_38 rfl (lv_at hl 3 rfl) ?_
        refine gz_get (ci := 8) (v := Value.int m_error) (C := "CommitLedgerModel") (T := F_Mo) (N := 35) hx hb hts i_Mo hown hK Z f_46_h13 rfl 0 (by decide) kf_Mo_84 rfl d_Mo_done_39 ?_
        refine lv_icmp_ne (tgt := 50) hx hb d_Mo_done_42 (by decide) (fun _ => ?_) (fun c9 => absurd c9 (fun e9 => absurd (c42_4.trans e9.symm) (by decide)))
        refine lv_iload hx hb d_Mo_done_50 (lv_at hl 2 rfl) ?_
        refine lv_bipush (v := 10) hx hb d_Mo_done_52 (by decide) ?_
        refine lv_idiv hx hb d_Mo_done_54 (by decide) ?_
        refine gx_topi (y := 1) (by decide) ?_
        refine lv_istore (lv' := [(4, Value.int 1), (3, Value.int 4), (5, Value.int 5), (0, Value.ref q46), (1, Value.int p1), (2, Value.int 12356)]) hx hb d_Mo_done_55 hl (by decide) rfl (fun ls hl => ?_)
        refine lv_goto (tgt := 11) hx hb d_Mo_done_57 (by decide) ?_
        refine lv_iload hx hb d_Mo_done_11 (lv_at hl 0 rfl) ?_
        refine lv_if_le (tgt := 60) hx hb d_Mo_done_13 (by decide) (fun c9 => absurd c9 (by decide)) (fun _ => ?_)
        refine lv_iload_n hx hb d_Mo_done_16 rfl (lv_at hl 5 rfl) ?_
        refine lv_iload hx hb d_Mo_done_17 (lv_at hl 0 rfl) ?_
        refine lv_idiv hx hb d_Mo_done_19 (by decide) ?_
        refine gx_topi (y := 12356) (by decide) ?_
        refine lv_bipush (v := 10) hx hb d_Mo_done_20 (by decide) ?_
        refine lv_irem hx hb d_Mo_done_22 (by decide) ?_
        refine gx_topi (y := 6) (by decide) ?_
        refine lv_istore (lv' := [(5, Value.int 6), (4, Value.int 1), (3, Value.int 4), (0, Value.ref q46), (1, Value.int p1), (2, Value.int 12356)]) hx hb d_Mo_done_23 hl (by decide) rfl (fun ls hl => ?_)
        refine lv_iload hx hb d_Mo_done_25 (lv_at hl 0 rfl) ?_
        refine lv_if_ne (tgt := 33) hx hb d_Mo_done_27 (by decide) (fun _ => ?_) (fun c9 => absurd c9 (by decide))
        refine lv_iinc (v := 5) (lv' := [(3, Value.int 5), (5, Value.int 6), (4, Value.int 1), (0, Value.ref q46), (1, Value.int p1), (2, Value.int 12356)]) hx hb d_Mo_done_33 hl (k := 2) rfl (by decide) (by decide) rfl (fun ls hl => ?_)
        refine lv_iload hx hb d_Mo_done_36 (lv_at hl 1 rfl) ?_
        refine lv_aload_n hx hb d_Mo_done_38 rfl (lv_at hl 3 rfl) ?_
        refine gz_get (ci := 8) (v := Value.int m_error) (C := "CommitLedgerModel") (T := F_Mo) (N := 35) hx hb hts i_Mo hown hK Z f_46_h13 rfl 0 (by decide) kf_Mo_84 rfl d_Mo_done_39 ?_
        refine lv_icmp_ne (tgt := 50) hx hb d_Mo_done_42 (by decide) (fun _ => ?_) (fun c9 => absurd c9 (fun e9 => absurd (c42_4.trans e9.symm) (by decide)))
        refine lv_iload hx hb d_Mo_done_50 (lv_at hl 2 rfl) ?_
        refine lv_bipush (v := 10) hx hb d_Mo_done_52 (by decide) ?_
        refine lv_idiv hx hb d_Mo_done_54 (by decide) ?_
        refine gx_topi (y := 0) (by decide) ?_
        refine lv_istore (lv' := [(4, Value.int 0), (3, Value.int 5), (5, Value.int 6), (0, Value.ref q46), (1, Value.int p1), (2, Value.int 12356)]) hx hb d_Mo_done_55 hl (by decide) rfl (fun ls hl => ?_)
        refine lv_goto (tgt := 11) hx hb d_Mo_done_57 (by decide) ?_
        refine lv_iload hx hb d_Mo_done_11 (lv_at hl 0 rfl) ?_
        refine lv_if_le (tgt := 60) hx hb d_Mo_done_13 (by decide) (fun _ => ?_) (fun c9 => absurd (by decide) c9)
        refine lv_aload_n hx hb d_Mo_done_60 rfl (lv_at hl 3 rfl) ?_
        refine lv_iconst (v := 0) hx hb d_Mo_done_61 (by decide) ?_
        refine gz_put (ci := 8) (v := Value.int 0) (ty := .int) (C := "CommitLedgerModel") (T := F_Mo) (N := 35) hx hb hts i_Mo t_Mo_ok n_Mo hown hK Z f_46_h13 rfl 0 (by decide) kf_Mo_84 rfl (by decide +kernel) rfl rfl (Nat.le_of_ble_eq_true rfl) d_Mo_done_62 (fun H locs Z => ?_)
        obtain ⟨h16, e_h16⟩ : ∃ z9 : gm_M, z9 = gm_up h13 46 ((q46, Sum.inr (8, [Value.int 0, Value.int 3, Value.ref q47, Value.ref q48, Value.ref q49, Value.int m_docs, Value.ref q50, Value.ref q51, Value.ref q52, Value.ref q53, Value.int m_filesThere, Value.int m_files, Value.int m_actions, Value.int m_power, Value.int m_lost, Value.ref q54, Value.ref q62, Value.ref q70, Value.int m_open, Value.int m_isPrepared, Value.int m_generation, Value.ref q78, Value.ref q79, Value.int m_buffered, Value.int m_limit, Value.int m_factor, um, Value.ref q80, Value.ref q81, Value.ref q82, Value.int m_merges, Value.ref q83, Value.int m_opened, Value.int m_chosenMany, Value.int m_begun])) : Nat × va_E) := ⟨_, rfl⟩
        replace Z : gz D A s.heap h16 H locs := by rw [e_h16]; exact Z
        have f_46_h16 : h16 46 = some ((q46, Sum.inr (8, [Value.int 0, Value.int 3, Value.ref q47, Value.ref q48, Value.ref q49, Value.int m_docs, Value.ref q50, Value.ref q51, Value.ref q52, Value.ref q53, Value.int m_filesThere, Value.int m_files, Value.int m_actions, Value.int m_power, Value.int m_lost, Value.ref q54, Value.ref q62, Value.ref q70, Value.int m_open, Value.int m_isPrepared, Value.int m_generation, Value.ref q78, Value.ref q79, Value.int m_buffered, Value.int m_limit, Value.int m_factor, um, Value.ref q80, Value.ref q81, Value.ref q82, Value.int m_merges, Value.ref q83, Value.int m_opened, Value.int m_chosenMany, Value.int m_begun])) : Nat × va_E) := by rw [e_h16]; exact gm_self
        replace hU : gm_g h h16 [46] := by rw [e_h16]; exact hU.put (by simp)
        refine lv_aload_n hx hb d_Mo_done_65 rfl (lv_at hl 3 rfl) ?_
        refine gz_get (ci := 8) (v := Value.int 3) (C := "CommitLedgerModel") (T := F_Mo) (N := 35) hx hb hts i_Mo hown hK Z f_46_h16 rfl 1 (by decide) kf_Mo_80 rfl d_Mo_done_66 ?_
        refine lv_if_le (tgt := 76) hx hb d_Mo_done_69 (by decide) (fun c9 => absurd c9 (by decide)) (fun _ => ?_)
        refine lv_iconst (v := 0) hx hb d_Mo_done_72 (by decide) ?_
        refine lv_goto (tgt := 77) hx hb d_Mo_done_73 (by decide) ?_
        exact gz_iret (v := 0) hx hb hr hlocks hK Z (by decide) (by decide) (by rw [← hPQ]; exact Or.inr (Or.inr (Or.inr (Or.inl ⟨rfl, hU, f_46_h16, c42_2, c42_3, c42_4⟩)))) d_Mo_done_77
    · refine lv_aload_n hx hb d_Mo_done_45 rfl (lv_at hl 3 rfl) ?_
      refine lv_iload_n hx hb d_Mo_done_46 rfl (lv_at hl 0 rfl) ?_
      refine gz_put (ci := 8) (v := Value.int 2) (ty := .int) (C := "CommitLedgerModel") (T := F_Mo) (N := 35) hx hb hts i_Mo t_Mo_ok n_Mo hown hK Z f_46_h1 rfl 1 (by decide) kf_Mo_80 rfl (by decide +kernel) rfl rfl (Nat.le_of_ble_eq_true rfl) d_Mo_done_47 (fun H locs Z => ?_)
      obtain ⟨h17, e_h17⟩ : ∃ z9 : gm_M, z9 = gm_up h1 46 ((q46, Sum.inr (8, [Value.int m_error, Value.int 2, Value.ref q47, Value.ref q48, Value.ref q49, Value.int m_docs, Value.ref q50, Value.ref q51, Value.ref q52, Value.ref q53, Value.int m_filesThere, Value.int m_files, Value.int m_actions, Value.int m_power, Value.int m_lost, Value.ref q54, Value.ref q62, Value.ref q70, Value.int m_open, Value.int m_isPrepared, Value.int m_generation, Value.ref q78, Value.ref q79, Value.int m_buffered, Value.int m_limit, Value.int m_factor, um, Value.ref q80, Value.ref q81, Value.ref q82, Value.int m_merges, Value.ref q83, Value.int m_opened, Value.int m_chosenMany, Value.int m_begun])) : Nat × va_E) := ⟨_, rfl⟩
      replace Z : gz D A s.heap h17 H locs := by rw [e_h17]; exact Z
      have f_46_h17 : h17 46 = some ((q46, Sum.inr (8, [Value.int m_error, Value.int 2, Value.ref q47, Value.ref q48, Value.ref q49, Value.int m_docs, Value.ref q50, Value.ref q51, Value.ref q52, Value.ref q53, Value.int m_filesThere, Value.int m_files, Value.int m_actions, Value.int m_power, Value.int m_lost, Value.ref q54, Value.ref q62, Value.ref q70, Value.int m_open, Value.int m_isPrepared, Value.int m_generation, Value.ref q78, Value.ref q79, Value.int m_buffered, Value.int m_limit, Value.int m_factor, um, Value.ref q80, Value.ref q81, Value.ref q82, Value.int m_merges, Value.ref q83, Value.int m_opened, Value.int m_chosenMany, Value.int m_begun])) : Nat × va_E) := by rw [e_h17]; exact gm_self
      replace hU : gm_g h h17 [46] := by rw [e_h17]; exact hU.put (by simp)
      refine lv_iload hx hb d_Mo_done_50 (lv_at hl 2 rfl) ?_
      refine lv_bipush (v := 10) hx hb d_Mo_done_52 (by decide) ?_
      refine lv_idiv hx hb d_Mo_done_54 (by decide) ?_
      refine gx_topi (y := 100) (by decide) ?_
      refine lv_istore (lv' := [(4, Value.int 100), (3, Value.int 2), (5, Value.int 2), (0, Value.ref q46), (1, Value.int p1), (2, Value.int 12356)]) hx hb d_Mo_done_55 hl (by decide) rfl (fun ls hl => ?_)
      refine lv_goto (tgt := 11) hx hb d_Mo_done_57 (by decide) ?_
      refine lv_iload hx hb d_Mo_done_11 (lv_at hl 0 rfl) ?_
      refine lv_if_le (tgt := 60) hx hb d_Mo_done_13 (by decide) (fun c9 => absurd c9 (by decide)) (fun _ => ?_)
      refine lv_iload_n hx hb d_Mo_done_16 rfl (lv_at hl 5 rfl) ?_
      refine lv_iload hx hb d_Mo_done_17 (lv_at hl 0 rfl) ?_
      refine lv_idiv hx hb d_Mo_done_19 (by decide) ?_
      refine gx_topi (y := 123) (by decide) ?_
      refine lv_bipush (v := 10) hx hb d_Mo_done_20 (by decide) ?_
      refine lv_irem hx hb d_Mo_done_22 (by decide) ?_
      refine gx_topi (y := 3) (by decide) ?_
      refine lv_istore (lv' := [(5, Value.int 3), (4, Value.int 100), (3, Value.int 2), (0, Value.ref q46), (1, Value.int p1), (2, Value.int 12356)]) hx hb d_Mo_done_23 hl (by decide) rfl (fun ls hl => ?_)
      refine lv_iload hx hb d_Mo_done_25 (lv_at hl 0 rfl) ?_
      refine lv_if_ne (tgt := 33) hx hb d_Mo_done_27 (by decide) (fun _ => ?_) (fun c9 => absurd c9 (by decide))
      refine lv_iinc (v := 3) (lv' := [(3, Value.int 3), (5, Value.int 3), (4, Value.int 100), (0, Value.ref q46), (1, Value.int p1), (2, Value.int 12356)]) hx hb d_Mo_done_33 hl (k := 2) rfl (by decide) (by decide) rfl (fun ls hl => ?_)
      refine lv_iload hx hb d_Mo_done_36 (lv_at hl 1 rfl) ?_
      refine lv_aload_n hx hb d_Mo_done_38 rfl (lv_at hl 3 rfl) ?_
      refine gz_get (ci := 8) (v := Value.int m_error) (C := "CommitLedgerModel") (T := F_Mo) (N := 35) hx hb hts i_Mo hown hK Z f_46_h17 rfl 0 (by decide) kf_Mo_84 rfl d_Mo_done_39 ?_
      refine lv_icmp_ne (tgt := 50) hx hb d_Mo_done_42 (by decide) (fun _ => ?_) (fun c9 => absurd c9 (fun e9 => absurd (c42_3.trans e9.symm) (by decide)))
      refine lv_iload hx hb d_Mo_done_50 (lv_at hl 2 rfl) ?_
      refine lv_bipush (v := 10) hx hb d_Mo_done_52 (by decide) ?_
      refine lv_idiv hx hb d_Mo_done_54 (by decide) ?_
      refine gx_topi (y := 10) (by decide) ?_
      refine lv_istore (lv' := [(4, Value.int 10), (3, Value.int 3), (5, Value.int 3), (0, Value.ref q46), (1, Value.int p1), (2, Value.int 12356)]) hx hb d_Mo_done_55 hl (by decide) rfl (fun ls hl => ?_)
      refine lv_goto (tgt := 11) hx hb d_Mo_done_57 (by decide) ?_
      refine lv_iload hx hb d_Mo_done_11 (lv_at hl 0 rfl) ?_
      refine lv_if_le (tgt := 60) hx hb d_Mo_done_13 (by decide) (fun c9 => absurd c9 (by decide)) (fun _ => ?_)
      refine lv_iload_n hx hb d_Mo_done_16 rfl (lv_at hl 5 rfl) ?_
      refine lv_iload hx hb d_Mo_done_17 (lv_at hl 0 rfl) ?_
      refine lv_idiv hx hb d_Mo_done_19 (by decide) ?_
      refine gx_topi (y := 1235) (by decide) ?_
      refine lv_bipush (v := 10) hx hb d_Mo_done_20 (by decide) ?_
      refine lv_irem hx hb d_Mo_done_22 (by decide) ?_
      refine gx_topi (y := 5) (by decide) ?_
      refine lv_istore (lv' := [(5, Value.int 5), (4, Value.int 10), (3, Value.int 3), (0, Value.ref q46), (1, Value.int p1), (2, Value.int 12356)]) hx hb d_Mo_done_23 hl (by decide) rfl (fun ls hl => ?_)
      refine lv_iload hx hb d_Mo_done_25 (lv_at hl 0 rfl) ?_
      refine lv_if_ne (tgt := 33) hx hb d_Mo_done_27 (by decide) (fun _ => ?_) (fun c9 => absurd c9 (by decide))
      refine lv_iinc (v := 4) (lv' := [(3, Value.int 4), (5, Value.int 5), (4, Value.int 10), (0, Value.ref q46), (1, Value.int p1), (2, Value.int 12356)]) hx hb d_Mo_done_33 hl (k := 2) rfl (by decide) (by decide) rfl (fun ls hl => ?_)
      refine lv_iload hx hb d_Mo_done_36 (lv_at hl 1 rfl) ?_
      refine lv_aload_n hx hb d_Mo_done_38 rfl (lv_at hl 3 rfl) ?_
      refine gz_get (ci := 8) (v := Value.int m_error) (C := "CommitLedgerModel") (T := F_Mo) (N := 35) hx hb hts i_Mo hown hK Z f_46_h17 rfl 0 (by decide) kf_Mo_84 rfl d_Mo_done_39 ?_
      refine lv_icmp_ne (tgt := 50) hx hb d_Mo_done_42 (by decide) (fun _ => ?_) (fun c9 => absurd c9 (fun e9 => absurd (c42_3.trans e9.symm) (by decide)))
      refine lv_iload hx hb d_Mo_done_50 (lv_at hl 2 rfl) ?_
      refine lv_bipush (v := 10) hx hb d_Mo_done_52 (by decide) ?_
      refine lv_idiv hx hb d_Mo_done_54 (by decide) ?_
      refine gx_topi (y := 1) (by decide) ?_
      refine lv_istore (lv' := [(4, Value.int 1), (3, Value.int 4), (5, Value.int 5), (0, Value.ref q46), (1, Value.int p1), (2, Value.int 12356)]) hx hb d_Mo_done_55 hl (by decide) rfl (fun ls hl => ?_)
      refine lv_goto (tgt := 11) hx hb d_Mo_done_57 (by decide) ?_
      refine lv_iload hx hb d_Mo_done_11 (lv_at hl 0 rfl) ?_
      refine lv_if_le (tgt := 60) hx hb d_Mo_done_13 (by decide) (fun c9 => absurd c9 (by decide)) (fun _ => ?_)
      refine lv_iload_n hx hb d_Mo_done_16 rfl (lv_at hl 5 rfl) ?_
      refine lv_iload hx hb d_Mo_done_17 (lv_at hl 0 rfl) ?_
      refine lv_idiv hx hb d_Mo_done_19 (by decide) ?_
      refine gx_topi (y := 12356) (by decide) ?_
      refine lv_bipush (v := 10) hx hb d_Mo_done_20 (by decide) ?_
      refine lv_irem hx hb d_Mo_done_22 (by decide) ?_
      refine gx_topi (y := 6) (by decide) ?_
      refine lv_istore (lv' := [(5, Value.int 6), (4, Value.int 1), (3, Value.int 4), (0, Value.ref q46), (1, Value.int p1), (2, Value.int 12356)]) hx hb d_Mo_done_23 hl (by decide) rfl (fun ls hl => ?_)
      refine lv_iload hx hb d_Mo_done_25 (lv_at hl 0 rfl) ?_
      refine lv_if_ne (tgt := 33) hx hb d_Mo_done_27 (by decide) (fun _ => ?_) (fun c9 => absurd c9 (by decide))
      refine lv_iinc (v := 5) (lv' := [(3, Value.int 5), (5, Value.int 6), (4, Value.int 1), (0, Value.ref q46), (1, Value.int p1), (2, Value.int 12356)]) hx hb d_Mo_done_33 hl (k := 2) rfl (by decide) (by decide) rfl (fun ls hl => ?_)
      refine lv_iload hx hb d_Mo_done_36 (lv_at hl 1 rfl) ?_
      refine lv_aload_n hx hb d_Mo_done_38 rfl (lv_at hl 3 rfl) ?_
      refine gz_get (ci := 8) (v := Value.int m_error) (C := "CommitLedgerModel") (T := F_Mo) (N := 35) hx hb hts i_Mo hown hK Z f_46_h17 rfl 0 (by decide) kf_Mo_84 rfl d_Mo_done_39 ?_
      refine lv_icmp_ne (tgt := 50) hx hb d_Mo_done_42 (by decide) (fun _ => ?_) (fun c9 => absurd c9 (fun e9 => absurd (c42_3.trans e9.symm) (by decide)))
      refine lv_iload hx hb d_Mo_done_50 (lv_at hl 2 rfl) ?_
      refine lv_bipush (v := 10) hx hb d_Mo_done_52 (by decide) ?_
      refine lv_idiv hx hb d_Mo_done_54 (by decide) ?_
      refine gx_topi (y := 0) (by decide) ?_
      refine lv_istore (lv' := [(4, Value.int 0), (3, Value.int 5), (5, Value.int 6), (0, Value.ref q46), (1, Value.int p1), (2, Value.int 12356)]) hx hb d_Mo_done_55 hl (by decide) rfl (fun ls hl => ?_)
      refine lv_goto (tgt := 11) hx hb d_Mo_done_57 (by decide) ?_
      refine lv_iload hx hb d_Mo_done_11 (lv_at hl 0 rfl) ?_
      refine lv_if_le (tgt := 60) hx hb d_Mo_done_13 (by decide) (fun _ => ?_) (fun c9 => absurd (by decide) c9)
      refine lv_aload_n hx hb d_Mo_done_60 rfl (lv_at hl 3 rfl) ?_
      refine lv_iconst (v := 0) hx hb d_Mo_done_61 (by decide) ?_
      refine gz_put (ci := 8) (v := Value.int 0) (ty := .int) (C := "CommitLedgerModel") (T := F_Mo) (N := 35) hx hb hts i_Mo t_Mo_ok n_Mo hown hK Z f_46_h17 rfl 0 (by decide) kf_Mo_84 rfl (by decide +kernel) rfl rfl (Nat.le_of_ble_eq_true rfl) d_Mo_done_62 (fun H locs Z => ?_)
      obtain ⟨h21, e_h21⟩ : ∃ z9 : gm_M, z9 = gm_up h17 46 ((q46, Sum.inr (8, [Value.int 0, Value.int 2, Value.ref q47, Value.ref q48, Value.ref q49, Value.int m_docs, Value.ref q50, Value.ref q51, Value.ref q52, Value.ref q53, Value.int m_filesThere, Value.int m_files, Value.int m_actions, Value.int m_power, Value.int m_lost, Value.ref q54, Value.ref q62, Value.ref q70, Value.int m_open, Value.int m_isPrepared, Value.int m_generation, Value.ref q78, Value.ref q79, Value.int m_buffered, Value.int m_limit, Value.int m_factor, um, Value.ref q80, Value.ref q81, Value.ref q82, Value.int m_merges, Value.ref q83, Value.int m_opened, Value.int m_chosenMany, Value.int m_begun])) : Nat × va_E) := ⟨_, rfl⟩
      replace Z : gz D A s.heap h21 H locs := by rw [e_h21]; exact Z
      have f_46_h21 : h21 46 = some ((q46, Sum.inr (8, [Value.int 0, Value.int 2, Value.ref q47, Value.ref q48, Value.ref q49, Value.int m_docs, Value.ref q50, Value.ref q51, Value.ref q52, Value.ref q53, Value.int m_filesThere, Value.int m_files, Value.int m_actions, Value.int m_power, Value.int m_lost, Value.ref q54, Value.ref q62, Value.ref q70, Value.int m_open, Value.int m_isPrepared, Value.int m_generation, Value.ref q78, Value.ref q79, Value.int m_buffered, Value.int m_limit, Value.int m_factor, um, Value.ref q80, Value.ref q81, Value.ref q82, Value.int m_merges, Value.ref q83, Value.int m_opened, Value.int m_chosenMany, Value.int m_begun])) : Nat × va_E) := by rw [e_h21]; exact gm_self
      replace hU : gm_g h h21 [46] := by rw [e_h21]; exact hU.put (by simp)
      refine lv_aload_n hx hb d_Mo_done_65 rfl (lv_at hl 3 rfl) ?_
      refine gz_get (ci := 8) (v := Value.int 2) (C := "CommitLedgerModel") (T := F_Mo) (N := 35) hx hb hts i_Mo hown hK Z f_46_h21 rfl 1 (by decide) kf_Mo_80 rfl d_Mo_done_66 ?_
      refine lv_if_le (tgt := 76) hx hb d_Mo_done_69 (by decide) (fun c9 => absurd c9 (by decide)) (fun _ => ?_)
      refine lv_iconst (v := 0) hx hb d_Mo_done_72 (by decide) ?_
      refine lv_goto (tgt := 77) hx hb d_Mo_done_73 (by decide) ?_
      exact gz_iret (v := 0) hx hb hr hlocks hK Z (by decide) (by decide) (by rw [← hPQ]; exact Or.inr (Or.inr (Or.inr (Or.inr (Or.inl ⟨rfl, hU, f_46_h21, c42_2, c42_3⟩))))) d_Mo_done_77
  · refine lv_aload_n hx hb d_Mo_done_45 rfl (lv_at hl 3 rfl) ?_
    refine lv_iload_n hx hb d_Mo_done_46 rfl (lv_at hl 0 rfl) ?_
    refine gz_put (ci := 8) (v := Value.int 1) (ty := .int) (C := "CommitLedgerModel") (T := F_Mo) (N := 35) hx hb hts i_Mo t_Mo_ok n_Mo hown hK Z f_46_h1 rfl 1 (by decide) kf_Mo_80 rfl (by decide +kernel) rfl rfl (Nat.le_of_ble_eq_true rfl) d_Mo_done_47 (fun H locs Z => ?_)
    obtain ⟨h22, e_h22⟩ : ∃ z9 : gm_M, z9 = gm_up h1 46 ((q46, Sum.inr (8, [Value.int m_error, Value.int 1, Value.ref q47, Value.ref q48, Value.ref q49, Value.int m_docs, Value.ref q50, Value.ref q51, Value.ref q52, Value.ref q53, Value.int m_filesThere, Value.int m_files, Value.int m_actions, Value.int m_power, Value.int m_lost, Value.ref q54, Value.ref q62, Value.ref q70, Value.int m_open, Value.int m_isPrepared, Value.int m_generation, Value.ref q78, Value.ref q79, Value.int m_buffered, Value.int m_limit, Value.int m_factor, um, Value.ref q80, Value.ref q81, Value.ref q82, Value.int m_merges, Value.ref q83, Value.int m_opened, Value.int m_chosenMany, Value.int m_begun])) : Nat × va_E) := ⟨_, rfl⟩
    replace Z : gz D A s.heap h22 H locs := by rw [e_h22]; exact Z
    have f_46_h22 : h22 46 = some ((q46, Sum.inr (8, [Value.int m_error, Value.int 1, Value.ref q47, Value.ref q48, Value.ref q49, Value.int m_docs, Value.ref q50, Value.ref q51, Value.ref q52, Value.ref q53, Value.int m_filesThere, Value.int m_files, Value.int m_actions, Value.int m_power, Value.int m_lost, Value.ref q54, Value.ref q62, Value.ref q70, Value.int m_open, Value.int m_isPrepared, Value.int m_generation, Value.ref q78, Value.ref q79, Value.int m_buffered, Value.int m_limit, Value.int m_factor, um, Value.ref q80, Value.ref q81, Value.ref q82, Value.int m_merges, Value.ref q83, Value.int m_opened, Value.int m_chosenMany, Value.int m_begun])) : Nat × va_E) := by rw [e_h22]; exact gm_self
    replace hU : gm_g h h22 [46] := by rw [e_h22]; exact hU.put (by simp)
    refine lv_iload hx hb d_Mo_done_50 (lv_at hl 2 rfl) ?_
    refine lv_bipush (v := 10) hx hb d_Mo_done_52 (by decide) ?_
    refine lv_idiv hx hb d_Mo_done_54 (by decide) ?_
    refine gx_topi (y := 1000) (by decide) ?_
    refine lv_istore (lv' := [(4, Value.int 1000), (3, Value.int 1), (5, Value.int 1), (0, Value.ref q46), (1, Value.int p1), (2, Value.int 12356)]) hx hb d_Mo_done_55 hl (by decide) rfl (fun ls hl => ?_)
    refine lv_goto (tgt := 11) hx hb d_Mo_done_57 (by decide) ?_
    refine lv_iload hx hb d_Mo_done_11 (lv_at hl 0 rfl) ?_
    refine lv_if_le (tgt := 60) hx hb d_Mo_done_13 (by decide) (fun c9 => absurd c9 (by decide)) (fun _ => ?_)
    refine lv_iload_n hx hb d_Mo_done_16 rfl (lv_at hl 5 rfl) ?_
    refine lv_iload hx hb d_Mo_done_17 (lv_at hl 0 rfl) ?_
    refine lv_idiv hx hb d_Mo_done_19 (by decide) ?_
    refine gx_topi (y := 12) (by decide) ?_
    refine lv_bipush (v := 10) hx hb d_Mo_done_20 (by decide) ?_
    refine lv_irem hx hb d_Mo_done_22 (by decide) ?_
    refine gx_topi (y := 2) (by decide) ?_
    refine lv_istore (lv' := [(5, Value.int 2), (4, Value.int 1000), (3, Value.int 1), (0, Value.ref q46), (1, Value.int p1), (2, Value.int 12356)]) hx hb d_Mo_done_23 hl (by decide) rfl (fun ls hl => ?_)
    refine lv_iload hx hb d_Mo_done_25 (lv_at hl 0 rfl) ?_
    refine lv_if_ne (tgt := 33) hx hb d_Mo_done_27 (by decide) (fun _ => ?_) (fun c9 => absurd c9 (by decide))
    refine lv_iinc (v := 2) (lv' := [(3, Value.int 2), (5, Value.int 2), (4, Value.int 1000), (0, Value.ref q46), (1, Value.int p1), (2, Value.int 12356)]) hx hb d_Mo_done_33 hl (k := 2) rfl (by decide) (by decide) rfl (fun ls hl => ?_)
    refine lv_iload hx hb d_Mo_done_36 (lv_at hl 1 rfl) ?_
    refine lv_aload_n hx hb d_Mo_done_38 rfl (lv_at hl 3 rfl) ?_
    refine gz_get (ci := 8) (v := Value.int m_error) (C := "CommitLedgerModel") (T := F_Mo) (N := 35) hx hb hts i_Mo hown hK Z f_46_h22 rfl 0 (by decide) kf_Mo_84 rfl d_Mo_done_39 ?_
    refine lv_icmp_ne (tgt := 50) hx hb d_Mo_done_42 (by decide) (fun _ => ?_) (fun c9 => absurd c9 (fun e9 => absurd (c42_2.trans e9.symm) (by decide)))
    refine lv_iload hx hb d_Mo_done_50 (lv_at hl 2 rfl) ?_
    refine lv_bipush (v := 10) hx hb d_Mo_done_52 (by decide) ?_
    refine lv_idiv hx hb d_Mo_done_54 (by decide) ?_
    refine gx_topi (y := 100) (by decide) ?_
    refine lv_istore (lv' := [(4, Value.int 100), (3, Value.int 2), (5, Value.int 2), (0, Value.ref q46), (1, Value.int p1), (2, Value.int 12356)]) hx hb d_Mo_done_55 hl (by decide) rfl (fun ls hl => ?_)
    refine lv_goto (tgt := 11) hx hb d_Mo_done_57 (by decide) ?_
    refine lv_iload hx hb d_Mo_done_11 (lv_at hl 0 rfl) ?_
    refine lv_if_le (tgt := 60) hx hb d_Mo_done_13 (by decide) (fun c9 => absurd c9 (by decide)) (fun _ => ?_)
    refine lv_iload_n hx hb d_Mo_done_16 rfl (lv_at hl 5 rfl) ?_
    refine lv_iload hx hb d_Mo_done_17 (lv_at hl 0 rfl) ?_
    refine lv_idiv hx hb d_Mo_done_19 (by decide) ?_
    refine gx_topi (y := 123) (by decide) ?_
    refine lv_bipush (v := 10) hx hb d_Mo_done_20 (by decide) ?_
    refine lv_irem hx hb d_Mo_done_22 (by decide) ?_
    refine gx_topi (y := 3) (by decide) ?_
    refine lv_istore (lv' := [(5, Value.int 3), (4, Value.int 100), (3, Value.int 2), (0, Value.ref q46), (1, Value.int p1), (2, Value.int 12356)]) hx hb d_Mo_done_23 hl (by decide) rfl (fun ls hl => ?_)
    refine lv_iload hx hb d_Mo_done_25 (lv_at hl 0 rfl) ?_
    refine lv_if_ne (tgt := 33) hx hb d_Mo_done_27 (by decide) (fun _ => ?_) (fun c9 => absurd c9 (by decide))
    refine lv_iinc (v := 3) (lv' := [(3, Value.int 3), (5, Value.int 3), (4, Value.int 100), (0, Value.ref q46), (1, Value.int p1), (2, Value.int 12356)]) hx hb d_Mo_done_33 hl (k := 2) rfl (by decide) (by decide) rfl (fun ls hl => ?_)
    refine lv_iload hx hb d_Mo_done_36 (lv_at hl 1 rfl) ?_
    refine lv_aload_n hx hb d_Mo_done_38 rfl (lv_at hl 3 rfl) ?_
    refine gz_get (ci := 8) (v := Value.int m_error) (C := "CommitLedgerModel") (T := F_Mo) (N := 35) hx hb hts i_Mo hown hK Z f_46_h22 rfl 0 (by decide) kf_Mo_84 rfl d_Mo_done_39 ?_
    refine lv_icmp_ne (tgt := 50) hx hb d_Mo_done_42 (by decide) (fun _ => ?_) (fun c9 => absurd c9 (fun e9 => absurd (c42_2.trans e9.symm) (by decide)))
    refine lv_iload hx hb d_Mo_done_50 (lv_at hl 2 rfl) ?_
    refine lv_bipush (v := 10) hx hb d_Mo_done_52 (by decide) ?_
    refine lv_idiv hx hb d_Mo_done_54 (by decide) ?_
    refine gx_topi (y := 10) (by decide) ?_
    refine lv_istore (lv' := [(4, Value.int 10), (3, Value.int 3), (5, Value.int 3), (0, Value.ref q46), (1, Value.int p1), (2, Value.int 12356)]) hx hb d_Mo_done_55 hl (by decide) rfl (fun ls hl => ?_)
    refine lv_goto (tgt := 11) hx hb d_Mo_done_57 (by decide) ?_
    refine lv_iload hx hb d_Mo_done_11 (lv_at hl 0 rfl) ?_
    refine lv_if_le (tgt := 60) hx hb d_Mo_done_13 (by decide) (fun c9 => absurd c9 (by decide)) (fun _ => ?_)
    refine lv_iload_n hx hb d_Mo_done_16 rfl (lv_at hl 5 rfl) ?_
    refine lv_iload hx hb d_Mo_done_17 (lv_at hl 0 rfl) ?_
    refine lv_idiv hx hb d_Mo_done_19 (by decide) ?_
    refine gx_topi (y := 1235) (by decide) ?_
    refine lv_bipush (v := 10) hx hb d_Mo_done_20 (by decide) ?_
    refine lv_irem hx hb d_Mo_done_22 (by decide) ?_
    refine gx_topi (y := 5) (by decide) ?_
    refine lv_istore (lv' := [(5, Value.int 5), (4, Value.int 10), (3, Value.int 3), (0, Value.ref q46), (1, Value.int p1), (2, Value.int 12356)]) hx hb d_Mo_done_23 hl (by decide) rfl (fun ls hl => ?_)
    refine lv_iload hx hb d_Mo_done_25 (lv_at hl 0 rfl) ?_
    refine lv_if_ne (tgt := 33) hx hb d_Mo_done_27 (by decide) (fun _ => ?_) (fun c9 => absurd c9 (by decide))
    refine lv_iinc (v := 4) (lv' := [(3, Value.int 4), (5, Value.int 5), (4, Value.int 10), (0, Value.ref q46), (1, Value.int p1), (2, Value.int 12356)]) hx hb d_Mo_done_33 hl (k := 2) rfl (by decide) (by decide) rfl (fun ls hl => ?_)
    refine lv_iload hx hb d_Mo_done_36 (lv_at hl 1 rfl) ?_
    refine lv_aload_n hx hb d_Mo_done_38 rfl (lv_at hl 3 rfl) ?_
    refine gz_get (ci := 8) (v := Value.int m_error) (C := "CommitLedgerModel") (T := F_Mo) (N := 35) hx hb hts i_Mo hown hK Z f_46_h22 rfl 0 (by decide) kf_Mo_84 rfl d_Mo_done_39 ?_
    refine lv_icmp_ne (tgt := 50) hx hb d_Mo_done_42 (by decide) (fun _ => ?_) (fun c9 => absurd c9 (fun e9 => absurd (c42_2.trans e9.symm) (by decide)))
    refine lv_iload hx hb d_Mo_done_50 (lv_at hl 2 rfl) ?_
    refine lv_bipush (v := 10) hx hb d_Mo_done_52 (by decide) ?_
    refine lv_idiv hx hb d_Mo_done_54 (by decide) ?_
    refine gx_topi (y := 1) (by decide) ?_
    refine lv_istore (lv' := [(4, Value.int 1), (3, Value.int 4), (5, Value.int 5), (0, Value.ref q46), (1, Value.int p1), (2, Value.int 12356)]) hx hb d_Mo_done_55 hl (by decide) rfl (fun ls hl => ?_)
    refine lv_goto (tgt := 11) hx hb d_Mo_done_57 (by decide) ?_
    refine lv_iload hx hb d_Mo_done_11 (lv_at hl 0 rfl) ?_
    refine lv_if_le (tgt := 60) hx hb d_Mo_done_13 (by decide) (fun c9 => absurd c9 (by decide)) (fun _ => ?_)
    refine lv_iload_n hx hb d_Mo_done_16 rfl (lv_at hl 5 rfl) ?_
    refine lv_iload hx hb d_Mo_done_17 (lv_at hl 0 rfl) ?_
    refine lv_idiv hx hb d_Mo_done_19 (by decide) ?_
    refine gx_topi (y := 12356) (by decide) ?_
    refine lv_bipush (v := 10) hx hb d_Mo_done_20 (by decide) ?_
    refine lv_irem hx hb d_Mo_done_22 (by decide) ?_
    refine gx_topi (y := 6) (by decide) ?_
    refine lv_istore (lv' := [(5, Value.int 6), (4, Value.int 1), (3, Value.int 4), (0, Value.ref q46), (1, Value.int p1), (2, Value.int 12356)]) hx hb d_Mo_done_23 hl (by decide) rfl (fun ls hl => ?_)
    refine lv_iload hx hb d_Mo_done_25 (lv_at hl 0 rfl) ?_
    refine lv_if_ne (tgt := 33) hx hb d_Mo_done_27 (by decide) (fun _ => ?_) (fun c9 => absurd c9 (by decide))
    refine lv_iinc (v := 5) (lv' := [(3, Value.int 5), (5, Value.int 6), (4, Value.int 1), (0, Value.ref q46), (1, Value.int p1), (2, Value.int 12356)]) hx hb d_Mo_done_33 hl (k := 2) rfl (by decide) (by decide) rfl (fun ls hl => ?_)
    refine lv_iload hx hb d_Mo_done_36 (lv_at hl 1 rfl) ?_
    refine lv_aload_n hx hb d_Mo_done_38 rfl (lv_at hl 3 rfl) ?_
    refine gz_get (ci := 8) (v := Value.int m_error) (C := "CommitLedgerModel") (T := F_Mo) (N := 35) hx hb hts i_Mo hown hK Z f_46_h22 rfl 0 (by decide) kf_Mo_84 rfl d_Mo_done_39 ?_
    refine lv_icmp_ne (tgt := 50) hx hb d_Mo_done_42 (by decide) (fun _ => ?_) (fun c9 => absurd c9 (fun e9 => absurd (c42_2.trans e9.symm) (by decide)))
    refine lv_iload hx hb d_Mo_done_50 (lv_at hl 2 rfl) ?_
    refine lv_bipush (v := 10) hx hb d_Mo_done_52 (by decide) ?_
    refine lv_idiv hx hb d_Mo_done_54 (by decide) ?_
    refine gx_topi (y := 0) (by decide) ?_
    refine lv_istore (lv' := [(4, Value.int 0), (3, Value.int 5), (5, Value.int 6), (0, Value.ref q46), (1, Value.int p1), (2, Value.int 12356)]) hx hb d_Mo_done_55 hl (by decide) rfl (fun ls hl => ?_)
    refine lv_goto (tgt := 11) hx hb d_Mo_done_57 (by decide) ?_
    refine lv_iload hx hb d_Mo_done_11 (lv_at hl 0 rfl) ?_
    refine lv_if_le (tgt := 60) hx hb d_Mo_done_13 (by decide) (fun _ => ?_) (fun c9 => absurd (by decide) c9)
    refine lv_aload_n hx hb d_Mo_done_60 rfl (lv_at hl 3 rfl) ?_
    refine lv_iconst (v := 0) hx hb d_Mo_done_61 (by decide) ?_
    refine gz_put (ci := 8) (v := Value.int 0) (ty := .int) (C := "CommitLedgerModel") (T := F_Mo) (N := 35) hx hb hts i_Mo t_Mo_ok n_Mo hown hK Z f_46_h22 rfl 0 (by decide) kf_Mo_84 rfl (by decide +kernel) rfl rfl (Nat.le_of_ble_eq_true rfl) d_Mo_done_62 (fun H locs Z => ?_)
    obtain ⟨h27, e_h27⟩ : ∃ z9 : gm_M, z9 = gm_up h22 46 ((q46, Sum.inr (8, [Value.int 0, Value.int 1, Value.ref q47, Value.ref q48, Value.ref q49, Value.int m_docs, Value.ref q50, Value.ref q51, Value.ref q52, Value.ref q53, Value.int m_filesThere, Value.int m_files, Value.int m_actions, Value.int m_power, Value.int m_lost, Value.ref q54, Value.ref q62, Value.ref q70, Value.int m_open, Value.int m_isPrepared, Value.int m_generation, Value.ref q78, Value.ref q79, Value.int m_buffered, Value.int m_limit, Value.int m_factor, um, Value.ref q80, Value.ref q81, Value.ref q82, Value.int m_merges, Value.ref q83, Value.int m_opened, Value.int m_chosenMany, Value.int m_begun])) : Nat × va_E) := ⟨_, rfl⟩
    replace Z : gz D A s.heap h27 H locs := by rw [e_h27]; exact Z
    have f_46_h27 : h27 46 = some ((q46, Sum.inr (8, [Value.int 0, Value.int 1, Value.ref q47, Value.ref q48, Value.ref q49, Value.int m_docs, Value.ref q50, Value.ref q51, Value.ref q52, Value.ref q53, Value.int m_filesThere, Value.int m_files, Value.int m_actions, Value.int m_power, Value.int m_lost, Value.ref q54, Value.ref q62, Value.ref q70, Value.int m_open, Value.int m_isPrepared, Value.int m_generation, Value.ref q78, Value.ref q79, Value.int m_buffered, Value.int m_limit, Value.int m_factor, um, Value.ref q80, Value.ref q81, Value.ref q82, Value.int m_merges, Value.ref q83, Value.int m_opened, Value.int m_chosenMany, Value.int m_begun])) : Nat × va_E) := by rw [e_h27]; exact gm_self
    replace hU : gm_g h h27 [46] := by rw [e_h27]; exact hU.put (by simp)
    refine lv_aload_n hx hb d_Mo_done_65 rfl (lv_at hl 3 rfl) ?_
    refine gz_get (ci := 8) (v := Value.int 1) (C := "CommitLedgerModel") (T := F_Mo) (N := 35) hx hb hts i_Mo hown hK Z f_46_h27 rfl 1 (by decide) kf_Mo_80 rfl d_Mo_done_66 ?_
    refine lv_if_le (tgt := 76) hx hb d_Mo_done_69 (by decide) (fun c9 => absurd c9 (by decide)) (fun _ => ?_)
    refine lv_iconst (v := 0) hx hb d_Mo_done_72 (by decide) ?_
    refine lv_goto (tgt := 77) hx hb d_Mo_done_73 (by decide) ?_
    exact gz_iret (v := 0) hx hb hr hlocks hK Z (by decide) (by decide) (by rw [← hPQ]; exact Or.inr (Or.inr (Or.inr (Or.inr (Or.inr (⟨rfl, hU, f_46_h27, c42_2⟩)))))) d_Mo_done_77

set_option maxHeartbeats 4000000 in
set_option maxRecDepth 100000 in
theorem k_Mo_done_123456 (l : Launch) (htr : l.stackTraces = false) (D : va_G) (tys : List (ClassId × FieldType)) (z sz : Nat) (ws : va_W) (h : gm_M) (hM : gm_S h ws) (q46 : Nat) (q47 : Nat) (q48 : Nat) (q49 : Nat) (q50 : Nat) (q51 : Nat) (q52 : Nat) (q53 : Nat) (q54 : Nat) (q62 : Nat) (q70 : Nat) (q78 : Nat) (q79 : Nat) (q80 : Nat) (q81 : Nat) (q82 : Nat) (q83 : Nat) (um : Value) (m_error : Int32) (m_thrown : Int32) (m_docs : Int32) (m_filesThere : Int32) (m_files : Int32) (m_actions : Int32) (m_power : Int32) (m_lost : Int32) (m_open : Int32) (m_isPrepared : Int32) (m_generation : Int32) (m_buffered : Int32) (m_limit : Int32) (m_factor : Int32) (m_merges : Int32) (m_opened : Int32) (m_chosenMany : Int32) (m_begun : Int32) (p1 : Int32) (f_46 : h 46 = some ((q46, Sum.inr (8, [Value.int m_error, Value.int m_thrown, Value.ref q47, Value.ref q48, Value.ref q49, Value.int m_docs, Value.ref q50, Value.ref q51, Value.ref q52, Value.ref q53, Value.int m_filesThere, Value.int m_files, Value.int m_actions, Value.int m_power, Value.int m_lost, Value.ref q54, Value.ref q62, Value.ref q70, Value.int m_open, Value.int m_isPrepared, Value.int m_generation, Value.ref q78, Value.ref q79, Value.int m_buffered, Value.int m_limit, Value.int m_factor, um, Value.ref q80, Value.ref q81, Value.ref q82, Value.int m_merges, Value.ref q83, Value.int m_opened, Value.int m_chosenMany, Value.int m_begun])) : Nat × va_E)) : gx_Met l y_Mo_done [Cond.code y_Mo_done b_Mo_done 6 (some .int)] { frames := 1, cells := 0, slots := 0, locals := 12 } (gx_P z sz D classes tys ws [Value.ref q46, Value.int p1, Value.int 123456]) (gx_Q D classes tys (va_A ws sz) (gm_p (fun r h' => (r = Sum.inl (some (Value.int p1)) ∧ gm_g h h' [46] ∧ h' 46 = some ((q46, Sum.inr (8, [Value.int 0, Value.int 0, Value.ref q47, Value.ref q48, Value.ref q49, Value.int m_docs, Value.ref q50, Value.ref q51, Value.ref q52, Value.ref q53, Value.int m_filesThere, Value.int m_files, Value.int m_actions, Value.int m_power, Value.int m_lost, Value.ref q54, Value.ref q62, Value.ref q70, Value.int m_open, Value.int m_isPrepared, Value.int m_generation, Value.ref q78, Value.ref q79, Value.int m_buffered, Value.int m_limit, Value.int m_factor, um, Value.ref q80, Value.ref q81, Value.ref q82, Value.int m_merges, Value.ref q83, Value.int m_opened, Value.int m_chosenMany, Value.int m_begun])) : Nat × va_E) ∧ (¬ 1 = m_error) ∧ (¬ 2 = m_error) ∧ (¬ 3 = m_error) ∧ (¬ 4 = m_error) ∧ (¬ 5 = m_error) ∧ (¬ 6 = m_error)) ∨ (r = Sum.inl (some (Value.int 0)) ∧ gm_g h h' [46] ∧ h' 46 = some ((q46, Sum.inr (8, [Value.int 0, Value.int 6, Value.ref q47, Value.ref q48, Value.ref q49, Value.int m_docs, Value.ref q50, Value.ref q51, Value.ref q52, Value.ref q53, Value.int m_filesThere, Value.int m_files, Value.int m_actions, Value.int m_power, Value.int m_lost, Value.ref q54, Value.ref q62, Value.ref q70, Value.int m_open, Value.int m_isPrepared, Value.int m_generation, Value.ref q78, Value.ref q79, Value.int m_buffered, Value.int m_limit, Value.int m_factor, um, Value.ref q80, Value.ref q81, Value.ref q82, Value.int m_merges, Value.ref q83, Value.int m_opened, Value.int m_chosenMany, Value.int m_begun])) : Nat × va_E) ∧ (¬ 1 = m_error) ∧ (¬ 2 = m_error) ∧ (¬ 3 = m_error) ∧ (¬ 4 = m_error) ∧ (¬ 5 = m_error) ∧ (6 = m_error)) ∨ (r = Sum.inl (some (Value.int 0)) ∧ gm_g h h' [46] ∧ h' 46 = some ((q46, Sum.inr (8, [Value.int 0, Value.int 5, Value.ref q47, Value.ref q48, Value.ref q49, Value.int m_docs, Value.ref q50, Value.ref q51, Value.ref q52, Value.ref q53, Value.int m_filesThere, Value.int m_files, Value.int m_actions, Value.int m_power, Value.int m_lost, Value.ref q54, Value.ref q62, Value.ref q70, Value.int m_open, Value.int m_isPrepared, Value.int m_generation, Value.ref q78, Value.ref q79, Value.int m_buffered, Value.int m_limit, Value.int m_factor, um, Value.ref q80, Value.ref q81, Value.ref q82, Value.int m_merges, Value.ref q83, Value.int m_opened, Value.int m_chosenMany, Value.int m_begun])) : Nat × va_E) ∧ (¬ 1 = m_error) ∧ (¬ 2 = m_error) ∧ (¬ 3 = m_error) ∧ (¬ 4 = m_error) ∧ (5 = m_error)) ∨ (r = Sum.inl (some (Value.int 0)) ∧ gm_g h h' [46] ∧ h' 46 = some ((q46, Sum.inr (8, [Value.int 0, Value.int 4, Value.ref q47, Value.ref q48, Value.ref q49, Value.int m_docs, Value.ref q50, Value.ref q51, Value.ref q52, Value.ref q53, Value.int m_filesThere, Value.int m_files, Value.int m_actions, Value.int m_power, Value.int m_lost, Value.ref q54, Value.ref q62, Value.ref q70, Value.int m_open, Value.int m_isPrepared, Value.int m_generation, Value.ref q78, Value.ref q79, Value.int m_buffered, Value.int m_limit, Value.int m_factor, um, Value.ref q80, Value.ref q81, Value.ref q82, Value.int m_merges, Value.ref q83, Value.int m_opened, Value.int m_chosenMany, Value.int m_begun])) : Nat × va_E) ∧ (¬ 1 = m_error) ∧ (¬ 2 = m_error) ∧ (¬ 3 = m_error) ∧ (4 = m_error)) ∨ (r = Sum.inl (some (Value.int 0)) ∧ gm_g h h' [46] ∧ h' 46 = some ((q46, Sum.inr (8, [Value.int 0, Value.int 3, Value.ref q47, Value.ref q48, Value.ref q49, Value.int m_docs, Value.ref q50, Value.ref q51, Value.ref q52, Value.ref q53, Value.int m_filesThere, Value.int m_files, Value.int m_actions, Value.int m_power, Value.int m_lost, Value.ref q54, Value.ref q62, Value.ref q70, Value.int m_open, Value.int m_isPrepared, Value.int m_generation, Value.ref q78, Value.ref q79, Value.int m_buffered, Value.int m_limit, Value.int m_factor, um, Value.ref q80, Value.ref q81, Value.ref q82, Value.int m_merges, Value.ref q83, Value.int m_opened, Value.int m_chosenMany, Value.int m_begun])) : Nat × va_E) ∧ (¬ 1 = m_error) ∧ (¬ 2 = m_error) ∧ (3 = m_error)) ∨ (r = Sum.inl (some (Value.int 0)) ∧ gm_g h h' [46] ∧ h' 46 = some ((q46, Sum.inr (8, [Value.int 0, Value.int 2, Value.ref q47, Value.ref q48, Value.ref q49, Value.int m_docs, Value.ref q50, Value.ref q51, Value.ref q52, Value.ref q53, Value.int m_filesThere, Value.int m_files, Value.int m_actions, Value.int m_power, Value.int m_lost, Value.ref q54, Value.ref q62, Value.ref q70, Value.int m_open, Value.int m_isPrepared, Value.int m_generation, Value.ref q78, Value.ref q79, Value.int m_buffered, Value.int m_limit, Value.int m_factor, um, Value.ref q80, Value.ref q81, Value.ref q82, Value.int m_merges, Value.ref q83, Value.int m_opened, Value.int m_chosenMany, Value.int m_begun])) : Nat × va_E) ∧ (¬ 1 = m_error) ∧ (2 = m_error)) ∨ (r = Sum.inl (some (Value.int 0)) ∧ gm_g h h' [46] ∧ h' 46 = some ((q46, Sum.inr (8, [Value.int 0, Value.int 1, Value.ref q47, Value.ref q48, Value.ref q49, Value.int m_docs, Value.ref q50, Value.ref q51, Value.ref q52, Value.ref q53, Value.int m_filesThere, Value.int m_files, Value.int m_actions, Value.int m_power, Value.int m_lost, Value.ref q54, Value.ref q62, Value.ref q70, Value.int m_open, Value.int m_isPrepared, Value.int m_generation, Value.ref q78, Value.ref q79, Value.int m_buffered, Value.int m_limit, Value.int m_factor, um, Value.ref q80, Value.ref q81, Value.ref q82, Value.int m_merges, Value.ref q83, Value.int m_opened, Value.int m_chosenMany, Value.int m_begun])) : Nat × va_E) ∧ (1 = m_error))))) 0 0 (va_A ws sz) := by
  refine gx_ofW (cc := b_Mo_done) (maxL := 6) (ret := (some .int)) (by decide) rfl ?_
  intro p e s m args below meth c s₁ B hml hv
  obtain ⟨rfl, hsz, hz, hP, hK, hD0, hY⟩ := hv
  have hx := B.exec
  have hb := B.bytes
  have hr := B.returns
  have hts := hY.hts (#[Value.ref q46, Value.int p1, Value.int 123456] : Array Value)
  have hown : s.vm.findClass "CommitLedgerModel" = some m.cls := findClass_of_methodNamed B.named
  have hlocks := B.notSynchronized
  have hne : c.exceptionTable.isEmpty = true := B.noHandlers (atoms_spec (ws := [Cond.code y_Mo_done b_Mo_done 6 (some .int)]) B.pre _ List.mem_cons_self)
  subst hsz
  have hAz := gx_az hD0 hz
  have hD := hD0.self (sz := s.heap.size)
  have hN := gx_ns hP
  have hA : ∀ q : Nat, s.heap.size ≤ q → va_A ws s.heap.size q := fun q h => Or.inr h
  generalize va_A ws s.heap.size = A at hD hN hA hAz ⊢
  generalize hPQ : (fun (r : Option Value ⊕ String) (h' : gm_M) => (r = Sum.inl (some (Value.int p1)) ∧ gm_g h h' [46] ∧ h' 46 = some ((q46, Sum.inr (8, [Value.int 0, Value.int 0, Value.ref q47, Value.ref q48, Value.ref q49, Value.int m_docs, Value.ref q50, Value.ref q51, Value.ref q52, Value.ref q53, Value.int m_filesThere, Value.int m_files, Value.int m_actions, Value.int m_power, Value.int m_lost, Value.ref q54, Value.ref q62, Value.ref q70, Value.int m_open, Value.int m_isPrepared, Value.int m_generation, Value.ref q78, Value.ref q79, Value.int m_buffered, Value.int m_limit, Value.int m_factor, um, Value.ref q80, Value.ref q81, Value.ref q82, Value.int m_merges, Value.ref q83, Value.int m_opened, Value.int m_chosenMany, Value.int m_begun])) : Nat × va_E) ∧ (¬ 1 = m_error) ∧ (¬ 2 = m_error) ∧ (¬ 3 = m_error) ∧ (¬ 4 = m_error) ∧ (¬ 5 = m_error) ∧ (¬ 6 = m_error)) ∨ (r = Sum.inl (some (Value.int 0)) ∧ gm_g h h' [46] ∧ h' 46 = some ((q46, Sum.inr (8, [Value.int 0, Value.int 6, Value.ref q47, Value.ref q48, Value.ref q49, Value.int m_docs, Value.ref q50, Value.ref q51, Value.ref q52, Value.ref q53, Value.int m_filesThere, Value.int m_files, Value.int m_actions, Value.int m_power, Value.int m_lost, Value.ref q54, Value.ref q62, Value.ref q70, Value.int m_open, Value.int m_isPrepared, Value.int m_generation, Value.ref q78, Value.ref q79, Value.int m_buffered, Value.int m_limit, Value.int m_factor, um, Value.ref q80, Value.ref q81, Value.ref q82, Value.int m_merges, Value.ref q83, Value.int m_opened, Value.int m_chosenMany, Value.int m_begun])) : Nat × va_E) ∧ (¬ 1 = m_error) ∧ (¬ 2 = m_error) ∧ (¬ 3 = m_error) ∧ (¬ 4 = m_error) ∧ (¬ 5 = m_error) ∧ (6 = m_error)) ∨ (r = Sum.inl (some (Value.int 0)) ∧ gm_g h h' [46] ∧ h' 46 = some ((q46, Sum.inr (8, [Value.int 0, Value.int 5, Value.ref q47, Value.ref q48, Value.ref q49, Value.int m_docs, Value.ref q50, Value.ref q51, Value.ref q52, Value.ref q53, Value.int m_filesThere, Value.int m_files, Value.int m_actions, Value.int m_power, Value.int m_lost, Value.ref q54, Value.ref q62, Value.ref q70, Value.int m_open, Value.int m_isPrepared, Value.int m_generation, Value.ref q78, Value.ref q79, Value.int m_buffered, Value.int m_limit, Value.int m_factor, um, Value.ref q80, Value.ref q81, Value.ref q82, Value.int m_merges, Value.ref q83, Value.int m_opened, Value.int m_chosenMany, Value.int m_begun])) : Nat × va_E) ∧ (¬ 1 = m_error) ∧ (¬ 2 = m_error) ∧ (¬ 3 = m_error) ∧ (¬ 4 = m_error) ∧ (5 = m_error)) ∨ (r = Sum.inl (some (Value.int 0)) ∧ gm_g h h' [46] ∧ h' 46 = some ((q46, Sum.inr (8, [Value.int 0, Value.int 4, Value.ref q47, Value.ref q48, Value.ref q49, Value.int m_docs, Value.ref q50, Value.ref q51, Value.ref q52, Value.ref q53, Value.int m_filesThere, Value.int m_files, Value.int m_actions, Value.int m_power, Value.int m_lost, Value.ref q54, Value.ref q62, Value.ref q70, Value.int m_open, Value.int m_isPrepared, Value.int m_generation, Value.ref q78, Value.ref q79, Value.int m_buffered, Value.int m_limit, Value.int m_factor, um, Value.ref q80, Value.ref q81, Value.ref q82, Value.int m_merges, Value.ref q83, Value.int m_opened, Value.int m_chosenMany, Value.int m_begun])) : Nat × va_E) ∧ (¬ 1 = m_error) ∧ (¬ 2 = m_error) ∧ (¬ 3 = m_error) ∧ (4 = m_error)) ∨ (r = Sum.inl (some (Value.int 0)) ∧ gm_g h h' [46] ∧ h' 46 = some ((q46, Sum.inr (8, [Value.int 0, Value.int 3, Value.ref q47, Value.ref q48, Value.ref q49, Value.int m_docs, Value.ref q50, Value.ref q51, Value.ref q52, Value.ref q53, Value.int m_filesThere, Value.int m_files, Value.int m_actions, Value.int m_power, Value.int m_lost, Value.ref q54, Value.ref q62, Value.ref q70, Value.int m_open, Value.int m_isPrepared, Value.int m_generation, Value.ref q78, Value.ref q79, Value.int m_buffered, Value.int m_limit, Value.int m_factor, um, Value.ref q80, Value.ref q81, Value.ref q82, Value.int m_merges, Value.ref q83, Value.int m_opened, Value.int m_chosenMany, Value.int m_begun])) : Nat × va_E) ∧ (¬ 1 = m_error) ∧ (¬ 2 = m_error) ∧ (3 = m_error)) ∨ (r = Sum.inl (some (Value.int 0)) ∧ gm_g h h' [46] ∧ h' 46 = some ((q46, Sum.inr (8, [Value.int 0, Value.int 2, Value.ref q47, Value.ref q48, Value.ref q49, Value.int m_docs, Value.ref q50, Value.ref q51, Value.ref q52, Value.ref q53, Value.int m_filesThere, Value.int m_files, Value.int m_actions, Value.int m_power, Value.int m_lost, Value.ref q54, Value.ref q62, Value.ref q70, Value.int m_open, Value.int m_isPrepared, Value.int m_generation, Value.ref q78, Value.ref q79, Value.int m_buffered, Value.int m_limit, Value.int m_factor, um, Value.ref q80, Value.ref q81, Value.ref q82, Value.int m_merges, Value.ref q83, Value.int m_opened, Value.int m_chosenMany, Value.int m_begun])) : Nat × va_E) ∧ (¬ 1 = m_error) ∧ (2 = m_error)) ∨ (r = Sum.inl (some (Value.int 0)) ∧ gm_g h h' [46] ∧ h' 46 = some ((q46, Sum.inr (8, [Value.int 0, Value.int 1, Value.ref q47, Value.ref q48, Value.ref q49, Value.int m_docs, Value.ref q50, Value.ref q51, Value.ref q52, Value.ref q53, Value.int m_filesThere, Value.int m_files, Value.int m_actions, Value.int m_power, Value.int m_lost, Value.ref q54, Value.ref q62, Value.ref q70, Value.int m_open, Value.int m_isPrepared, Value.int m_generation, Value.ref q78, Value.ref q79, Value.int m_buffered, Value.int m_limit, Value.int m_factor, um, Value.ref q80, Value.ref q81, Value.ref q82, Value.int m_merges, Value.ref q83, Value.int m_opened, Value.int m_chosenMany, Value.int m_begun])) : Nat × va_E) ∧ (1 = m_error))) = PQ
  have Z : gz D A s.heap h s.heap [] := ⟨ws, hM, hP, hD, va_S.rf⟩
  clear hP hD hM hD0
  have hU : gm_g h h [46] := gm_g.rf
  have hl := lv_entry ([Value.ref q46, Value.int p1, Value.int 123456]) (n := 6) (Nat.le_of_ble_eq_true rfl)
  rw [lg_entry_eq]
  generalize (lg_sl ([Value.ref q46, Value.int p1, Value.int 123456]) ++ List.replicate (6 - (lg_sl ([Value.ref q46, Value.int p1, Value.int 123456])).length) Slot.unset).toArray = ls at hl ⊢
  have hl : lv_has ls 6 [(0, Value.ref q46), (1, Value.int p1), (2, Value.int 123456)] := hl
  refine lv_aload_n hx hb d_Mo_done_0 rfl (lv_at hl 0 rfl) ?_
  refine lv_iconst (v := 0) hx hb d_Mo_done_1 (by decide) ?_
  refine gz_put (ci := 8) (v := Value.int 0) (ty := .int) (C := "CommitLedgerModel") (T := F_Mo) (N := 35) hx hb hts i_Mo t_Mo_ok n_Mo hown hK Z f_46 rfl 1 (by decide) kf_Mo_80 rfl (by decide +kernel) rfl rfl (Nat.le_of_ble_eq_true rfl) d_Mo_done_2 (fun H locs Z => ?_)
  obtain ⟨h1, e_h1⟩ : ∃ z9 : gm_M, z9 = gm_up h 46 ((q46, Sum.inr (8, [Value.int m_error, Value.int 0, Value.ref q47, Value.ref q48, Value.ref q49, Value.int m_docs, Value.ref q50, Value.ref q51, Value.ref q52, Value.ref q53, Value.int m_filesThere, Value.int m_files, Value.int m_actions, Value.int m_power, Value.int m_lost, Value.ref q54, Value.ref q62, Value.ref q70, Value.int m_open, Value.int m_isPrepared, Value.int m_generation, Value.ref q78, Value.ref q79, Value.int m_buffered, Value.int m_limit, Value.int m_factor, um, Value.ref q80, Value.ref q81, Value.ref q82, Value.int m_merges, Value.ref q83, Value.int m_opened, Value.int m_chosenMany, Value.int m_begun])) : Nat × va_E) := ⟨_, rfl⟩
  replace Z : gz D A s.heap h1 H locs := by rw [e_h1]; exact Z
  have f_46_h1 : h1 46 = some ((q46, Sum.inr (8, [Value.int m_error, Value.int 0, Value.ref q47, Value.ref q48, Value.ref q49, Value.int m_docs, Value.ref q50, Value.ref q51, Value.ref q52, Value.ref q53, Value.int m_filesThere, Value.int m_files, Value.int m_actions, Value.int m_power, Value.int m_lost, Value.ref q54, Value.ref q62, Value.ref q70, Value.int m_open, Value.int m_isPrepared, Value.int m_generation, Value.ref q78, Value.ref q79, Value.int m_buffered, Value.int m_limit, Value.int m_factor, um, Value.ref q80, Value.ref q81, Value.ref q82, Value.int m_merges, Value.ref q83, Value.int m_opened, Value.int m_chosenMany, Value.int m_begun])) : Nat × va_E) := by rw [e_h1]; exact gm_self
  replace hU : gm_g h h1 [46] := by rw [e_h1]; exact hU.put (by simp)
  refine lv_iconst (v := 0) hx hb d_Mo_done_5 (by decide) ?_
  refine lv_istore_n (lv' := [(3, Value.int 0), (0, Value.ref q46), (1, Value.int p1), (2, Value.int 123456)]) hx hb d_Mo_done_6 rfl hl (by decide) rfl (fun ls hl => ?_)
  refine lv_ldc (v := 100000) hx hb hown (hts _ ki_Mo_83) d_Mo_done_7 ?_
  refine lv_istore (lv' := [(4, Value.int 100000), (3, Value.int 0), (0, Value.ref q46), (1, Value.int p1), (2, Value.int 123456)]) hx hb d_Mo_done_9 hl (by decide) rfl (fun ls hl => ?_)
  refine lv_iload hx hb d_Mo_done_11 (lv_at hl 0 rfl) ?_
  refine lv_if_le (tgt := 60) hx hb d_Mo_done_13 (by decide) (fun c9 => absurd c9 (by decide)) (fun _ => ?_)
  refine lv_iload_n hx hb d_Mo_done_16 rfl (lv_at hl 4 rfl) ?_
  refine lv_iload hx hb d_Mo_done_17 (lv_at hl 0 rfl) ?_
  refine lv_idiv hx hb d_Mo_done_19 (by decide) ?_
  refine gx_topi (y := 1) (by decide) ?_
  refine lv_bipush (v := 10) hx hb d_Mo_done_20 (by decide) ?_
  refine lv_irem hx hb d_Mo_done_22 (by decide) ?_
  refine gx_topi (y := 1) (by decide) ?_
  refine lv_istore (lv' := [(5, Value.int 1), (4, Value.int 100000), (3, Value.int 0), (0, Value.ref q46), (1, Value.int p1), (2, Value.int 123456)]) hx hb d_Mo_done_23 hl (by decide) rfl (fun ls hl => ?_)
  refine lv_iload hx hb d_Mo_done_25 (lv_at hl 0 rfl) ?_
  refine lv_if_ne (tgt := 33) hx hb d_Mo_done_27 (by decide) (fun _ => ?_) (fun c9 => absurd c9 (by decide))
  refine lv_iinc (v := 1) (lv' := [(3, Value.int 1), (5, Value.int 1), (4, Value.int 100000), (0, Value.ref q46), (1, Value.int p1), (2, Value.int 123456)]) hx hb d_Mo_done_33 hl (k := 2) rfl (by decide) (by decide) rfl (fun ls hl => ?_)
  refine lv_iload hx hb d_Mo_done_36 (lv_at hl 1 rfl) ?_
  refine lv_aload_n hx hb d_Mo_done_38 rfl (lv_at hl 3 rfl) ?_
  refine gz_get (ci := 8) (v := Value.int m_error) (C := "CommitLedgerModel") (T := F_Mo) (N := 35) hx hb hts i_Mo hown hK Z f_46_h1 rfl 0 (by decide) kf_Mo_84 rfl d_Mo_done_39 ?_
  refine lv_icmp_ne (tgt := 50) hx hb d_Mo_done_42 (by decide) (fun c42_2 => ?_) (fun c42_2 => ?_)
  · refine lv_iload hx hb d_Mo_done_50 (lv_at hl 2 rfl) ?_
    refine lv_bipush (v := 10) hx hb d_Mo_done_52 (by decide) ?_
    refine lv_idiv hx hb d_Mo_done_54 (by decide) ?_
    refine gx_topi (y := 10000) (by decide) ?_
    refine lv_istore (lv' := [(4, Value.int 10000), (3, Value.int 1), (5, Value.int 1), (0, Value.ref q46), (1, Value.int p1), (2, Value.int 123456)]) hx hb d_Mo_done_55 hl (by decide) rfl (fun ls hl => ?_)
    refine lv_goto (tgt := 11) hx hb d_Mo_done_57 (by decide) ?_
    refine lv_iload hx hb d_Mo_done_11 (lv_at hl 0 rfl) ?_
    refine lv_if_le (tgt := 60) hx hb d_Mo_done_13 (by decide) (fun c9 => absurd c9 (by decide)) (fun _ => ?_)
    refine lv_iload_n hx hb d_Mo_done_16 rfl (lv_at hl 5 rfl) ?_
    refine lv_iload hx hb d_Mo_done_17 (lv_at hl 0 rfl) ?_
    refine lv_idiv hx hb d_Mo_done_19 (by decide) ?_
    refine gx_topi (y := 12) (by decide) ?_
    refine lv_bipush (v := 10) hx hb d_Mo_done_20 (by decide) ?_
    refine lv_irem hx hb d_Mo_done_22 (by decide) ?_
    refine gx_topi (y := 2) (by decide) ?_
    refine lv_istore (lv' := [(5, Value.int 2), (4, Value.int 10000), (3, Value.int 1), (0, Value.ref q46), (1, Value.int p1), (2, Value.int 123456)]) hx hb d_Mo_done_23 hl (by decide) rfl (fun ls hl => ?_)
    refine lv_iload hx hb d_Mo_done_25 (lv_at hl 0 rfl) ?_
    refine lv_if_ne (tgt := 33) hx hb d_Mo_done_27 (by decide) (fun _ => ?_) (fun c9 => absurd c9 (by decide))
    refine lv_iinc (v := 2) (lv' := [(3, Value.int 2), (5, Value.int 2), (4, Value.int 10000), (0, Value.ref q46), (1, Value.int p1), (2, Value.int 123456)]) hx hb d_Mo_done_33 hl (k := 2) rfl (by decide) (by decide) rfl (fun ls hl => ?_)
    refine lv_iload hx hb d_Mo_done_36 (lv_at hl 1 rfl) ?_
    refine lv_aload_n hx hb d_Mo_done_38 rfl (lv_at hl 3 rfl) ?_
    refine gz_get (ci := 8) (v := Value.int m_error) (C := "CommitLedgerModel") (T := F_Mo) (N := 35) hx hb hts i_Mo hown hK Z f_46_h1 rfl 0 (by decide) kf_Mo_84 rfl d_Mo_done_39 ?_
    refine lv_icmp_ne (tgt := 50) hx hb d_Mo_done_42 (by decide) (fun c42_3 => ?_) (fun c42_3 => ?_)
    · refine lv_iload hx hb d_Mo_done_50 (lv_at hl 2 rfl) ?_
      refine lv_bipush (v := 10) hx hb d_Mo_done_52 (by decide) ?_
      refine lv_idiv hx hb d_Mo_done_54 (by decide) ?_
      refine gx_topi (y := 1000) (by decide) ?_
      refine lv_istore (lv' := [(4, Value.int 1000), (3, Value.int 2), (5, Value.int 2), (0, Value.ref q46), (1, Value.int p1), (2, Value.int 123456)]) hx hb d_Mo_done_55 hl (by decide) rfl (fun ls hl => ?_)
      refine lv_goto (tgt := 11) hx hb d_Mo_done_57 (by decide) ?_
      refine lv_iload hx hb d_Mo_done_11 (lv_at hl 0 rfl) ?_
      refine lv_if_le (tgt := 60) hx hb d_Mo_done_13 (by decide) (fun c9 => absurd c9 (by decide)) (fun _ => ?_)
      refine lv_iload_n hx hb d_Mo_done_16 rfl (lv_at hl 5 rfl) ?_
      refine lv_iload hx hb d_Mo_done_17 (lv_at hl 0 rfl) ?_
      refine lv_idiv hx hb d_Mo_done_19 (by decide) ?_
      refine gx_topi (y := 123) (by decide) ?_
      refine lv_bipush (v := 10) hx hb d_Mo_done_20 (by decide) ?_
      refine lv_irem hx hb d_Mo_done_22 (by decide) ?_
      refine gx_topi (y := 3) (by decide) ?_
      refine lv_istore (lv' := [(5, Value.int 3), (4, Value.int 1000), (3, Value.int 2), (0, Value.ref q46), (1, Value.int p1), (2, Value.int 123456)]) hx hb d_Mo_done_23 hl (by decide) rfl (fun ls hl => ?_)
      refine lv_iload hx hb d_Mo_done_25 (lv_at hl 0 rfl) ?_
      refine lv_if_ne (tgt := 33) hx hb d_Mo_done_27 (by decide) (fun _ => ?_) (fun c9 => absurd c9 (by decide))
      refine lv_iinc (v := 3) (lv' := [(3, Value.int 3), (5, Value.int 3), (4, Value.int 1000), (0, Value.ref q46), (1, Value.int p1), (2, Value.int 123456)]) hx hb d_Mo_done_33 hl (k := 2) rfl (by decide) (by decide) rfl (fun ls hl => ?_)
      refine lv_iload hx hb d_Mo_done_36 (lv_at hl 1 rfl) ?_
      refine lv_aload_n hx hb d_Mo_done_38 rfl (lv_at hl 3 rfl) ?_
      refine gz_get (ci := 8) (v := Value.int m_error) (C := "CommitLedgerModel") (T := F_Mo) (N := 35) hx hb hts i_Mo hown hK Z f_46_h1 rfl 0 (by decide) kf_Mo_84 rfl d_Mo_done_39 ?_
      refine lv_icmp_ne (tgt := 50) hx hb d_Mo_done_42 (by decide) (fun c42_4 => ?_) (fun c42_4 => ?_)
      · refine lv_iload hx hb d_Mo_done_50 (lv_at hl 2 rfl) ?_
        refine lv_bipush (v := 10) hx hb d_Mo_done_52 (by decide) ?_
        refine lv_idiv hx hb d_Mo_done_54 (by decide) ?_
        refine gx_topi (y := 100) (by decide) ?_
        refine lv_istore (lv' := [(4, Value.int 100), (3, Value.int 3), (5, Value.int 3), (0, Value.ref q46), (1, Value.int p1), (2, Value.int 123456)]) hx hb d_Mo_done_55 hl (by decide) rfl (fun ls hl => ?_)
        refine lv_goto (tgt := 11) hx hb d_Mo_done_57 (by decide) ?_
        refine lv_iload hx hb d_Mo_done_11 (lv_at hl 0 rfl) ?_
        refine lv_if_le (tgt := 60) hx hb d_Mo_done_13 (by decide) (fun c9 => absurd c9 (by decide)) (fun _ => ?_)
        refine lv_iload_n hx hb d_Mo_done_16 rfl (lv_at hl 5 rfl) ?_
        refine lv_iload hx hb d_Mo_done_17 (lv_at hl 0 rfl) ?_
        refine lv_idiv hx hb d_Mo_done_19 (by decide) ?_
        refine gx_topi (y := 1234) (by decide) ?_
        refine lv_bipush (v := 10) hx hb d_Mo_done_20 (by decide) ?_
        refine lv_irem hx hb d_Mo_done_22 (by decide) ?_
        refine gx_topi (y := 4) (by decide) ?_
        refine lv_istore (lv' := [(5, Value.int 4), (4, Value.int 100), (3, Value.int 3), (0, Value.ref q46), (1, Value.int p1), (2, Value.int 123456)]) hx hb d_Mo_done_23 hl (by decide) rfl (fun ls hl => ?_)
        refine lv_iload hx hb d_Mo_done_25 (lv_at hl 0 rfl) ?_
        refine lv_if_ne (tgt := 33) hx hb d_Mo_done_27 (by decide) (fun _ => ?_) (fun c9 => absurd c9 (by decide))
        refine lv_iinc (v := 4) (lv' := [(3, Value.int 4), (5, Value.int 4), (4, Value.int 100), (0, Value.ref q46), (1, Value.int p1), (2, Value.int 123456)]) hx hb d_Mo_done_33 hl (k := 2) rfl (by decide) (by decide) rfl (fun ls hl => ?_)
        refine lv_iload hx hb d_Mo_done_36 (lv_at hl 1 rfl) ?_
        refine lv_aload_n hx hb d_Mo_done_38 rfl (lv_at hl 3 rfl) ?_
        refine gz_get (ci := 8) (v := Value.int m_error) (C := "CommitLedgerModel") (T := F_Mo) (N := 35) hx hb hts i_Mo hown hK Z f_46_h1 rfl 0 (by decide) kf_Mo_84 rfl d_Mo_done_39 ?_
        refine lv_icmp_ne (tgt := 50) hx hb d_Mo_done_42 (by decide) (fun c42_5 => ?_) (fun c42_5 => ?_)
        · refine lv_iload hx hb d_Mo_done_50 (lv_at hl 2 rfl) ?_
          refine lv_bipush (v := 10) hx hb d_Mo_done_52 (by decide) ?_
          refine lv_idiv hx hb d_Mo_done_54 (by decide) ?_
          refine gx_topi (y := 10) (by decide) ?_
          refine lv_istore (lv' := [(4, Value.int 10), (3, Value.int 4), (5, Value.int 4), (0, Value.ref q46), (1, Value.int p1), (2, Value.int 123456)]) hx hb d_Mo_done_55 hl (by decide) rfl (fun ls hl => ?_)
          refine lv_goto (tgt := 11) hx hb d_Mo_done_57 (by decide) ?_
          refine lv_iload hx hb d_Mo_done_11 (lv_at hl 0 rfl) ?_
          refine lv_if_le (tgt := 60) hx hb d_Mo_done_13 (by decide) (fun c9 => absurd c9 (by decide)) (fun _ => ?_)
          refine lv_iload_n hx hb d_Mo_done_16 rfl (lv_at hl 5 rfl) ?_
          refine lv_iload hx hb d_Mo_done_17 (lv_at hl 0 rfl) ?_
          refine lv_idiv hx hb d_Mo_done_19 (by decide) ?_
          refine gx_topi (y := 12345) (by decide) ?_
          refine lv_bipush (v := 10) hx hb d_Mo_done_20 (by decide) ?_
          refine lv_irem hx hb d_Mo_done_22 (by decide) ?_
          refine gx_topi (y := 5) (by decide) ?_
          refine lv_istore (lv' := [(5, Value.int 5), (4, Value.int 10), (3, Value.int 4), (0, Value.ref q46), (1, Value.int p1), (2, Value.int 123456)]) hx hb d_Mo_done_23 hl (by decide) rfl (fun ls hl => ?_)
          refine lv_iload hx hb d_Mo_done_25 (lv_at hl 0 rfl) ?_
          refine lv_if_ne (tgt := 33) hx hb d_Mo_done_27 (by decide) (fun _ => ?_) (fun c9 => absurd c9 (by decide))
          refine lv_iinc (v := 5) (lv' := [(3, Value.int 5), (5, Value.int 5), (4, Value.int 10), (0, Value.ref q46), (1, Value.int p1), (2, Value.int 123456)]) hx hb d_Mo_done_33 hl (k := 2) rfl (by decide) (by decide) rfl (fun ls hl => ?_)
          refine lv_iload hx hb d_Mo_done_36 (lv_at hl 1 rfl) ?_
          refine lv_aload_n hx hb d_Mo_done_38 rfl (lv_at hl 3 rfl) ?_
          refine gz_get (ci := 8) (v := Value.int m_error) (C := "CommitLedgerModel") (T := F_Mo) (N := 35) hx hb hts i_Mo hown hK Z f_46_h1 rfl 0 (by decide) kf_Mo_84 rfl d_Mo_done_39 ?_
          refine lv_icmp_ne (tgt := 50) hx hb d_Mo_done_42 (by decide) (fun c42_6 => ?_) (fun c42_6 => ?_)
          · refine lv_iload hx hb d_Mo_done_50 (lv_at hl 2 rfl) ?_
            refine lv_bipush (v := 10) hx hb d_Mo_done_52 (by decide) ?_
            refine lv_idiv hx hb d_Mo_done_54 (by decide) ?_
            refine gx_topi (y := 1) (by decide) ?_
            refine lv_istore (lv' := [(4, Value.int 1), (3, Value.int 5), (5, Value.int 5), (0, Value.ref q46), (1, Value.int p1), (2, Value.int 123456)]) hx hb d_Mo_done_55 hl (by decide) rfl (fun ls hl => ?_)
            refine lv_goto (tgt := 11) hx hb d_Mo_done_57 (by decide) ?_
            refine lv_iload hx hb d_Mo_done_11 (lv_at hl 0 rfl) ?_
            refine lv_if_le (tgt := 60) hx hb d_Mo_done_13 (by decide) (fun c9 => absurd c9 (by decide)) (fun _ => ?_)
            refine lv_iload_n hx hb d_Mo_done_16 rfl (lv_at hl 5 rfl) ?_
            refine lv_iload hx hb d_Mo_done_17 (lv_at hl 0 rfl) ?_
            refine lv_idiv hx hb d_Mo_done_19 (by decide) ?_
            refine gx_topi (y := 123456) (by decide) ?_
            refine lv_bipush (v := 10) hx hb d_Mo_done_20 (by decide) ?_
            refine lv_irem hx hb d_Mo_done_22 (by decide) ?_
            refine gx_topi (y := 6) (by decide) ?_
            refine lv_istore (lv' := [(5, Value.int 6), (4, Value.int 1), (3, Value.int 5), (0, Value.ref q46), (1, Value.int p1), (2, Value.int 123456)]) hx hb d_Mo_done_23 hl (by decide) rfl (fun ls hl => ?_)
            refine lv_iload hx hb d_Mo_done_25 (lv_at hl 0 rfl) ?_
            refine lv_if_ne (tgt := 33) hx hb d_Mo_done_27 (by decide) (fun _ => ?_) (fun c9 => absurd c9 (by decide))
            refine lv_iinc (v := 6) (lv' := [(3, Value.int 6), (5, Value.int 6), (4, Value.int 1), (0, Value.ref q46), (1, Value.int p1), (2, Value.int 123456)]) hx hb d_Mo_done_33 hl (k := 2) rfl (by decide) (by decide) rfl (fun ls hl => ?_)
            refine lv_iload hx hb d_Mo_done_36 (lv_at hl 1 rfl) ?_
            refine lv_aload_n hx hb d_Mo_done_38 rfl (lv_at hl 3 rfl) ?_
            refine gz_get (ci := 8) (v := Value.int m_error) (C := "CommitLedgerModel") (T := F_Mo) (N := 35) hx hb hts i_Mo hown hK Z f_46_h1 rfl 0 (by decide) kf_Mo_84 rfl d_Mo_done_39 ?_
            refine lv_icmp_ne (tgt := 50) hx hb d_Mo_done_42 (by decide) (fun c42_7 => ?_) (fun c42_7 => ?_)
            · refine lv_iload hx hb d_Mo_done_50 (lv_at hl 2 rfl) ?_
              refine lv_bipush (v := 10) hx hb d_Mo_done_52 (by decide) ?_
              refine lv_idiv hx hb d_Mo_done_54 (by decide) ?_
              refine gx_topi (y := 0) (by decide) ?_
              refine lv_istore (lv' := [(4, Value.int 0), (3, Value.int 6), (5, Value.int 6), (0, Value.ref q46), (1, Value.int p1), (2, Value.int 123456)]) hx hb d_Mo_done_55 hl (by decide) rfl (fun ls hl => ?_)
              refine lv_goto (tgt := 11) hx hb d_Mo_done_57 (by decide) ?_
              refine lv_iload hx hb d_Mo_done_11 (lv_at hl 0 rfl) ?_
              refine lv_if_le (tgt := 60) hx hb d_Mo_done_13 (by decide) (fun _ => ?_) (fun c9 => absurd (by decide) c9)
              refine lv_aload_n hx hb d_Mo_done_60 rfl (lv_at hl 3 rfl) ?_
              refine lv_iconst (v := 0) hx hb d_Mo_done_61 (by decide) ?_
              refine gz_put (ci := 8) (v := Value.int 0) (ty := .int) (C := "CommitLedgerModel") (T := F_Mo) (N := 35) hx hb hts i_Mo t_Mo_ok n_Mo hown hK Z f_46_h1 rfl 0 (by decide) kf_Mo_84 rfl (by decide +kernel) rfl rfl (Nat.le_of_ble_eq_true rfl) d_Mo_done_62 (fun H locs Z => ?_)
              obtain ⟨h8, e_h8⟩ : ∃ z9 : gm_M, z9 = gm_up h1 46 ((q46, Sum.inr (8, [Value.int 0, Value.int 0, Value.ref q47, Value.ref q48, Value.ref q49, Value.int m_docs, Value.ref q50, Value.ref q51, Value.ref q52, Value.ref q53, Value.int m_filesThere, Value.int m_files, Value.int m_actions, Value.int m_power, Value.int m_lost, Value.ref q54, Value.ref q62, Value.ref q70, Value.int m_open, Value.int m_isPrepared, Value.int m_generation, Value.ref q78, Value.ref q79, Value.int m_buffered, Value.int m_limit, Value.int m_factor, um, Value.ref q80, Value.ref q81, Value.ref q82, Value.int m_merges, Value.ref q83, Value.int m_opened, Value.int m_chosenMany, Value.int m_begun])) : Nat × va_E) := ⟨_, rfl⟩
              replace Z : gz D A s.heap h8 H locs := by rw [e_h8]; exact Z
              have f_46_h8 : h8 46 = some ((q46, Sum.inr (8, [Value.int 0, Value.int 0, Value.ref q47, Value.ref q48, Value.ref q49, Value.int m_docs, Value.ref q50, Value.ref q51, Value.ref q52, Value.ref q53, Value.int m_filesThere, Value.int m_files, Value.int m_actions, Value.int m_power, Value.int m_lost, Value.ref q54, Value.ref q62, Value.ref q70, Value.int m_open, Value.int m_isPrepared, Value.int m_generation, Value.ref q78, Value.ref q79, Value.int m_buffered, Value.int m_limit, Value.int m_factor, um, Value.ref q80, Value.ref q81, Value.ref q82, Value.int m_merges, Value.ref q83, Value.int m_opened, Value.int m_chosenMany, Value.int m_begun])) : Nat × va_E) := by rw [e_h8]; exact gm_self
              replace hU : gm_g h h8 [46] := by rw [e_h8]; exact hU.put (by simp)
              refine lv_aload_n hx hb d_Mo_done_65 rfl (lv_at hl 3 rfl) ?_
              refine gz_get (ci := 8) (v := Value.int 0) (C := "CommitLedgerModel") (T := F_Mo) (N := 35) hx hb hts i_Mo hown hK Z f_46_h8 rfl 1 (by decide) kf_Mo_80 rfl d_Mo_done_66 ?_
              refine lv_if_le (tgt := 76) hx hb d_Mo_done_69 (by decide) (fun _ => ?_) (fun c9 => absurd (by decide) c9)
              refine lv_iload_n hx hb d_Mo_done_76 rfl (lv_at hl 4 rfl) ?_
              exact gz_iret (v := p1) hx hb hr hlocks hK Z (by decide) (by decide) (by rw [← hPQ]; exact Or.inl ⟨rfl, hU, f_46_h8, c42_2, c42_3, c42_4, c42_5, c42_6, c42_7⟩) d_Mo_done_77
            · refine lv_aload_n hx hb d_Mo_done_45 rfl (lv_at hl 3 rfl) ?_
              refine lv_iload_n hx hb d_Mo_done_46 rfl (lv_at hl 0 rfl) ?_
              refine gz_put (ci := 8) (v := Value.int 6) (ty := .int) (C := "CommitLedgerModel") (T := F_Mo) (N := 35) hx hb hts i_Mo t_Mo_ok n_Mo hown hK Z f_46_h1 rfl 1 (by decide) kf_Mo_80 rfl (by decide +kernel) rfl rfl (Nat.le_of_ble_eq_true rfl) d_Mo_done_47 (fun H locs Z => ?_)
              obtain ⟨h9, e_h9⟩ : ∃ z9 : gm_M, z9 = gm_up h1 46 ((q46, Sum.inr (8, [Value.int m_error, Value.int 6, Value.ref q47, Value.ref q48, Value.ref q49, Value.int m_docs, Value.ref q50, Value.ref q51, Value.ref q52, Value.ref q53, Value.int m_filesThere, Value.int m_files, Value.int m_actions, Value.int m_power, Value.int m_lost, Value.ref q54, Value.ref q62, Value.ref q70, Value.int m_open, Value.int m_isPrepared, Value.int m_generation, Value.ref q78, Value.ref q79, Value.int m_buffered, Value.int m_limit, Value.int m_factor, um, Value.ref q80, Value.ref q81, Value.ref q82, Value.int m_merges, Value.ref q83, Value.int m_opened, Value.int m_chosenMany, Value.int m_begun])) : Nat × va_E) := ⟨_, rfl⟩
              replace Z : gz D A s.heap h9 H locs := by rw [e_h9]; exact Z
              have f_46_h9 : h9 46 = some ((q46, Sum.inr (8, [Value.int m_error, Value.int 6, Value.ref q47, Value.ref q48, Value.ref q49, Value.int m_docs, Value.ref q50, Value.ref q51, Value.ref q52, Value.ref q53, Value.int m_filesThere, Value.int m_files, Value.int m_actions, Value.int m_power, Value.int m_lost, Value.ref q54, Value.ref q62, Value.ref q70, Value.int m_open, Value.int m_isPrepared, Value.int m_generation, Value.ref q78, Value.ref q79, Value.int m_buffered, Value.int m_limit, Value.int m_factor, um, Value.ref q80, Value.ref q81, Value.ref q82, Value.int m_merges, Value.ref q83, Value.int m_opened, Value.int m_chosenMany, Value.int m_begun])) : Nat × va_E) := by rw [e_h9]; exact gm_self
              replace hU : gm_g h h9 [46] := by rw [e_h9]; exact hU.put (by simp)
              refine lv_iload hx hb d_Mo_done_50 (lv_at hl 2 rfl) ?_
              refine lv_bipush (v := 10) hx hb d_Mo_done_52 (by decide) ?_
              refine lv_idiv hx hb d_Mo_done_54 (by decide) ?_
              refine gx_topi (y := 0) (by decide) ?_
              refine lv_istore (lv' := [(4, Value.int 0), (3, Value.int 6), (5, Value.int 6), (0, Value.ref q46), (1, Value.int p1), (2, Value.int 123456)]) hx hb d_Mo_done_55 hl (by decide) rfl (fun ls hl => ?_)
              refine lv_goto (tgt := 11) hx hb d_Mo_done_57 (by decide) ?_
              refine lv_iload hx hb d_Mo_done_11 (lv_at hl 0 rfl) ?_
              refine lv_if_le (tgt := 60) hx hb d_Mo_done_13 (by decide) (fun _ => ?_) (fun c9 => absurd (by decide) c9)
              refine lv_aload_n hx hb d_Mo_done_60 rfl (lv_at hl 3 rfl) ?_
              refine lv_iconst (v := 0) hx hb d_Mo_done_61 (by decide) ?_
              refine gz_put (ci := 8) (v := Value.int 0) (ty := .int) (C := "CommitLedgerModel") (T := F_Mo) (N := 35) hx hb hts i_Mo t_Mo_ok n_Mo hown hK Z f_46_h9 rfl 0 (by decide) kf_Mo_84 rfl (by decide +kernel) rfl rfl (Nat.le_of_ble_eq_true rfl) d_Mo_done_62 (fun H locs Z => ?_)
              obtain ⟨h10, e_h10⟩ : ∃ z9 : gm_M, z9 = gm_up h9 46 ((q46, Sum.inr (8, [Value.int 0, Value.int 6, Value.ref q47, Value.ref q48, Value.ref q49, Value.int m_docs, Value.ref q50, Value.ref q51, Value.ref q52, Value.ref q53, Value.int m_filesThere, Value.int m_files, Value.int m_actions, Value.int m_power, Value.int m_lost, Value.ref q54, Value.ref q62, Value.ref q70, Value.int m_open, Value.int m_isPrepared, Value.int m_generation, Value.ref q78, Value.ref q79, Value.int m_buffered, Value.int m_limit, Value.int m_factor, um, Value.ref q80, Value.ref q81, Value.ref q82, Value.int m_merges, Value.ref q83, Value.int m_opened, Value.int m_chosenMany, Value.int m_begun])) : Nat × va_E) := ⟨_, rfl⟩
              replace Z : gz D A s.heap h10 H locs := by rw [e_h10]; exact Z
              have f_46_h10 : h10 46 = some ((q46, Sum.inr (8, [Value.int 0, Value.int 6, Value.ref q47, Value.ref q48, Value.ref q49, Value.int m_docs, Value.ref q50, Value.ref q51, Value.ref q52, Value.ref q53, Value.int m_filesThere, Value.int m_files, Value.int m_actions, Value.int m_power, Value.int m_lost, Value.ref q54, Value.ref q62, Value.ref q70, Value.int m_open, Value.int m_isPrepared, Value.int m_generation, Value.ref q78, Value.ref q79, Value.int m_buffered, Value.int m_limit, Value.int m_factor, um, Value.ref q80, Value.ref q81, Value.ref q82, Value.int m_merges, Value.ref q83, Value.int m_opened, Value.int m_chosenMany, Value.int m_begun])) : Nat × va_E) := by rw [e_h10]; exact gm_self
              replace hU : gm_g h h10 [46] := by rw [e_h10]; exact hU.put (by simp)
              refine lv_aload_n hx hb d_Mo_done_65 rfl (lv_at hl 3 rfl) ?_
              refine gz_get (ci := 8) (v := Value.int 6) (C := "CommitLedgerModel") (T := F_Mo) (N := 35) hx hb hts i_Mo hown hK Z f_46_h10 rfl 1 (by decide) kf_Mo_80 rfl d_Mo_done_66 ?_
              refine lv_if_le (tgt := 76) hx hb d_Mo_done_69 (by decide) (fun c9 => absurd c9 (by decide)) (fun _ => ?_)
              refine lv_iconst (v := 0) hx hb d_Mo_done_72 (by decide) ?_
              refine lv_goto (tgt := 77) hx hb d_Mo_done_73 (by decide) ?_
              exact gz_iret (v := 0) hx hb hr hlocks hK Z (by decide) (by decide) (by rw [← hPQ]; exact Or.inr (Or.inl ⟨rfl, hU, f_46_h10, c42_2, c42_3, c42_4, c42_5, c42_6, c42_7⟩)) d_Mo_done_77
          · refine lv_aload_n hx hb d_Mo_done_45 rfl (lv_at hl 3 rfl) ?_
            refine lv_iload_n hx hb d_Mo_done_46 rfl (lv_at hl 0 rfl) ?_
            refine gz_put (ci := 8) (v := Value.int 5) (ty := .int) (C := "CommitLedgerModel") (T := F_Mo) (N := 35) hx hb hts i_Mo t_Mo_ok n_Mo hown hK Z f_46_h1 rfl 1 (by decide) kf_Mo_80 rfl (by decide +kernel) rfl rfl (Nat.le_of_ble_eq_true rfl) d_Mo_done_47 (fun H locs Z => ?_)
            obtain ⟨h11, e_h11⟩ : ∃ z9 : gm_M, z9 = gm_up h1 46 ((q46, Sum.inr (8, [Value.int m_error, Value.int 5, Value.ref q47, Value.ref q48, Value.ref q49, Value.int m_docs, Value.ref q50, Value.ref q51, Value.ref q52, Value.ref q53, Value.int m_filesThere, Value.int m_files, Value.int m_actions, Value.int m_power, Value.int m_lost, Value.ref q54, Value.ref q62, Value.ref q70, Value.int m_open, Value.int m_isPrepared, Value.int m_generation, Value.ref q78, Value.ref q79, Value.int m_buffered, Value.int m_limit, Value.int m_factor, um, Value.ref q80, Value.ref q81, Value.ref q82, Value.int m_merges, Value.ref q83, Value.int m_opened, Value.int m_chosenMany, Value.int m_begun])) : Nat × va_E) := ⟨_, rfl⟩
            replace Z : gz D A s.heap h11 H locs := by rw [e_h11]; exact Z
            have f_46_h11 : h11 46 = some ((q46, Sum.inr (8, [Value.int m_error, Value.int 5, Value.ref q47, Value.ref q48, Value.ref q49, Value.int m_docs, Value.ref q50, Value.ref q51, Value.ref q52, Value.ref q53, Value.int m_filesThere, Value.int m_files, Value.int m_actions, Value.int m_power, Value.int m_lost, Value.ref q54, Value.ref q62, Value.ref q70, Value.int m_open, Value.int m_isPrepared, Value.int m_generation, Value.ref q78, Value.ref q79, Value.int m_buffered, Value.int m_limit, Value.int m_factor, um, Value.ref q80, Value.ref q81, Value.ref q82, Value.int m_merges, Value.ref q83, Value.int m_opened, Value.int m_chosenMany, Value.int m_begun])) : Nat × va_E) := by rw [e_h11]; exact gm_self
            replace hU : gm_g h h11 [46] := by rw [e_h11]; exact hU.put (by simp)
            refine lv_iload hx hb d_Mo_done_50 (lv_at hl 2 rfl) ?_
            refine lv_bipush (v := 10) hx hb d_Mo_done_52 (by decide) ?_
            refine lv_idiv hx hb d_Mo_done_54 (by decide) ?_
            refine gx_topi (y := 1) (by decide) ?_
            refine lv_istore (lv' := [(4, Value.int 1), (3, Value.int 5), (5, Value.int 5), (0, Value.ref q46), (1, Value.int p1), (2, Value.int 123456)]) hx hb d_Mo_done_55 hl (by decide) rfl (fun ls hl => ?_)
            refine lv_goto (tgt := 11) hx hb d_Mo_done_57 (by decide) ?_
            refine lv_iload hx hb d_Mo_done_11 (lv_at hl 0 rfl) ?_
            refine lv_if_le (tgt := 60) hx hb d_Mo_done_13 (by decide) (fun c9 => absurd c9 (by decide)) (fun _ => ?_)
            refine lv_iload_n hx hb d_Mo_done_16 rfl (lv_at hl 5 rfl) ?_
            refine lv_iload hx hb d_Mo_done_17 (lv_at hl 0 rfl) ?_
            refine lv_idiv hx hb d_Mo_done_19 (by decide) ?_
            refine gx_topi (y := 123456) (by decide) ?_
            refine lv_bipush (v := 10) hx hb d_Mo_done_20 (by decide) ?_
            refine lv_irem hx hb d_Mo_done_22 (by decide) ?_
            refine gx_topi (y := 6) (by decide) ?_
            refine lv_istore (lv' := [(5, Value.int 6), (4, Value.int 1), (3, Value.int 5), (0, Value.ref q46), (1, Value.int p1), (2, Value.int 123456)]) hx hb d_Mo_done_23 hl (by decide) rfl (fun ls hl => ?_)
            refine lv_iload hx hb d_Mo_done_25 (lv_at hl 0 rfl) ?_
            refine lv_if_ne (tgt := 33) hx hb d_Mo_done_27 (by decide) (fun _ => ?_) (fun c9 => absurd c9 (by decide))
            refine lv_iinc (v := 6) (lv' := [(3, Value.int 6), (5, Value.int 6), (4, Value.int 1), (0, Value.ref q46), (1, Value.int p1), (2, Value.int 123456)]) hx hb d_Mo_done_33 hl (k := 2) rfl (by decide) (by decide) rfl (fun ls hl => ?_)
            refine lv_iload hx hb d_Mo_done_36 (lv_at hl 1 rfl) ?_
            refine lv_aload_n hx hb d_Mo_done_38 rfl (lv_at hl 3 rfl) ?_
            refine gz_get (ci := 8) (v := Value.int m_error) (C := "CommitLedgerModel") (T := F_Mo) (N := 35) hx hb hts i_Mo hown hK Z f_46_h11 rfl 0 (by decide) kf_Mo_84 rfl d_Mo_done_39 ?_
            refine lv_icmp_ne (tgt := 50) hx hb d_Mo_done_42 (by decide) (fun _ => ?_) (fun c9 => absurd c9 (fun e9 => absurd (c42_6.trans e9.symm) (by decide)))
            refine lv_iload hx hb d_Mo_done_50 (lv_at hl 2 rfl) ?_
            refine lv_bipush (v := 10) hx hb d_Mo_done_52 (by decide) ?_
            refine lv_idiv hx hb d_Mo_done_54 (by decide) ?_
            refine gx_topi (y := 0) (by decide) ?_
            refine lv_istore (lv' := [(4, Value.int 0), (3, Value.int 6), (5, Value.int 6), (0, Value.ref q46), (1, Value.int p1), (2, Value.int 123456)]) hx hb d_Mo_done_55 hl (by decide) rfl (fun ls hl => ?_)
            refine lv_goto (tgt := 11) hx hb d_Mo_done_57 (by decide) ?_
            refine lv_iload hx hb d_Mo_done_11 (lv_at hl 0 rfl) ?_
            refine lv_if_le (tgt := 60) hx hb d_Mo_done_13 (by decide) (fun _ => ?_) (fun c9 => absurd (by decide) c9)
            refine lv_aload_n hx hb d_Mo_done_60 rfl (lv_at hl 3 rfl) ?_
            refine lv_iconst (v := 0) hx hb d_Mo_done_61 (by decide) ?_
            refine gz_put (ci := 8) (v := Value.int 0) (ty := .int) (C := "CommitLedgerModel") (T := F_Mo) (N := 35) hx hb hts i_Mo t_Mo_ok n_Mo hown hK Z f_46_h11 rfl 0 (by decide) kf_Mo_84 rfl (by decide +kernel) rfl rfl (Nat.le_of_ble_eq_true rfl) d_Mo_done_62 (fun H locs Z => ?_)
            obtain ⟨h13, e_h13⟩ : ∃ z9 : gm_M, z9 = gm_up h11 46 ((q46, Sum.inr (8, [Value.int 0, Value.int 5, Value.ref q47, Value.ref q48, Value.ref q49, Value.int m_docs, Value.ref q50, Value.ref q51, Value.ref q52, Value.ref q53, Value.int m_filesThere, Value.int m_files, Value.int m_actions, Value.int m_power, Value.int m_lost, Value.ref q54, Value.ref q62, Value.ref q70, Value.int m_open, Value.int m_isPrepared, Value.int m_generation, Value.ref q78, Value.ref q79, Value.int m_buffered, Value.int m_limit, Value.int m_factor, um, Value.ref q80, Value.ref q81, Value.ref q82, Value.int m_merges, Value.ref q83, Value.int m_opened, Value.int m_chosenMany, Value.int m_begun])) : Nat × va_E) := ⟨_, rfl⟩
            replace Z : gz D A s.heap h13 H locs := by rw [e_h13]; exact Z
            have f_46_h13 : h13 46 = some ((q46, Sum.inr (8, [Value.int 0, Value.int 5, Value.ref q47, Value.ref q48, Value.ref q49, Value.int m_docs, Value.ref q50, Value.ref q51, Value.ref q52, Value.ref q53, Value.int m_filesThere, Value.int m_files, Value.int m_actions, Value.int m_power, Value.int m_lost, Value.ref q54, Value.ref q62, Value.ref q70, Value.int m_open, Value.int m_isPrepared, Value.int m_generation, Value.ref q78, Value.ref q79, Value.int m_buffered, Value.int m_limit, Value.int m_factor, um, Value.ref q80, Value.ref q81, Value.ref q82, Value.int m_merges, Value.ref q83, Value.int m_opened, Value.int m_chosenMany, Value.int m_begun])) : Nat × va_E) := by rw [e_h13]; exact gm_self
            replace hU : gm_g h h13 [46] := by rw [e_h13]; exact hU.put (by simp)
            refine lv_aload_n hx hb d_Mo_done_65 rfl (lv_at hl 3 rfl) ?_
            refine gz_get (ci := 8) (v := Value.int 5) (C := "CommitLedgerModel") (T := F_Mo) (N := 35) hx hb hts i_Mo hown hK Z f_46_h13 rfl 1 (by decide) kf_Mo_80 rfl d_Mo_done_66 ?_
            refine lv_if_le (tgt := 76) hx hb d_Mo_done_69 (by decide) (fun c9 => absurd c9 (by decide)) (fun _ => ?_)
            refine lv_iconst (v := 0) hx hb d_Mo_done_72 (by decide) ?_
            refine lv_goto (tgt := 77) hx hb d_Mo_done_73 (by decide) ?_
            exact gz_iret (v := 0) hx hb hr hlocks hK Z (by decide) (by decide) (by rw [← hPQ]; exact Or.inr (Or.inr (Or.inl ⟨rfl, hU, f_46_h13, c42_2, c42_3, c42_4, c42_5, c42_6⟩))) d_Mo_done_77
        · refine lv_aload_n hx hb d_Mo_done_45 rfl (lv_at hl 3 rfl) ?_
          refine lv_iload_n hx hb d_Mo_done_46 rfl (lv_at hl 0 rfl) ?_
          refine gz_put (ci := 8) (v := Value.int 4) (ty := .int) (C := "CommitLedgerModel") (T := F_Mo) (N := 35) hx hb hts i_Mo t_Mo_ok n_Mo hown hK Z f_46_h1 rfl 1 (by decide) kf_Mo_80 rfl (by decide +kernel) rfl rfl (Nat.le_of_ble_eq_true rfl) d_Mo_done_47 (fun H locs Z => ?_)
          obtain ⟨h14, e_h14⟩ : ∃ z9 : gm_M, z9 = gm_up h1 46 ((q46, Sum.inr (8, [Value.int m_error, Value.int 4, Value.ref q47, Value.ref q48, Value.ref q49, Value.int m_docs, Value.ref q50, Value.ref q51, Value.ref q52, Value.ref q53, Value.int m_filesThere, Value.int m_files, Value.int m_actions, Value.int m_power, Value.int m_lost, Value.ref q54, Value.ref q62, Value.ref q70, Value.int m_open, Value.int m_isPrepared, Value.int m_generation, Value.ref q78, Value.ref q79, Value.int m_buffered, Value.int m_limit, Value.int m_factor, um, Value.ref q80, Value.ref q81, Value.ref q82, Value.int m_merges, Value.ref q83, Value.int m_opened, Value.int m_chosenMany, Value.int m_begun])) : Nat × va_E) := ⟨_, rfl⟩
          replace Z : gz D A s.heap h14 H locs := by rw [e_h14]; exact Z
          have f_46_h14 : h14 46 = some ((q46, Sum.inr (8, [Value.int m_error, Value.int 4, Value.ref q47, Value.ref q48, Value.ref q49, Value.int m_docs, Value.ref q50, Value.ref q51, Value.ref q52, Value.ref q53, Value.int m_filesThere, Value.int m_files, Value.int m_actions, Value.int m_power, Value.int m_lost, Value.ref q54, Value.ref q62, Value.ref q70, Value.int m_open, Value.int m_isPrepared, Value.int m_generation, Value.ref q78, Value.ref q79, Value.int m_buffered, Value.int m_limit, Value.int m_factor, um, Value.ref q80, Value.ref q81, Value.ref q82, Value.int m_merges, Value.ref q83, Value.int m_opened, Value.int m_chosenMany, Value.int m_begun])) : Nat × va_E) := by rw [e_h14]; exact gm_self
          replace hU : gm_g h h14 [46] := by rw [e_h14]; exact hU.put (by simp)
          refine lv_iload hx hb d_Mo_done_50 (lv_at hl 2 rfl) ?_
          refine lv_bipush (v := 10) hx hb d_Mo_done_52 (by decide) ?_
          refine lv_idiv hx hb d_Mo_done_54 (by decide) ?_
          refine gx_topi (y := 10) (by decide) ?_
          refine lv_istore (lv' := [(4, Value.int 10), (3, Value.int 4), (5, Value.int 4), (0, Value.ref q46), (1, Value.int p1), (2, Value.int 123456)]) hx hb d_Mo_done_55 hl (by decide) rfl (fun ls hl => ?_)
          refine lv_goto (tgt := 11) hx hb d_Mo_done_57 (by decide) ?_
          refine lv_iload hx hb d_Mo_done_11 (lv_at hl 0 rfl) ?_
          refine lv_if_le (tgt := 60) hx hb d_Mo_done_13 (by decide) (fun c9 => absurd c9 (by decide)) (fun _ => ?_)
          refine lv_iload_n hx hb d_Mo_done_16 rfl (lv_at hl 5 rfl) ?_
          refine lv_iload hx hb d_Mo_done_17 (lv_at hl 0 rfl) ?_
          refine lv_idiv hx hb d_Mo_done_19 (by decide) ?_
          refine gx_topi (y := 12345) (by decide) ?_
          refine lv_bipush (v := 10) hx hb d_Mo_done_20 (by decide) ?_
          refine lv_irem hx hb d_Mo_done_22 (by decide) ?_
          refine gx_topi (y := 5) (by decide) ?_
          refine lv_istore (lv' := [(5, Value.int 5), (4, Value.int 10), (3, Value.int 4), (0, Value.ref q46), (1, Value.int p1), (2, Value.int 123456)]) hx hb d_Mo_done_23 hl (by decide) rfl (fun ls hl => ?_)
          refine lv_iload hx hb d_Mo_done_25 (lv_at hl 0 rfl) ?_
          refine lv_if_ne (tgt := 33) hx hb d_Mo_done_27 (by decide) (fun _ => ?_) (fun c9 => absurd c9 (by decide))
          refine lv_iinc (v := 5) (lv' := [(3, Value.int 5), (5, Value.int 5), (4, Value.int 10), (0, Value.ref q46), (1, Value.int p1), (2, Value.int 123456)]) hx hb d_Mo_done_33 hl (k := 2) rfl (by decide) (by decide) rfl (fun ls hl => ?_)
          refine lv_iload hx hb d_Mo_done_36 (lv_at hl 1 rfl) ?_
          refine lv_aload_n hx hb d_Mo_done_38 rfl (lv_at hl 3 rfl) ?_
          refine gz_get (ci := 8) (v := Value.int m_error) (C := "CommitLedgerModel") (T := F_Mo) (N := 35) hx hb hts i_Mo hown hK Z f_46_h14 rfl 0 (by decide) kf_Mo_84 rfl d_Mo_done_39 ?_
          refine lv_icmp_ne (tgt := 50) hx hb d_Mo_done_42 (by decide) (fun _ => ?_) (fun c9 => absurd c9 (fun e9 => absurd (c42_5.trans e9.symm) (by decide)))
          refine lv_iload hx hb d_Mo_done_50 (lv_at hl 2 rfl) ?_
          refine lv_bipush (v := 10) hx hb d_Mo_done_52 (by decide) ?_
          refine lv_idiv hx hb d_Mo_done_54 (by decide) ?_
          refine gx_topi (y := 1) (by decide) ?_
          refine lv_istore (lv' := [(4, Value.int 1), (3, Value.int 5), (5, Value.int 5), (0, Value.ref q46), (1, Value.int p1), (2, Value.int 123456)]) hx hb d_Mo_done_55 hl (by decide) rfl (fun ls hl => ?_)
          refine lv_goto (tgt := 11) hx hb d_Mo_done_57 (by decide) ?_
          refine lv_iload hx hb d_Mo_done_11 (lv_at hl 0 rfl) ?_
          refine lv_if_le (tgt := 60) hx hb d_Mo_done_13 (by decide) (fun c9 => absurd c9 (by decide)) (fun _ => ?_)
          refine lv_iload_n hx hb d_Mo_done_16 rfl (lv_at hl 5 rfl) ?_
          refine lv_iload hx hb d_Mo_done_17 (lv_at hl 0 rfl) ?_
          refine lv_idiv hx hb d_Mo_done_19 (by decide) ?_
          refine gx_topi (y := 123456) (by decide) ?_
          refine lv_bipush (v := 10) hx hb d_Mo_done_20 (by decide) ?_
          refine lv_irem hx hb d_Mo_done_22 (by decide) ?_
          refine gx_topi (y := 6) (by decide) ?_
          refine lv_istore (lv' := [(5, Value.int 6), (4, Value.int 1), (3, Value.int 5), (0, Value.ref q46), (1, Value.int p1), (2, Value.int 123456)]) hx hb d_Mo_done_23 hl (by decide) rfl (fun ls hl => ?_)
          refine lv_iload hx hb d_Mo_done_25 (lv_at hl 0 rfl) ?_
          refine lv_if_ne (tgt := 33) hx hb d_Mo_done_27 (by decide) (fun _ => ?_) (fun c9 => absurd c9 (by decide))
          refine lv_iinc (v := 6) (lv' := [(3, Value.int 6), (5, Value.int 6), (4, Value.int 1), (0, Value.ref q46), (1, Value.int p1), (2, Value.int 123456)]) hx hb d_Mo_done_33 hl (k := 2) rfl (by decide) (by decide) rfl (fun ls hl => ?_)
          refine lv_iload hx hb d_Mo_done_36 (lv_at hl 1 rfl) ?_
          refine lv_aload_n hx hb d_Mo_done_38 rfl (lv_at hl 3 rfl) ?_
          refine gz_get (ci := 8) (v := Value.int m_error) (C := "CommitLedgerModel") (T := F_Mo) (N := 35) hx hb hts i_Mo hown hK Z f_46_h14 rfl 0 (by decide) kf_Mo_84 rfl d_Mo_done_39 ?_
          refine lv_icmp_ne (tgt := 50) hx hb d_Mo_done_42 (by decide) (fun _ => ?_) (fun c9 => absurd c9 (fun e9 => absurd (c42_5.trans e9.symm) (by decide)))
          refine lv_iload hx hb d_Mo_done_50 (lv_at hl 2 rfl) ?_
          refine lv_bipush (v := 10) hx hb d_Mo_done_52 (by decide) ?_
          refine lv_idiv hx hb d_Mo_done_54 (by decide) ?_
          refine gx_topi (y := 0) (by decide) ?_
          refine lv_istore (lv' := [(4, Value.int 0), (3, Value.int 6), (5, Value.int 6), (0, Value.ref q46), (1, Value.int p1), (2, Value.int 123456)]) hx hb d_Mo_done_55 hl (by decide) rfl (fun ls hl => ?_)
          refine lv_goto (tgt := 11) hx hb d_Mo_done_57 (by decide) ?_
          refine lv_iload hx hb d_Mo_done_11 (lv_at hl 0 rfl) ?_
          refine lv_if_le (tgt := 60) hx hb d_Mo_done_13 (by decide) (fun _ => ?_) (fun c9 => absurd (by decide) c9)
          refine lv_aload_n hx hb d_Mo_done_60 rfl (lv_at hl 3 rfl) ?_
          refine lv_iconst (v := 0) hx hb d_Mo_done_61 (by decide) ?_
          refine gz_put (ci := 8) (v := Value.int 0) (ty := .int) (C := "CommitLedgerModel") (T := F_Mo) (N := 35) hx hb hts i_Mo t_Mo_ok n_Mo hown hK Z f_46_h14 rfl 0 (by decide) kf_Mo_84 rfl (by decide +kernel) rfl rfl (Nat.le_of_ble_eq_true rfl) d_Mo_done_62 (fun H locs Z => ?_)
          obtain ⟨h17, e_h17⟩ : ∃ z9 : gm_M, z9 = gm_up h14 46 ((q46, Sum.inr (8, [Value.int 0, Value.int 4, Value.ref q47, Value.ref q48, Value.ref q49, Value.int m_docs, Value.ref q50, Value.ref q51, Value.ref q52, Value.ref q53, Value.int m_filesThere, Value.int m_files, Value.int m_actions, Value.int m_power, Value.int m_lost, Value.ref q54, Value.ref q62, Value.ref q70, Value.int m_open, Value.int m_isPrepared, Value.int m_generation, Value.ref q78, Value.ref q79, Value.int m_buffered, Value.int m_limit, Value.int m_factor, um, Value.ref q80, Value.ref q81, Value.ref q82, Value.int m_merges, Value.ref q83, Value.int m_opened, Value.int m_chosenMany, Value.int m_begun])) : Nat × va_E) := ⟨_, rfl⟩
          replace Z : gz D A s.heap h17 H locs := by rw [e_h17]; exact Z
          have f_46_h17 : h17 46 = some ((q46, Sum.inr (8, [Value.int 0, Value.int 4, Value.ref q47, Value.ref q48, Value.ref q49, Value.int m_docs, Value.ref q50, Value.ref q51, Value.ref q52, Value.ref q53, Value.int m_filesThere, Value.int m_files, Value.int m_actions, Value.int m_power, Value.int m_lost, Value.ref q54, Value.ref q62, Value.ref q70, Value.int m_open, Value.int m_isPrepared, Value.int m_generation, Value.ref q78, Value.ref q79, Value.int m_buffered, Value.int m_limit, Value.int m_factor, um, Value.ref q80, Value.ref q81, Value.ref q82, Value.int m_merges, Value.ref q83, Value.int m_opened, Value.int m_chosenMany, Value.int m_begun])) : Nat × va_E) := by rw [e_h17]; exact gm_self
          replace hU : gm_g h h17 [46] := by rw [e_h17]; exact hU.put (by simp)
          refine lv_aload_n hx hb d_Mo_done_65 rfl (lv_at hl 3 rfl) ?_
          refine gz_get (ci := 8) (v := Value.int 4) (C := "CommitLedgerModel") (T := F_Mo) (N := 35) hx hb hts i_Mo hown hK Z f_46_h17 rfl 1 (by decide) kf_Mo_80 rfl d_Mo_done_66 ?_
          refine lv_if_le (tgt := 76) hx hb d_Mo_done_69 (by decide) (fun c9 => absurd c9 (by decide)) (fun _ => ?_)
          refine lv_iconst (v := 0) hx hb d_Mo_done_72 (by decide) ?_
          refine lv_goto (tgt := 77) hx hb d_Mo_done_73 (by decide) ?_
          exact gz_iret (v := 0) hx hb hr hlocks hK Z (by decide) (by decide) (by rw [← hPQ]; exact Or.inr (Or.inr (Or.inr (Or.inl ⟨rfl, hU, f_46_h17, c42_2, c42_3, c42_4, c42_5⟩)))) d_Mo_done_77
      · refine lv_aload_n hx hb d_Mo_done_45 rfl (lv_at hl 3 rfl) ?_
        refine lv_iload_n hx hb d_Mo_done_46 rfl (lv_at hl 0 rfl) ?_
        refine gz_put (ci := 8) (v := Value.int 3) (ty := .int) (C := "CommitLedgerModel") (T := F_Mo) (N := 35) hx hb hts i_Mo t_Mo_ok n_Mo hown hK Z f_46_h1 rfl 1 (by decide) kf_Mo_80 rfl (by decide +kernel) rfl rfl (Nat.le_of_ble_eq_true rfl) d_Mo_done_47 (fun H locs Z => ?_)
        obtain ⟨h18, e_h18⟩ : ∃ z9 : gm_M, z9 = gm_up h1 46 ((q46, Sum.inr (8, [Value.int m_error, Value.int 3, Value.ref q47, Value.ref q48, Value.ref q49, Value.int m_docs, Value.ref q50, Value.ref q51, Value.ref q52, Value.ref q53, Value.int m_filesThere, Value.int m_files, Value.int m_actions, Value.int m_power, Value.int m_lost, Value.ref q54, Value.ref q62, Value.ref q70, Value.int m_open, Value.int m_isPrepared, Value.int m_generation, Value.ref q78, Value.ref q79, Value.int m_buffered, Value.int m_limit, Value.int m_factor, um, Value.ref q80, Value.ref q81, Value.ref q82, Value.int m_merges, Value.ref q83, Value.int m_opened, Value.int m_chosenMany, Value.int m_begun])) : Nat × va_E) := ⟨_, rfl⟩
        replace Z : gz D A s.heap h18 H locs := by rw [e_h18]; exact Z
        have f_46_h18 : h18 46 = some ((q46, Sum.inr (8, [Value.int m_error, Value.int 3, Value.ref q47, Value.ref q48, Value.ref q49, Value.int m_docs, Value.ref q50, Value.ref q51, Value.ref q52, Value.ref q53, Value.int m_filesThere, Value.int m_files, Value.int m_actions, Value.int m_power, Value.int m_lost, Value.ref q54, Value.ref q62, Value.ref q70, Value.int m_open, Value.int m_isPrepared, Value.int m_generation, Value.ref q78, Value.ref q79, Value.int m_buffered, Value.int m_limit, Value.int m_factor, um, Value.ref q80, Value.ref q81, Value.ref q82, Value.int m_merges, Value.ref q83, Value.int m_opened, Value.int m_chosenMany, Value.int m_begun])) : Nat × va_E) := by rw [e_h18]; exact gm_self
        replace hU : gm_g h h18 [46] := by rw [e_h18]; exact hU.put (by simp)
        refine lv_iload hx hb d_Mo_done_50 (lv_at hl 2 rfl) ?_
        refine lv_bipush (v := 10) hx hb d_Mo_done_52 (by decide) ?_
        refine lv_idiv hx hb d_Mo_done_54 (by decide) ?_
        refine gx_topi (y := 100) (by decide) ?_
        refine lv_istore (lv' := [(4, Value.int 100), (3, Value.int 3), (5, Value.int 3), (0, Value.ref q46), (1, Value.int p1), (2, Value.int 123456)]) hx hb d_Mo_done_55 hl (by decide) rfl (fun ls hl => ?_)
        refine lv_goto (tgt := 11) hx hb d_Mo_done_57 (by decide) ?_
        refine lv_iload hx hb d_Mo_done_11 (lv_at hl 0 rfl) ?_
        refine lv_if_le (tgt := 60) hx hb d_Mo_done_13 (by decide) (fun c9 => absurd c9 (by decide)) (fun _ => ?_)
        refine lv_iload_n hx hb d_Mo_done_16 rfl (lv_at hl 5 rfl) ?_
        refine lv_iload hx hb d_Mo_done_17 (lv_at hl 0 rfl) ?_
        refine lv_idiv hx hb d_Mo_done_19 (by decide) ?_
        refine gx_topi (y := 1234) (by decide) ?_
        refine lv_bipush (v := 10) hx hb d_Mo_done_20 (by decide) ?_
        refine lv_irem hx hb d_Mo_done_22 (by decide) ?_
        refine gx_topi (y := 4) (by decide) ?_
        refine lv_istore (lv' := [(5, Value.int 4), (4, Value.int 100), (3, Value.int 3), (0, Value.ref q46), (1, Value.int p1), (2, Value.int 123456)]) hx hb d_Mo_done_23 hl (by decide) rfl (fun ls hl => ?_)
        refine lv_iload hx hb d_Mo_done_25 (lv_at hl 0 rfl) ?_
        refine lv_if_ne (tgt := 33) hx hb d_Mo_done_27 (by decide) (fun _ => ?_) (fun c9 => absurd c9 (by decide))
        refine lv_iinc (v := 4) (lv' := [(3, Value.int 4), (5, Value.int 4), (4, Value.int 100), (0, Value.ref q46), (1, Value.int p1), (2, Value.int 123456)]) hx hb d_Mo_done_33 hl (k := 2) rfl (by decide) (by decide) rfl (fun ls hl => ?_)
        refine lv_iload hx hb d_Mo_done_36 (lv_at hl 1 rfl) ?_
        refine lv_aload_n hx hb d_Mo_done_38 rfl (lv_at hl 3 rfl) ?_
        refine gz_get (ci := 8) (v := Value.int m_error) (C := "CommitLedgerModel") (T := F_Mo) (N := 35) hx hb hts i_Mo hown hK Z f_46_h18 rfl 0 (by decide) kf_Mo_84 rfl d_Mo_done_39 ?_
        refine lv_icmp_ne (tgt := 50) hx hb d_Mo_done_42 (by decide) (fun _ => ?_) (fun c9 => absurd c9 (fun e9 => absurd (c42_4.trans e9.symm) (by decide)))
        refine lv_iload hx hb d_Mo_done_50 (lv_at hl 2 rfl) ?_
        refine lv_bipush (v := 10) hx hb d_Mo_done_52 (by decide) ?_
        refine lv_idiv hx hb d_Mo_done_54 (by decide) ?_
        refine gx_topi (y := 10) (by decide) ?_
        refine lv_istore (lv' := [(4, Value.int 10), (3, Value.int 4), (5, Value.int 4), (0, Value.ref q46), (1, Value.int p1), (2, Value.int 123456)]) hx hb d_Mo_done_55 hl (by decide) rfl (fun ls hl => ?_)
        refine lv_goto (tgt := 11) hx hb d_Mo_done_57 (by decide) ?_
        refine lv_iload hx hb d_Mo_done_11 (lv_at hl 0 rfl) ?_
        refine lv_if_le (tgt := 60) hx hb d_Mo_done_13 (by decide) (fun c9 => absurd c9 (by decide)) (fun _ => ?_)
        refine lv_iload_n hx hb d_Mo_done_16 rfl (lv_at hl 5 rfl) ?_
        refine lv_iload hx hb d_Mo_done_17 (lv_at hl 0 rfl) ?_
        refine lv_idiv hx hb d_Mo_done_19 (by decide) ?_
        refine gx_topi (y := 12345) (by decide) ?_
        refine lv_bipush (v := 10) hx hb d_Mo_done_20 (by decide) ?_
        refine lv_irem hx hb d_Mo_done_22 (by decide) ?_
        refine gx_topi (y := 5) (by decide) ?_
        refine lv_istore (lv' := [(5, Value.int 5), (4, Value.int 10), (3, Value.int 4), (0, Value.ref q46), (1, Value.int p1), (2, Value.int 123456)]) hx hb d_Mo_done_23 hl (by decide) rfl (fun ls hl => ?_)
        refine lv_iload hx hb d_Mo_done_25 (lv_at hl 0 rfl) ?_
        refine lv_if_ne (tgt := 33) hx hb d_Mo_done_27 (by decide) (fun _ => ?_) (fun c9 => absurd c9 (by decide))
        refine lv_iinc (v := 5) (lv' := [(3, Value.int 5), (5, Value.int 5), (4, Value.int 10), (0, Value.ref q46), (1, Value.int p1), (2, Value.int 123456)]) hx hb d_Mo_done_33 hl (k := 2) rfl (by decide) (by decide) rfl (fun ls hl => ?_)
        refine lv_iload hx hb d_Mo_done_36 (lv_at hl 1 rfl) ?_
        refine lv_aload_n hx hb d_Mo_done_38 rfl (lv_at hl 3 rfl) ?_
        refine gz_get (ci := 8) (v := Value.int m_error) (C := "CommitLedgerModel") (T := F_Mo) (N := 35) hx hb hts i_Mo hown hK Z f_46_h18 rfl 0 (by decide) kf_Mo_84 rfl d_Mo_done_39 ?_
        refine lv_icmp_ne (tgt := 50) hx hb d_Mo_done_42 (by decide) (fun _ => ?_) (fun c9 => absurd c9 (fun e9 => absurd (c42_4.trans e9.symm) (by decide)))
        refine lv_iload hx hb d_Mo_done_50 (lv_at hl 2 rfl) ?_
        refine lv_bipush (v := 10) hx hb d_Mo_done_52 (by decide) ?_
        refine lv_idiv hx hb d_Mo_done_54 (by decide) ?_
        refine gx_topi (y := 1) (by decide) ?_
        refine lv_istore (lv' := [(4, Value.int 1), (3, Value.int 5), (5, Value.int 5), (0, Value.ref q46), (1, Value.int p1), (2, Value.int 123456)]) hx hb d_Mo_done_55 hl (by decide) rfl (fun ls hl => ?_)
        refine lv_goto (tgt := 11) hx hb d_Mo_done_57 (by decide) ?_
        refine lv_iload hx hb d_Mo_done_11 (lv_at hl 0 rfl) ?_
        refine lv_if_le (tgt := 60) hx hb d_Mo_done_13 (by decide) (fun c9 => absurd c9 (by decide)) (fun _ => ?_)
        refine lv_iload_n hx hb d_Mo_done_16 rfl (lv_at hl 5 rfl) ?_
        refine lv_iload hx hb d_Mo_done_17 (lv_at hl 0 rfl) ?_
        refine lv_idiv hx hb d_Mo_done_19 (by decide) ?_
        refine gx_topi (y := 123456) (by decide) ?_
        refine lv_bipush (v := 10) hx hb d_Mo_done_20 (by decide) ?_
        refine lv_irem hx hb d_Mo_done_22 (by decide) ?_
        refine gx_topi (y := 6) (by decide) ?_
        refine lv_istore (lv' := [(5, Value.int 6), (4, Value.int 1), (3, Value.int 5), (0, Value.ref q46), (1, Value.int p1), (2, Value.int 123456)]) hx hb d_Mo_done_23 hl (by decide) rfl (fun ls hl => ?_)
        refine lv_iload hx hb d_Mo_done_25 (lv_at hl 0 rfl) ?_
        refine lv_if_ne (tgt := 33) hx hb d_Mo_done_27 (by decide) (fun _ => ?_) (fun c9 => absurd c9 (by decide))
        refine lv_iinc (v := 6) (lv' := [(3, Value.int 6), (5, Value.int 6), (4, Value.int 1), (0, Value.ref q46), (1, Value.int p1), (2, Value.int 123456)]) hx hb d_Mo_done_33 hl (k := 2) rfl (by decide) (by decide) rfl (fun ls hl => ?_)
        refine lv_iload hx hb d_Mo_done_36 (lv_at hl 1 rfl) ?_
        refine lv_aload_n hx hb d_Mo_done_38 rfl (lv_at hl 3 rfl) ?_
        refine gz_get (ci := 8) (v := Value.int m_error) (C := "CommitLedgerModel") (T := F_Mo) (N := 35) hx hb hts i_Mo hown hK Z f_46_h18 rfl 0 (by decide) kf_Mo_84 rfl d_Mo_done_39 ?_
        refine lv_icmp_ne (tgt := 50) hx hb d_Mo_done_42 (by decide) (fun _ => ?_) (fun c9 => absurd c9 (fun e9 => absurd (c42_4.trans e9.symm) (by decide)))
        refine lv_iload hx hb d_Mo_done_50 (lv_at hl 2 rfl) ?_
        refine lv_bipush (v := 10) hx hb d_Mo_done_52 (by decide) ?_
        refine lv_idiv hx hb d_Mo_done_54 (by decide) ?_
        refine gx_topi (y := 0) (by decide) ?_
        refine lv_istore (lv' := [(4, Value.int 0), (3, Value.int 6), (5, Value.int 6), (0, Value.ref q46), (1, Value.int p1), (2, Value.int 123456)]) hx hb d_Mo_done_55 hl (by decide) rfl (fun ls hl => ?_)
        refine lv_goto (tgt := 11) hx hb d_Mo_done_57 (by decide) ?_
        refine lv_iload hx hb d_Mo_done_11 (lv_at hl 0 rfl) ?_
        refine lv_if_le (tgt := 60) hx hb d_Mo_done_13 (by decide) (fun _ => ?_) (fun c9 => absurd (by decide) c9)
        refine lv_aload_n hx hb d_Mo_done_60 rfl (lv_at hl 3 rfl) ?_
        refine lv_iconst (v := 0) hx hb d_Mo_done_61 (by decide) ?_
        refine gz_put (ci := 8) (v := Value.int 0) (ty := .int) (C := "CommitLedgerModel") (T := F_Mo) (N := 35) hx hb hts i_Mo t_Mo_ok n_Mo hown hK Z f_46_h18 rfl 0 (by decide) kf_Mo_84 rfl (by decide +kernel) rfl rfl (Nat.le_of_ble_eq_true rfl) d_Mo_done_62 (fun H locs Z => ?_)
        obtain ⟨h22, e_h22⟩ : ∃ z9 : gm_M, z9 = gm_up h18 46 ((q46, Sum.inr (8, [Value.int 0, Value.int 3, Value.ref q47, Value.ref q48, Value.ref q49, Value.int m_docs, Value.ref q50, Value.ref q51, Value.ref q52, Value.ref q53, Value.int m_filesThere, Value.int m_files, Value.int m_actions, Value.int m_power, Value.int m_lost, Value.ref q54, Value.ref q62, Value.ref q70, Value.int m_open, Value.int m_isPrepared, Value.int m_generation, Value.ref q78, Value.ref q79, Value.int m_buffered, Value.int m_limit, Value.int m_factor, um, Value.ref q80, Value.ref q81, Value.ref q82, Value.int m_merges, Value.ref q83, Value.int m_opened, Value.int m_chosenMany, Value.int m_begun])) : Nat × va_E) := ⟨_, rfl⟩
        replace Z : gz D A s.heap h22 H locs := by rw [e_h22]; exact Z
        have f_46_h22 : h22 46 = some ((q46, Sum.inr (8, [Value.int 0, Value.int 3, Value.ref q47, Value.ref q48, Value.ref q49, Value.int m_docs, Value.ref q50, Value.ref q51, Value.ref q52, Value.ref q53, Value.int m_filesThere, Value.int m_files, Value.int m_actions, Value.int m_power, Value.int m_lost, Value.ref q54, Value.ref q62, Value.ref q70, Value.int m_open, Value.int m_isPrepared, Value.int m_generation, Value.ref q78, Value.ref q79, Value.int m_buffered, Value.int m_limit, Value.int m_factor, um, Value.ref q80, Value.ref q81, Value.ref q82, Value.int m_merges, Value.ref q83, Value.int m_opened, Value.int m_chosenMany, Value.int m_begun])) : Nat × va_E) := by rw [e_h22]; exact gm_self
        replace hU : gm_g h h22 [46] := by rw [e_h22]; exact hU.put (by simp)
        refine lv_aload_n hx hb d_Mo_done_65 rfl (lv_at hl 3 rfl) ?_
        refine gz_get (ci := 8) (v := Value.int 3) (C := "CommitLedgerModel") (T := F_Mo) (N := 35) hx hb hts i_Mo hown hK Z f_46_h22 rfl 1 (by decide) kf_Mo_80 rfl d_Mo_done_66 ?_
        refine lv_if_le (tgt := 76) hx hb d_Mo_done_69 (by decide) (fun c9 => absurd c9 (by decide)) (fun _ => ?_)
        refine lv_iconst (v := 0) hx hb d_Mo_done_72 (by decide) ?_
        refine lv_goto (tgt := 77) hx hb d_Mo_done_73 (by decide) ?_
        exact gz_iret (v := 0) hx hb hr hlocks hK Z (by decide) (by decide) (by rw [← hPQ]; exact Or.inr (Or.inr (Or.inr (Or.inr (Or.inl ⟨rfl, hU, f_46_h22, c42_2, c42_3, c42_4⟩))))) d_Mo_done_77
    · refine lv_aload_n hx hb d_Mo_done_45 rfl (lv_at hl 3 rfl) ?_
      refine lv_iload_n hx hb d_Mo_done_46 rfl (lv_at hl 0 rfl) ?_
      refine gz_put (ci := 8) (v := Value.int 2) (ty := .int) (C := "CommitLedgerModel") (T := F_Mo) (N := 35) hx hb hts i_Mo t_Mo_ok n_Mo hown hK Z f_46_h1 rfl 1 (by decide) kf_Mo_80 rfl (by decide +kernel) rfl rfl (Nat.le_of_ble_eq_true rfl) d_Mo_done_47 (fun H locs Z => ?_)
      obtain ⟨h23, e_h23⟩ : ∃ z9 : gm_M, z9 = gm_up h1 46 ((q46, Sum.inr (8, [Value.int m_error, Value.int 2, Value.ref q47, Value.ref q48, Value.ref q49, Value.int m_docs, Value.ref q50, Value.ref q51, Value.ref q52, Value.ref q53, Value.int m_filesThere, Value.int m_files, Value.int m_actions, Value.int m_power, Value.int m_lost, Value.ref q54, Value.ref q62, Value.ref q70, Value.int m_open, Value.int m_isPrepared, Value.int m_generation, Value.ref q78, Value.ref q79, Value.int m_buffered, Value.int m_limit, Value.int m_factor, um, Value.ref q80, Value.ref q81, Value.ref q82, Value.int m_merges, Value.ref q83, Value.int m_opened, Value.int m_chosenMany, Value.int m_begun])) : Nat × va_E) := ⟨_, rfl⟩
      replace Z : gz D A s.heap h23 H locs := by rw [e_h23]; exact Z
      have f_46_h23 : h23 46 = some ((q46, Sum.inr (8, [Value.int m_error, Value.int 2, Value.ref q47, Value.ref q48, Value.ref q49, Value.int m_docs, Value.ref q50, Value.ref q51, Value.ref q52, Value.ref q53, Value.int m_filesThere, Value.int m_files, Value.int m_actions, Value.int m_power, Value.int m_lost, Value.ref q54, Value.ref q62, Value.ref q70, Value.int m_open, Value.int m_isPrepared, Value.int m_generation, Value.ref q78, Value.ref q79, Value.int m_buffered, Value.int m_limit, Value.int m_factor, um, Value.ref q80, Value.ref q81, Value.ref q82, Value.int m_merges, Value.ref q83, Value.int m_opened, Value.int m_chosenMany, Value.int m_begun])) : Nat × va_E) := by rw [e_h23]; exact gm_self
      replace hU : gm_g h h23 [46] := by rw [e_h23]; exact hU.put (by simp)
      refine lv_iload hx hb d_Mo_done_50 (lv_at hl 2 rfl) ?_
      refine lv_bipush (v := 10) hx hb d_Mo_done_52 (by decide) ?_
      refine lv_idiv hx hb d_Mo_done_54 (by decide) ?_
      refine gx_topi (y := 1000) (by decide) ?_
      refine lv_istore (lv' := [(4, Value.int 1000), (3, Value.int 2), (5, Value.int 2), (0, Value.ref q46), (1, Value.int p1), (2, Value.int 123456)]) hx hb d_Mo_done_55 hl (by decide) rfl (fun ls hl => ?_)
      refine lv_goto (tgt := 11) hx hb d_Mo_done_57 (by decide) ?_
      refine lv_iload hx hb d_Mo_done_11 (lv_at hl 0 rfl) ?_
      refine lv_if_le (tgt := 60) hx hb d_Mo_done_13 (by decide) (fun c9 => absurd c9 (by decide)) (fun _ => ?_)
      refine lv_iload_n hx hb d_Mo_done_16 rfl (lv_at hl 5 rfl) ?_
      refine lv_iload hx hb d_Mo_done_17 (lv_at hl 0 rfl) ?_
      refine lv_idiv hx hb d_Mo_done_19 (by decide) ?_
      refine gx_topi (y := 123) (by decide) ?_
      refine lv_bipush (v := 10) hx hb d_Mo_done_20 (by decide) ?_
      refine lv_irem hx hb d_Mo_done_22 (by decide) ?_
      refine gx_topi (y := 3) (by decide) ?_
      refine lv_istore (lv' := [(5, Value.int 3), (4, Value.int 1000), (3, Value.int 2), (0, Value.ref q46), (1, Value.int p1), (2, Value.int 123456)]) hx hb d_Mo_done_23 hl (by decide) rfl (fun ls hl => ?_)
      refine lv_iload hx hb d_Mo_done_25 (lv_at hl 0 rfl) ?_
      refine lv_if_ne (tgt := 33) hx hb d_Mo_done_27 (by decide) (fun _ => ?_) (fun c9 => absurd c9 (by decide))
      refine lv_iinc (v := 3) (lv' := [(3, Value.int 3), (5, Value.int 3), (4, Value.int 1000), (0, Value.ref q46), (1, Value.int p1), (2, Value.int 123456)]) hx hb d_Mo_done_33 hl (k := 2) rfl (by decide) (by decide) rfl (fun ls hl => ?_)
      refine lv_iload hx hb d_Mo_done_36 (lv_at hl 1 rfl) ?_
      refine lv_aload_n hx hb d_Mo_done_38 rfl (lv_at hl 3 rfl) ?_
      refine gz_get (ci := 8) (v := Value.int m_error) (C := "CommitLedgerModel") (T := F_Mo) (N := 35) hx hb hts i_Mo hown hK Z f_46_h23 rfl 0 (by decide) kf_Mo_84 rfl d_Mo_done_39 ?_
      refine lv_icmp_ne (tgt := 50) hx hb d_Mo_done_42 (by decide) (fun _ => ?_) (fun c9 => absurd c9 (fun e9 => absurd (c42_3.trans e9.symm) (by decide)))
      refine lv_iload hx hb d_Mo_done_50 (lv_at hl 2 rfl) ?_
      refine lv_bipush (v := 10) hx hb d_Mo_done_52 (by decide) ?_
      refine lv_idiv hx hb d_Mo_done_54 (by decide) ?_
      refine gx_topi (y := 100) (by decide) ?_
      refine lv_istore (lv' := [(4, Value.int 100), (3, Value.int 3), (5, Value.int 3), (0, Value.ref q46), (1, Value.int p1), (2, Value.int 123456)]) hx hb d_Mo_done_55 hl (by decide) rfl (fun ls hl => ?_)
      refine lv_goto (tgt := 11) hx hb d_Mo_done_57 (by decide) ?_
      refine lv_iload hx hb d_Mo_done_11 (lv_at hl 0 rfl) ?_
      refine lv_if_le (tgt := 60) hx hb d_Mo_done_13 (by decide) (fun c9 => absurd c9 (by decide)) (fun _ => ?_)
      refine lv_iload_n hx hb d_Mo_done_16 rfl (lv_at hl 5 rfl) ?_
      refine lv_iload hx hb d_Mo_done_17 (lv_at hl 0 rfl) ?_
      refine lv_idiv hx hb d_Mo_done_19 (by decide) ?_
      refine gx_topi (y := 1234) (by decide) ?_
      refine lv_bipush (v := 10) hx hb d_Mo_done_20 (by decide) ?_
      refine lv_irem hx hb d_Mo_done_22 (by decide) ?_
      refine gx_topi (y := 4) (by decide) ?_
      refine lv_istore (lv' := [(5, Value.int 4), (4, Value.int 100), (3, Value.int 3), (0, Value.ref q46), (1, Value.int p1), (2, Value.int 123456)]) hx hb d_Mo_done_23 hl (by decide) rfl (fun ls hl => ?_)
      refine lv_iload hx hb d_Mo_done_25 (lv_at hl 0 rfl) ?_
      refine lv_if_ne (tgt := 33) hx hb d_Mo_done_27 (by decide) (fun _ => ?_) (fun c9 => absurd c9 (by decide))
      refine lv_iinc (v := 4) (lv' := [(3, Value.int 4), (5, Value.int 4), (4, Value.int 100), (0, Value.ref q46), (1, Value.int p1), (2, Value.int 123456)]) hx hb d_Mo_done_33 hl (k := 2) rfl (by decide) (by decide) rfl (fun ls hl => ?_)
      refine lv_iload hx hb d_Mo_done_36 (lv_at hl 1 rfl) ?_
      refine lv_aload_n hx hb d_Mo_done_38 rfl (lv_at hl 3 rfl) ?_
      refine gz_get (ci := 8) (v := Value.int m_error) (C := "CommitLedgerModel") (T := F_Mo) (N := 35) hx hb hts i_Mo hown hK Z f_46_h23 rfl 0 (by decide) kf_Mo_84 rfl d_Mo_done_39 ?_
      refine lv_icmp_ne (tgt := 50) hx hb d_Mo_done_42 (by decide) (fun _ => ?_) (fun c9 => absurd c9 (fun e9 => absurd (c42_3.trans e9.symm) (by decide)))
      refine lv_iload hx hb d_Mo_done_50 (lv_at hl 2 rfl) ?_
      refine lv_bipush (v := 10) hx hb d_Mo_done_52 (by decide) ?_
      refine lv_idiv hx hb d_Mo_done_54 (by decide) ?_
      refine gx_topi (y := 10) (by decide) ?_
      refine lv_istore (lv' := [(4, Value.int 10), (3, Value.int 4), (5, Value.int 4), (0, Value.ref q46), (1, Value.int p1), (2, Value.int 123456)]) hx hb d_Mo_done_55 hl (by decide) rfl (fun ls hl => ?_)
      refine lv_goto (tgt := 11) hx hb d_Mo_done_57 (by decide) ?_
      refine lv_iload hx hb d_Mo_done_11 (lv_at hl 0 rfl) ?_
      refine lv_if_le (tgt := 60) hx hb d_Mo_done_13 (by decide) (fun c9 => absurd c9 (by decide)) (fun _ => ?_)
      refine lv_iload_n hx hb d_Mo_done_16 rfl (lv_at hl 5 rfl) ?_
      refine lv_iload hx hb d_Mo_done_17 (lv_at hl 0 rfl) ?_
      refine lv_idiv hx hb d_Mo_done_19 (by decide) ?_
      refine gx_topi (y := 12345) (by decide) ?_
      refine lv_bipush (v := 10) hx hb d_Mo_done_20 (by decide) ?_
      refine lv_irem hx hb d_Mo_done_22 (by decide) ?_
      refine gx_topi (y := 5) (by decide) ?_
      refine lv_istore (lv' := [(5, Value.int 5), (4, Value.int 10), (3, Value.int 4), (0, Value.ref q46), (1, Value.int p1), (2, Value.int 123456)]) hx hb d_Mo_done_23 hl (by decide) rfl (fun ls hl => ?_)
      refine lv_iload hx hb d_Mo_done_25 (lv_at hl 0 rfl) ?_
      refine lv_if_ne (tgt := 33) hx hb d_Mo_done_27 (by decide) (fun _ => ?_) (fun c9 => absurd c9 (by decide))
      refine lv_iinc (v := 5) (lv' := [(3, Value.int 5), (5, Value.int 5), (4, Value.int 10), (0, Value.ref q46), (1, Value.int p1), (2, Value.int 123456)]) hx hb d_Mo_done_33 hl (k := 2) rfl (by decide) (by decide) rfl (fun ls hl => ?_)
      refine lv_iload hx hb d_Mo_done_36 (lv_at hl 1 rfl) ?_
      refine lv_aload_n hx hb d_Mo_done_38 rfl (lv_at hl 3 rfl) ?_
      refine gz_get (ci := 8) (v := Value.int m_error) (C := "CommitLedgerModel") (T := F_Mo) (N := 35) hx hb hts i_Mo hown hK Z f_46_h23 rfl 0 (by decide) kf_Mo_84 rfl d_Mo_done_39 ?_
      refine lv_icmp_ne (tgt := 50) hx hb d_Mo_done_42 (by decide) (fun _ => ?_) (fun c9 => absurd c9 (fun e9 => absurd (c42_3.trans e9.symm) (by decide)))
      refine lv_iload hx hb d_Mo_done_50 (lv_at hl 2 rfl) ?_
      refine lv_bipush (v := 10) hx hb d_Mo_done_52 (by decide) ?_
      refine lv_idiv hx hb d_Mo_done_54 (by decide) ?_
      refine gx_topi (y := 1) (by decide) ?_
      refine lv_istore (lv' := [(4, Value.int 1), (3, Value.int 5), (5, Value.int 5), (0, Value.ref q46), (1, Value.int p1), (2, Value.int 123456)]) hx hb d_Mo_done_55 hl (by decide) rfl (fun ls hl => ?_)
      refine lv_goto (tgt := 11) hx hb d_Mo_done_57 (by decide) ?_
      refine lv_iload hx hb d_Mo_done_11 (lv_at hl 0 rfl) ?_
      refine lv_if_le (tgt := 60) hx hb d_Mo_done_13 (by decide) (fun c9 => absurd c9 (by decide)) (fun _ => ?_)
      refine lv_iload_n hx hb d_Mo_done_16 rfl (lv_at hl 5 rfl) ?_
      refine lv_iload hx hb d_Mo_done_17 (lv_at hl 0 rfl) ?_
      refine lv_idiv hx hb d_Mo_done_19 (by decide) ?_
      refine gx_topi (y := 123456) (by decide) ?_
      refine lv_bipush (v := 10) hx hb d_Mo_done_20 (by decide) ?_
      refine lv_irem hx hb d_Mo_done_22 (by decide) ?_
      refine gx_topi (y := 6) (by decide) ?_
      refine lv_istore (lv' := [(5, Value.int 6), (4, Value.int 1), (3, Value.int 5), (0, Value.ref q46), (1, Value.int p1), (2, Value.int 123456)]) hx hb d_Mo_done_23 hl (by decide) rfl (fun ls hl => ?_)
      refine lv_iload hx hb d_Mo_done_25 (lv_at hl 0 rfl) ?_
      refine lv_if_ne (tgt := 33) hx hb d_Mo_done_27 (by decide) (fun _ => ?_) (fun c9 => absurd c9 (by decide))
      refine lv_iinc (v := 6) (lv' := [(3, Value.int 6), (5, Value.int 6), (4, Value.int 1), (0, Value.ref q46), (1, Value.int p1), (2, Value.int 123456)]) hx hb d_Mo_done_33 hl (k := 2) rfl (by decide) (by decide) rfl (fun ls hl => ?_)
      refine lv_iload hx hb d_Mo_done_36 (lv_at hl 1 rfl) ?_
      refine lv_aload_n hx hb d_Mo_done_38 rfl (lv_at hl 3 rfl) ?_
      refine gz_get (ci := 8) (v := Value.int m_error) (C := "CommitLedgerModel") (T := F_Mo) (N := 35) hx hb hts i_Mo hown hK Z f_46_h23 rfl 0 (by decide) kf_Mo_84 rfl d_Mo_done_39 ?_
      refine lv_icmp_ne (tgt := 50) hx hb d_Mo_done_42 (by decide) (fun _ => ?_) (fun c9 => absurd c9 (fun e9 => absurd (c42_3.trans e9.symm) (by decide)))
      refine lv_iload hx hb d_Mo_done_50 (lv_at hl 2 rfl) ?_
      refine lv_bipush (v := 10) hx hb d_Mo_done_52 (by decide) ?_
      refine lv_idiv hx hb d_Mo_done_54 (by decide) ?_
      refine gx_topi (y := 0) (by decide) ?_
      refine lv_istore (lv' := [(4, Value.int 0), (3, Value.int 6), (5, Value.int 6), (0, Value.ref q46), (1, Value.int p1), (2, Value.int 123456)]) hx hb d_Mo_done_55 hl (by decide) rfl (fun ls hl => ?_)
      refine lv_goto (tgt := 11) hx hb d_Mo_done_57 (by decide) ?_
      refine lv_iload hx hb d_Mo_done_11 (lv_at hl 0 rfl) ?_
      refine lv_if_le (tgt := 60) hx hb d_Mo_done_13 (by decide) (fun _ => ?_) (fun c9 => absurd (by decide) c9)
      refine lv_aload_n hx hb d_Mo_done_60 rfl (lv_at hl 3 rfl) ?_
      refine lv_iconst (v := 0) hx hb d_Mo_done_61 (by decide) ?_
      refine gz_put (ci := 8) (v := Value.int 0) (ty := .int) (C := "CommitLedgerModel") (T := F_Mo) (N := 35) hx hb hts i_Mo t_Mo_ok n_Mo hown hK Z f_46_h23 rfl 0 (by decide) kf_Mo_84 rfl (by decide +kernel) rfl rfl (Nat.le_of_ble_eq_true rfl) d_Mo_done_62 (fun H locs Z => ?_)
      obtain ⟨h28, e_h28⟩ : ∃ z9 : gm_M, z9 = gm_up h23 46 ((q46, Sum.inr (8, [Value.int 0, Value.int 2, Value.ref q47, Value.ref q48, Value.ref q49, Value.int m_docs, Value.ref q50, Value.ref q51, Value.ref q52, Value.ref q53, Value.int m_filesThere, Value.int m_files, Value.int m_actions, Value.int m_power, Value.int m_lost, Value.ref q54, Value.ref q62, Value.ref q70, Value.int m_open, Value.int m_isPrepared, Value.int m_generation, Value.ref q78, Value.ref q79, Value.int m_buffered, Value.int m_limit, Value.int m_factor, um, Value.ref q80, Value.ref q81, Value.ref q82, Value.int m_merges, Value.ref q83, Value.int m_opened, Value.int m_chosenMany, Value.int m_begun])) : Nat × va_E) := ⟨_, rfl⟩
      replace Z : gz D A s.heap h28 H locs := by rw [e_h28]; exact Z
      have f_46_h28 : h28 46 = some ((q46, Sum.inr (8, [Value.int 0, Value.int 2, Value.ref q47, Value.ref q48, Value.ref q49, Value.int m_docs, Value.ref q50, Value.ref q51, Value.ref q52, Value.ref q53, Value.int m_filesThere, Value.int m_files, Value.int m_actions, Value.int m_power, Value.int m_lost, Value.ref q54, Value.ref q62, Value.ref q70, Value.int m_open, Value.int m_isPrepared, Value.int m_generation, Value.ref q78, Value.ref q79, Value.int m_buffered, Value.int m_limit, Value.int m_factor, um, Value.ref q80, Value.ref q81, Value.ref q82, Value.int m_merges, Value.ref q83, Value.int m_opened, Value.int m_chosenMany, Value.int m_begun])) : Nat × va_E) := by rw [e_h28]; exact gm_self
      replace hU : gm_g h h28 [46] := by rw [e_h28]; exact hU.put (by simp)
      refine lv_aload_n hx hb d_Mo_done_65 rfl (lv_at hl 3 rfl) ?_
      refine gz_get (ci := 8) (v := Value.int 2) (C := "CommitLedgerModel") (T := F_Mo) (N := 35) hx hb hts i_Mo hown hK Z f_46_h28 rfl 1 (by decide) kf_Mo_80 rfl d_Mo_done_66 ?_
      refine lv_if_le (tgt := 76) hx hb d_Mo_done_69 (by decide) (fun c9 => absurd c9 (by decide)) (fun _ => ?_)
      refine lv_iconst (v := 0) hx hb d_Mo_done_72 (by decide) ?_
      refine lv_goto (tgt := 77) hx hb d_Mo_done_73 (by decide) ?_
      exact gz_iret (v := 0) hx hb hr hlocks hK Z (by decide) (by decide) (by rw [← hPQ]; exact Or.inr (Or.inr (Or.inr (Or.inr (Or.inr (Or.inl ⟨rfl, hU, f_46_h28, c42_2, c42_3⟩)))))) d_Mo_done_77
  · refine lv_aload_n hx hb d_Mo_done_45 rfl (lv_at hl 3 rfl) ?_
    refine lv_iload_n hx hb d_Mo_done_46 rfl (lv_at hl 0 rfl) ?_
    refine gz_put (ci := 8) (v := Value.int 1) (ty := .int) (C := "CommitLedgerModel") (T := F_Mo) (N := 35) hx hb hts i_Mo t_Mo_ok n_Mo hown hK Z f_46_h1 rfl 1 (by decide) kf_Mo_80 rfl (by decide +kernel) rfl rfl (Nat.le_of_ble_eq_true rfl) d_Mo_done_47 (fun H locs Z => ?_)
    obtain ⟨h29, e_h29⟩ : ∃ z9 : gm_M, z9 = gm_up h1 46 ((q46, Sum.inr (8, [Value.int m_error, Value.int 1, Value.ref q47, Value.ref q48, Value.ref q49, Value.int m_docs, Value.ref q50, Value.ref q51, Value.ref q52, Value.ref q53, Value.int m_filesThere, Value.int m_files, Value.int m_actions, Value.int m_power, Value.int m_lost, Value.ref q54, Value.ref q62, Value.ref q70, Value.int m_open, Value.int m_isPrepared, Value.int m_generation, Value.ref q78, Value.ref q79, Value.int m_buffered, Value.int m_limit, Value.int m_factor, um, Value.ref q80, Value.ref q81, Value.ref q82, Value.int m_merges, Value.ref q83, Value.int m_opened, Value.int m_chosenMany, Value.int m_begun])) : Nat × va_E) := ⟨_, rfl⟩
    replace Z : gz D A s.heap h29 H locs := by rw [e_h29]; exact Z
    have f_46_h29 : h29 46 = some ((q46, Sum.inr (8, [Value.int m_error, Value.int 1, Value.ref q47, Value.ref q48, Value.ref q49, Value.int m_docs, Value.ref q50, Value.ref q51, Value.ref q52, Value.ref q53, Value.int m_filesThere, Value.int m_files, Value.int m_actions, Value.int m_power, Value.int m_lost, Value.ref q54, Value.ref q62, Value.ref q70, Value.int m_open, Value.int m_isPrepared, Value.int m_generation, Value.ref q78, Value.ref q79, Value.int m_buffered, Value.int m_limit, Value.int m_factor, um, Value.ref q80, Value.ref q81, Value.ref q82, Value.int m_merges, Value.ref q83, Value.int m_opened, Value.int m_chosenMany, Value.int m_begun])) : Nat × va_E) := by rw [e_h29]; exact gm_self
    replace hU : gm_g h h29 [46] := by rw [e_h29]; exact hU.put (by simp)
    refine lv_iload hx hb d_Mo_done_50 (lv_at hl 2 rfl) ?_
    refine lv_bipush (v := 10) hx hb d_Mo_done_52 (by decide) ?_
    refine lv_idiv hx hb d_Mo_done_54 (by decide) ?_
    refine gx_topi (y := 10000) (by decide) ?_
    refine lv_istore (lv' := [(4, Value.int 10000), (3, Value.int 1), (5, Value.int 1), (0, Value.ref q46), (1, Value.int p1), (2, Value.int 123456)]) hx hb d_Mo_done_55 hl (by decide) rfl (fun ls hl => ?_)
    refine lv_goto (tgt := 11) hx hb d_Mo_done_57 (by decide) ?_
    refine lv_iload hx hb d_Mo_done_11 (lv_at hl 0 rfl) ?_
    refine lv_if_le (tgt := 60) hx hb d_Mo_done_13 (by decide) (fun c9 => absurd c9 (by decide)) (fun _ => ?_)
    refine lv_iload_n hx hb d_Mo_done_16 rfl (lv_at hl 5 rfl) ?_
    refine lv_iload hx hb d_Mo_done_17 (lv_at hl 0 rfl) ?_
    refine lv_idiv hx hb d_Mo_done_19 (by decide) ?_
    refine gx_topi (y := 12) (by decide) ?_
    refine lv_bipush (v := 10) hx hb d_Mo_done_20 (by decide) ?_
    refine lv_irem hx hb d_Mo_done_22 (by decide) ?_
    refine gx_topi (y := 2) (by decide) ?_
    refine lv_istore (lv' := [(5, Value.int 2), (4, Value.int 10000), (3, Value.int 1), (0, Value.ref q46), (1, Value.int p1), (2, Value.int 123456)]) hx hb d_Mo_done_23 hl (by decide) rfl (fun ls hl => ?_)
    refine lv_iload hx hb d_Mo_done_25 (lv_at hl 0 rfl) ?_
    refine lv_if_ne (tgt := 33) hx hb d_Mo_done_27 (by decide) (fun _ => ?_) (fun c9 => absurd c9 (by decide))
    refine lv_iinc (v := 2) (lv' := [(3, Value.int 2), (5, Value.int 2), (4, Value.int 10000), (0, Value.ref q46), (1, Value.int p1), (2, Value.int 123456)]) hx hb d_Mo_done_33 hl (k := 2) rfl (by decide) (by decide) rfl (fun ls hl => ?_)
    refine lv_iload hx hb d_Mo_done_36 (lv_at hl 1 rfl) ?_
    refine lv_aload_n hx hb d_Mo_done_38 rfl (lv_at hl 3 rfl) ?_
    refine gz_get (ci := 8) (v := Value.int m_error) (C := "CommitLedgerModel") (T := F_Mo) (N := 35) hx hb hts i_Mo hown hK Z f_46_h29 rfl 0 (by decide) kf_Mo_84 rfl d_Mo_done_39 ?_
    refine lv_icmp_ne (tgt := 50) hx hb d_Mo_done_42 (by decide) (fun _ => ?_) (fun c9 => absurd c9 (fun e9 => absurd (c42_2.trans e9.symm) (by decide)))
    refine lv_iload hx hb d_Mo_done_50 (lv_at hl 2 rfl) ?_
    refine lv_bipush (v := 10) hx hb d_Mo_done_52 (by decide) ?_
    refine lv_idiv hx hb d_Mo_done_54 (by decide) ?_
    refine gx_topi (y := 1000) (by decide) ?_
    refine lv_istore (lv' := [(4, Value.int 1000), (3, Value.int 2), (5, Value.int 2), (0, Value.ref q46), (1, Value.int p1), (2, Value.int 123456)]) hx hb d_Mo_done_55 hl (by decide) rfl (fun ls hl => ?_)
    refine lv_goto (tgt := 11) hx hb d_Mo_done_57 (by decide) ?_
    refine lv_iload hx hb d_Mo_done_11 (lv_at hl 0 rfl) ?_
    refine lv_if_le (tgt := 60) hx hb d_Mo_done_13 (by decide) (fun c9 => absurd c9 (by decide)) (fun _ => ?_)
    refine lv_iload_n hx hb d_Mo_done_16 rfl (lv_at hl 5 rfl) ?_
    refine lv_iload hx hb d_Mo_done_17 (lv_at hl 0 rfl) ?_
    refine lv_idiv hx hb d_Mo_done_19 (by decide) ?_
    refine gx_topi (y := 123) (by decide) ?_
    refine lv_bipush (v := 10) hx hb d_Mo_done_20 (by decide) ?_
    refine lv_irem hx hb d_Mo_done_22 (by decide) ?_
    refine gx_topi (y := 3) (by decide) ?_
    refine lv_istore (lv' := [(5, Value.int 3), (4, Value.int 1000), (3, Value.int 2), (0, Value.ref q46), (1, Value.int p1), (2, Value.int 123456)]) hx hb d_Mo_done_23 hl (by decide) rfl (fun ls hl => ?_)
    refine lv_iload hx hb d_Mo_done_25 (lv_at hl 0 rfl) ?_
    refine lv_if_ne (tgt := 33) hx hb d_Mo_done_27 (by decide) (fun _ => ?_) (fun c9 => absurd c9 (by decide))
    refine lv_iinc (v := 3) (lv' := [(3, Value.int 3), (5, Value.int 3), (4, Value.int 1000), (0, Value.ref q46), (1, Value.int p1), (2, Value.int 123456)]) hx hb d_Mo_done_33 hl (k := 2) rfl (by decide) (by decide) rfl (fun ls hl => ?_)
    refine lv_iload hx hb d_Mo_done_36 (lv_at hl 1 rfl) ?_
    refine lv_aload_n hx hb d_Mo_done_38 rfl (lv_at hl 3 rfl) ?_
    refine gz_get (ci := 8) (v := Value.int m_error) (C := "CommitLedgerModel") (T := F_Mo) (N := 35) hx hb hts i_Mo hown hK Z f_46_h29 rfl 0 (by decide) kf_Mo_84 rfl d_Mo_done_39 ?_
    refine lv_icmp_ne (tgt := 50) hx hb d_Mo_done_42 (by decide) (fun _ => ?_) (fun c9 => absurd c9 (fun e9 => absurd (c42_2.trans e9.symm) (by decide)))
    refine lv_iload hx hb d_Mo_done_50 (lv_at hl 2 rfl) ?_
    refine lv_bipush (v := 10) hx hb d_Mo_done_52 (by decide) ?_
    refine lv_idiv hx hb d_Mo_done_54 (by decide) ?_
    refine gx_topi (y := 100) (by decide) ?_
    refine lv_istore (lv' := [(4, Value.int 100), (3, Value.int 3), (5, Value.int 3), (0, Value.ref q46), (1, Value.int p1), (2, Value.int 123456)]) hx hb d_Mo_done_55 hl (by decide) rfl (fun ls hl => ?_)
    refine lv_goto (tgt := 11) hx hb d_Mo_done_57 (by decide) ?_
    refine lv_iload hx hb d_Mo_done_11 (lv_at hl 0 rfl) ?_
    refine lv_if_le (tgt := 60) hx hb d_Mo_done_13 (by decide) (fun c9 => absurd c9 (by decide)) (fun _ => ?_)
    refine lv_iload_n hx hb d_Mo_done_16 rfl (lv_at hl 5 rfl) ?_
    refine lv_iload hx hb d_Mo_done_17 (lv_at hl 0 rfl) ?_
    refine lv_idiv hx hb d_Mo_done_19 (by decide) ?_
    refine gx_topi (y := 1234) (by decide) ?_
    refine lv_bipush (v := 10) hx hb d_Mo_done_20 (by decide) ?_
    refine lv_irem hx hb d_Mo_done_22 (by decide) ?_
    refine gx_topi (y := 4) (by decide) ?_
    refine lv_istore (lv' := [(5, Value.int 4), (4, Value.int 100), (3, Value.int 3), (0, Value.ref q46), (1, Value.int p1), (2, Value.int 123456)]) hx hb d_Mo_done_23 hl (by decide) rfl (fun ls hl => ?_)
    refine lv_iload hx hb d_Mo_done_25 (lv_at hl 0 rfl) ?_
    refine lv_if_ne (tgt := 33) hx hb d_Mo_done_27 (by decide) (fun _ => ?_) (fun c9 => absurd c9 (by decide))
    refine lv_iinc (v := 4) (lv' := [(3, Value.int 4), (5, Value.int 4), (4, Value.int 100), (0, Value.ref q46), (1, Value.int p1), (2, Value.int 123456)]) hx hb d_Mo_done_33 hl (k := 2) rfl (by decide) (by decide) rfl (fun ls hl => ?_)
    refine lv_iload hx hb d_Mo_done_36 (lv_at hl 1 rfl) ?_
    refine lv_aload_n hx hb d_Mo_done_38 rfl (lv_at hl 3 rfl) ?_
    refine gz_get (ci := 8) (v := Value.int m_error) (C := "CommitLedgerModel") (T := F_Mo) (N := 35) hx hb hts i_Mo hown hK Z f_46_h29 rfl 0 (by decide) kf_Mo_84 rfl d_Mo_done_39 ?_
    refine lv_icmp_ne (tgt := 50) hx hb d_Mo_done_42 (by decide) (fun _ => ?_) (fun c9 => absurd c9 (fun e9 => absurd (c42_2.trans e9.symm) (by decide)))
    refine lv_iload hx hb d_Mo_done_50 (lv_at hl 2 rfl) ?_
    refine lv_bipush (v := 10) hx hb d_Mo_done_52 (by decide) ?_
    refine lv_idiv hx hb d_Mo_done_54 (by decide) ?_
    refine gx_topi (y := 10) (by decide) ?_
    refine lv_istore (lv' := [(4, Value.int 10), (3, Value.int 4), (5, Value.int 4), (0, Value.ref q46), (1, Value.int p1), (2, Value.int 123456)]) hx hb d_Mo_done_55 hl (by decide) rfl (fun ls hl => ?_)
    refine lv_goto (tgt := 11) hx hb d_Mo_done_57 (by decide) ?_
    refine lv_iload hx hb d_Mo_done_11 (lv_at hl 0 rfl) ?_
    refine lv_if_le (tgt := 60) hx hb d_Mo_done_13 (by decide) (fun c9 => absurd c9 (by decide)) (fun _ => ?_)
    refine lv_iload_n hx hb d_Mo_done_16 rfl (lv_at hl 5 rfl) ?_
    refine lv_iload hx hb d_Mo_done_17 (lv_at hl 0 rfl) ?_
    refine lv_idiv hx hb d_Mo_done_19 (by decide) ?_
    refine gx_topi (y := 12345) (by decide) ?_
    refine lv_bipush (v := 10) hx hb d_Mo_done_20 (by decide) ?_
    refine lv_irem hx hb d_Mo_done_22 (by decide) ?_
    refine gx_topi (y := 5) (by decide) ?_
    refine lv_istore (lv' := [(5, Value.int 5), (4, Value.int 10), (3, Value.int 4), (0, Value.ref q46), (1, Value.int p1), (2, Value.int 123456)]) hx hb d_Mo_done_23 hl (by decide) rfl (fun ls hl => ?_)
    refine lv_iload hx hb d_Mo_done_25 (lv_at hl 0 rfl) ?_
    refine lv_if_ne (tgt := 33) hx hb d_Mo_done_27 (by decide) (fun _ => ?_) (fun c9 => absurd c9 (by decide))
    refine lv_iinc (v := 5) (lv' := [(3, Value.int 5), (5, Value.int 5), (4, Value.int 10), (0, Value.ref q46), (1, Value.int p1), (2, Value.int 123456)]) hx hb d_Mo_done_33 hl (k := 2) rfl (by decide) (by decide) rfl (fun ls hl => ?_)
    refine lv_iload hx hb d_Mo_done_36 (lv_at hl 1 rfl) ?_
    refine lv_aload_n hx hb d_Mo_done_38 rfl (lv_at hl 3 rfl) ?_
    refine gz_get (ci := 8) (v := Value.int m_error) (C := "CommitLedgerModel") (T := F_Mo) (N := 35) hx hb hts i_Mo hown hK Z f_46_h29 rfl 0 (by decide) kf_Mo_84 rfl d_Mo_done_39 ?_
    refine lv_icmp_ne (tgt := 50) hx hb d_Mo_done_42 (by decide) (fun _ => ?_) (fun c9 => absurd c9 (fun e9 => absurd (c42_2.trans e9.symm) (by decide)))
    refine lv_iload hx hb d_Mo_done_50 (lv_at hl 2 rfl) ?_
    refine lv_bipush (v := 10) hx hb d_Mo_done_52 (by decide) ?_
    refine lv_idiv hx hb d_Mo_done_54 (by decide) ?_
    refine gx_topi (y := 1) (by decide) ?_
    refine lv_istore (lv' := [(4, Value.int 1), (3, Value.int 5), (5, Value.int 5), (0, Value.ref q46), (1, Value.int p1), (2, Value.int 123456)]) hx hb d_Mo_done_55 hl (by decide) rfl (fun ls hl => ?_)
    refine lv_goto (tgt := 11) hx hb d_Mo_done_57 (by decide) ?_
    refine lv_iload hx hb d_Mo_done_11 (lv_at hl 0 rfl) ?_
    refine lv_if_le (tgt := 60) hx hb d_Mo_done_13 (by decide) (fun c9 => absurd c9 (by decide)) (fun _ => ?_)
    refine lv_iload_n hx hb d_Mo_done_16 rfl (lv_at hl 5 rfl) ?_
    refine lv_iload hx hb d_Mo_done_17 (lv_at hl 0 rfl) ?_
    refine lv_idiv hx hb d_Mo_done_19 (by decide) ?_
    refine gx_topi (y := 123456) (by decide) ?_
    refine lv_bipush (v := 10) hx hb d_Mo_done_20 (by decide) ?_
    refine lv_irem hx hb d_Mo_done_22 (by decide) ?_
    refine gx_topi (y := 6) (by decide) ?_
    refine lv_istore (lv' := [(5, Value.int 6), (4, Value.int 1), (3, Value.int 5), (0, Value.ref q46), (1, Value.int p1), (2, Value.int 123456)]) hx hb d_Mo_done_23 hl (by decide) rfl (fun ls hl => ?_)
    refine lv_iload hx hb d_Mo_done_25 (lv_at hl 0 rfl) ?_
    refine lv_if_ne (tgt := 33) hx hb d_Mo_done_27 (by decide) (fun _ => ?_) (fun c9 => absurd c9 (by decide))
    refine lv_iinc (v := 6) (lv' := [(3, Value.int 6), (5, Value.int 6), (4, Value.int 1), (0, Value.ref q46), (1, Value.int p1), (2, Value.int 123456)]) hx hb d_Mo_done_33 hl (k := 2) rfl (by decide) (by decide) rfl (fun ls hl => ?_)
    refine lv_iload hx hb d_Mo_done_36 (lv_at hl 1 rfl) ?_
    refine lv_aload_n hx hb d_Mo_done_38 rfl (lv_at hl 3 rfl) ?_
    refine gz_get (ci := 8) (v := Value.int m_error) (C := "CommitLedgerModel") (T := F_Mo) (N := 35) hx hb hts i_Mo hown hK Z f_46_h29 rfl 0 (by decide) kf_Mo_84 rfl d_Mo_done_39 ?_
    refine lv_icmp_ne (tgt := 50) hx hb d_Mo_done_42 (by decide) (fun _ => ?_) (fun c9 => absurd c9 (fun e9 => absurd (c42_2.trans e9.symm) (by decide)))
    refine lv_iload hx hb d_Mo_done_50 (lv_at hl 2 rfl) ?_
    refine lv_bipush (v := 10) hx hb d_Mo_done_52 (by decide) ?_
    refine lv_idiv hx hb d_Mo_done_54 (by decide) ?_
    refine gx_topi (y := 0) (by decide) ?_
    refine lv_istore (lv' := [(4, Value.int 0), (3, Value.int 6), (5, Value.int 6), (0, Value.ref q46), (1, Value.int p1), (2, Value.int 123456)]) hx hb d_Mo_done_55 hl (by decide) rfl (fun ls hl => ?_)
    refine lv_goto (tgt := 11) hx hb d_Mo_done_57 (by decide) ?_
    refine lv_iload hx hb d_Mo_done_11 (lv_at hl 0 rfl) ?_
    refine lv_if_le (tgt := 60) hx hb d_Mo_done_13 (by decide) (fun _ => ?_) (fun c9 => absurd (by decide) c9)
    refine lv_aload_n hx hb d_Mo_done_60 rfl (lv_at hl 3 rfl) ?_
    refine lv_iconst (v := 0) hx hb d_Mo_done_61 (by decide) ?_
    refine gz_put (ci := 8) (v := Value.int 0) (ty := .int) (C := "CommitLedgerModel") (T := F_Mo) (N := 35) hx hb hts i_Mo t_Mo_ok n_Mo hown hK Z f_46_h29 rfl 0 (by decide) kf_Mo_84 rfl (by decide +kernel) rfl rfl (Nat.le_of_ble_eq_true rfl) d_Mo_done_62 (fun H locs Z => ?_)
    obtain ⟨h35, e_h35⟩ : ∃ z9 : gm_M, z9 = gm_up h29 46 ((q46, Sum.inr (8, [Value.int 0, Value.int 1, Value.ref q47, Value.ref q48, Value.ref q49, Value.int m_docs, Value.ref q50, Value.ref q51, Value.ref q52, Value.ref q53, Value.int m_filesThere, Value.int m_files, Value.int m_actions, Value.int m_power, Value.int m_lost, Value.ref q54, Value.ref q62, Value.ref q70, Value.int m_open, Value.int m_isPrepared, Value.int m_generation, Value.ref q78, Value.ref q79, Value.int m_buffered, Value.int m_limit, Value.int m_factor, um, Value.ref q80, Value.ref q81, Value.ref q82, Value.int m_merges, Value.ref q83, Value.int m_opened, Value.int m_chosenMany, Value.int m_begun])) : Nat × va_E) := ⟨_, rfl⟩
    replace Z : gz D A s.heap h35 H locs := by rw [e_h35]; exact Z
    have f_46_h35 : h35 46 = some ((q46, Sum.inr (8, [Value.int 0, Value.int 1, Value.ref q47, Value.ref q48, Value.ref q49, Value.int m_docs, Value.ref q50, Value.ref q51, Value.ref q52, Value.ref q53, Value.int m_filesThere, Value.int m_files, Value.int m_actions, Value.int m_power, Value.int m_lost, Value.ref q54, Value.ref q62, Value.ref q70, Value.int m_open, Value.int m_isPrepared, Value.int m_generation, Value.ref q78, Value.ref q79, Value.int m_buffered, Value.int m_limit, Value.int m_factor, um, Value.ref q80, Value.ref q81, Value.ref q82, Value.int m_merges, Value.ref q83, Value.int m_opened, Value.int m_chosenMany, Value.int m_begun])) : Nat × va_E) := by rw [e_h35]; exact gm_self
    replace hU : gm_g h h35 [46] := by rw [e_h35]; exact hU.put (by simp)
    refine lv_aload_n hx hb d_Mo_done_65 rfl (lv_at hl 3 rfl) ?_
    refine gz_get (ci := 8) (v := Value.int 1) (C := "CommitLedgerModel") (T := F_Mo) (N := 35) hx hb hts i_Mo hown hK Z f_46_h35 rfl 1 (by decide) kf_Mo_80 rfl d_Mo_done_66 ?_
    refine lv_if_le (tgt := 76) hx hb d_Mo_done_69 (by decide) (fun c9 => absurd c9 (by decide)) (fun _ => ?_)
    refine lv_iconst (v := 0) hx hb d_Mo_done_72 (by decide) ?_
    refine lv_goto (tgt := 77) hx hb d_Mo_done_73 (by decide) ?_
    exact gz_iret (v := 0) hx hb hr hlocks hK Z (by decide) (by decide) (by rw [← hPQ]; exact Or.inr (Or.inr (Or.inr (Or.inr (Or.inr (Or.inr (⟨rfl, hU, f_46_h35, c42_2⟩))))))) d_Mo_done_77
