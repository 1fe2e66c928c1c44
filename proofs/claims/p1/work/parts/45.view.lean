/-! CONTRACTS of View, ArrayList.size, Merge.covers, rows printed by an own text program -/
set_option maxHeartbeats 4000000 in
set_option maxRecDepth 100000 in
theorem c_Vi_liveBetween (l : Launch) (htr : l.stackTraces = false) (D : va_G) (tys : List (ClassId × FieldType)) (z sz : Nat) (ws : va_W) (cZ : ClassId) (a : Nat) (b : Nat) (n : Nat) (n3 : Nat) (e0 : Value) (e1 : Value) (e3 : Value) (x4 : Int32) (x5 : Int32) (f : Nat → Int32) (p1 : Int32) (p2 : Int32) (f_n : ws[n]? = some (a, .inr (4, [e0, e1, .ref b, e3, .int x4, .int x5]))) (f_n3 : ws[n3]? = some (b, .inl (cZ, 4096, .inl f))) (ht1 : tys[1]? = some (cZ, .boolean)) (h1 : gv_ok p1) (h2 : gv_ok p2) : gx_Met l y_Vi_liveBetween [Cond.code y_Vi_liveBetween b_Vi_liveBetween 5 (some .int)] { frames := 1, cells := 0, slots := 0, locals := 12 } (gx_P z sz D classes tys ws [.ref a, .int p1, .int p2]) (gx_Q D classes tys (va_A ws sz) (fun r ws' => (r = .inl (some (.int (gv_c f p1 p2))) ∧ ws' = ws))) 0 0 (va_A ws sz) := by
  refine gx_ofW (cc := b_Vi_liveBetween) (maxL := 5) (ret := (some .int)) (by decide) rfl ?_
  intro p e s m args below meth c s₁ B hml hv
  obtain ⟨rfl, hsz, hz, hP, hK, hD0, hY⟩ := hv
  have hx := B.exec
  have hb := B.bytes
  have hr := B.returns
  have hts := hY.hts (#[.ref a, .int p1, .int p2] : Array Value)
  have hown : s.vm.findClass "CommitLedger$View" = some m.cls := findClass_of_methodNamed B.named
  have hlocks := B.notSynchronized
  have hne : c.exceptionTable.isEmpty = true := B.noHandlers (atoms_spec (ws := [Cond.code y_Vi_liveBetween b_Vi_liveBetween 5 (some .int)]) B.pre _ List.mem_cons_self)
  subst hsz
  have hAz := gx_az hD0 hz
  have hD := hD0.self (sz := s.heap.size)
  have hN := gx_ns hP
  have hA : ∀ q : Nat, s.heap.size ≤ q → va_A ws s.heap.size q := fun q h => Or.inr h
  generalize va_A ws s.heap.size = A at hD hN hA hAz ⊢
  generalize hPQ : (fun (r : Option Value ⊕ String) (ws' : va_W) => (r = .inl (some (.int (gv_c f p1 p2))) ∧ ws' = ws)) = PQ
  have hS : va_S A s.heap s.heap [] := va_S.rf
  have hU : gx_g ws ws 0 [] := gx_g.rf
  have hl := lv_entry ([.ref a, .int p1, .int p2]) (n := 5) (Nat.le_of_ble_eq_true rfl)
  rw [lg_entry_eq]
  generalize (lg_sl ([.ref a, .int p1, .int p2]) ++ List.replicate (5 - (lg_sl ([.ref a, .int p1, .int p2])).length) Slot.unset).toArray = ls at hl ⊢
  have hl : lv_has ls 5 [(0, .ref a), (1, .int p1), (2, .int p2)] := hl
  refine lv_iconst (v := 0) hx hb d_Vi_liveBetween_0 (by decide) ?_
  refine lv_istore_n (lv' := [(3, .int 0), (0, .ref a), (1, .int p1), (2, .int p2)]) hx hb d_Vi_liveBetween_1 rfl hl (by decide) rfl (fun ls hl => ?_)
  refine lv_iload_n hx hb d_Vi_liveBetween_2 rfl (lv_at hl 2 rfl) ?_
  refine lv_istore (lv' := [(4, .int p1), (3, .int 0), (0, .ref a), (1, .int p1), (2, .int p2)]) hx hb d_Vi_liveBetween_3 hl (by decide) rfl (fun ls hl => ?_)
  obtain ⟨u1, hu1, eu1⟩ := h1
  obtain ⟨u2, hu2, eu2⟩ := h2
  have hl : lv_has ls 5 [(4, .int (nI (u1 + 0))), (3, .int (nI (gv_n f u1 0))), (0, .ref a), (1, .int p1), (2, .int (nI u2))] := by rw [Nat.add_zero, ← eu1, ← eu2]; exact lv_sub hl [0, 1, 2, 3, 4] rfl
  refine lp_Vi_liveBetween (x1 := p1) hx hb hown hts hK hP f_n f_n3 ht1 hu1 hu2 (fun ls hl => ?_) (u2 - u1) 0 (Nat.zero_add _) ls hl
  have eg : nI (gv_n f u1 (u2 - u1)) = gv_c f p1 p2 := by rw [eu1, eu2, gv_c_nI hu1 hu2]
  rw [eg] at hl
  refine lv_iload_n hx hb d_Vi_liveBetween_30 rfl (lv_at hl 0 rfl) ?_
  exact gx_ret (W.iret (v := gv_c f p1 p2) hx hb hr (gx_post hP hK hD hS (by rw [← hPQ]; exact ⟨rfl, rfl⟩)) hS.2.2 d_Vi_liveBetween_31)

set_option maxHeartbeats 4000000 in
set_option maxRecDepth 100000 in
theorem c_Vi_becomeEmpty (l : Launch) (htr : l.stackTraces = false) (D : va_G) (tys : List (ClassId × FieldType)) (z sz : Nat) (ws : va_W) (cZ : ClassId) (a : Nat) (b : Nat) (n : Nat) (n3 : Nat) (e0 : Value) (e1 : Value) (e3 : Value) (x4 : Int32) (x5 : Int32) (f : Nat → Int32) (f_n : ws[n]? = some (a, .inr (4, [e0, e1, .ref b, e3, .int x4, .int x5]))) (f_n3 : ws[n3]? = some (b, .inl (cZ, 4096, .inl f))) (ht1 : tys[1]? = some (cZ, .boolean)) (hne9 : n ≠ n3) : gx_Met l y_Vi_becomeEmpty [Cond.code y_Vi_becomeEmpty b_Vi_becomeEmpty 2 none] { frames := 1, cells := 0, slots := 0, locals := 12 } (gx_P z sz D classes tys ws [.ref a]) (gx_Q D classes tys (va_A ws sz) (fun r ws' => (∃ F1 : Nat → Int32, r = .inl none ∧ gx_g ws ws' 0 [n, n3] ∧ ws'[n]? = some (a, .inr (4, [e0, e1, .ref b, e3, .int 0, .int 0])) ∧ ws'[n3]? = some (b, .inl (cZ, 4096, .inl F1)) ∧ ∀ j : Nat, j < 4096 → F1 j = 0))) 0 0 (va_A ws sz) := by
  refine gx_ofW (cc := b_Vi_becomeEmpty) (maxL := 2) (ret := none) (by decide) rfl ?_
  intro p e s m args below meth c s₁ B hml hv
  obtain ⟨rfl, hsz, hz, hP, hK, hD0, hY⟩ := hv
  have hx := B.exec
  have hb := B.bytes
  have hr := B.returns
  have hts := hY.hts (#[.ref a] : Array Value)
  have hown : s.vm.findClass "CommitLedger$View" = some m.cls := findClass_of_methodNamed B.named
  have hlocks := B.notSynchronized
  have hne : c.exceptionTable.isEmpty = true := B.noHandlers (atoms_spec (ws := [Cond.code y_Vi_becomeEmpty b_Vi_becomeEmpty 2 none]) B.pre _ List.mem_cons_self)
  subst hsz
  have hAz := gx_az hD0 hz
  have hD := hD0.self (sz := s.heap.size)
  have hN := gx_ns hP
  have hA : ∀ q : Nat, s.heap.size ≤ q → va_A ws s.heap.size q := fun q h => Or.inr h
  generalize va_A ws s.heap.size = A at hD hN hA hAz ⊢
  generalize hPQ : (fun (r : Option Value ⊕ String) (ws' : va_W) => (∃ F1 : Nat → Int32, r = .inl none ∧ gx_g ws ws' 0 [n, n3] ∧ ws'[n]? = some (a, .inr (4, [e0, e1, .ref b, e3, .int 0, .int 0])) ∧ ws'[n3]? = some (b, .inl (cZ, 4096, .inl F1)) ∧ ∀ j : Nat, j < 4096 → F1 j = 0)) = PQ
  have hS : va_S A s.heap s.heap [] := va_S.rf
  have hU : gx_g ws ws 0 [n, n3] := gx_g.rf
  have hl := lv_entry ([.ref a]) (n := 2) (Nat.le_of_ble_eq_true rfl)
  rw [lg_entry_eq]
  generalize (lg_sl ([.ref a]) ++ List.replicate (2 - (lg_sl ([.ref a])).length) Slot.unset).toArray = ls at hl ⊢
  have hl : lv_has ls 2 [(0, .ref a)] := hl
  refine lv_aload_n hx hb d_Vi_becomeEmpty_0 rfl (lv_at hl 0 rfl) ?_
  refine lv_iconst (v := 0) hx hb d_Vi_becomeEmpty_1 (by decide) ?_
  refine va_put (D := D) (ci := 4) (v := .int 0) (ty := .int) (C := "CommitLedger$View") (T := F_Vi) (N := 6) hx hb hts i_Vi t_Vi t_Vi_ok n_Vi hown hK hP hD hS n f_n rfl 4 (by decide) (hts _ kf_Vi_24) (fun _ h9 => h9) rfl (by decide +kernel) rfl rfl (Nat.le_of_ble_eq_true rfl) d_Vi_becomeEmpty_2 (fun H locs hP9 hD9 hS9 => ?_)
  obtain ⟨ws1, e_ws1⟩ : ∃ x, x = ws.set n (a, .inr (4, [e0, e1, .ref b, e3, .int 0, .int x5])) := ⟨_, rfl⟩
  replace hP : va_P D classes ws1 H := by rw [e_ws1]; exact hP9
  replace hD : va_D A ws1 := by rw [e_ws1]; exact hD9
  replace hS := hS9
  clear hP9 hD9 hS9
  have f_n_ws1 : ws1[n]? = some (a, .inr (4, [e0, e1, .ref b, e3, .int 0, .int x5])) := by rw [e_ws1]; exact gs_self f_n
  replace hU : gx_g ws ws1 0 [n, n3] := by rw [e_ws1]; exact hU.put (Or.inl (by simp))
  refine lv_aload_n hx hb d_Vi_becomeEmpty_5 rfl (lv_at hl 0 rfl) ?_
  refine lv_iconst (v := 0) hx hb d_Vi_becomeEmpty_6 (by decide) ?_
  refine va_put (D := D) (ci := 4) (v := .int 0) (ty := .int) (C := "CommitLedger$View") (T := F_Vi) (N := 6) hx hb hts i_Vi t_Vi t_Vi_ok n_Vi hown hK hP hD hS n f_n_ws1 rfl 5 (by decide) (hts _ kf_Vi_28) (fun _ h9 => h9) rfl (by decide +kernel) rfl rfl (Nat.le_of_ble_eq_true rfl) d_Vi_becomeEmpty_7 (fun H locs hP9 hD9 hS9 => ?_)
  obtain ⟨ws2, e_ws2⟩ : ∃ x, x = ws1.set n (a, .inr (4, [e0, e1, .ref b, e3, .int 0, .int 0])) := ⟨_, rfl⟩
  replace hP : va_P D classes ws2 H := by rw [e_ws2]; exact hP9
  replace hD : va_D A ws2 := by rw [e_ws2]; exact hD9
  replace hS := hS9
  clear hP9 hD9 hS9
  have f_n_ws2 : ws2[n]? = some (a, .inr (4, [e0, e1, .ref b, e3, .int 0, .int 0])) := by rw [e_ws2]; exact gs_self f_n_ws1
  replace hU : gx_g ws ws2 0 [n, n3] := by rw [e_ws2]; exact hU.put (Or.inl (by simp))
  refine lv_iconst (v := 0) hx hb d_Vi_becomeEmpty_10 (by decide) ?_
  refine lv_istore_n (lv' := [(1, .int 0), (0, .ref a)]) hx hb d_Vi_becomeEmpty_11 rfl hl (by decide) rfl (fun ls hl => ?_)
  have f_n3_ws1 : ws1[n3]? = some (b, .inl (cZ, 4096, .inl f)) := by rw [e_ws1]; exact gs_ne (by omega) f_n3
  clear f_n3
  have f_n3_ws2 : ws2[n3]? = some (b, .inl (cZ, 4096, .inl f)) := by rw [e_ws2]; exact gs_ne (by omega) f_n3_ws1
  clear f_n3_ws1
  refine lp_Vi_becomeEmpty (ws0 := ws) (ks := [n, n3]) hx hb hown hts hK ht1 hne9 (by simp) (fun f9 ws9 H locs ls hf9 hP hD hS hU f_n_ws9 f_n3_ws9 hl => ?_) 4096 0 rfl f ws2 H locs ls (fun j hj => absurd hj (Nat.not_lt_zero j)) hP hD hS hU f_n_ws2 f_n3_ws2 hl
  exact gx_ret (W.vret hx hb hr (gx_post hP hK hD hS (by rw [← hPQ]; exact ⟨f9, rfl, hU, f_n_ws9, f_n3_ws9, hf9⟩)) hS.2.2 d_Vi_becomeEmpty_32)

set_option maxHeartbeats 4000000 in
set_option maxRecDepth 100000 in
theorem c_Vi_liveIn (l : Launch) (htr : l.stackTraces = false) (D : va_G) (tys : List (ClassId × FieldType)) (z sz : Nat) (ws : va_W) (cZ : ClassId) (a : Nat) (b : Nat) (n : Nat) (n3 : Nat) (e0 : Value) (e1 : Value) (e3 : Value) (x4 : Int32) (x5 : Int32) (f : Nat → Int32) (ac : Nat) (ns : Nat) (g0 : Value) (g1 : Value) (g2 : Value) (g3 : Value) (g4 : Value) (p1 : Int32) (p2 : Int32) (f_n : ws[n]? = some (a, .inr (4, [e0, e1, .ref b, e3, .int x4, .int x5]))) (f_n3 : ws[n3]? = some (b, .inl (cZ, 4096, .inl f))) (f_ns : ws[ns]? = some (ac, .inr (7, [g0, g1, g2, g3, g4, .int p1, .int p2]))) (ht1 : tys[1]? = some (cZ, .boolean)) (h1 : gv_ok p1) (h2 : gv_ok p2) : gx_Met l y_Vi_liveIn [Cond.code y_Vi_liveIn b_Vi_liveIn 2 (some .int)] { frames := 2, cells := 0, slots := 0, locals := 36 } (gx_P z sz D classes tys ws [.ref a, .ref ac]) (gx_Q D classes tys (va_A ws sz) (fun r ws' => (r = .inl (some (.int (gv_c f p1 p2))) ∧ ws' = ws))) 0 0 (va_A ws sz) := by
  refine gx_ofW (cc := b_Vi_liveIn) (maxL := 2) (ret := (some .int)) (by decide) rfl ?_
  intro p e s m args below meth c s₁ B hml hv
  obtain ⟨rfl, hsz, hz, hP, hK, hD0, hY⟩ := hv
  have hx := B.exec
  have hb := B.bytes
  have hr := B.returns
  have hts := hY.hts (#[.ref a, .ref ac] : Array Value)
  have hown : s.vm.findClass "CommitLedger$View" = some m.cls := findClass_of_methodNamed B.named
  have hlocks := B.notSynchronized
  have hne : c.exceptionTable.isEmpty = true := B.noHandlers (atoms_spec (ws := [Cond.code y_Vi_liveIn b_Vi_liveIn 2 (some .int)]) B.pre _ List.mem_cons_self)
  subst hsz
  have hAz := gx_az hD0 hz
  have hD := hD0.self (sz := s.heap.size)
  have hN := gx_ns hP
  have hA : ∀ q : Nat, s.heap.size ≤ q → va_A ws s.heap.size q := fun q h => Or.inr h
  generalize va_A ws s.heap.size = A at hD hN hA hAz ⊢
  generalize hPQ : (fun (r : Option Value ⊕ String) (ws' : va_W) => (r = .inl (some (.int (gv_c f p1 p2))) ∧ ws' = ws)) = PQ
  have hS : va_S A s.heap s.heap [] := va_S.rf
  have hU : gx_g ws ws 0 [] := gx_g.rf
  have hl := lv_entry ([.ref a, .ref ac]) (n := 2) (Nat.le_of_ble_eq_true rfl)
  rw [lg_entry_eq]
  generalize (lg_sl ([.ref a, .ref ac]) ++ List.replicate (2 - (lg_sl ([.ref a, .ref ac])).length) Slot.unset).toArray = ls at hl ⊢
  have hl : lv_has ls 2 [(0, .ref a), (1, .ref ac)] := hl
  refine lv_aload_n hx hb d_Vi_liveIn_0 rfl (lv_at hl 0 rfl) ?_
  refine lv_aload_n hx hb d_Vi_liveIn_1 rfl (lv_at hl 1 rfl) ?_
  refine va_get (D := D) (ci := 7) (v := .int p1) (C := "CommitLedger$LedgerFile") (T := F_Fi) (N := 7) hx hb hts i_Fi hown hK hP ns f_ns rfl 5 (by decide) (hts _ kf_Vi_45) (fun _ h9 => h9) rfl d_Vi_liveIn_2 ?_
  refine lv_aload_n hx hb d_Vi_liveIn_5 rfl (lv_at hl 1 rfl) ?_
  refine va_get (D := D) (ci := 7) (v := .int p2) (C := "CommitLedger$LedgerFile") (T := F_Fi) (N := 7) hx hb hts i_Fi hown hK hP ns f_ns rfl 6 (by decide) (hts _ kf_Vi_48) (fun _ h9 => h9) rfl d_Vi_liveIn_6 ?_
  refine gx_call (ig := .invokevirtual 51) (c_Vi_liveBetween l htr D tys z _ ws cZ a b n n3 (e0) (e1) (e3) x4 x5 f p1 p2 f_n f_n3 ht1 h1 h2) (gx_invV (As := [.int p1, .int p2]) (rest := []) hx hb hown hts km_Vi_51 kI_Vi_liveBetween kV_Vi_liveBetween kc_Vi_liveBetween (by decide) (show (parseMethodDescriptor y_Vi_liveBetween.desc).map (fun d => d.parameters.length) = some 2 by decide +kernel) (gx_recv (ci := 4) hK hP rfl f_n) rfl rfl d_Vi_liveIn_9) (gx_cw (z := 0) hts kc_Vi_liveBetween kN_Vi rfl rfl ⟨Nat.le_of_ble_eq_true rfl, Nat.le_of_ble_eq_true rfl⟩) hb hml gx_blind (gx_pre hz hP hK hD hY hS hAz [.ref a, .int p1, .int p2]) rfl hl.1 (lv_room (Nat.le_of_ble_eq_true rfl)) d_Vi_liveIn_9 ⟨Nat.le_of_ble_eq_true rfl, Nat.le_of_ble_eq_true rfl⟩ (fun v1 st1 t1 L1 h0_1 hW_1 hQ_1 hL_1 => ?_) (fun v1 st1 t1 L1 h0_1 hW_1 hQ_1 hL_1 => ?_)
  · obtain ⟨ws2, hp, hP9, -, hD9, hS9⟩ := gx_back h0_1 hW_1 hQ_1 hL_1 hD hS hA
    clear hQ_1 h0_1 hL_1 hW_1 hP hD hS
    have hP := hP9
    have hD := hD9
    have hS := hS9
    clear hP9 hD9 hS9
    rcases hp with ⟨hv9, e_ws2⟩
    cases hv9
    rw [e_ws2] at hP hD
    refine W.eq (g2 := F0 m 12 ls [.int (gv_c f p1 p2)]) rfl ?_
    generalize t1.heap = H at hP hS ⊢
    generalize [] ++ L1 = locs at hS ⊢
    exact gx_ret (W.iret (v := gv_c f p1 p2) hx hb hr (gx_post hP hK hD hS (by rw [← hPQ]; exact ⟨rfl, rfl⟩)) hS.2.2 d_Vi_liveIn_12)
  · obtain ⟨E9, ws3, ce, hp, hce, hP9, -, hD9, hS9⟩ := gx_backT h0_1 hW_1 hQ_1 hL_1 hD hS hA
    clear hQ_1 h0_1 hL_1 hW_1 hP hD hS
    have hP := hP9
    have hD := hD9
    have hS := hS9
    clear hP9 hD9 hS9
    rcases hp with ⟨hv9, e_ws3⟩
    cases hv9

set_option maxHeartbeats 4000000 in
set_option maxRecDepth 100000 in
theorem c_Al_size (l : Launch) (htr : l.stackTraces = false) (D : va_G) (tys : List (ClassId × FieldType)) (z sz : Nat) (ws : va_W) (a : Nat) (n : Nat) (e0 : Value) (x1 : Int32) (x2 : Int32) (f_n : ws[n]? = some (a, .inr (3, [e0, .int x1, .int x2]))) : gx_Met l y_Al_size [Cond.code y_Al_size b_Al_size 1 (some .int)] { frames := 1, cells := 0, slots := 0, locals := 12 } (gx_P z sz D classes tys ws [.ref a]) (gx_Q D classes tys (va_A ws sz) (fun r ws' => (r = .inl (some (.int x1)) ∧ ws' = ws))) 0 0 (va_A ws sz) := by
  refine gx_ofW (cc := b_Al_size) (maxL := 1) (ret := (some .int)) (by decide) rfl ?_
  intro p e s m args below meth c s₁ B hml hv
  obtain ⟨rfl, hsz, hz, hP, hK, hD0, hY⟩ := hv
  have hx := B.exec
  have hb := B.bytes
  have hr := B.returns
  have hts := hY.hts (#[.ref a] : Array Value)
  have hown : s.vm.findClass "java/util/ArrayList" = some m.cls := findClass_of_methodNamed B.named
  have hlocks := B.notSynchronized
  have hne : c.exceptionTable.isEmpty = true := B.noHandlers (atoms_spec (ws := [Cond.code y_Al_size b_Al_size 1 (some .int)]) B.pre _ List.mem_cons_self)
  subst hsz
  have hAz := gx_az hD0 hz
  have hD := hD0.self (sz := s.heap.size)
  have hN := gx_ns hP
  have hA : ∀ q : Nat, s.heap.size ≤ q → va_A ws s.heap.size q := fun q h => Or.inr h
  generalize va_A ws s.heap.size = A at hD hN hA hAz ⊢
  generalize hPQ : (fun (r : Option Value ⊕ String) (ws' : va_W) => (r = .inl (some (.int x1)) ∧ ws' = ws)) = PQ
  have hS : va_S A s.heap s.heap [] := va_S.rf
  have hU : gx_g ws ws 0 [] := gx_g.rf
  have hl := lv_entry ([.ref a]) (n := 1) (Nat.le_of_ble_eq_true rfl)
  rw [lg_entry_eq]
  generalize (lg_sl ([.ref a]) ++ List.replicate (1 - (lg_sl ([.ref a])).length) Slot.unset).toArray = ls at hl ⊢
  have hl : lv_has ls 1 [(0, .ref a)] := hl
  refine lv_aload_n hx hb d_Al_size_0 rfl (lv_at hl 0 rfl) ?_
  refine va_get (D := D) (ci := 3) (v := .int x1) (C := "java/util/ArrayList") (T := F_Al) (N := 3) hx hb hts i_Al hown hK hP n f_n rfl 1 (by decide) (hts _ kf_Al_48) (fun _ h9 => h9) rfl d_Al_size_1 ?_
  exact gx_ret (W.iret (v := x1) hx hb hr (gx_post hP hK hD hS (by rw [← hPQ]; exact ⟨rfl, rfl⟩)) hS.2.2 d_Al_size_4)

set_option maxHeartbeats 4000000 in
set_option maxRecDepth 100000 in
theorem c_Me_covers (l : Launch) (htr : l.stackTraces = false) (D : va_G) (tys : List (ClassId × FieldType)) (z sz : Nat) (ws : va_W) (a : Nat) (n : Nat) (ac : Nat) (ns : Nat) (x0 : Int32) (x1 : Int32) (x2 : Int32) (e3 : Value) (g0 : Value) (g1 : Value) (g2 : Value) (g3 : Value) (g4 : Value) (p1 : Int32) (g6 : Value) (f_n : ws[n]? = some (a, .inr (5, [.int x0, .int x1, .int x2, e3]))) (f_ns : ws[ns]? = some (ac, .inr (7, [g0, g1, g2, g3, g4, .int p1, g6]))) : gx_Met l y_Me_covers [Cond.code y_Me_covers b_Me_covers 2 (some .boolean)] { frames := 1, cells := 0, slots := 0, locals := 12 } (gx_P z sz D classes tys ws [.ref a, .ref ac]) (gx_Q D classes tys (va_A ws sz) (fun r ws' => (r = .inl (some (.int 1)) ∧ ws' = ws ∧ ¬ p1 < x1 ∧ ¬ x2 ≤ p1) ∨ (r = .inl (some (.int 0)) ∧ ws' = ws ∧ p1 < x1) ∨ (r = .inl (some (.int 0)) ∧ ws' = ws ∧ ¬ p1 < x1 ∧ x2 ≤ p1))) 0 0 (va_A ws sz) := by
  refine gx_ofW (cc := b_Me_covers) (maxL := 2) (ret := (some .boolean)) (by decide) rfl ?_
  intro p e s m args below meth c s₁ B hml hv
  obtain ⟨rfl, hsz, hz, hP, hK, hD0, hY⟩ := hv
  have hx := B.exec
  have hb := B.bytes
  have hr := B.returns
  have hts := hY.hts (#[.ref a, .ref ac] : Array Value)
  have hown : s.vm.findClass "CommitLedger$Merge" = some m.cls := findClass_of_methodNamed B.named
  have hlocks := B.notSynchronized
  have hne : c.exceptionTable.isEmpty = true := B.noHandlers (atoms_spec (ws := [Cond.code y_Me_covers b_Me_covers 2 (some .boolean)]) B.pre _ List.mem_cons_self)
  subst hsz
  have hAz := gx_az hD0 hz
  have hD := hD0.self (sz := s.heap.size)
  have hN := gx_ns hP
  have hA : ∀ q : Nat, s.heap.size ≤ q → va_A ws s.heap.size q := fun q h => Or.inr h
  generalize va_A ws s.heap.size = A at hD hN hA hAz ⊢
  generalize hPQ : (fun (r : Option Value ⊕ String) (ws' : va_W) => (r = .inl (some (.int 1)) ∧ ws' = ws ∧ ¬ p1 < x1 ∧ ¬ x2 ≤ p1) ∨ (r = .inl (some (.int 0)) ∧ ws' = ws ∧ p1 < x1) ∨ (r = .inl (some (.int 0)) ∧ ws' = ws ∧ ¬ p1 < x1 ∧ x2 ≤ p1)) = PQ
  have hS : va_S A s.heap s.heap [] := va_S.rf
  have hU : gx_g ws ws 0 [] := gx_g.rf
  have hl := lv_entry ([.ref a, .ref ac]) (n := 2) (Nat.le_of_ble_eq_true rfl)
  rw [lg_entry_eq]
  generalize (lg_sl ([.ref a, .ref ac]) ++ List.replicate (2 - (lg_sl ([.ref a, .ref ac])).length) Slot.unset).toArray = ls at hl ⊢
  have hl : lv_has ls 2 [(0, .ref a), (1, .ref ac)] := hl
  refine lv_aload_n hx hb d_Me_covers_0 rfl (lv_at hl 0 rfl) ?_
  refine va_get (D := D) (ci := 5) (v := .int x1) (C := "CommitLedger$Merge") (T := F_Me) (N := 4) hx hb hts i_Me hown hK hP n f_n rfl 1 (by decide) (hts _ kf_Me_13) (fun _ h9 => h9) rfl d_Me_covers_1 ?_
  refine lv_aload_n hx hb d_Me_covers_4 rfl (lv_at hl 1 rfl) ?_
  refine va_get (D := D) (ci := 7) (v := .int p1) (C := "CommitLedger$LedgerFile") (T := F_Fi) (N := 7) hx hb hts i_Fi hown hK hP ns f_ns rfl 5 (by decide) (hts _ kf_Me_23) (fun _ h9 => h9) rfl d_Me_covers_5 ?_
  refine lv_icmp_gt (tgt := 26) hx hb d_Me_covers_8 (by decide) (fun c8_1 => ?_) (fun c8_1 => ?_)
  · refine lv_iconst (v := 0) hx hb d_Me_covers_26 (by decide) ?_
    exact gx_ret (W.zret (v := 0) (ty := .boolean) hx hb hr (rfl) (gx_post hP hK hD hS (by rw [← hPQ]; exact Or.inr (Or.inl ⟨rfl, rfl, c8_1⟩))) hS.2.2 d_Me_covers_27)
  · refine lv_aload_n hx hb d_Me_covers_11 rfl (lv_at hl 1 rfl) ?_
    refine va_get (D := D) (ci := 7) (v := .int p1) (C := "CommitLedger$LedgerFile") (T := F_Fi) (N := 7) hx hb hts i_Fi hown hK hP ns f_ns rfl 5 (by decide) (hts _ kf_Me_23) (fun _ h9 => h9) rfl d_Me_covers_12 ?_
    refine lv_aload_n hx hb d_Me_covers_15 rfl (lv_at hl 0 rfl) ?_
    refine va_get (D := D) (ci := 5) (v := .int x2) (C := "CommitLedger$Merge") (T := F_Me) (N := 4) hx hb hts i_Me hown hK hP n f_n rfl 2 (by decide) (hts _ kf_Me_16) (fun _ h9 => h9) rfl d_Me_covers_16 ?_
    refine lv_icmp_ge (tgt := 26) hx hb d_Me_covers_19 (by decide) (fun c19_2 => ?_) (fun c19_2 => ?_)
    · refine lv_iconst (v := 0) hx hb d_Me_covers_26 (by decide) ?_
      exact gx_ret (W.zret (v := 0) (ty := .boolean) hx hb hr (rfl) (gx_post hP hK hD hS (by rw [← hPQ]; exact Or.inr (Or.inr (⟨rfl, rfl, c8_1, c19_2⟩)))) hS.2.2 d_Me_covers_27)
    · refine lv_iconst (v := 1) hx hb d_Me_covers_22 (by decide) ?_
      refine lv_goto (tgt := 27) hx hb d_Me_covers_23 (by decide) ?_
      exact gx_ret (W.zret (v := 1) (ty := .boolean) hx hb hr (rfl) (gx_post hP hK hD hS (by rw [← hPQ]; exact Or.inl ⟨rfl, rfl, c8_1, c19_2⟩)) hS.2.2 d_Me_covers_27)
