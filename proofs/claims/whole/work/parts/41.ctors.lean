/-! CONTRACTS of constructors, rows printed by an own text program -/
set_option maxHeartbeats 4000000 in
set_option maxRecDepth 100000 in
theorem c_Ac_init (l : Launch) (htr : l.stackTraces = false) (D : va_G) (tys : List (ClassId × FieldType)) (z sz : Nat) (ws : va_W) (a : Nat) (n : Nat) (e0 : Value) (x1 : Int32) (x2 : Int32) (f_n : ws[n]? = some ((a, Sum.inr (3, [e0, Value.int x1, Value.int x2])) : Nat × va_E)) : gx_Met l y_Ac_init [Cond.code y_Ac_init b_Ac_init 1 none] { frames := 1, cells := 0, slots := 0, locals := 20 } (gx_P z sz D classes tys ws [Value.ref a]) (gx_Q D classes tys (va_A ws sz) (fun r ws' => (r = Sum.inl none ∧ ws' = ws))) 0 0 (va_A ws sz) := by
  refine gx_ofW (cc := b_Ac_init) (maxL := 1) (ret := none) (by decide) rfl ?_
  intro p e s m args below meth c s₁ B hml hv
  obtain ⟨rfl, hsz, hz, hP, hK, hD0, hY⟩ := hv
  have hx := B.exec
  have hb := B.bytes
  have hr := B.returns
  have hts := hY.hts (#[Value.ref a] : Array Value)
  have hown : s.vm.findClass "java/util/AbstractCollection" = some m.cls := findClass_of_methodNamed B.named
  have hlocks := B.notSynchronized
  have hin : meth.name = "<init>" := (name_of_methodNamed B.named B.method).1
  have hne : c.exceptionTable.isEmpty = true := B.noHandlers (atoms_spec (ws := [Cond.code y_Ac_init b_Ac_init 1 none]) B.pre _ List.mem_cons_self)
  subst hsz
  have hAz := gx_az hD0 hz
  have hD := hD0.self (sz := s.heap.size)
  have hN := gx_ns hP
  have hA : ∀ q : Nat, s.heap.size ≤ q → va_A ws s.heap.size q := fun q h => Or.inr h
  generalize va_A ws s.heap.size = A at hD hN hA hAz ⊢
  generalize hPQ : (fun (r : Option Value ⊕ String) (ws' : va_W) => (r = Sum.inl none ∧ ws' = ws)) = PQ
  have hS : va_S A s.heap s.heap [] := va_S.rf
  have hU : gx_g ws ws 0 [] := gx_g.rf
  have hl := lv_entry ([Value.ref a]) (n := 1) (Nat.le_of_ble_eq_true rfl)
  rw [lg_entry_eq]
  generalize (lg_sl ([Value.ref a]) ++ List.replicate (1 - (lg_sl ([Value.ref a])).length) Slot.unset).toArray = ls at hl ⊢
  have hl : lv_has ls 1 [(0, Value.ref a)] := hl
  refine lv_aload_n hx hb d_Ac_init_0 rfl (lv_at hl 0 rfl) ?_
  refine W.objInit hx hb hown (hts _ km_Ac_1) (hts _ kI_Object_init) (hts _ kc_Object_init) rfl (by rw [hml]; exact hl.1) rfl d_Ac_init_1 (Nat.le_of_ble_eq_true rfl) (Nat.le_of_ble_eq_true rfl) ?_
  refine W.eq (g2 := F0 m 4 ls []) rfl ?_
  exact gx_ret (W.vret hx hb hr (gx_post hP hK hD hS (by rw [← hPQ]; exact ⟨rfl, rfl⟩)) hS.2.2 d_Ac_init_4)

set_option maxHeartbeats 4000000 in
set_option maxRecDepth 100000 in
theorem c_Ab_init (l : Launch) (htr : l.stackTraces = false) (D : va_G) (tys : List (ClassId × FieldType)) (z sz : Nat) (ws : va_W) (a : Nat) (n : Nat) (e0 : Value) (x1 : Int32) (x2 : Int32) (f_n : ws[n]? = some ((a, Sum.inr (3, [e0, Value.int x1, Value.int x2])) : Nat × va_E)) : gx_Met l y_Ab_init [Cond.code y_Ab_init b_Ab_init 1 none] { frames := 2, cells := 0, slots := 0, locals := 40 } (gx_P z sz D classes tys ws [Value.ref a]) (gx_Q D classes tys (va_A ws sz) (fun r ws' => (r = Sum.inl none ∧ gx_g ws ws' 0 [n] ∧ ws'[n]? = some ((a, Sum.inr (3, [e0, Value.int x1, Value.int 0])) : Nat × va_E)))) 0 0 (va_A ws sz) := by
  refine gx_ofW (cc := b_Ab_init) (maxL := 1) (ret := none) (by decide) rfl ?_
  intro p e s m args below meth c s₁ B hml hv
  obtain ⟨rfl, hsz, hz, hP, hK, hD0, hY⟩ := hv
  have hx := B.exec
  have hb := B.bytes
  have hr := B.returns
  have hts := hY.hts (#[Value.ref a] : Array Value)
  have hown : s.vm.findClass "java/util/AbstractList" = some m.cls := findClass_of_methodNamed B.named
  have hlocks := B.notSynchronized
  have hin : meth.name = "<init>" := (name_of_methodNamed B.named B.method).1
  have hne : c.exceptionTable.isEmpty = true := B.noHandlers (atoms_spec (ws := [Cond.code y_Ab_init b_Ab_init 1 none]) B.pre _ List.mem_cons_self)
  subst hsz
  have hAz := gx_az hD0 hz
  have hD := hD0.self (sz := s.heap.size)
  have hN := gx_ns hP
  have hA : ∀ q : Nat, s.heap.size ≤ q → va_A ws s.heap.size q := fun q h => Or.inr h
  generalize va_A ws s.heap.size = A at hD hN hA hAz ⊢
  generalize hPQ : (fun (r : Option Value ⊕ String) (ws' : va_W) => (r = Sum.inl none ∧ gx_g ws ws' 0 [n] ∧ ws'[n]? = some ((a, Sum.inr (3, [e0, Value.int x1, Value.int 0])) : Nat × va_E))) = PQ
  have hS : va_S A s.heap s.heap [] := va_S.rf
  have hU : gx_g ws ws 0 [n] := gx_g.rf
  have hl := lv_entry ([Value.ref a]) (n := 1) (Nat.le_of_ble_eq_true rfl)
  rw [lg_entry_eq]
  generalize (lg_sl ([Value.ref a]) ++ List.replicate (1 - (lg_sl ([Value.ref a])).length) Slot.unset).toArray = ls at hl ⊢
  have hl : lv_has ls 1 [(0, Value.ref a)] := hl
  refine lv_aload_n hx hb d_Ab_init_0 rfl (lv_at hl 0 rfl) ?_
  refine gx_call (ig := .invokespecial 1) (c_Ac_init l htr D tys z _ ws a n (e0) x1 x2 f_n) (gx_invI (As := []) (rest := []) hx hb hown hts km_Ab_1 kI_Ac_init kc_Ac_init (by decide) rfl (show (parseMethodDescriptor y_Ac_init.desc).map (fun d => d.parameters.length) = some 0 by decide +kernel) rfl rfl d_Ab_init_1) (gx_cw (z := 0) hts kc_Ac_init kN_Ac rfl rfl ⟨Nat.le_of_ble_eq_true rfl, Nat.le_of_ble_eq_true rfl⟩) hb hml gx_blind (gx_pre hz hP hK hD hY hS hAz [Value.ref a]) rfl hl.1 (lv_room (Nat.le_of_ble_eq_true rfl)) d_Ab_init_1 ⟨Nat.le_of_ble_eq_true rfl, Nat.le_of_ble_eq_true rfl⟩ (fun v1 st1 t1 L1 h0_1 hW_1 hQ_1 hL_1 => ?_) (fun v1 st1 t1 L1 h0_1 hW_1 hQ_1 hL_1 => ?_)
  · obtain ⟨ws2, hp, hP9, -, hD9, hS9⟩ := gx_back h0_1 hW_1 hQ_1 hL_1 hD hS hA
    clear hQ_1 h0_1 hL_1 hW_1 hP hD hS
    have hP := hP9
    have hD := hD9
    have hS := hS9
    clear hP9 hD9 hS9
    rcases hp with ⟨hv9, e_ws2⟩
    cases hv9
    rw [e_ws2] at hP hD
    refine W.eq (g2 := F0 m 4 ls []) rfl ?_
    generalize t1.heap = H at hP hS ⊢
    generalize [] ++ L1 = locs at hS ⊢
    refine lv_aload_n hx hb d_Ab_init_4 rfl (lv_at hl 0 rfl) ?_
    refine lv_iconst (v := 0) hx hb d_Ab_init_5 (by decide) ?_
    refine va_put (D := D) (ci := 3) (v := Value.int 0) (ty := .int) (C := "java/util/ArrayList") (T := F_Al) (N := 3) hx hb hts i_Al t_Al t_Al_ok n_Al hown hK hP hD hS n f_n rfl 2 (by decide) (hts _ kf_Ab_7) (fun _ h9 => h9) rfl (by decide +kernel) rfl rfl (Nat.le_of_ble_eq_true rfl) d_Ab_init_6 (fun H locs hP9 hD9 hS9 => ?_)
    obtain ⟨ws3, e_ws3⟩ : ∃ x : va_W, x = ws.set n ((a, Sum.inr (3, [e0, Value.int x1, Value.int 0])) : Nat × va_E) := ⟨_, rfl⟩
    replace hP : va_P D classes ws3 H := by rw [e_ws3]; exact hP9
    replace hD : va_D A ws3 := by rw [e_ws3]; exact hD9
    replace hS := hS9
    clear hP9 hD9 hS9
    have f_n_ws3 : ws3[n]? = some ((a, Sum.inr (3, [e0, Value.int x1, Value.int 0])) : Nat × va_E) := by rw [e_ws3]; exact gs_self f_n
    replace hU : gx_g ws ws3 0 [n] := by rw [e_ws3]; exact hU.put (Or.inl (by simp))
    exact gx_ret (W.vret hx hb hr (gx_post hP hK hD hS (by rw [← hPQ]; exact ⟨rfl, hU, f_n_ws3⟩)) hS.2.2 d_Ab_init_9)
  · obtain ⟨E9, ws4, ce, hp, hce, hP9, -, hD9, hS9⟩ := gx_backT h0_1 hW_1 hQ_1 hL_1 hD hS hA
    clear hQ_1 h0_1 hL_1 hW_1 hP hD hS
    have hP := hP9
    have hD := hD9
    have hS := hS9
    clear hP9 hD9 hS9
    rcases hp with ⟨hv9, e_ws4⟩
    cases hv9

set_option maxHeartbeats 4000000 in
set_option maxRecDepth 100000 in
theorem c_Me_init (l : Launch) (htr : l.stackTraces = false) (D : va_G) (tys : List (ClassId × FieldType)) (z sz : Nat) (ws : va_W) (a : Nat) (n : Nat) (x0 : Int32) (x1 : Int32) (x2 : Int32) (e3 : Value) (f_n : ws[n]? = some ((a, Sum.inr (5, [Value.int x0, Value.int x1, Value.int x2, e3])) : Nat × va_E)) : gx_Met l y_Me_init [Cond.code y_Me_init b_Me_init 1 none] { frames := 1, cells := 0, slots := 0, locals := 20 } (gx_P z sz D classes tys ws [Value.ref a]) (gx_Q D classes tys (va_A ws sz) (fun r ws' => (r = Sum.inl none ∧ ws' = ws))) 0 0 (va_A ws sz) := by
  refine gx_ofW (cc := b_Me_init) (maxL := 1) (ret := none) (by decide) rfl ?_
  intro p e s m args below meth c s₁ B hml hv
  obtain ⟨rfl, hsz, hz, hP, hK, hD0, hY⟩ := hv
  have hx := B.exec
  have hb := B.bytes
  have hr := B.returns
  have hts := hY.hts (#[Value.ref a] : Array Value)
  have hown : s.vm.findClass "CommitLedger$Merge" = some m.cls := findClass_of_methodNamed B.named
  have hlocks := B.notSynchronized
  have hin : meth.name = "<init>" := (name_of_methodNamed B.named B.method).1
  have hne : c.exceptionTable.isEmpty = true := B.noHandlers (atoms_spec (ws := [Cond.code y_Me_init b_Me_init 1 none]) B.pre _ List.mem_cons_self)
  subst hsz
  have hAz := gx_az hD0 hz
  have hD := hD0.self (sz := s.heap.size)
  have hN := gx_ns hP
  have hA : ∀ q : Nat, s.heap.size ≤ q → va_A ws s.heap.size q := fun q h => Or.inr h
  generalize va_A ws s.heap.size = A at hD hN hA hAz ⊢
  generalize hPQ : (fun (r : Option Value ⊕ String) (ws' : va_W) => (r = Sum.inl none ∧ ws' = ws)) = PQ
  have hS : va_S A s.heap s.heap [] := va_S.rf
  have hU : gx_g ws ws 0 [] := gx_g.rf
  have hl := lv_entry ([Value.ref a]) (n := 1) (Nat.le_of_ble_eq_true rfl)
  rw [lg_entry_eq]
  generalize (lg_sl ([Value.ref a]) ++ List.replicate (1 - (lg_sl ([Value.ref a])).length) Slot.unset).toArray = ls at hl ⊢
  have hl : lv_has ls 1 [(0, Value.ref a)] := hl
  refine lv_aload_n hx hb d_Me_init_0 rfl (lv_at hl 0 rfl) ?_
  refine W.objInit hx hb hown (hts _ km_Me_1) (hts _ kI_Object_init) (hts _ kc_Object_init) rfl (by rw [hml]; exact hl.1) rfl d_Me_init_1 (Nat.le_of_ble_eq_true rfl) (Nat.le_of_ble_eq_true rfl) ?_
  refine W.eq (g2 := F0 m 4 ls []) rfl ?_
  exact gx_ret (W.vret hx hb hr (gx_post hP hK hD hS (by rw [← hPQ]; exact ⟨rfl, rfl⟩)) hS.2.2 d_Me_init_4)

set_option maxHeartbeats 4000000 in
set_option maxRecDepth 100000 in
theorem c_En_init (l : Launch) (htr : l.stackTraces = false) (D : va_G) (tys : List (ClassId × FieldType)) (z sz : Nat) (ws : va_W) (cI : ClassId) (a : Nat) (n : Nat) (N : Nat) (f_n : ws[n]? = some ((a, Sum.inr (1, [Value.null, Value.null, Value.null, Value.int 0])) : Nat × va_E)) (ht0 : tys[0]? = some ((cI, FieldType.int) : ClassId × FieldType)) (hlen : ws.length = N) (hn : n < N) : gx_Met l y_En_init [Cond.code y_En_init b_En_init 1 none] { frames := 1, cells := 3, slots := 12288, locals := 20 } (gx_P z sz D classes tys ws [Value.ref a]) (gx_Q D classes tys (va_A ws sz) (fun r ws' => (∃ q1 : Nat, ∃ q2 : Nat, ∃ q3 : Nat, r = Sum.inl none ∧ gx_g ws ws' 3 [n] ∧ ws'[n]? = some ((a, Sum.inr (1, [Value.ref q1, Value.ref q2, Value.ref q3, Value.int 0])) : Nat × va_E) ∧ ws'[N]? = some ((q1, Sum.inl (cI, 4096, Sum.inl (fun _ => 0))) : Nat × va_E) ∧ ws'[N + 1]? = some ((q2, Sum.inl (cI, 4096, Sum.inl (fun _ => 0))) : Nat × va_E) ∧ ws'[N + 2]? = some ((q3, Sum.inl (cI, 4096, Sum.inl (fun _ => 0))) : Nat × va_E)))) 3 12288 (va_A ws sz) := by
  refine gx_ofW (cc := b_En_init) (maxL := 1) (ret := none) (by decide) rfl ?_
  intro p e s m args below meth c s₁ B hml hv
  obtain ⟨rfl, hsz, hz, hP, hK, hD0, hY⟩ := hv
  have hx := B.exec
  have hb := B.bytes
  have hr := B.returns
  have hts := hY.hts (#[Value.ref a] : Array Value)
  have hown : s.vm.findClass "CommitLedger$Entries" = some m.cls := findClass_of_methodNamed B.named
  have hlocks := B.notSynchronized
  have hin : meth.name = "<init>" := (name_of_methodNamed B.named B.method).1
  have hne : c.exceptionTable.isEmpty = true := B.noHandlers (atoms_spec (ws := [Cond.code y_En_init b_En_init 1 none]) B.pre _ List.mem_cons_self)
  subst hsz
  have hAz := gx_az hD0 hz
  have hD := hD0.self (sz := s.heap.size)
  have hN := gx_ns hP
  have hA : ∀ q : Nat, s.heap.size ≤ q → va_A ws s.heap.size q := fun q h => Or.inr h
  generalize va_A ws s.heap.size = A at hD hN hA hAz ⊢
  generalize hPQ : (fun (r : Option Value ⊕ String) (ws' : va_W) => (∃ q1 : Nat, ∃ q2 : Nat, ∃ q3 : Nat, r = Sum.inl none ∧ gx_g ws ws' 3 [n] ∧ ws'[n]? = some ((a, Sum.inr (1, [Value.ref q1, Value.ref q2, Value.ref q3, Value.int 0])) : Nat × va_E) ∧ ws'[N]? = some ((q1, Sum.inl (cI, 4096, Sum.inl (fun _ => 0))) : Nat × va_E) ∧ ws'[N + 1]? = some ((q2, Sum.inl (cI, 4096, Sum.inl (fun _ => 0))) : Nat × va_E) ∧ ws'[N + 2]? = some ((q3, Sum.inl (cI, 4096, Sum.inl (fun _ => 0))) : Nat × va_E))) = PQ
  have hS : va_S A s.heap s.heap [] := va_S.rf
  have hlen0 := hlen
  have hU : gx_g ws ws 0 [n] := gx_g.rf
  have hl := lv_entry ([Value.ref a]) (n := 1) (Nat.le_of_ble_eq_true rfl)
  rw [lg_entry_eq]
  generalize (lg_sl ([Value.ref a]) ++ List.replicate (1 - (lg_sl ([Value.ref a])).length) Slot.unset).toArray = ls at hl ⊢
  have hl : lv_has ls 1 [(0, Value.ref a)] := hl
  refine lv_aload_n hx hb d_En_init_0 rfl (lv_at hl 0 rfl) ?_
  refine W.objInit hx hb hown (hts _ km_En_3) (hts _ kI_Object_init) (hts _ kc_Object_init) rfl (by rw [hml]; exact hl.1) rfl d_En_init_1 (Nat.le_of_ble_eq_true rfl) (Nat.le_of_ble_eq_true rfl) ?_
  refine W.eq (g2 := F0 m 4 ls []) rfl ?_
  refine lv_aload_n hx hb d_En_init_4 rfl (lv_at hl 0 rfl) ?_
  refine lv_sipush (v := 4096) hx hb d_En_init_5 (by decide) ?_
  refine gx_newa (atype := .int) (ty := .int) (N' := 4096) (a0 := (4096, Sum.inl (fun _ => 0))) hx hb (hts _ kA_int) rfl hK hP hD hS hA 0 ht0 (fun _ => rfl) (by decide) (by decide) (by decide) (Nat.le_of_ble_eq_true rfl) (Nat.le_of_ble_eq_true rfl) d_En_init_8 (fun q1 H hP9 hD9 hS9 => ?_)
  obtain ⟨ws2, e_ws2⟩ : ∃ x : va_W, x = ws ++ [((q1, Sum.inl (cI, 4096, Sum.inl (fun _ => 0))) : Nat × va_E)] := ⟨_, rfl⟩
  replace hP : va_P D classes ws2 H := by rw [e_ws2]; exact hP9
  replace hD : va_D A ws2 := by rw [e_ws2]; exact hD9
  replace hS := hS9
  clear hP9 hD9 hS9
  have f_N_ws2 : ws2[N]? = some ((q1, Sum.inl (cI, 4096, Sum.inl (fun _ => 0))) : Nat × va_E) := by rw [e_ws2]; exact gs_last hlen
  replace hlen : ws2.length = N + 1 := by rw [e_ws2]; exact gs_len hlen
  replace hU : gx_g ws ws2 1 [n] := by rw [e_ws2]; exact hU.push
  refine W.widen (k := 1) (n := 4096) (by decide) (by decide) ?_
  have f_n_ws2 : ws2[n]? = some ((a, Sum.inr (1, [Value.null, Value.null, Value.null, Value.int 0])) : Nat × va_E) := by rw [e_ws2]; exact gs_app f_n
  clear f_n
  refine va_putF (D := D) (ci := 1) (v := Value.ref q1) (ty := .array .int) (C := "CommitLedger$Entries") (T := F_En) (N := 4) hx hb hts i_En t_En t_En_ok n_En hown hK hP hD hS n f_n_ws2 rfl 0 (by decide) (hts _ kf_En_9) (fun _ h9 => h9) rfl hin rfl (by decide +kernel) rfl rfl (Nat.le_of_ble_eq_true rfl) d_En_init_10 (fun H locs hP9 hD9 hS9 => ?_)
  obtain ⟨ws3, e_ws3⟩ : ∃ x : va_W, x = ws2.set n ((a, Sum.inr (1, [Value.ref q1, Value.null, Value.null, Value.int 0])) : Nat × va_E) := ⟨_, rfl⟩
  replace hP : va_P D classes ws3 H := by rw [e_ws3]; exact hP9
  replace hD : va_D A ws3 := by rw [e_ws3]; exact hD9
  replace hS := hS9
  clear hP9 hD9 hS9
  have f_n_ws3 : ws3[n]? = some ((a, Sum.inr (1, [Value.ref q1, Value.null, Value.null, Value.int 0])) : Nat × va_E) := by rw [e_ws3]; exact gs_self f_n_ws2
  replace hlen : ws3.length = N + 1 := by rw [e_ws3]; exact gs_lens hlen
  replace hU : gx_g ws ws3 1 [n] := by rw [e_ws3]; exact hU.put (Or.inl (by simp))
  refine lv_aload_n hx hb d_En_init_13 rfl (lv_at hl 0 rfl) ?_
  refine lv_sipush (v := 4096) hx hb d_En_init_14 (by decide) ?_
  refine gx_newa (atype := .int) (ty := .int) (N' := 4096) (a0 := (4096, Sum.inl (fun _ => 0))) hx hb (hts _ kA_int) rfl hK hP hD hS hA 0 ht0 (fun _ => rfl) (by decide) (by decide) (by decide) (Nat.le_of_ble_eq_true rfl) (Nat.le_of_ble_eq_true rfl) d_En_init_17 (fun q4 H hP9 hD9 hS9 => ?_)
  obtain ⟨ws5, e_ws5⟩ : ∃ x : va_W, x = ws3 ++ [((q4, Sum.inl (cI, 4096, Sum.inl (fun _ => 0))) : Nat × va_E)] := ⟨_, rfl⟩
  replace hP : va_P D classes ws5 H := by rw [e_ws5]; exact hP9
  replace hD : va_D A ws5 := by rw [e_ws5]; exact hD9
  replace hS := hS9
  clear hP9 hD9 hS9
  have f_N_1_ws5 : ws5[N + 1]? = some ((q4, Sum.inl (cI, 4096, Sum.inl (fun _ => 0))) : Nat × va_E) := by rw [e_ws5]; exact gs_last hlen
  replace hlen : ws5.length = N + 2 := by rw [e_ws5]; exact gs_len hlen
  replace hU : gx_g ws ws5 2 [n] := by rw [e_ws5]; exact hU.push
  refine W.widen (k := 2) (n := 8192) (by decide) (by decide) ?_
  have f_n_ws5 : ws5[n]? = some ((a, Sum.inr (1, [Value.ref q1, Value.null, Value.null, Value.int 0])) : Nat × va_E) := by rw [e_ws5]; exact gs_app f_n_ws3
  clear f_n_ws3
  refine va_putF (D := D) (ci := 1) (v := Value.ref q4) (ty := .array .int) (C := "CommitLedger$Entries") (T := F_En) (N := 4) hx hb hts i_En t_En t_En_ok n_En hown hK hP hD hS n f_n_ws5 rfl 1 (by decide) (hts _ kf_En_15) (fun _ h9 => h9) rfl hin rfl (by decide +kernel) rfl rfl (Nat.le_of_ble_eq_true rfl) d_En_init_19 (fun H locs hP9 hD9 hS9 => ?_)
  obtain ⟨ws6, e_ws6⟩ : ∃ x : va_W, x = ws5.set n ((a, Sum.inr (1, [Value.ref q1, Value.ref q4, Value.null, Value.int 0])) : Nat × va_E) := ⟨_, rfl⟩
  replace hP : va_P D classes ws6 H := by rw [e_ws6]; exact hP9
  replace hD : va_D A ws6 := by rw [e_ws6]; exact hD9
  replace hS := hS9
  clear hP9 hD9 hS9
  have f_n_ws6 : ws6[n]? = some ((a, Sum.inr (1, [Value.ref q1, Value.ref q4, Value.null, Value.int 0])) : Nat × va_E) := by rw [e_ws6]; exact gs_self f_n_ws5
  replace hlen : ws6.length = N + 2 := by rw [e_ws6]; exact gs_lens hlen
  replace hU : gx_g ws ws6 2 [n] := by rw [e_ws6]; exact hU.put (Or.inl (by simp))
  refine lv_aload_n hx hb d_En_init_22 rfl (lv_at hl 0 rfl) ?_
  refine lv_sipush (v := 4096) hx hb d_En_init_23 (by decide) ?_
  refine gx_newa (atype := .int) (ty := .int) (N' := 4096) (a0 := (4096, Sum.inl (fun _ => 0))) hx hb (hts _ kA_int) rfl hK hP hD hS hA 0 ht0 (fun _ => rfl) (by decide) (by decide) (by decide) (Nat.le_of_ble_eq_true rfl) (Nat.le_of_ble_eq_true rfl) d_En_init_26 (fun q7 H hP9 hD9 hS9 => ?_)
  obtain ⟨ws8, e_ws8⟩ : ∃ x : va_W, x = ws6 ++ [((q7, Sum.inl (cI, 4096, Sum.inl (fun _ => 0))) : Nat × va_E)] := ⟨_, rfl⟩
  replace hP : va_P D classes ws8 H := by rw [e_ws8]; exact hP9
  replace hD : va_D A ws8 := by rw [e_ws8]; exact hD9
  replace hS := hS9
  clear hP9 hD9 hS9
  have f_N_2_ws8 : ws8[N + 2]? = some ((q7, Sum.inl (cI, 4096, Sum.inl (fun _ => 0))) : Nat × va_E) := by rw [e_ws8]; exact gs_last hlen
  replace hlen : ws8.length = N + 3 := by rw [e_ws8]; exact gs_len hlen
  replace hU : gx_g ws ws8 3 [n] := by rw [e_ws8]; exact hU.push
  refine W.widen (k := 3) (n := 12288) (by decide) (by decide) ?_
  have f_n_ws8 : ws8[n]? = some ((a, Sum.inr (1, [Value.ref q1, Value.ref q4, Value.null, Value.int 0])) : Nat × va_E) := by rw [e_ws8]; exact gs_app f_n_ws6
  clear f_n_ws6
  refine va_putF (D := D) (ci := 1) (v := Value.ref q7) (ty := .array .int) (C := "CommitLedger$Entries") (T := F_En) (N := 4) hx hb hts i_En t_En t_En_ok n_En hown hK hP hD hS n f_n_ws8 rfl 2 (by decide) (hts _ kf_En_18) (fun _ h9 => h9) rfl hin rfl (by decide +kernel) rfl rfl (Nat.le_of_ble_eq_true rfl) d_En_init_28 (fun H locs hP9 hD9 hS9 => ?_)
  obtain ⟨ws9, e_ws9⟩ : ∃ x : va_W, x = ws8.set n ((a, Sum.inr (1, [Value.ref q1, Value.ref q4, Value.ref q7, Value.int 0])) : Nat × va_E) := ⟨_, rfl⟩
  replace hP : va_P D classes ws9 H := by rw [e_ws9]; exact hP9
  replace hD : va_D A ws9 := by rw [e_ws9]; exact hD9
  replace hS := hS9
  clear hP9 hD9 hS9
  have f_n_ws9 : ws9[n]? = some ((a, Sum.inr (1, [Value.ref q1, Value.ref q4, Value.ref q7, Value.int 0])) : Nat × va_E) := by rw [e_ws9]; exact gs_self f_n_ws8
  replace hlen : ws9.length = N + 3 := by rw [e_ws9]; exact gs_lens hlen
  replace hU : gx_g ws ws9 3 [n] := by rw [e_ws9]; exact hU.put (Or.inl (by simp))
  have f_N_ws3 : ws3[N]? = some ((q1, Sum.inl (cI, 4096, Sum.inl (fun _ => 0))) : Nat × va_E) := by rw [e_ws3]; exact gs_ne (by omega) f_N_ws2
  clear f_N_ws2
  have f_N_ws5 : ws5[N]? = some ((q1, Sum.inl (cI, 4096, Sum.inl (fun _ => 0))) : Nat × va_E) := by rw [e_ws5]; exact gs_app f_N_ws3
  clear f_N_ws3
  have f_N_ws6 : ws6[N]? = some ((q1, Sum.inl (cI, 4096, Sum.inl (fun _ => 0))) : Nat × va_E) := by rw [e_ws6]; exact gs_ne (by omega) f_N_ws5
  clear f_N_ws5
  have f_N_ws8 : ws8[N]? = some ((q1, Sum.inl (cI, 4096, Sum.inl (fun _ => 0))) : Nat × va_E) := by rw [e_ws8]; exact gs_app f_N_ws6
  clear f_N_ws6
  have f_N_ws9 : ws9[N]? = some ((q1, Sum.inl (cI, 4096, Sum.inl (fun _ => 0))) : Nat × va_E) := by rw [e_ws9]; exact gs_ne (by omega) f_N_ws8
  clear f_N_ws8
  have f_N_1_ws6 : ws6[N + 1]? = some ((q4, Sum.inl (cI, 4096, Sum.inl (fun _ => 0))) : Nat × va_E) := by rw [e_ws6]; exact gs_ne (by omega) f_N_1_ws5
  clear f_N_1_ws5
  have f_N_1_ws8 : ws8[N + 1]? = some ((q4, Sum.inl (cI, 4096, Sum.inl (fun _ => 0))) : Nat × va_E) := by rw [e_ws8]; exact gs_app f_N_1_ws6
  clear f_N_1_ws6
  have f_N_1_ws9 : ws9[N + 1]? = some ((q4, Sum.inl (cI, 4096, Sum.inl (fun _ => 0))) : Nat × va_E) := by rw [e_ws9]; exact gs_ne (by omega) f_N_1_ws8
  clear f_N_1_ws8
  have f_N_2_ws9 : ws9[N + 2]? = some ((q7, Sum.inl (cI, 4096, Sum.inl (fun _ => 0))) : Nat × va_E) := by rw [e_ws9]; exact gs_ne (by omega) f_N_2_ws8
  clear f_N_2_ws8
  exact gx_ret (W.vret hx hb hr (gx_post hP hK hD hS (by rw [← hPQ]; exact ⟨q1, q4, q7, rfl, hU, f_n_ws9, f_N_ws9, f_N_1_ws9, f_N_2_ws9⟩)) hS.2.2 d_En_init_31)

set_option maxHeartbeats 4000000 in
set_option maxRecDepth 100000 in
theorem c_Vi_init (l : Launch) (htr : l.stackTraces = false) (D : va_G) (tys : List (ClassId × FieldType)) (z sz : Nat) (ws : va_W) (cZ : ClassId) (cF : ClassId) (a : Nat) (n : Nat) (N : Nat) (f_n : ws[n]? = some ((a, Sum.inr (4, [Value.null, Value.null, Value.null, Value.null, Value.int 0, Value.int 0])) : Nat × va_E)) (ht1 : tys[1]? = some ((cZ, FieldType.boolean) : ClassId × FieldType)) (ht2 : tys[2]? = some ((cF, FieldType.object "CommitLedger$LedgerFile") : ClassId × FieldType)) (hlen : ws.length = N) (hn : n < N) : gx_Met l y_Vi_init [Cond.code y_Vi_init b_Vi_init 1 none] { frames := 1, cells := 3, slots := 12288, locals := 20 } (gx_P z sz D classes tys ws [Value.ref a]) (gx_Q D classes tys (va_A ws sz) (fun r ws' => (∃ q1 : Nat, ∃ q2 : Nat, ∃ q3 : Nat, r = Sum.inl none ∧ gx_g ws ws' 3 [n] ∧ ws'[n]? = some ((a, Sum.inr (4, [Value.ref q1, Value.ref q2, Value.ref q3, Value.null, Value.int 0, Value.int 0])) : Nat × va_E) ∧ ws'[N]? = some ((q1, Sum.inl (cF, 4096, Sum.inr (Sum.inr (Sum.inr (Sum.inr (fun _ => none)))))) : Nat × va_E) ∧ ws'[N + 1]? = some ((q2, Sum.inl (cF, 4096, Sum.inr (Sum.inr (Sum.inr (Sum.inr (fun _ => none)))))) : Nat × va_E) ∧ ws'[N + 2]? = some ((q3, Sum.inl (cZ, 4096, Sum.inl (fun _ => 0))) : Nat × va_E)))) 3 12288 (va_A ws sz) := by
  refine gx_ofW (cc := b_Vi_init) (maxL := 1) (ret := none) (by decide) rfl ?_
  intro p e s m args below meth c s₁ B hml hv
  obtain ⟨rfl, hsz, hz, hP, hK, hD0, hY⟩ := hv
  have hx := B.exec
  have hb := B.bytes
  have hr := B.returns
  have hts := hY.hts (#[Value.ref a] : Array Value)
  have hown : s.vm.findClass "CommitLedger$View" = some m.cls := findClass_of_methodNamed B.named
  have hlocks := B.notSynchronized
  have hin : meth.name = "<init>" := (name_of_methodNamed B.named B.method).1
  have hne : c.exceptionTable.isEmpty = true := B.noHandlers (atoms_spec (ws := [Cond.code y_Vi_init b_Vi_init 1 none]) B.pre _ List.mem_cons_self)
  subst hsz
  have hAz := gx_az hD0 hz
  have hD := hD0.self (sz := s.heap.size)
  have hN := gx_ns hP
  have hA : ∀ q : Nat, s.heap.size ≤ q → va_A ws s.heap.size q := fun q h => Or.inr h
  generalize va_A ws s.heap.size = A at hD hN hA hAz ⊢
  generalize hPQ : (fun (r : Option Value ⊕ String) (ws' : va_W) => (∃ q1 : Nat, ∃ q2 : Nat, ∃ q3 : Nat, r = Sum.inl none ∧ gx_g ws ws' 3 [n] ∧ ws'[n]? = some ((a, Sum.inr (4, [Value.ref q1, Value.ref q2, Value.ref q3, Value.null, Value.int 0, Value.int 0])) : Nat × va_E) ∧ ws'[N]? = some ((q1, Sum.inl (cF, 4096, Sum.inr (Sum.inr (Sum.inr (Sum.inr (fun _ => none)))))) : Nat × va_E) ∧ ws'[N + 1]? = some ((q2, Sum.inl (cF, 4096, Sum.inr (Sum.inr (Sum.inr (Sum.inr (fun _ => none)))))) : Nat × va_E) ∧ ws'[N + 2]? = some ((q3, Sum.inl (cZ, 4096, Sum.inl (fun _ => 0))) : Nat × va_E))) = PQ
  have hS : va_S A s.heap s.heap [] := va_S.rf
  have hlen0 := hlen
  have hU : gx_g ws ws 0 [n] := gx_g.rf
  have hl := lv_entry ([Value.ref a]) (n := 1) (Nat.le_of_ble_eq_true rfl)
  rw [lg_entry_eq]
  generalize (lg_sl ([Value.ref a]) ++ List.replicate (1 - (lg_sl ([Value.ref a])).length) Slot.unset).toArray = ls at hl ⊢
  have hl : lv_has ls 1 [(0, Value.ref a)] := hl
  refine lv_aload_n hx hb d_Vi_init_0 rfl (lv_at hl 0 rfl) ?_
  refine W.objInit hx hb hown (hts _ km_Vi_3) (hts _ kI_Object_init) (hts _ kc_Object_init) rfl (by rw [hml]; exact hl.1) rfl d_Vi_init_1 (Nat.le_of_ble_eq_true rfl) (Nat.le_of_ble_eq_true rfl) ?_
  refine W.eq (g2 := F0 m 4 ls []) rfl ?_
  refine lv_aload_n hx hb d_Vi_init_4 rfl (lv_at hl 0 rfl) ?_
  refine lv_sipush (v := 4096) hx hb d_Vi_init_5 (by decide) ?_
  refine gx_newq (C := "CommitLedger$LedgerFile") (N' := 4096) hx hb hown (hts _ kk_Vi_9) (hts _ kO_Fi) hK hP hD hS hA 2 ht2 (by decide) (by decide) (by decide) (Nat.le_of_ble_eq_true rfl) (Nat.le_of_ble_eq_true rfl) d_Vi_init_8 (fun q1 H hP9 hD9 hS9 => ?_)
  obtain ⟨ws2, e_ws2⟩ : ∃ x : va_W, x = ws ++ [((q1, Sum.inl (cF, 4096, Sum.inr (Sum.inr (Sum.inr (Sum.inr (fun _ => none)))))) : Nat × va_E)] := ⟨_, rfl⟩
  replace hP : va_P D classes ws2 H := by rw [e_ws2]; exact hP9
  replace hD : va_D A ws2 := by rw [e_ws2]; exact hD9
  replace hS := hS9
  clear hP9 hD9 hS9
  have f_N_ws2 : ws2[N]? = some ((q1, Sum.inl (cF, 4096, Sum.inr (Sum.inr (Sum.inr (Sum.inr (fun _ => none)))))) : Nat × va_E) := by rw [e_ws2]; exact gs_last hlen
  replace hlen : ws2.length = N + 1 := by rw [e_ws2]; exact gs_len hlen
  replace hU : gx_g ws ws2 1 [n] := by rw [e_ws2]; exact hU.push
  refine W.widen (k := 1) (n := 4096) (by decide) (by decide) ?_
  have f_n_ws2 : ws2[n]? = some ((a, Sum.inr (4, [Value.null, Value.null, Value.null, Value.null, Value.int 0, Value.int 0])) : Nat × va_E) := by rw [e_ws2]; exact gs_app f_n
  clear f_n
  refine va_putF (D := D) (ci := 4) (v := Value.ref q1) (ty := .array (.object "CommitLedger$LedgerFile")) (C := "CommitLedger$View") (T := F_Vi) (N := 6) hx hb hts i_Vi t_Vi t_Vi_ok n_Vi hown hK hP hD hS n f_n_ws2 rfl 0 (by decide) (hts _ kf_Vi_11) (fun _ h9 => h9) rfl hin rfl (by decide +kernel) rfl rfl (Nat.le_of_ble_eq_true rfl) d_Vi_init_11 (fun H locs hP9 hD9 hS9 => ?_)
  obtain ⟨ws3, e_ws3⟩ : ∃ x : va_W, x = ws2.set n ((a, Sum.inr (4, [Value.ref q1, Value.null, Value.null, Value.null, Value.int 0, Value.int 0])) : Nat × va_E) := ⟨_, rfl⟩
  replace hP : va_P D classes ws3 H := by rw [e_ws3]; exact hP9
  replace hD : va_D A ws3 := by rw [e_ws3]; exact hD9
  replace hS := hS9
  clear hP9 hD9 hS9
  have f_n_ws3 : ws3[n]? = some ((a, Sum.inr (4, [Value.ref q1, Value.null, Value.null, Value.null, Value.int 0, Value.int 0])) : Nat × va_E) := by rw [e_ws3]; exact gs_self f_n_ws2
  replace hlen : ws3.length = N + 1 := by rw [e_ws3]; exact gs_lens hlen
  replace hU : gx_g ws ws3 1 [n] := by rw [e_ws3]; exact hU.put (Or.inl (by simp))
  refine lv_aload_n hx hb d_Vi_init_14 rfl (lv_at hl 0 rfl) ?_
  refine lv_sipush (v := 4096) hx hb d_Vi_init_15 (by decide) ?_
  refine gx_newq (C := "CommitLedger$LedgerFile") (N' := 4096) hx hb hown (hts _ kk_Vi_9) (hts _ kO_Fi) hK hP hD hS hA 2 ht2 (by decide) (by decide) (by decide) (Nat.le_of_ble_eq_true rfl) (Nat.le_of_ble_eq_true rfl) d_Vi_init_18 (fun q4 H hP9 hD9 hS9 => ?_)
  obtain ⟨ws5, e_ws5⟩ : ∃ x : va_W, x = ws3 ++ [((q4, Sum.inl (cF, 4096, Sum.inr (Sum.inr (Sum.inr (Sum.inr (fun _ => none)))))) : Nat × va_E)] := ⟨_, rfl⟩
  replace hP : va_P D classes ws5 H := by rw [e_ws5]; exact hP9
  replace hD : va_D A ws5 := by rw [e_ws5]; exact hD9
  replace hS := hS9
  clear hP9 hD9 hS9
  have f_N_1_ws5 : ws5[N + 1]? = some ((q4, Sum.inl (cF, 4096, Sum.inr (Sum.inr (Sum.inr (Sum.inr (fun _ => none)))))) : Nat × va_E) := by rw [e_ws5]; exact gs_last hlen
  replace hlen : ws5.length = N + 2 := by rw [e_ws5]; exact gs_len hlen
  replace hU : gx_g ws ws5 2 [n] := by rw [e_ws5]; exact hU.push
  refine W.widen (k := 2) (n := 8192) (by decide) (by decide) ?_
  have f_n_ws5 : ws5[n]? = some ((a, Sum.inr (4, [Value.ref q1, Value.null, Value.null, Value.null, Value.int 0, Value.int 0])) : Nat × va_E) := by rw [e_ws5]; exact gs_app f_n_ws3
  clear f_n_ws3
  refine va_putF (D := D) (ci := 4) (v := Value.ref q4) (ty := .array (.object "CommitLedger$LedgerFile")) (C := "CommitLedger$View") (T := F_Vi) (N := 6) hx hb hts i_Vi t_Vi t_Vi_ok n_Vi hown hK hP hD hS n f_n_ws5 rfl 1 (by decide) (hts _ kf_Vi_17) (fun _ h9 => h9) rfl hin rfl (by decide +kernel) rfl rfl (Nat.le_of_ble_eq_true rfl) d_Vi_init_21 (fun H locs hP9 hD9 hS9 => ?_)
  obtain ⟨ws6, e_ws6⟩ : ∃ x : va_W, x = ws5.set n ((a, Sum.inr (4, [Value.ref q1, Value.ref q4, Value.null, Value.null, Value.int 0, Value.int 0])) : Nat × va_E) := ⟨_, rfl⟩
  replace hP : va_P D classes ws6 H := by rw [e_ws6]; exact hP9
  replace hD : va_D A ws6 := by rw [e_ws6]; exact hD9
  replace hS := hS9
  clear hP9 hD9 hS9
  have f_n_ws6 : ws6[n]? = some ((a, Sum.inr (4, [Value.ref q1, Value.ref q4, Value.null, Value.null, Value.int 0, Value.int 0])) : Nat × va_E) := by rw [e_ws6]; exact gs_self f_n_ws5
  replace hlen : ws6.length = N + 2 := by rw [e_ws6]; exact gs_lens hlen
  replace hU : gx_g ws ws6 2 [n] := by rw [e_ws6]; exact hU.put (Or.inl (by simp))
  refine lv_aload_n hx hb d_Vi_init_24 rfl (lv_at hl 0 rfl) ?_
  refine lv_sipush (v := 4096) hx hb d_Vi_init_25 (by decide) ?_
  refine gx_newa (atype := .boolean) (ty := .boolean) (N' := 4096) (a0 := (4096, Sum.inl (fun _ => 0))) hx hb (hts _ kA_boolean) rfl hK hP hD hS hA 1 ht1 (fun _ => rfl) (by decide) (by decide) (by decide) (Nat.le_of_ble_eq_true rfl) (Nat.le_of_ble_eq_true rfl) d_Vi_init_28 (fun q7 H hP9 hD9 hS9 => ?_)
  obtain ⟨ws8, e_ws8⟩ : ∃ x : va_W, x = ws6 ++ [((q7, Sum.inl (cZ, 4096, Sum.inl (fun _ => 0))) : Nat × va_E)] := ⟨_, rfl⟩
  replace hP : va_P D classes ws8 H := by rw [e_ws8]; exact hP9
  replace hD : va_D A ws8 := by rw [e_ws8]; exact hD9
  replace hS := hS9
  clear hP9 hD9 hS9
  have f_N_2_ws8 : ws8[N + 2]? = some ((q7, Sum.inl (cZ, 4096, Sum.inl (fun _ => 0))) : Nat × va_E) := by rw [e_ws8]; exact gs_last hlen
  replace hlen : ws8.length = N + 3 := by rw [e_ws8]; exact gs_len hlen
  replace hU : gx_g ws ws8 3 [n] := by rw [e_ws8]; exact hU.push
  refine W.widen (k := 3) (n := 12288) (by decide) (by decide) ?_
  have f_n_ws8 : ws8[n]? = some ((a, Sum.inr (4, [Value.ref q1, Value.ref q4, Value.null, Value.null, Value.int 0, Value.int 0])) : Nat × va_E) := by rw [e_ws8]; exact gs_app f_n_ws6
  clear f_n_ws6
  refine va_putF (D := D) (ci := 4) (v := Value.ref q7) (ty := .array .boolean) (C := "CommitLedger$View") (T := F_Vi) (N := 6) hx hb hts i_Vi t_Vi t_Vi_ok n_Vi hown hK hP hD hS n f_n_ws8 rfl 2 (by decide) (hts _ kf_Vi_20) (fun _ h9 => h9) rfl hin rfl (by decide +kernel) rfl rfl (Nat.le_of_ble_eq_true rfl) d_Vi_init_30 (fun H locs hP9 hD9 hS9 => ?_)
  obtain ⟨ws9, e_ws9⟩ : ∃ x : va_W, x = ws8.set n ((a, Sum.inr (4, [Value.ref q1, Value.ref q4, Value.ref q7, Value.null, Value.int 0, Value.int 0])) : Nat × va_E) := ⟨_, rfl⟩
  replace hP : va_P D classes ws9 H := by rw [e_ws9]; exact hP9
  replace hD : va_D A ws9 := by rw [e_ws9]; exact hD9
  replace hS := hS9
  clear hP9 hD9 hS9
  have f_n_ws9 : ws9[n]? = some ((a, Sum.inr (4, [Value.ref q1, Value.ref q4, Value.ref q7, Value.null, Value.int 0, Value.int 0])) : Nat × va_E) := by rw [e_ws9]; exact gs_self f_n_ws8
  replace hlen : ws9.length = N + 3 := by rw [e_ws9]; exact gs_lens hlen
  replace hU : gx_g ws ws9 3 [n] := by rw [e_ws9]; exact hU.put (Or.inl (by simp))
  have f_N_ws3 : ws3[N]? = some ((q1, Sum.inl (cF, 4096, Sum.inr (Sum.inr (Sum.inr (Sum.inr (fun _ => none)))))) : Nat × va_E) := by rw [e_ws3]; exact gs_ne (by omega) f_N_ws2
  clear f_N_ws2
  have f_N_ws5 : ws5[N]? = some ((q1, Sum.inl (cF, 4096, Sum.inr (Sum.inr (Sum.inr (Sum.inr (fun _ => none)))))) : Nat × va_E) := by rw [e_ws5]; exact gs_app f_N_ws3
  clear f_N_ws3
  have f_N_ws6 : ws6[N]? = some ((q1, Sum.inl (cF, 4096, Sum.inr (Sum.inr (Sum.inr (Sum.inr (fun _ => none)))))) : Nat × va_E) := by rw [e_ws6]; exact gs_ne (by omega) f_N_ws5
  clear f_N_ws5
  have f_N_ws8 : ws8[N]? = some ((q1, Sum.inl (cF, 4096, Sum.inr (Sum.inr (Sum.inr (Sum.inr (fun _ => none)))))) : Nat × va_E) := by rw [e_ws8]; exact gs_app f_N_ws6
  clear f_N_ws6
  have f_N_ws9 : ws9[N]? = some ((q1, Sum.inl (cF, 4096, Sum.inr (Sum.inr (Sum.inr (Sum.inr (fun _ => none)))))) : Nat × va_E) := by rw [e_ws9]; exact gs_ne (by omega) f_N_ws8
  clear f_N_ws8
  have f_N_1_ws6 : ws6[N + 1]? = some ((q4, Sum.inl (cF, 4096, Sum.inr (Sum.inr (Sum.inr (Sum.inr (fun _ => none)))))) : Nat × va_E) := by rw [e_ws6]; exact gs_ne (by omega) f_N_1_ws5
  clear f_N_1_ws5
  have f_N_1_ws8 : ws8[N + 1]? = some ((q4, Sum.inl (cF, 4096, Sum.inr (Sum.inr (Sum.inr (Sum.inr (fun _ => none)))))) : Nat × va_E) := by rw [e_ws8]; exact gs_app f_N_1_ws6
  clear f_N_1_ws6
  have f_N_1_ws9 : ws9[N + 1]? = some ((q4, Sum.inl (cF, 4096, Sum.inr (Sum.inr (Sum.inr (Sum.inr (fun _ => none)))))) : Nat × va_E) := by rw [e_ws9]; exact gs_ne (by omega) f_N_1_ws8
  clear f_N_1_ws8
  have f_N_2_ws9 : ws9[N + 2]? = some ((q7, Sum.inl (cZ, 4096, Sum.inl (fun _ => 0))) : Nat × va_E) := by rw [e_ws9]; exact gs_ne (by omega) f_N_2_ws8
  clear f_N_2_ws8
  exact gx_ret (W.vret hx hb hr (gx_post hP hK hD hS (by rw [← hPQ]; exact ⟨q1, q4, q7, rfl, hU, f_n_ws9, f_N_ws9, f_N_1_ws9, f_N_2_ws9⟩)) hS.2.2 d_Vi_init_33)

set_option maxHeartbeats 4000000 in
set_option maxRecDepth 100000 in
theorem c_Re_init (l : Launch) (htr : l.stackTraces = false) (D : va_G) (tys : List (ClassId × FieldType)) (z sz : Nat) (ws : va_W) (cZ : ClassId) (cF : ClassId) (a : Nat) (n : Nat) (N : Nat) (f_n : ws[n]? = some ((a, Sum.inr (6, [Value.null, Value.int 0, Value.int 0])) : Nat × va_E)) (ht1 : tys[1]? = some ((cZ, FieldType.boolean) : ClassId × FieldType)) (ht2 : tys[2]? = some ((cF, FieldType.object "CommitLedger$LedgerFile") : ClassId × FieldType)) (hlen : ws.length = N) (hn : n < N) : gx_Met l y_Re_init [Cond.code y_Re_init b_Re_init 1 none] { frames := 2, cells := 4, slots := 12294, locals := 40 } (gx_P z sz D classes tys ws [Value.ref a]) (gx_Q D classes tys (va_A ws sz) (fun r ws' => (∃ q0 : Nat, ∃ q1 : Nat, ∃ q2 : Nat, ∃ q3 : Nat, r = Sum.inl none ∧ gx_g ws ws' 4 [n] ∧ ws'[n]? = some ((a, Sum.inr (6, [Value.ref q0, Value.int 0, Value.int 0])) : Nat × va_E) ∧ ws'[N]? = some ((q0, Sum.inr (4, [Value.ref q1, Value.ref q2, Value.ref q3, Value.null, Value.int 0, Value.int 0])) : Nat × va_E) ∧ ws'[N + 1]? = some ((q1, Sum.inl (cF, 4096, Sum.inr (Sum.inr (Sum.inr (Sum.inr (fun _ => none)))))) : Nat × va_E) ∧ ws'[N + 2]? = some ((q2, Sum.inl (cF, 4096, Sum.inr (Sum.inr (Sum.inr (Sum.inr (fun _ => none)))))) : Nat × va_E) ∧ ws'[N + 3]? = some ((q3, Sum.inl (cZ, 4096, Sum.inl (fun _ => 0))) : Nat × va_E)))) 4 12294 (va_A ws sz) := by
  refine gx_ofW (cc := b_Re_init) (maxL := 1) (ret := none) (by decide) rfl ?_
  intro p e s m args below meth c s₁ B hml hv
  obtain ⟨rfl, hsz, hz, hP, hK, hD0, hY⟩ := hv
  have hx := B.exec
  have hb := B.bytes
  have hr := B.returns
  have hts := hY.hts (#[Value.ref a] : Array Value)
  have hown : s.vm.findClass "CommitLedger$Reader" = some m.cls := findClass_of_methodNamed B.named
  have hlocks := B.notSynchronized
  have hin : meth.name = "<init>" := (name_of_methodNamed B.named B.method).1
  have hne : c.exceptionTable.isEmpty = true := B.noHandlers (atoms_spec (ws := [Cond.code y_Re_init b_Re_init 1 none]) B.pre _ List.mem_cons_self)
  subst hsz
  have hAz := gx_az hD0 hz
  have hD := hD0.self (sz := s.heap.size)
  have hN := gx_ns hP
  have hA : ∀ q : Nat, s.heap.size ≤ q → va_A ws s.heap.size q := fun q h => Or.inr h
  generalize va_A ws s.heap.size = A at hD hN hA hAz ⊢
  generalize hPQ : (fun (r : Option Value ⊕ String) (ws' : va_W) => (∃ q0 : Nat, ∃ q1 : Nat, ∃ q2 : Nat, ∃ q3 : Nat, r = Sum.inl none ∧ gx_g ws ws' 4 [n] ∧ ws'[n]? = some ((a, Sum.inr (6, [Value.ref q0, Value.int 0, Value.int 0])) : Nat × va_E) ∧ ws'[N]? = some ((q0, Sum.inr (4, [Value.ref q1, Value.ref q2, Value.ref q3, Value.null, Value.int 0, Value.int 0])) : Nat × va_E) ∧ ws'[N + 1]? = some ((q1, Sum.inl (cF, 4096, Sum.inr (Sum.inr (Sum.inr (Sum.inr (fun _ => none)))))) : Nat × va_E) ∧ ws'[N + 2]? = some ((q2, Sum.inl (cF, 4096, Sum.inr (Sum.inr (Sum.inr (Sum.inr (fun _ => none)))))) : Nat × va_E) ∧ ws'[N + 3]? = some ((q3, Sum.inl (cZ, 4096, Sum.inl (fun _ => 0))) : Nat × va_E))) = PQ
  have hS : va_S A s.heap s.heap [] := va_S.rf
  have hlen0 := hlen
  have hU : gx_g ws ws 0 [n] := gx_g.rf
  have hl := lv_entry ([Value.ref a]) (n := 1) (Nat.le_of_ble_eq_true rfl)
  rw [lg_entry_eq]
  generalize (lg_sl ([Value.ref a]) ++ List.replicate (1 - (lg_sl ([Value.ref a])).length) Slot.unset).toArray = ls at hl ⊢
  have hl : lv_has ls 1 [(0, Value.ref a)] := hl
  refine lv_aload_n hx hb d_Re_init_0 rfl (lv_at hl 0 rfl) ?_
  refine W.objInit hx hb hown (hts _ km_Re_1) (hts _ kI_Object_init) (hts _ kc_Object_init) rfl (by rw [hml]; exact hl.1) rfl d_Re_init_1 (Nat.le_of_ble_eq_true rfl) (Nat.le_of_ble_eq_true rfl) ?_
  refine W.eq (g2 := F0 m 4 ls []) rfl ?_
  refine lv_aload_n hx hb d_Re_init_4 rfl (lv_at hl 0 rfl) ?_
  refine va_new (ci := 4) (fs := [Value.null, Value.null, Value.null, Value.null, Value.int 0, Value.int 0]) (C := "CommitLedger$View") (T := F_Vi) (N := 6) hx hb hts i_Vi t_Vi t_Vi_ok hown (hts _ kk_Re_7) (hts _ kX_Vi) (hts _ kN_Vi) hK hP hD hS hA rfl (by decide) (Nat.le_of_ble_eq_true rfl) (Nat.le_of_ble_eq_true rfl) d_Re_init_5 (fun q1 H hP9 hD9 hS9 => ?_)
  obtain ⟨ws2, e_ws2⟩ : ∃ x : va_W, x = ws ++ [((q1, Sum.inr (4, [Value.null, Value.null, Value.null, Value.null, Value.int 0, Value.int 0])) : Nat × va_E)] := ⟨_, rfl⟩
  replace hP : va_P D classes ws2 H := by rw [e_ws2]; exact hP9
  replace hD : va_D A ws2 := by rw [e_ws2]; exact hD9
  replace hS := hS9
  clear hP9 hD9 hS9
  have f_N_ws2 : ws2[N]? = some ((q1, Sum.inr (4, [Value.null, Value.null, Value.null, Value.null, Value.int 0, Value.int 0])) : Nat × va_E) := by rw [e_ws2]; exact gs_last hlen
  replace hlen : ws2.length = N + 1 := by rw [e_ws2]; exact gs_len hlen
  replace hU : gx_g ws ws2 1 [n] := by rw [e_ws2]; exact hU.push
  refine W.widen (k := 1) (n := 6) (by decide) (by decide) ?_
  refine lv_dup hx hb d_Re_init_8 rfl ?_
  refine gx_call (ig := .invokespecial 9) (c_Vi_init l htr D tys z _ ws2 cZ cF q1 N (N + 1) f_N_ws2 ht1 ht2 hlen (by omega)) (gx_invIN (As := []) (rest := [Value.ref q1, Value.ref a]) hx hb hown hts km_Re_9 kI_Vi_init kc_Vi_init (by decide) rfl (show (parseMethodDescriptor y_Vi_init.desc).map (fun d => d.parameters.length) = some 0 by decide +kernel) rfl rfl d_Re_init_9) (gx_cw (z := 0) hts kc_Vi_init kN_Vi rfl rfl ⟨Nat.le_of_ble_eq_true rfl, Nat.le_of_ble_eq_true rfl⟩) hb hml gx_blind (gx_pre hz hP hK hD hY hS hAz [Value.ref q1]) rfl hl.1 (lv_room (Nat.le_of_ble_eq_true rfl)) d_Re_init_9 ⟨Nat.le_of_ble_eq_true rfl, Nat.le_of_ble_eq_true rfl⟩ (fun v3 st3 t3 L3 h0_3 hW_3 hQ_3 hL_3 => ?_) (fun v3 st3 t3 L3 h0_3 hW_3 hQ_3 hL_3 => ?_)
  · obtain ⟨ws4, hp, hP9, -, hD9, hS9⟩ := gx_back h0_3 hW_3 hQ_3 hL_3 hD hS hA
    clear hQ_3 h0_3 hL_3 hW_3 hP hD hS
    have hP := hP9
    have hD := hD9
    have hS := hS9
    clear hP9 hD9 hS9
    rcases hp with ⟨q5, q6, q7, hv9, e_ws4, f_N_ws4, f_N_1_ws4, f_N_2_ws4, f_N_3_ws4⟩
    cases hv9
    have f_N_ws4 : ws4[N]? = some ((q1, Sum.inr (4, [Value.ref q5, Value.ref q6, Value.ref q7, Value.null, Value.int 0, Value.int 0])) : Nat × va_E) := f_N_ws4
    have f_N_1_ws4 : ws4[N + 1]? = some ((q5, Sum.inl (cF, 4096, Sum.inr (Sum.inr (Sum.inr (Sum.inr (fun _ => none)))))) : Nat × va_E) := f_N_1_ws4
    have f_N_2_ws4 : ws4[N + 2]? = some ((q6, Sum.inl (cF, 4096, Sum.inr (Sum.inr (Sum.inr (Sum.inr (fun _ => none)))))) : Nat × va_E) := f_N_2_ws4
    have f_N_3_ws4 : ws4[N + 3]? = some ((q7, Sum.inl (cZ, 4096, Sum.inl (fun _ => 0))) : Nat × va_E) := f_N_3_ws4
    replace hlen : ws4.length = N + 4 := by rw [e_ws4.1, hlen]
    replace hU : gx_g ws ws4 4 [n] := hU.call e_ws4 (by simp; first | done | omega)
    refine W.eq (g2 := F0 m 12 ls [Value.ref q1, Value.ref a]) rfl ?_
    refine W.widen (k := 4) (n := 12294) (by decide) (by decide) ?_
    generalize t3.heap = H at hP hS ⊢
    generalize [] ++ L3 = locs at hS ⊢
    have f_n_ws2 : ws2[n]? = some ((a, Sum.inr (6, [Value.null, Value.int 0, Value.int 0])) : Nat × va_E) := by rw [e_ws2]; exact gs_app f_n
    clear f_n
    have f_n_ws4 : ws4[n]? = some ((a, Sum.inr (6, [Value.null, Value.int 0, Value.int 0])) : Nat × va_E) := e_ws4.at (by first | decide | (simp; done) | (simp; omega)) f_n_ws2
    clear f_n_ws2
    refine va_putF (D := D) (ci := 6) (v := Value.ref q1) (ty := .object "CommitLedger$View") (C := "CommitLedger$Reader") (T := F_Re) (N := 3) hx hb hts i_Re t_Re t_Re_ok n_Re hown hK hP hD hS n f_n_ws4 rfl 0 (by decide) (hts _ kf_Re_10) (fun _ h9 => h9) rfl hin rfl (by decide +kernel) rfl rfl (Nat.le_of_ble_eq_true rfl) d_Re_init_12 (fun H locs hP9 hD9 hS9 => ?_)
    obtain ⟨ws8, e_ws8⟩ : ∃ x : va_W, x = ws4.set n ((a, Sum.inr (6, [Value.ref q1, Value.int 0, Value.int 0])) : Nat × va_E) := ⟨_, rfl⟩
    replace hP : va_P D classes ws8 H := by rw [e_ws8]; exact hP9
    replace hD : va_D A ws8 := by rw [e_ws8]; exact hD9
    replace hS := hS9
    clear hP9 hD9 hS9
    have f_n_ws8 : ws8[n]? = some ((a, Sum.inr (6, [Value.ref q1, Value.int 0, Value.int 0])) : Nat × va_E) := by rw [e_ws8]; exact gs_self f_n_ws4
    replace hlen : ws8.length = N + 4 := by rw [e_ws8]; exact gs_lens hlen
    replace hU : gx_g ws ws8 4 [n] := by rw [e_ws8]; exact hU.put (Or.inl (by simp))
    have f_N_ws8 : ws8[N]? = some ((q1, Sum.inr (4, [Value.ref q5, Value.ref q6, Value.ref q7, Value.null, Value.int 0, Value.int 0])) : Nat × va_E) := by rw [e_ws8]; exact gs_ne (by omega) f_N_ws4
    clear f_N_ws4
    have f_N_1_ws8 : ws8[N + 1]? = some ((q5, Sum.inl (cF, 4096, Sum.inr (Sum.inr (Sum.inr (Sum.inr (fun _ => none)))))) : Nat × va_E) := by rw [e_ws8]; exact gs_ne (by omega) f_N_1_ws4
    clear f_N_1_ws4
    have f_N_2_ws8 : ws8[N + 2]? = some ((q6, Sum.inl (cF, 4096, Sum.inr (Sum.inr (Sum.inr (Sum.inr (fun _ => none)))))) : Nat × va_E) := by rw [e_ws8]; exact gs_ne (by omega) f_N_2_ws4
    clear f_N_2_ws4
    have f_N_3_ws8 : ws8[N + 3]? = some ((q7, Sum.inl (cZ, 4096, Sum.inl (fun _ => 0))) : Nat × va_E) := by rw [e_ws8]; exact gs_ne (by omega) f_N_3_ws4
    clear f_N_3_ws4
    exact gx_ret (W.vret hx hb hr (gx_post hP hK hD hS (by rw [← hPQ]; exact ⟨q1, q5, q6, q7, rfl, hU, f_n_ws8, f_N_ws8, f_N_1_ws8, f_N_2_ws8, f_N_3_ws8⟩)) hS.2.2 d_Re_init_15)
  · obtain ⟨E9, ws9, ce, hp, hce, hP9, -, hD9, hS9⟩ := gx_backT h0_3 hW_3 hQ_3 hL_3 hD hS hA
    clear hQ_3 h0_3 hL_3 hW_3 hP hD hS
    have hP := hP9
    have hD := hD9
    have hS := hS9
    clear hP9 hD9 hS9
    rcases hp with ⟨q10, q11, q12, hv9, e_ws9, f_N_ws9, f_N_1_ws9, f_N_2_ws9, f_N_3_ws9⟩
    cases hv9

set_option maxHeartbeats 4000000 in
set_option maxRecDepth 100000 in
theorem c_Al_init (l : Launch) (htr : l.stackTraces = false) (D : va_G) (tys : List (ClassId × FieldType)) (z sz : Nat) (ws : va_W) (a : Nat) (n : Nat) (f_n : ws[n]? = some ((a, Sum.inr (3, [Value.null, Value.int 0, Value.int 0])) : Nat × va_E)) : gx_Met l y_Al_init [Cond.code y_Al_init b_Al_init 1 none] { frames := 3, cells := 0, slots := 0, locals := 60 } (gx_P z sz D classes tys ws [Value.ref a]) (gx_Q D classes tys (va_A ws sz) (fun r ws' => (r = Sum.inl none ∧ gx_g ws ws' 0 [n] ∧ ws'[n]? = some ((a, Sum.inr (3, [Value.ref (gx_av D), Value.int 0, Value.int 0])) : Nat × va_E)))) 0 0 (va_A ws sz) := by
  refine gx_ofW (cc := b_Al_init) (maxL := 1) (ret := none) (by decide) rfl ?_
  intro p e s m args below meth c s₁ B hml hv
  obtain ⟨rfl, hsz, hz, hP, hK, hD0, hY⟩ := hv
  have hx := B.exec
  have hb := B.bytes
  have hr := B.returns
  have hts := hY.hts (#[Value.ref a] : Array Value)
  have hown : s.vm.findClass "java/util/ArrayList" = some m.cls := findClass_of_methodNamed B.named
  have hlocks := B.notSynchronized
  have hin : meth.name = "<init>" := (name_of_methodNamed B.named B.method).1
  have hne : c.exceptionTable.isEmpty = true := B.noHandlers (atoms_spec (ws := [Cond.code y_Al_init b_Al_init 1 none]) B.pre _ List.mem_cons_self)
  subst hsz
  have hAz := gx_az hD0 hz
  have hD := hD0.self (sz := s.heap.size)
  have hN := gx_ns hP
  have hA : ∀ q : Nat, s.heap.size ≤ q → va_A ws s.heap.size q := fun q h => Or.inr h
  generalize va_A ws s.heap.size = A at hD hN hA hAz ⊢
  generalize hPQ : (fun (r : Option Value ⊕ String) (ws' : va_W) => (r = Sum.inl none ∧ gx_g ws ws' 0 [n] ∧ ws'[n]? = some ((a, Sum.inr (3, [Value.ref (gx_av D), Value.int 0, Value.int 0])) : Nat × va_E))) = PQ
  have hS : va_S A s.heap s.heap [] := va_S.rf
  have hU : gx_g ws ws 0 [n] := gx_g.rf
  have hl := lv_entry ([Value.ref a]) (n := 1) (Nat.le_of_ble_eq_true rfl)
  rw [lg_entry_eq]
  generalize (lg_sl ([Value.ref a]) ++ List.replicate (1 - (lg_sl ([Value.ref a])).length) Slot.unset).toArray = ls at hl ⊢
  have hl : lv_has ls 1 [(0, Value.ref a)] := hl
  refine lv_aload_n hx hb d_Al_init_0 rfl (lv_at hl 0 rfl) ?_
  refine gx_call (ig := .invokespecial 1) (c_Ab_init l htr D tys z _ ws a n (Value.null) 0 0 f_n) (gx_invI (As := []) (rest := []) hx hb hown hts km_Al_1 kI_Ab_init kc_Ab_init (by decide) rfl (show (parseMethodDescriptor y_Ab_init.desc).map (fun d => d.parameters.length) = some 0 by decide +kernel) rfl rfl d_Al_init_1) (gx_cw (z := 0) hts kc_Ab_init kN_Ab rfl rfl ⟨Nat.le_of_ble_eq_true rfl, Nat.le_of_ble_eq_true rfl⟩) hb hml gx_blind (gx_pre hz hP hK hD hY hS hAz [Value.ref a]) rfl hl.1 (lv_room (Nat.le_of_ble_eq_true rfl)) d_Al_init_1 ⟨Nat.le_of_ble_eq_true rfl, Nat.le_of_ble_eq_true rfl⟩ (fun v1 st1 t1 L1 h0_1 hW_1 hQ_1 hL_1 => ?_) (fun v1 st1 t1 L1 h0_1 hW_1 hQ_1 hL_1 => ?_)
  · obtain ⟨ws2, hp, hP9, -, hD9, hS9⟩ := gx_back h0_1 hW_1 hQ_1 hL_1 hD hS hA
    clear hQ_1 h0_1 hL_1 hW_1 hP hD hS
    have hP := hP9
    have hD := hD9
    have hS := hS9
    clear hP9 hD9 hS9
    rcases hp with ⟨hv9, e_ws2, f_n_ws2⟩
    cases hv9
    have f_n_ws2 : ws2[n]? = some ((a, Sum.inr (3, [Value.null, Value.int 0, Value.int 0])) : Nat × va_E) := f_n_ws2
    replace hU : gx_g ws ws2 0 [n] := hU.call e_ws2 (by simp; first | done | omega)
    refine W.eq (g2 := F0 m 4 ls []) rfl ?_
    generalize t1.heap = H at hP hS ⊢
    generalize [] ++ L1 = locs at hS ⊢
    refine lv_aload_n hx hb d_Al_init_4 rfl (lv_at hl 0 rfl) ?_
    refine gx_getsE (D := D) hx hb hts kL_DEFAULTCAPACITY_EMPTY_ELEMENTDATA kN_Al kf_Al_39 hown hN hY hS d_Al_init_5 ?_
    refine va_put (D := D) (ci := 3) (v := Value.ref (gx_av D)) (ty := .array (.object "java/lang/Object")) (C := "java/util/ArrayList") (T := F_Al) (N := 3) hx hb hts i_Al t_Al t_Al_ok n_Al hown hK hP hD hS n f_n_ws2 rfl 0 (by decide) (hts _ kf_Al_9) (fun _ h9 => h9) rfl (by decide +kernel) rfl rfl (Nat.le_of_ble_eq_true rfl) d_Al_init_8 (fun H locs hP9 hD9 hS9 => ?_)
    obtain ⟨ws4, e_ws4⟩ : ∃ x : va_W, x = ws2.set n ((a, Sum.inr (3, [Value.ref (gx_av D), Value.int 0, Value.int 0])) : Nat × va_E) := ⟨_, rfl⟩
    replace hP : va_P D classes ws4 H := by rw [e_ws4]; exact hP9
    replace hD : va_D A ws4 := by rw [e_ws4]; exact hD9
    replace hS := hS9
    clear hP9 hD9 hS9
    have f_n_ws4 : ws4[n]? = some ((a, Sum.inr (3, [Value.ref (gx_av D), Value.int 0, Value.int 0])) : Nat × va_E) := by rw [e_ws4]; exact gs_self f_n_ws2
    replace hU : gx_g ws ws4 0 [n] := by rw [e_ws4]; exact hU.put (Or.inl (by simp))
    exact gx_ret (W.vret hx hb hr (gx_post hP hK hD hS (by rw [← hPQ]; exact ⟨rfl, hU, f_n_ws4⟩)) hS.2.2 d_Al_init_11)
  · obtain ⟨E9, ws5, ce, hp, hce, hP9, -, hD9, hS9⟩ := gx_backT h0_1 hW_1 hQ_1 hL_1 hD hS hA
    clear hQ_1 h0_1 hL_1 hW_1 hP hD hS
    have hP := hP9
    have hD := hD9
    have hS := hS9
    clear hP9 hD9 hS9
    rcases hp with ⟨hv9, e_ws5, f_n_ws5⟩
    cases hv9

set_option maxHeartbeats 4000000 in
set_option maxRecDepth 100000 in
theorem c_Di_init (l : Launch) (htr : l.stackTraces = false) (D : va_G) (tys : List (ClassId × FieldType)) (z sz : Nat) (ws : va_W) (a : Nat) (n : Nat) (N : Nat) (f_n : ws[n]? = some ((a, Sum.inr (2, [Value.null, Value.null, Value.int 0, Value.int 0])) : Nat × va_E)) (hlen : ws.length = N) (hn : n < N) : gx_Met l y_Di_init [Cond.code y_Di_init b_Di_init 1 none] { frames := 4, cells := 2, slots := 6, locals := 80 } (gx_P z sz D classes tys ws [Value.ref a]) (gx_Q D classes tys (va_A ws sz) (fun r ws' => (∃ q1 : Nat, ∃ q2 : Nat, r = Sum.inl none ∧ gx_g ws ws' 2 [n] ∧ ws'[n]? = some ((a, Sum.inr (2, [Value.ref q1, Value.ref q2, Value.int 0, Value.int 0])) : Nat × va_E) ∧ ws'[N]? = some ((q1, Sum.inr (3, [Value.ref (gx_av D), Value.int 0, Value.int 0])) : Nat × va_E) ∧ ws'[N + 1]? = some ((q2, Sum.inr (3, [Value.ref (gx_av D), Value.int 0, Value.int 0])) : Nat × va_E)))) 2 6 (va_A ws sz) := by
  refine gx_ofW (cc := b_Di_init) (maxL := 1) (ret := none) (by decide) rfl ?_
  intro p e s m args below meth c s₁ B hml hv
  obtain ⟨rfl, hsz, hz, hP, hK, hD0, hY⟩ := hv
  have hx := B.exec
  have hb := B.bytes
  have hr := B.returns
  have hts := hY.hts (#[Value.ref a] : Array Value)
  have hown : s.vm.findClass "CommitLedger$Directory" = some m.cls := findClass_of_methodNamed B.named
  have hlocks := B.notSynchronized
  have hin : meth.name = "<init>" := (name_of_methodNamed B.named B.method).1
  have hne : c.exceptionTable.isEmpty = true := B.noHandlers (atoms_spec (ws := [Cond.code y_Di_init b_Di_init 1 none]) B.pre _ List.mem_cons_self)
  subst hsz
  have hAz := gx_az hD0 hz
  have hD := hD0.self (sz := s.heap.size)
  have hN := gx_ns hP
  have hA : ∀ q : Nat, s.heap.size ≤ q → va_A ws s.heap.size q := fun q h => Or.inr h
  generalize va_A ws s.heap.size = A at hD hN hA hAz ⊢
  generalize hPQ : (fun (r : Option Value ⊕ String) (ws' : va_W) => (∃ q1 : Nat, ∃ q2 : Nat, r = Sum.inl none ∧ gx_g ws ws' 2 [n] ∧ ws'[n]? = some ((a, Sum.inr (2, [Value.ref q1, Value.ref q2, Value.int 0, Value.int 0])) : Nat × va_E) ∧ ws'[N]? = some ((q1, Sum.inr (3, [Value.ref (gx_av D), Value.int 0, Value.int 0])) : Nat × va_E) ∧ ws'[N + 1]? = some ((q2, Sum.inr (3, [Value.ref (gx_av D), Value.int 0, Value.int 0])) : Nat × va_E))) = PQ
  have hS : va_S A s.heap s.heap [] := va_S.rf
  have hlen0 := hlen
  have hU : gx_g ws ws 0 [n] := gx_g.rf
  have hl := lv_entry ([Value.ref a]) (n := 1) (Nat.le_of_ble_eq_true rfl)
  rw [lg_entry_eq]
  generalize (lg_sl ([Value.ref a]) ++ List.replicate (1 - (lg_sl ([Value.ref a])).length) Slot.unset).toArray = ls at hl ⊢
  have hl : lv_has ls 1 [(0, Value.ref a)] := hl
  refine lv_aload_n hx hb d_Di_init_0 rfl (lv_at hl 0 rfl) ?_
  refine W.objInit hx hb hown (hts _ km_Di_1) (hts _ kI_Object_init) (hts _ kc_Object_init) rfl (by rw [hml]; exact hl.1) rfl d_Di_init_1 (Nat.le_of_ble_eq_true rfl) (Nat.le_of_ble_eq_true rfl) ?_
  refine W.eq (g2 := F0 m 4 ls []) rfl ?_
  refine lv_aload_n hx hb d_Di_init_4 rfl (lv_at hl 0 rfl) ?_
  refine va_new (ci := 3) (fs := [Value.null, Value.int 0, Value.int 0]) (C := "java/util/ArrayList") (T := F_Al) (N := 3) hx hb hts i_Al t_Al t_Al_ok hown (hts _ kk_Di_7) (hts _ kX_Al) (hts _ kN_Al) hK hP hD hS hA rfl (by decide) (Nat.le_of_ble_eq_true rfl) (Nat.le_of_ble_eq_true rfl) d_Di_init_5 (fun q1 H hP9 hD9 hS9 => ?_)
  obtain ⟨ws2, e_ws2⟩ : ∃ x : va_W, x = ws ++ [((q1, Sum.inr (3, [Value.null, Value.int 0, Value.int 0])) : Nat × va_E)] := ⟨_, rfl⟩
  replace hP : va_P D classes ws2 H := by rw [e_ws2]; exact hP9
  replace hD : va_D A ws2 := by rw [e_ws2]; exact hD9
  replace hS := hS9
  clear hP9 hD9 hS9
  have f_N_ws2 : ws2[N]? = some ((q1, Sum.inr (3, [Value.null, Value.int 0, Value.int 0])) : Nat × va_E) := by rw [e_ws2]; exact gs_last hlen
  replace hlen : ws2.length = N + 1 := by rw [e_ws2]; exact gs_len hlen
  replace hU : gx_g ws ws2 1 [n] := by rw [e_ws2]; exact hU.push
  refine W.widen (k := 1) (n := 3) (by decide) (by decide) ?_
  refine lv_dup hx hb d_Di_init_8 rfl ?_
  refine gx_call (ig := .invokespecial 9) (c_Al_init l htr D tys z _ ws2 q1 N f_N_ws2) (gx_invI (As := []) (rest := [Value.ref q1, Value.ref a]) hx hb hown hts km_Di_9 kI_Al_init kc_Al_init (by decide) rfl (show (parseMethodDescriptor y_Al_init.desc).map (fun d => d.parameters.length) = some 0 by decide +kernel) rfl rfl d_Di_init_9) (gx_cw (z := 0) hts kc_Al_init kN_Al rfl rfl ⟨Nat.le_of_ble_eq_true rfl, Nat.le_of_ble_eq_true rfl⟩) hb hml gx_blind (gx_pre hz hP hK hD hY hS hAz [Value.ref q1]) rfl hl.1 (lv_room (Nat.le_of_ble_eq_true rfl)) d_Di_init_9 ⟨Nat.le_of_ble_eq_true rfl, Nat.le_of_ble_eq_true rfl⟩ (fun v3 st3 t3 L3 h0_3 hW_3 hQ_3 hL_3 => ?_) (fun v3 st3 t3 L3 h0_3 hW_3 hQ_3 hL_3 => ?_)
  · obtain ⟨ws4, hp, hP9, -, hD9, hS9⟩ := gx_back h0_3 hW_3 hQ_3 hL_3 hD hS hA
    clear hQ_3 h0_3 hL_3 hW_3 hP hD hS
    have hP := hP9
    have hD := hD9
    have hS := hS9
    clear hP9 hD9 hS9
    rcases hp with ⟨hv9, e_ws4, f_N_ws4⟩
    cases hv9
    have f_N_ws4 : ws4[N]? = some ((q1, Sum.inr (3, [Value.ref (gx_av D), Value.int 0, Value.int 0])) : Nat × va_E) := f_N_ws4
    replace hlen : ws4.length = N + 1 := by rw [e_ws4.1, hlen]
    replace hU : gx_g ws ws4 1 [n] := hU.call e_ws4 (by simp; first | done | omega)
    refine W.eq (g2 := F0 m 12 ls [Value.ref q1, Value.ref a]) rfl ?_
    generalize t3.heap = H at hP hS ⊢
    generalize [] ++ L3 = locs at hS ⊢
    have f_n_ws2 : ws2[n]? = some ((a, Sum.inr (2, [Value.null, Value.null, Value.int 0, Value.int 0])) : Nat × va_E) := by rw [e_ws2]; exact gs_app f_n
    clear f_n
    have f_n_ws4 : ws4[n]? = some ((a, Sum.inr (2, [Value.null, Value.null, Value.int 0, Value.int 0])) : Nat × va_E) := e_ws4.at (by first | decide | (simp; done) | (simp; omega)) f_n_ws2
    clear f_n_ws2
    refine va_putF (D := D) (ci := 2) (v := Value.ref q1) (ty := .object "java/util/ArrayList") (C := "CommitLedger$Directory") (T := F_Di) (N := 4) hx hb hts i_Di t_Di t_Di_ok n_Di hown hK hP hD hS n f_n_ws4 rfl 0 (by decide) (hts _ kf_Di_10) (fun _ h9 => h9) rfl hin rfl (by decide +kernel) rfl rfl (Nat.le_of_ble_eq_true rfl) d_Di_init_12 (fun H locs hP9 hD9 hS9 => ?_)
    obtain ⟨ws5, e_ws5⟩ : ∃ x : va_W, x = ws4.set n ((a, Sum.inr (2, [Value.ref q1, Value.null, Value.int 0, Value.int 0])) : Nat × va_E) := ⟨_, rfl⟩
    replace hP : va_P D classes ws5 H := by rw [e_ws5]; exact hP9
    replace hD : va_D A ws5 := by rw [e_ws5]; exact hD9
    replace hS := hS9
    clear hP9 hD9 hS9
    have f_n_ws5 : ws5[n]? = some ((a, Sum.inr (2, [Value.ref q1, Value.null, Value.int 0, Value.int 0])) : Nat × va_E) := by rw [e_ws5]; exact gs_self f_n_ws4
    replace hlen : ws5.length = N + 1 := by rw [e_ws5]; exact gs_lens hlen
    replace hU : gx_g ws ws5 1 [n] := by rw [e_ws5]; exact hU.put (Or.inl (by simp))
    refine lv_aload_n hx hb d_Di_init_15 rfl (lv_at hl 0 rfl) ?_
    refine va_new (ci := 3) (fs := [Value.null, Value.int 0, Value.int 0]) (C := "java/util/ArrayList") (T := F_Al) (N := 3) hx hb hts i_Al t_Al t_Al_ok hown (hts _ kk_Di_7) (hts _ kX_Al) (hts _ kN_Al) hK hP hD hS hA rfl (by decide) (Nat.le_of_ble_eq_true rfl) (Nat.le_of_ble_eq_true rfl) d_Di_init_16 (fun q6 H hP9 hD9 hS9 => ?_)
    obtain ⟨ws7, e_ws7⟩ : ∃ x : va_W, x = ws5 ++ [((q6, Sum.inr (3, [Value.null, Value.int 0, Value.int 0])) : Nat × va_E)] := ⟨_, rfl⟩
    replace hP : va_P D classes ws7 H := by rw [e_ws7]; exact hP9
    replace hD : va_D A ws7 := by rw [e_ws7]; exact hD9
    replace hS := hS9
    clear hP9 hD9 hS9
    have f_N_1_ws7 : ws7[N + 1]? = some ((q6, Sum.inr (3, [Value.null, Value.int 0, Value.int 0])) : Nat × va_E) := by rw [e_ws7]; exact gs_last hlen
    replace hlen : ws7.length = N + 2 := by rw [e_ws7]; exact gs_len hlen
    replace hU : gx_g ws ws7 2 [n] := by rw [e_ws7]; exact hU.push
    refine W.widen (k := 2) (n := 6) (by decide) (by decide) ?_
    refine lv_dup hx hb d_Di_init_19 rfl ?_
    refine gx_call (ig := .invokespecial 9) (c_Al_init l htr D tys z _ ws7 q6 (N + 1) f_N_1_ws7) (gx_invI (As := []) (rest := [Value.ref q6, Value.ref a]) hx hb hown hts km_Di_9 kI_Al_init kc_Al_init (by decide) rfl (show (parseMethodDescriptor y_Al_init.desc).map (fun d => d.parameters.length) = some 0 by decide +kernel) rfl rfl d_Di_init_20) (gx_cw (z := 0) hts kc_Al_init kN_Al rfl rfl ⟨Nat.le_of_ble_eq_true rfl, Nat.le_of_ble_eq_true rfl⟩) hb hml gx_blind (gx_pre hz hP hK hD hY hS hAz [Value.ref q6]) rfl hl.1 (lv_room (Nat.le_of_ble_eq_true rfl)) d_Di_init_20 ⟨Nat.le_of_ble_eq_true rfl, Nat.le_of_ble_eq_true rfl⟩ (fun v8 st8 t8 L8 h0_8 hW_8 hQ_8 hL_8 => ?_) (fun v8 st8 t8 L8 h0_8 hW_8 hQ_8 hL_8 => ?_)
    · obtain ⟨ws9, hp, hP9, -, hD9, hS9⟩ := gx_back h0_8 hW_8 hQ_8 hL_8 hD hS hA
      clear hQ_8 h0_8 hL_8 hW_8 hP hD hS
      have hP := hP9
      have hD := hD9
      have hS := hS9
      clear hP9 hD9 hS9
      rcases hp with ⟨hv9, e_ws9, f_N_1_ws9⟩
      cases hv9
      have f_N_1_ws9 : ws9[N + 1]? = some ((q6, Sum.inr (3, [Value.ref (gx_av D), Value.int 0, Value.int 0])) : Nat × va_E) := f_N_1_ws9
      replace hlen : ws9.length = N + 2 := by rw [e_ws9.1, hlen]
      replace hU : gx_g ws ws9 2 [n] := hU.call e_ws9 (by simp; first | done | omega)
      refine W.eq (g2 := F0 m 23 ls [Value.ref q6, Value.ref a]) rfl ?_
      generalize t8.heap = H at hP hS ⊢
      generalize locs ++ L8 = locs at hS ⊢
      have f_n_ws7 : ws7[n]? = some ((a, Sum.inr (2, [Value.ref q1, Value.null, Value.int 0, Value.int 0])) : Nat × va_E) := by rw [e_ws7]; exact gs_app f_n_ws5
      clear f_n_ws5
      have f_n_ws9 : ws9[n]? = some ((a, Sum.inr (2, [Value.ref q1, Value.null, Value.int 0, Value.int 0])) : Nat × va_E) := e_ws9.at (by first | decide | (simp; done) | (simp; omega)) f_n_ws7
      clear f_n_ws7
      refine va_putF (D := D) (ci := 2) (v := Value.ref q6) (ty := .object "java/util/ArrayList") (C := "CommitLedger$Directory") (T := F_Di) (N := 4) hx hb hts i_Di t_Di t_Di_ok n_Di hown hK hP hD hS n f_n_ws9 rfl 1 (by decide) (hts _ kf_Di_16) (fun _ h9 => h9) rfl hin rfl (by decide +kernel) rfl rfl (Nat.le_of_ble_eq_true rfl) d_Di_init_23 (fun H locs hP9 hD9 hS9 => ?_)
      obtain ⟨ws10, e_ws10⟩ : ∃ x : va_W, x = ws9.set n ((a, Sum.inr (2, [Value.ref q1, Value.ref q6, Value.int 0, Value.int 0])) : Nat × va_E) := ⟨_, rfl⟩
      replace hP : va_P D classes ws10 H := by rw [e_ws10]; exact hP9
      replace hD : va_D A ws10 := by rw [e_ws10]; exact hD9
      replace hS := hS9
      clear hP9 hD9 hS9
      have f_n_ws10 : ws10[n]? = some ((a, Sum.inr (2, [Value.ref q1, Value.ref q6, Value.int 0, Value.int 0])) : Nat × va_E) := by rw [e_ws10]; exact gs_self f_n_ws9
      replace hlen : ws10.length = N + 2 := by rw [e_ws10]; exact gs_lens hlen
      replace hU : gx_g ws ws10 2 [n] := by rw [e_ws10]; exact hU.put (Or.inl (by simp))
      have f_N_ws5 : ws5[N]? = some ((q1, Sum.inr (3, [Value.ref (gx_av D), Value.int 0, Value.int 0])) : Nat × va_E) := by rw [e_ws5]; exact gs_ne (by omega) f_N_ws4
      clear f_N_ws4
      have f_N_ws7 : ws7[N]? = some ((q1, Sum.inr (3, [Value.ref (gx_av D), Value.int 0, Value.int 0])) : Nat × va_E) := by rw [e_ws7]; exact gs_app f_N_ws5
      clear f_N_ws5
      have f_N_ws9 : ws9[N]? = some ((q1, Sum.inr (3, [Value.ref (gx_av D), Value.int 0, Value.int 0])) : Nat × va_E) := e_ws9.at (by first | decide | (simp; done) | (simp; omega)) f_N_ws7
      clear f_N_ws7
      have f_N_ws10 : ws10[N]? = some ((q1, Sum.inr (3, [Value.ref (gx_av D), Value.int 0, Value.int 0])) : Nat × va_E) := by rw [e_ws10]; exact gs_ne (by omega) f_N_ws9
      clear f_N_ws9
      have f_N_1_ws10 : ws10[N + 1]? = some ((q6, Sum.inr (3, [Value.ref (gx_av D), Value.int 0, Value.int 0])) : Nat × va_E) := by rw [e_ws10]; exact gs_ne (by omega) f_N_1_ws9
      clear f_N_1_ws9
      exact gx_ret (W.vret hx hb hr (gx_post hP hK hD hS (by rw [← hPQ]; exact ⟨q1, q6, rfl, hU, f_n_ws10, f_N_ws10, f_N_1_ws10⟩)) hS.2.2 d_Di_init_26)
    · obtain ⟨E9, ws11, ce, hp, hce, hP9, -, hD9, hS9⟩ := gx_backT h0_8 hW_8 hQ_8 hL_8 hD hS hA
      clear hQ_8 h0_8 hL_8 hW_8 hP hD hS
      have hP := hP9
      have hD := hD9
      have hS := hS9
      clear hP9 hD9 hS9
      rcases hp with ⟨hv9, e_ws11, f_N_1_ws11⟩
      cases hv9
  · obtain ⟨E9, ws12, ce, hp, hce, hP9, -, hD9, hS9⟩ := gx_backT h0_3 hW_3 hQ_3 hL_3 hD hS hA
    clear hQ_3 h0_3 hL_3 hW_3 hP hD hS
    have hP := hP9
    have hD := hD9
    have hS := hS9
    clear hP9 hD9 hS9
    rcases hp with ⟨hv9, e_ws12, f_N_ws12⟩
    cases hv9
