/-! ArrayList.add over maps: where there is room; the first of all; rows printed by own text programs -/
theorem kW_max_Al_79 : Cond.methodLink "java/util/ArrayList" 79 Lib.Math.max.name ∈ gx_all := gx_in 342 (by decide +kernel)
theorem kW_smax : Cond.static Lib.Math.max.name ∈ gx_all := gx_in 301 (by decide +kernel)
theorem kW_cmax : Cond.code Lib.Math.max.name Lib.Math.max.code 2 (some .int) ∈ gx_all := gx_in 302 (by decide +kernel)
set_option maxHeartbeats 4000000 in
set_option maxRecDepth 100000 in
theorem k_Al_add1 (l : Launch) (htr : l.stackTraces = false) (D : va_G) (tys : List (ClassId × FieldType)) (z sz : Nat) (ws : va_W) (h : gm_M) (hM : gm_S h ws) (cO : ClassId) (n : Nat) (a : Nat) (na : Nat) (b : Nat) (c0 : Nat) (cp : Nat) (md : Int32) (g : Nat → Option Nat) (x : Nat) (P : Nat → Prop) (F : Nat → Nat → Nat) (f_n : h n = some ((a, Sum.inr (3, [Value.ref b, Value.int (nI c0), Value.int md])) : Nat × va_E)) (f_na : h na = some ((b, Sum.inl (cO, cp, Sum.inr (Sum.inr (Sum.inr (Sum.inr g))))) : Nat × va_E)) (ht7 : tys[7]? = some ((cO, FieldType.object "java/lang/Object") : ClassId × FieldType)) (fam : gf_F P F h) (hnn : n ≠ na) (hn9 : n < 1000) (hna : na < 1000) (hcp : cp ≤ 200000) (hcc : c0 < cp) (hx9 : P x) : gx_Met l y_Al_add1 [Cond.code y_Al_add1 b_Al_add1 4 none] { frames := 1, cells := 0, slots := 0, locals := 12 } (gx_P z sz D classes tys ws [Value.ref a, Value.ref x, Value.ref b, Value.int (nI c0)]) (gx_Q D classes tys (va_A ws sz) (gm_p (fun r h' => (r = Sum.inl none ∧ gm_g h h' [n, na] ∧ h' n = some ((a, Sum.inr (3, [Value.ref b, Value.int (nI (c0 + 1)), Value.int md])) : Nat × va_E) ∧ h' na = some ((b, Sum.inl (cO, cp, Sum.inr (Sum.inr (Sum.inr (Sum.inr (va_up g c0 (some x))))))) : Nat × va_E))))) 0 0 (va_A ws sz) := by
  refine gx_ofW (cc := b_Al_add1) (maxL := 4) (ret := none) (by decide) rfl ?_
  intro p e s m args below meth c s₁ B hml hv
  obtain ⟨rfl, hsz, hz, hP, hK, hD0, hY⟩ := hv
  have hx := B.exec
  have hb := B.bytes
  have hr := B.returns
  have hts := hY.hts (#[Value.ref a, Value.ref x, Value.ref b, Value.int (nI c0)] : Array Value)
  have hown : s.vm.findClass "java/util/ArrayList" = some m.cls := findClass_of_methodNamed B.named
  have hlocks := B.notSynchronized
  have hne : c.exceptionTable.isEmpty = true := B.noHandlers (atoms_spec (ws := [Cond.code y_Al_add1 b_Al_add1 4 none]) B.pre _ List.mem_cons_self)
  subst hsz
  have hAz := gx_az hD0 hz
  have hD := hD0.self (sz := s.heap.size)
  have hN := gx_ns hP
  have hA : ∀ q : Nat, s.heap.size ≤ q → va_A ws s.heap.size q := fun q h => Or.inr h
  generalize va_A ws s.heap.size = A at hD hN hA hAz ⊢
  generalize hPQ : (fun (r : Option Value ⊕ String) (h' : gm_M) => (r = Sum.inl none ∧ gm_g h h' [n, na] ∧ h' n = some ((a, Sum.inr (3, [Value.ref b, Value.int (nI (c0 + 1)), Value.int md])) : Nat × va_E) ∧ h' na = some ((b, Sum.inl (cO, cp, Sum.inr (Sum.inr (Sum.inr (Sum.inr (va_up g c0 (some x))))))) : Nat × va_E))) = PQ
  have Z : gz D A s.heap h s.heap [] := ⟨ws, hM, hP, hD, va_S.rf⟩
  clear hP hD hM hD0
  have hU : gm_g h h [n, na] := gm_g.rf
  have hl := lv_entry ([Value.ref a, Value.ref x, Value.ref b, Value.int (nI c0)]) (n := 4) (Nat.le_of_ble_eq_true rfl)
  rw [lg_entry_eq]
  generalize (lg_sl ([Value.ref a, Value.ref x, Value.ref b, Value.int (nI c0)]) ++ List.replicate (4 - (lg_sl ([Value.ref a, Value.ref x, Value.ref b, Value.int (nI c0)])).length) Slot.unset).toArray = ls at hl ⊢
  have hl : lv_has ls 4 [(0, Value.ref a), (1, Value.ref x), (2, Value.ref b), (3, Value.int (nI c0))] := hl
  refine lv_iload_n hx hb d_Al_add1_0 rfl (lv_at hl 3 rfl) ?_
  refine lv_aload_n hx hb d_Al_add1_1 rfl (lv_at hl 2 rfl) ?_
  refine gz_alen (v := nI cp) hx hb hK Z 7 f_na ht7 rfl d_Al_add1_2 ?_
  refine lv_icmp_ne (tgt := 11) hx hb d_Al_add1_3 (by decide) (fun _ => ?_) (fun c9 => absurd c9 (fun e9 => absurd ((nI_eq (by omega) (by omega)).mp e9) (by omega)))
  refine lv_aload_n hx hb d_Al_add1_11 rfl (lv_at hl 2 rfl) ?_
  refine lv_iload_n hx hb d_Al_add1_12 rfl (lv_at hl 3 rfl) ?_
  refine lv_aload_n hx hb d_Al_add1_13 rfl (lv_at hl 1 rfl) ?_
  refine gz_aastE (j := c0) hx hb hts hK Z 7 f_na ht7 (fam x hx9) (hcc) (rfl) (by omega) d_Al_add1_14 (fun H locs Z => ?_)
  obtain ⟨h2, e_h2⟩ : ∃ z9 : gm_M, z9 = gm_up h na ((b, Sum.inl (cO, cp, Sum.inr (Sum.inr (Sum.inr (Sum.inr (va_up g c0 (some x))))))) : Nat × va_E) := ⟨_, rfl⟩
  replace Z : gz D A s.heap h2 H locs := by rw [e_h2]; exact Z
  have f_na_h2 : h2 na = some ((b, Sum.inl (cO, cp, Sum.inr (Sum.inr (Sum.inr (Sum.inr (va_up g c0 (some x))))))) : Nat × va_E) := by rw [e_h2]; exact gm_self
  replace hU : gm_g h h2 [n, na] := by rw [e_h2]; exact hU.put (by simp)
  refine lv_aload_n hx hb d_Al_add1_15 rfl (lv_at hl 0 rfl) ?_
  refine lv_iload_n hx hb d_Al_add1_16 rfl (lv_at hl 3 rfl) ?_
  refine lv_iconst (v := 1) hx hb d_Al_add1_17 (by decide) ?_
  refine lv_iadd hx hb d_Al_add1_18 ?_
  refine gx_topi (y := nI (c0 + 1)) (nI_1 _) ?_
  have f_n_h2 : h2 n = some ((a, Sum.inr (3, [Value.ref b, Value.int (nI c0), Value.int md])) : Nat × va_E) := by rw [e_h2]; exact gm_at f_n (by omega)
  refine gz_put (ci := 3) (v := Value.int (nI (c0 + 1))) (ty := .int) (C := "java/util/ArrayList") (T := F_Al) (N := 3) hx hb hts i_Al t_Al_ok n_Al hown hK Z f_n_h2 rfl 1 (by decide) kf_Al_48 rfl (by decide +kernel) rfl rfl (Nat.le_of_ble_eq_true rfl) d_Al_add1_19 (fun H locs Z => ?_)
  obtain ⟨h3, e_h3⟩ : ∃ z9 : gm_M, z9 = gm_up h2 n ((a, Sum.inr (3, [Value.ref b, Value.int (nI (c0 + 1)), Value.int md])) : Nat × va_E) := ⟨_, rfl⟩
  replace Z : gz D A s.heap h3 H locs := by rw [e_h3]; exact Z
  have f_n_h3 : h3 n = some ((a, Sum.inr (3, [Value.ref b, Value.int (nI (c0 + 1)), Value.int md])) : Nat × va_E) := by rw [e_h3]; exact gm_self
  replace hU : gm_g h h3 [n, na] := by rw [e_h3]; exact hU.put (by simp)
  have f_na_h3 : h3 na = some ((b, Sum.inl (cO, cp, Sum.inr (Sum.inr (Sum.inr (Sum.inr (va_up g c0 (some x))))))) : Nat × va_E) := by rw [e_h3]; exact gm_at f_na_h2 (by omega)
  exact gz_vret hx hb hr hlocks hK Z (by decide) (by decide) (by rw [← hPQ]; exact ⟨rfl, hU, f_n_h3, f_na_h3⟩) d_Al_add1_22

set_option maxHeartbeats 4000000 in
set_option maxRecDepth 100000 in
theorem k_Al_add0 (l : Launch) (htr : l.stackTraces = false) (D : va_G) (tys : List (ClassId × FieldType)) (z sz : Nat) (ws : va_W) (h : gm_M) (hM : gm_S h ws) (cO : ClassId) (n : Nat) (a : Nat) (na : Nat) (b : Nat) (c0 : Nat) (cp : Nat) (md : Int32) (g : Nat → Option Nat) (x : Nat) (P : Nat → Prop) (F : Nat → Nat → Nat) (f_n : h n = some ((a, Sum.inr (3, [Value.ref b, Value.int (nI c0), Value.int md])) : Nat × va_E)) (f_na : h na = some ((b, Sum.inl (cO, cp, Sum.inr (Sum.inr (Sum.inr (Sum.inr g))))) : Nat × va_E)) (ht7 : tys[7]? = some ((cO, FieldType.object "java/lang/Object") : ClassId × FieldType)) (fam : gf_F P F h) (hnn : n ≠ na) (hn9 : n < 1000) (hna : na < 1000) (hcp : cp ≤ 200000) (hcc : c0 < cp) (hx9 : P x) : gx_Met l y_Al_add0 [Cond.code y_Al_add0 b_Al_add0 2 (some .boolean)] { frames := 2, cells := 0, slots := 0, locals := 35 } (gx_P z sz D classes tys ws [Value.ref a, Value.ref x]) (gx_Q D classes tys (va_A ws sz) (gm_p (fun r h' => (r = Sum.inl (some (Value.int 1)) ∧ gm_g h h' [n, na] ∧ h' n = some ((a, Sum.inr (3, [Value.ref b, Value.int (nI (c0 + 1)), Value.int (md + 1)])) : Nat × va_E) ∧ h' na = some ((b, Sum.inl (cO, cp, Sum.inr (Sum.inr (Sum.inr (Sum.inr (va_up g c0 (some x))))))) : Nat × va_E))))) 0 0 (va_A ws sz) := by
  refine gx_ofW (cc := b_Al_add0) (maxL := 2) (ret := (some .boolean)) (by decide) rfl ?_
  intro p e s m args below meth c s₁ B hml hv
  obtain ⟨rfl, hsz, hz, hP, hK, hD0, hY⟩ := hv
  have hx := B.exec
  have hb := B.bytes
  have hr := B.returns
  have hts := hY.hts (#[Value.ref a, Value.ref x] : Array Value)
  have hown : s.vm.findClass "java/util/ArrayList" = some m.cls := findClass_of_methodNamed B.named
  have hlocks := B.notSynchronized
  have hne : c.exceptionTable.isEmpty = true := B.noHandlers (atoms_spec (ws := [Cond.code y_Al_add0 b_Al_add0 2 (some .boolean)]) B.pre _ List.mem_cons_self)
  subst hsz
  have hAz := gx_az hD0 hz
  have hD := hD0.self (sz := s.heap.size)
  have hN := gx_ns hP
  have hA : ∀ q : Nat, s.heap.size ≤ q → va_A ws s.heap.size q := fun q h => Or.inr h
  generalize va_A ws s.heap.size = A at hD hN hA hAz ⊢
  generalize hPQ : (fun (r : Option Value ⊕ String) (h' : gm_M) => (r = Sum.inl (some (Value.int 1)) ∧ gm_g h h' [n, na] ∧ h' n = some ((a, Sum.inr (3, [Value.ref b, Value.int (nI (c0 + 1)), Value.int (md + 1)])) : Nat × va_E) ∧ h' na = some ((b, Sum.inl (cO, cp, Sum.inr (Sum.inr (Sum.inr (Sum.inr (va_up g c0 (some x))))))) : Nat × va_E))) = PQ
  have Z : gz D A s.heap h s.heap [] := ⟨ws, hM, hP, hD, va_S.rf⟩
  clear hP hD hM hD0
  have hU : gm_g h h [n, na] := gm_g.rf
  have hl := lv_entry ([Value.ref a, Value.ref x]) (n := 2) (Nat.le_of_ble_eq_true rfl)
  rw [lg_entry_eq]
  generalize (lg_sl ([Value.ref a, Value.ref x]) ++ List.replicate (2 - (lg_sl ([Value.ref a, Value.ref x])).length) Slot.unset).toArray = ls at hl ⊢
  have hl : lv_has ls 2 [(0, Value.ref a), (1, Value.ref x)] := hl
  refine lv_aload_n hx hb d_Al_add0_0 rfl (lv_at hl 0 rfl) ?_
  refine lv_dup hx hb d_Al_add0_1 rfl ?_
  refine gz_getR (ci := 3) (v := Value.int md) (C := "java/util/ArrayList") (T := F_Al) (N := 3) hx hb hts i_Al hown hK Z f_n rfl 2 (by decide) kf_Al_63 kW_mod rfl d_Al_add0_2 ?_
  refine lv_iconst (v := 1) hx hb d_Al_add0_5 (by decide) ?_
  refine lv_iadd hx hb d_Al_add0_6 ?_
  refine gz_putR (ci := 3) (v := Value.int (md + 1)) (ty := .int) (C := "java/util/ArrayList") (T := F_Al) (N := 3) hx hb hts i_Al t_Al_ok n_Al hown hK Z f_n rfl 2 (by decide) kf_Al_63 kW_mod rfl (by decide +kernel) rfl rfl (Nat.le_of_ble_eq_true rfl) d_Al_add0_7 (fun H locs Z => ?_)
  obtain ⟨h1, e_h1⟩ : ∃ z9 : gm_M, z9 = gm_up h n ((a, Sum.inr (3, [Value.ref b, Value.int (nI c0), Value.int (md + 1)])) : Nat × va_E) := ⟨_, rfl⟩
  replace Z : gz D A s.heap h1 H locs := by rw [e_h1]; exact Z
  have f_n_h1 : h1 n = some ((a, Sum.inr (3, [Value.ref b, Value.int (nI c0), Value.int (md + 1)])) : Nat × va_E) := by rw [e_h1]; exact gm_self
  replace hU : gm_g h h1 [n, na] := by rw [e_h1]; exact hU.put (by simp)
  refine lv_aload_n hx hb d_Al_add0_10 rfl (lv_at hl 0 rfl) ?_
  refine lv_aload_n hx hb d_Al_add0_11 rfl (lv_at hl 1 rfl) ?_
  refine lv_aload_n hx hb d_Al_add0_12 rfl (lv_at hl 0 rfl) ?_
  refine gz_get (ci := 3) (v := Value.ref b) (C := "java/util/ArrayList") (T := F_Al) (N := 3) hx hb hts i_Al hown hK Z f_n_h1 rfl 0 (by decide) kf_Al_9 rfl d_Al_add0_13 ?_
  refine lv_aload_n hx hb d_Al_add0_16 rfl (lv_at hl 0 rfl) ?_
  refine gz_get (ci := 3) (v := Value.int (nI c0)) (C := "java/util/ArrayList") (T := F_Al) (N := 3) hx hb hts i_Al hown hK Z f_n_h1 rfl 1 (by decide) kf_Al_48 rfl d_Al_add0_17 ?_
  have f_na_h1 : h1 na = some ((b, Sum.inl (cO, cp, Sum.inr (Sum.inr (Sum.inr (Sum.inr g))))) : Nat × va_E) := by rw [e_h1]; exact gm_at f_na (by omega)
  have fam_h1 : gf_F P F h1 := by rw [e_h1]; exact gf_off fam (by omega)
  refine gz_call (ig := .invokevirtual 131) (av := [Value.ref a, Value.ref x, Value.ref b, Value.int (nI c0)]) Z (fun ws hM => k_Al_add1 l htr D tys z _ ws h1 hM cO n a na b c0 cp (md + 1) g x P F f_n_h1 f_na_h1 ht7 fam_h1 hnn hn9 hna hcp hcc hx9) (gx_invV (As := [Value.ref x, Value.ref b, Value.int (nI c0)]) (rest := []) hx hb hown hts km_Al_131 kI_Al_add1 kV_Al_add1 kc_Al_add1 (by decide) (show (parseMethodDescriptor y_Al_add1.desc).map (fun d => d.parameters.length) = some 3 by decide +kernel) (gz_recv (ci := 3) hK Z rfl f_n_h1) rfl rfl d_Al_add0_20) (gx_cw (z := 0) hts kc_Al_add1 kN_Al rfl rfl ⟨Nat.le_of_ble_eq_true rfl, Nat.le_of_ble_eq_true rfl⟩) hb hml hz hK hY hAz hA hl.1 (lv_room (Nat.le_of_ble_eq_true rfl)) d_Al_add0_20 ⟨Nat.le_of_ble_eq_true rfl, Nat.le_of_ble_eq_true rfl⟩ (fun v2 h3 H locs hp Z => ?_) (fun x2 E9 ce h3 H locs hp hce Z => ?_)
  · rcases hp with ⟨hv9, e_h3, f_n_h3, f_na_h3⟩
    cases hv9
    have f_n_h3 : h3 n = some ((a, Sum.inr (3, [Value.ref b, Value.int (nI (c0 + 1)), Value.int (md + 1)])) : Nat × va_E) := f_n_h3
    have f_na_h3 : h3 na = some ((b, Sum.inl (cO, cp, Sum.inr (Sum.inr (Sum.inr (Sum.inr (va_up g c0 (some x))))))) : Nat × va_E) := f_na_h3
    replace hU : gm_g h h3 [n, na] := hU.call e_h3 (by first | decide | (simp; done) | (simp; omega))
    refine W.eq (g2 := F0 m 23 ls []) rfl ?_
    refine lv_iconst (v := 1) hx hb d_Al_add0_23 (by decide) ?_
    exact gz_zret (v := 1) hx hb hr hlocks hK Z (by decide) (by decide) (rfl) (by rw [← hPQ]; exact ⟨rfl, hU, f_n_h3, f_na_h3⟩) d_Al_add0_24
  · rcases hp with ⟨hv9, e_h3, f_n_h3, f_na_h3⟩
    cases hv9

set_option maxHeartbeats 4000000 in
set_option maxRecDepth 100000 in
theorem k_Al_grow1_E (l : Launch) (htr : l.stackTraces = false) (D : va_G) (tys : List (ClassId × FieldType)) (z sz : Nat) (ws : va_W) (h : gm_M) (hM : gm_S h ws) (cO : ClassId) (n : Nat) (a : Nat) (na : Nat) (md : Int32) (f_n : h n = some ((a, Sum.inr (3, [Value.ref (gx_av D), Value.int 0, Value.int md])) : Nat × va_E)) (ht7 : tys[7]? = some ((cO, FieldType.object "java/lang/Object") : ClassId × FieldType)) (hnn : n ≠ na) (hn9 : n < 1000) (hna : na < 1000) : gx_Met l y_Al_grow1 [Cond.code y_Al_grow1 b_Al_grow1 4 (some (.array (.object "java/lang/Object")))] { frames := 1, cells := 1, slots := 10, locals := 24 } (gx_P z sz D classes tys ws [Value.ref a, Value.int 1]) (gx_Q D classes tys (va_A ws sz) (gm_p (fun r h' => (∃ q9 : Nat, r = Sum.inl (some (Value.ref q9)) ∧ gm_g h h' [n, na] ∧ h' n = some ((a, Sum.inr (3, [Value.ref q9, Value.int 0, Value.int md])) : Nat × va_E) ∧ h' na = some ((q9, Sum.inl (cO, 10, Sum.inr (Sum.inr (Sum.inr (Sum.inr (fun _ => none)))))) : Nat × va_E))))) 1 10 (va_A ws sz) := by
  refine gx_ofW (cc := b_Al_grow1) (maxL := 4) (ret := (some (.array (.object "java/lang/Object")))) (by decide) rfl ?_
  intro p e s m args below meth c s₁ B hml hv
  obtain ⟨rfl, hsz, hz, hP, hK, hD0, hY⟩ := hv
  have hx := B.exec
  have hb := B.bytes
  have hr := B.returns
  have hts := hY.hts (#[Value.ref a, Value.int 1] : Array Value)
  have hown : s.vm.findClass "java/util/ArrayList" = some m.cls := findClass_of_methodNamed B.named
  have hlocks := B.notSynchronized
  have hne : c.exceptionTable.isEmpty = true := B.noHandlers (atoms_spec (ws := [Cond.code y_Al_grow1 b_Al_grow1 4 (some (.array (.object "java/lang/Object")))]) B.pre _ List.mem_cons_self)
  subst hsz
  have hAz := gx_az hD0 hz
  have hD := hD0.self (sz := s.heap.size)
  have hN := gx_ns hP
  have hA : ∀ q : Nat, s.heap.size ≤ q → va_A ws s.heap.size q := fun q h => Or.inr h
  generalize va_A ws s.heap.size = A at hD hN hA hAz ⊢
  generalize hPQ : (fun (r : Option Value ⊕ String) (h' : gm_M) => (∃ q9 : Nat, r = Sum.inl (some (Value.ref q9)) ∧ gm_g h h' [n, na] ∧ h' n = some ((a, Sum.inr (3, [Value.ref q9, Value.int 0, Value.int md])) : Nat × va_E) ∧ h' na = some ((q9, Sum.inl (cO, 10, Sum.inr (Sum.inr (Sum.inr (Sum.inr (fun _ => none)))))) : Nat × va_E))) = PQ
  have Z : gz D A s.heap h s.heap [] := ⟨ws, hM, hP, hD, va_S.rf⟩
  clear hP hD hM hD0
  have hU : gm_g h h [n, na] := gm_g.rf
  have hl := lv_entry ([Value.ref a, Value.int 1]) (n := 4) (Nat.le_of_ble_eq_true rfl)
  rw [lg_entry_eq]
  generalize (lg_sl ([Value.ref a, Value.int 1]) ++ List.replicate (4 - (lg_sl ([Value.ref a, Value.int 1])).length) Slot.unset).toArray = ls at hl ⊢
  have hl : lv_has ls 4 [(0, Value.ref a), (1, Value.int 1)] := hl
  refine lv_aload_n hx hb d_Al_grow1_0 rfl (lv_at hl 0 rfl) ?_
  refine gz_get (ci := 3) (v := Value.ref (gx_av D)) (C := "java/util/ArrayList") (T := F_Al) (N := 3) hx hb hts i_Al hown hK Z f_n rfl 0 (by decide) kf_Al_9 rfl d_Al_grow1_1 ?_
  refine gz_alenE hx hb hY hz hAz Z d_Al_grow1_4 ?_
  refine lv_istore_n (lv' := [(2, Value.int 0), (0, Value.ref a), (1, Value.int 1)]) hx hb d_Al_grow1_5 rfl hl (by decide) rfl (fun ls hl => ?_)
  refine lv_iload_n hx hb d_Al_grow1_6 rfl (lv_at hl 0 rfl) ?_
  refine lv_if_gt (tgt := 20) hx hb d_Al_grow1_7 (by decide) (fun c9 => absurd c9 (by decide)) (fun _ => ?_)
  refine lv_aload_n hx hb d_Al_grow1_10 rfl (lv_at hl 1 rfl) ?_
  refine gz_get (ci := 3) (v := Value.ref (gx_av D)) (C := "java/util/ArrayList") (T := F_Al) (N := 3) hx hb hts i_Al hown hK Z f_n rfl 0 (by decide) kf_Al_9 rfl d_Al_grow1_11 ?_
  refine gz_getsE (D := D) hx hb hts kL_DEFAULTCAPACITY_EMPTY_ELEMENTDATA kN_Al kf_Al_39 hown hN hY Z d_Al_grow1_14 ?_
  refine lv_acmp_eq (rx := some (gx_av D)) (ry := some (gx_av D)) (tgt := 45) hx hb d_Al_grow1_17 (by decide) (fun _ => ?_) (fun c9 => absurd rfl c9)
  refine lv_aload_n hx hb d_Al_grow1_45 rfl (lv_at hl 1 rfl) ?_
  refine lv_bipush (v := 10) hx hb d_Al_grow1_46 (by decide) ?_
  refine lv_iload_n hx hb d_Al_grow1_48 rfl (lv_at hl 2 rfl) ?_
  refine va_mmax (x := 10) (y := 1) hx hb (hml.trans hl.1.symm) hown (hts _ kW_max_Al_79) (hts _ kW_smax) (hts _ kN_Math) (hts _ kW_cmax) (Nat.le_of_ble_eq_true rfl) (Nat.le_of_ble_eq_true rfl) (Nat.le_of_ble_eq_true rfl) (Nat.le_of_ble_eq_true rfl) d_Al_grow1_49 ?_
  refine gx_topi (y := 10) (by decide) ?_
  refine gz_newq na (C := "java/lang/Object") (N' := 10) hx hb hts hown kk_Al_7 kO_Object hK Z hA 7 ht7 (by decide) (by decide) (by decide) (Nat.le_of_ble_eq_true rfl) (Nat.le_of_ble_eq_true rfl) d_Al_grow1_52 (fun q2 H Z => ?_)
  obtain ⟨h3, e_h3⟩ : ∃ z9 : gm_M, z9 = gm_up h na ((q2, Sum.inl (cO, 10, Sum.inr (Sum.inr (Sum.inr (Sum.inr (fun _ => none)))))) : Nat × va_E) := ⟨_, rfl⟩
  replace Z : gz D A s.heap h3 H [] := by rw [e_h3]; exact Z
  have f_na_h3 : h3 na = some ((q2, Sum.inl (cO, 10, Sum.inr (Sum.inr (Sum.inr (Sum.inr (fun _ => none)))))) : Nat × va_E) := by rw [e_h3]; exact gm_self
  replace hU : gm_g h h3 [n, na] := by rw [e_h3]; exact hU.put (by simp)
  refine W.widen (k := 1) (n := 10) (by decide) (by decide) ?_
  refine lv_dup_x1 hx hb d_Al_grow1_55 rfl rfl ?_
  have f_n_h3 : h3 n = some ((a, Sum.inr (3, [Value.ref (gx_av D), Value.int 0, Value.int md])) : Nat × va_E) := by rw [e_h3]; exact gm_at f_n (by omega)
  refine gz_put (ci := 3) (v := Value.ref q2) (ty := .array (.object "java/lang/Object")) (C := "java/util/ArrayList") (T := F_Al) (N := 3) hx hb hts i_Al t_Al_ok n_Al hown hK Z f_n_h3 rfl 0 (by decide) kf_Al_9 rfl (by decide +kernel) rfl rfl (Nat.le_of_ble_eq_true rfl) d_Al_grow1_56 (fun H locs Z => ?_)
  obtain ⟨h4, e_h4⟩ : ∃ z9 : gm_M, z9 = gm_up h3 n ((a, Sum.inr (3, [Value.ref q2, Value.int 0, Value.int md])) : Nat × va_E) := ⟨_, rfl⟩
  replace Z : gz D A s.heap h4 H locs := by rw [e_h4]; exact Z
  have f_n_h4 : h4 n = some ((a, Sum.inr (3, [Value.ref q2, Value.int 0, Value.int md])) : Nat × va_E) := by rw [e_h4]; exact gm_self
  replace hU : gm_g h h4 [n, na] := by rw [e_h4]; exact hU.put (by simp)
  have f_na_h4 : h4 na = some ((q2, Sum.inl (cO, 10, Sum.inr (Sum.inr (Sum.inr (Sum.inr (fun _ => none)))))) : Nat × va_E) := by rw [e_h4]; exact gm_at f_na_h3 (by omega)
  obtain ⟨ws9, hM9, hP9, hD9, hS9⟩ := Z
  exact gx_ret (W.aret (v := Value.ref q2) hx hb hr (Or.inr ⟨_, rfl⟩) (Or.inr ⟨_, rfl⟩) (gx_post hP9 hK hD9 hS9 ⟨h4, hM9, by rw [← hPQ]; exact ⟨q2, rfl, hU, f_n_h4, f_na_h4⟩⟩) hS9.2.2 d_Al_grow1_59)

set_option maxHeartbeats 4000000 in
set_option maxRecDepth 100000 in
theorem k_Al_grow0_E (l : Launch) (htr : l.stackTraces = false) (D : va_G) (tys : List (ClassId × FieldType)) (z sz : Nat) (ws : va_W) (h : gm_M) (hM : gm_S h ws) (cO : ClassId) (n : Nat) (a : Nat) (na : Nat) (md : Int32) (f_n : h n = some ((a, Sum.inr (3, [Value.ref (gx_av D), Value.int 0, Value.int md])) : Nat × va_E)) (ht7 : tys[7]? = some ((cO, FieldType.object "java/lang/Object") : ClassId × FieldType)) (hnn : n ≠ na) (hn9 : n < 1000) (hna : na < 1000) : gx_Met l y_Al_grow0 [Cond.code y_Al_grow0 b_Al_grow0 1 (some (.array (.object "java/lang/Object")))] { frames := 2, cells := 1, slots := 10, locals := 47 } (gx_P z sz D classes tys ws [Value.ref a]) (gx_Q D classes tys (va_A ws sz) (gm_p (fun r h' => (∃ q9 : Nat, r = Sum.inl (some (Value.ref q9)) ∧ gm_g h h' [n, na] ∧ h' n = some ((a, Sum.inr (3, [Value.ref q9, Value.int 0, Value.int md])) : Nat × va_E) ∧ h' na = some ((q9, Sum.inl (cO, 10, Sum.inr (Sum.inr (Sum.inr (Sum.inr (fun _ => none)))))) : Nat × va_E))))) 1 10 (va_A ws sz) := by
  refine gx_ofW (cc := b_Al_grow0) (maxL := 1) (ret := (some (.array (.object "java/lang/Object")))) (by decide) rfl ?_
  intro p e s m args below meth c s₁ B hml hv
  obtain ⟨rfl, hsz, hz, hP, hK, hD0, hY⟩ := hv
  have hx := B.exec
  have hb := B.bytes
  have hr := B.returns
  have hts := hY.hts (#[Value.ref a] : Array Value)
  have hown : s.vm.findClass "java/util/ArrayList" = some m.cls := findClass_of_methodNamed B.named
  have hlocks := B.notSynchronized
  have hne : c.exceptionTable.isEmpty = true := B.noHandlers (atoms_spec (ws := [Cond.code y_Al_grow0 b_Al_grow0 1 (some (.array (.object "java/lang/Object")))]) B.pre _ List.mem_cons_self)
  subst hsz
  have hAz := gx_az hD0 hz
  have hD := hD0.self (sz := s.heap.size)
  have hN := gx_ns hP
  have hA : ∀ q : Nat, s.heap.size ≤ q → va_A ws s.heap.size q := fun q h => Or.inr h
  generalize va_A ws s.heap.size = A at hD hN hA hAz ⊢
  generalize hPQ : (fun (r : Option Value ⊕ String) (h' : gm_M) => (∃ q9 : Nat, r = Sum.inl (some (Value.ref q9)) ∧ gm_g h h' [n, na] ∧ h' n = some ((a, Sum.inr (3, [Value.ref q9, Value.int 0, Value.int md])) : Nat × va_E) ∧ h' na = some ((q9, Sum.inl (cO, 10, Sum.inr (Sum.inr (Sum.inr (Sum.inr (fun _ => none)))))) : Nat × va_E))) = PQ
  have Z : gz D A s.heap h s.heap [] := ⟨ws, hM, hP, hD, va_S.rf⟩
  clear hP hD hM hD0
  have hU : gm_g h h [n, na] := gm_g.rf
  have hl := lv_entry ([Value.ref a]) (n := 1) (Nat.le_of_ble_eq_true rfl)
  rw [lg_entry_eq]
  generalize (lg_sl ([Value.ref a]) ++ List.replicate (1 - (lg_sl ([Value.ref a])).length) Slot.unset).toArray = ls at hl ⊢
  have hl : lv_has ls 1 [(0, Value.ref a)] := hl
  refine lv_aload_n hx hb d_Al_grow0_0 rfl (lv_at hl 0 rfl) ?_
  refine lv_aload_n hx hb d_Al_grow0_1 rfl (lv_at hl 0 rfl) ?_
  refine gz_get (ci := 3) (v := Value.int 0) (C := "java/util/ArrayList") (T := F_Al) (N := 3) hx hb hts i_Al hown hK Z f_n rfl 1 (by decide) kf_Al_48 rfl d_Al_grow0_2 ?_
  refine lv_iconst (v := 1) hx hb d_Al_grow0_5 (by decide) ?_
  refine lv_iadd hx hb d_Al_grow0_6 ?_
  refine gx_topi (y := 1) (by decide) ?_
  refine gz_call (ig := .invokevirtual 69) (av := [Value.ref a, Value.int 1]) Z (fun ws hM => k_Al_grow1_E l htr D tys z _ ws h hM cO n a na md f_n ht7 hnn hn9 hna) (gx_invV (As := [Value.int 1]) (rest := []) hx hb hown hts km_Al_69 kI_Al_grow1 kV_Al_grow1 kc_Al_grow1 (by decide) (show (parseMethodDescriptor y_Al_grow1.desc).map (fun d => d.parameters.length) = some 1 by decide +kernel) (gz_recv (ci := 3) hK Z rfl f_n) rfl rfl d_Al_grow0_7) (gx_cw (z := 0) hts kc_Al_grow1 kN_Al rfl rfl ⟨Nat.le_of_ble_eq_true rfl, Nat.le_of_ble_eq_true rfl⟩) hb hml hz hK hY hAz hA hl.1 (lv_room (Nat.le_of_ble_eq_true rfl)) d_Al_grow0_7 ⟨Nat.le_of_ble_eq_true rfl, Nat.le_of_ble_eq_true rfl⟩ (fun v1 h2 H locs hp Z => ?_) (fun x1 E9 ce h2 H locs hp hce Z => ?_)
  · rcases hp with ⟨q3, hv9, e_h2, f_n_h2, f_na_h2⟩
    cases hv9
    have f_n_h2 : h2 n = some ((a, Sum.inr (3, [Value.ref q3, Value.int 0, Value.int md])) : Nat × va_E) := f_n_h2
    have f_na_h2 : h2 na = some ((q3, Sum.inl (cO, 10, Sum.inr (Sum.inr (Sum.inr (Sum.inr (fun _ => none)))))) : Nat × va_E) := f_na_h2
    replace hU : gm_g h h2 [n, na] := hU.call e_h2 (by first | decide | (simp; done) | (simp; omega))
    refine W.eq (g2 := F0 m 10 ls [Value.ref q3]) rfl ?_
    refine W.widen (k := 1) (n := 10) (by decide) (by decide) ?_
    obtain ⟨ws9, hM9, hP9, hD9, hS9⟩ := Z
    exact gx_ret (W.aret (v := Value.ref q3) hx hb hr (Or.inr ⟨_, rfl⟩) (Or.inr ⟨_, rfl⟩) (gx_post hP9 hK hD9 hS9 ⟨h2, hM9, by rw [← hPQ]; exact ⟨q3, rfl, hU, f_n_h2, f_na_h2⟩⟩) hS9.2.2 d_Al_grow0_10)
  · rcases hp with ⟨q4, hv9, e_h2, f_n_h2, f_na_h2⟩
    cases hv9

set_option maxHeartbeats 4000000 in
set_option maxRecDepth 100000 in
theorem k_Al_add1_E (l : Launch) (htr : l.stackTraces = false) (D : va_G) (tys : List (ClassId × FieldType)) (z sz : Nat) (ws : va_W) (h : gm_M) (hM : gm_S h ws) (cO : ClassId) (n : Nat) (a : Nat) (na : Nat) (md : Int32) (x : Nat) (P : Nat → Prop) (F : Nat → Nat → Nat) (f_n : h n = some ((a, Sum.inr (3, [Value.ref (gx_av D), Value.int 0, Value.int md])) : Nat × va_E)) (ht7 : tys[7]? = some ((cO, FieldType.object "java/lang/Object") : ClassId × FieldType)) (fam : gf_F P F h) (hnn : n ≠ na) (hn9 : n < 1000) (hna : na < 1000) (hx9 : P x) : gx_Met l y_Al_add1 [Cond.code y_Al_add1 b_Al_add1 4 none] { frames := 3, cells := 1, slots := 10, locals := 67 } (gx_P z sz D classes tys ws [Value.ref a, Value.ref x, Value.ref (gx_av D), Value.int 0]) (gx_Q D classes tys (va_A ws sz) (gm_p (fun r h' => (∃ q9 : Nat, r = Sum.inl none ∧ gm_g h h' [n, na] ∧ h' n = some ((a, Sum.inr (3, [Value.ref q9, Value.int 1, Value.int md])) : Nat × va_E) ∧ h' na = some ((q9, Sum.inl (cO, 10, Sum.inr (Sum.inr (Sum.inr (Sum.inr (va_up (fun _ => none) 0 (some x))))))) : Nat × va_E))))) 1 10 (va_A ws sz) := by
  refine gx_ofW (cc := b_Al_add1) (maxL := 4) (ret := none) (by decide) rfl ?_
  intro p e s m args below meth c s₁ B hml hv
  obtain ⟨rfl, hsz, hz, hP, hK, hD0, hY⟩ := hv
  have hx := B.exec
  have hb := B.bytes
  have hr := B.returns
  have hts := hY.hts (#[Value.ref a, Value.ref x, Value.ref (gx_av D), Value.int 0] : Array Value)
  have hown : s.vm.findClass "java/util/ArrayList" = some m.cls := findClass_of_methodNamed B.named
  have hlocks := B.notSynchronized
  have hne : c.exceptionTable.isEmpty = true := B.noHandlers (atoms_spec (ws := [Cond.code y_Al_add1 b_Al_add1 4 none]) B.pre _ List.mem_cons_self)
  subst hsz
  have hAz := gx_az hD0 hz
  have hD := hD0.self (sz := s.heap.size)
  have hN := gx_ns hP
  have hA : ∀ q : Nat, s.heap.size ≤ q → va_A ws s.heap.size q := fun q h => Or.inr h
  generalize va_A ws s.heap.size = A at hD hN hA hAz ⊢
  generalize hPQ : (fun (r : Option Value ⊕ String) (h' : gm_M) => (∃ q9 : Nat, r = Sum.inl none ∧ gm_g h h' [n, na] ∧ h' n = some ((a, Sum.inr (3, [Value.ref q9, Value.int 1, Value.int md])) : Nat × va_E) ∧ h' na = some ((q9, Sum.inl (cO, 10, Sum.inr (Sum.inr (Sum.inr (Sum.inr (va_up (fun _ => none) 0 (some x))))))) : Nat × va_E))) = PQ
  have Z : gz D A s.heap h s.heap [] := ⟨ws, hM, hP, hD, va_S.rf⟩
  clear hP hD hM hD0
  have hU : gm_g h h [n, na] := gm_g.rf
  have hl := lv_entry ([Value.ref a, Value.ref x, Value.ref (gx_av D), Value.int 0]) (n := 4) (Nat.le_of_ble_eq_true rfl)
  rw [lg_entry_eq]
  generalize (lg_sl ([Value.ref a, Value.ref x, Value.ref (gx_av D), Value.int 0]) ++ List.replicate (4 - (lg_sl ([Value.ref a, Value.ref x, Value.ref (gx_av D), Value.int 0])).length) Slot.unset).toArray = ls at hl ⊢
  have hl : lv_has ls 4 [(0, Value.ref a), (1, Value.ref x), (2, Value.ref (gx_av D)), (3, Value.int 0)] := hl
  refine lv_iload_n hx hb d_Al_add1_0 rfl (lv_at hl 3 rfl) ?_
  refine lv_aload_n hx hb d_Al_add1_1 rfl (lv_at hl 2 rfl) ?_
  refine gz_alenE hx hb hY hz hAz Z d_Al_add1_2 ?_
  refine lv_icmp_ne (tgt := 11) hx hb d_Al_add1_3 (by decide) (fun c9 => absurd (by decide) c9) (fun _ => ?_)
  refine lv_aload_n hx hb d_Al_add1_6 rfl (lv_at hl 0 rfl) ?_
  refine gz_call (ig := .invokevirtual 129) (av := [Value.ref a]) Z (fun ws hM => k_Al_grow0_E l htr D tys z _ ws h hM cO n a na md f_n ht7 hnn hn9 hna) (gx_invV (As := []) (rest := []) hx hb hown hts km_Al_129 kI_Al_grow0 kV_Al_grow0 kc_Al_grow0 (by decide) (show (parseMethodDescriptor y_Al_grow0.desc).map (fun d => d.parameters.length) = some 0 by decide +kernel) (gz_recv (ci := 3) hK Z rfl f_n) rfl rfl d_Al_add1_7) (gx_cw (z := 0) hts kc_Al_grow0 kN_Al rfl rfl ⟨Nat.le_of_ble_eq_true rfl, Nat.le_of_ble_eq_true rfl⟩) hb hml hz hK hY hAz hA hl.1 (lv_room (Nat.le_of_ble_eq_true rfl)) d_Al_add1_7 ⟨Nat.le_of_ble_eq_true rfl, Nat.le_of_ble_eq_true rfl⟩ (fun v1 h2 H locs hp Z => ?_) (fun x1 E9 ce h2 H locs hp hce Z => ?_)
  · rcases hp with ⟨q3, hv9, e_h2, f_n_h2, f_na_h2⟩
    cases hv9
    have f_n_h2 : h2 n = some ((a, Sum.inr (3, [Value.ref q3, Value.int 0, Value.int md])) : Nat × va_E) := f_n_h2
    have f_na_h2 : h2 na = some ((q3, Sum.inl (cO, 10, Sum.inr (Sum.inr (Sum.inr (Sum.inr (fun _ => none)))))) : Nat × va_E) := f_na_h2
    replace hU : gm_g h h2 [n, na] := hU.call e_h2 (by first | decide | (simp; done) | (simp; omega))
    refine W.eq (g2 := F0 m 10 ls [Value.ref q3]) rfl ?_
    refine W.widen (k := 1) (n := 10) (by decide) (by decide) ?_
    refine lv_astore_n (lv' := [(2, Value.ref q3), (0, Value.ref a), (1, Value.ref x), (3, Value.int 0)]) hx hb d_Al_add1_10 rfl hl (by decide) rfl (fun ls hl => ?_)
    refine lv_aload_n hx hb d_Al_add1_11 rfl (lv_at hl 0 rfl) ?_
    refine lv_iload_n hx hb d_Al_add1_12 rfl (lv_at hl 3 rfl) ?_
    refine lv_aload_n hx hb d_Al_add1_13 rfl (lv_at hl 2 rfl) ?_
    have fam_h2 : gf_F P F h2 := gf_call fam e_h2 (by first | decide | (simp; done) | (simp; omega))
    refine gz_aastE (j := 0) hx hb hts hK Z 7 f_na_h2 ht7 (fam_h2 x hx9) (by decide) (by decide) (by omega) d_Al_add1_14 (fun H locs Z => ?_)
    obtain ⟨h4, e_h4⟩ : ∃ z9 : gm_M, z9 = gm_up h2 na ((q3, Sum.inl (cO, 10, Sum.inr (Sum.inr (Sum.inr (Sum.inr (va_up (fun _ => none) 0 (some x))))))) : Nat × va_E) := ⟨_, rfl⟩
    replace Z : gz D A s.heap h4 H locs := by rw [e_h4]; exact Z
    have f_na_h4 : h4 na = some ((q3, Sum.inl (cO, 10, Sum.inr (Sum.inr (Sum.inr (Sum.inr (va_up (fun _ => none) 0 (some x))))))) : Nat × va_E) := by rw [e_h4]; exact gm_self
    replace hU : gm_g h h4 [n, na] := by rw [e_h4]; exact hU.put (by simp)
    refine lv_aload_n hx hb d_Al_add1_15 rfl (lv_at hl 1 rfl) ?_
    refine lv_iload_n hx hb d_Al_add1_16 rfl (lv_at hl 3 rfl) ?_
    refine lv_iconst (v := 1) hx hb d_Al_add1_17 (by decide) ?_
    refine lv_iadd hx hb d_Al_add1_18 ?_
    refine gx_topi (y := 1) (by decide) ?_
    have f_n_h4 : h4 n = some ((a, Sum.inr (3, [Value.ref q3, Value.int 0, Value.int md])) : Nat × va_E) := by rw [e_h4]; exact gm_at f_n_h2 (by omega)
    refine gz_put (ci := 3) (v := Value.int 1) (ty := .int) (C := "java/util/ArrayList") (T := F_Al) (N := 3) hx hb hts i_Al t_Al_ok n_Al hown hK Z f_n_h4 rfl 1 (by decide) kf_Al_48 rfl (by decide +kernel) rfl rfl (Nat.le_of_ble_eq_true rfl) d_Al_add1_19 (fun H locs Z => ?_)
    obtain ⟨h5, e_h5⟩ : ∃ z9 : gm_M, z9 = gm_up h4 n ((a, Sum.inr (3, [Value.ref q3, Value.int 1, Value.int md])) : Nat × va_E) := ⟨_, rfl⟩
    replace Z : gz D A s.heap h5 H locs := by rw [e_h5]; exact Z
    have f_n_h5 : h5 n = some ((a, Sum.inr (3, [Value.ref q3, Value.int 1, Value.int md])) : Nat × va_E) := by rw [e_h5]; exact gm_self
    replace hU : gm_g h h5 [n, na] := by rw [e_h5]; exact hU.put (by simp)
    have f_na_h5 : h5 na = some ((q3, Sum.inl (cO, 10, Sum.inr (Sum.inr (Sum.inr (Sum.inr (va_up (fun _ => none) 0 (some x))))))) : Nat × va_E) := by rw [e_h5]; exact gm_at f_na_h4 (by omega)
    exact gz_vret hx hb hr hlocks hK Z (by decide) (by decide) (by rw [← hPQ]; exact ⟨q3, rfl, hU, f_n_h5, f_na_h5⟩) d_Al_add1_22
  · rcases hp with ⟨q6, hv9, e_h2, f_n_h2, f_na_h2⟩
    cases hv9

set_option maxHeartbeats 4000000 in
set_option maxRecDepth 100000 in
theorem k_Al_add0_E (l : Launch) (htr : l.stackTraces = false) (D : va_G) (tys : List (ClassId × FieldType)) (z sz : Nat) (ws : va_W) (h : gm_M) (hM : gm_S h ws) (cO : ClassId) (n : Nat) (a : Nat) (na : Nat) (md : Int32) (x : Nat) (P : Nat → Prop) (F : Nat → Nat → Nat) (f_n : h n = some ((a, Sum.inr (3, [Value.ref (gx_av D), Value.int 0, Value.int md])) : Nat × va_E)) (ht7 : tys[7]? = some ((cO, FieldType.object "java/lang/Object") : ClassId × FieldType)) (fam : gf_F P F h) (hnn : n ≠ na) (hn9 : n < 1000) (hna : na < 1000) (hx9 : P x) : gx_Met l y_Al_add0 [Cond.code y_Al_add0 b_Al_add0 2 (some .boolean)] { frames := 4, cells := 1, slots := 10, locals := 90 } (gx_P z sz D classes tys ws [Value.ref a, Value.ref x]) (gx_Q D classes tys (va_A ws sz) (gm_p (fun r h' => (∃ q9 : Nat, r = Sum.inl (some (Value.int 1)) ∧ gm_g h h' [n, na] ∧ h' n = some ((a, Sum.inr (3, [Value.ref q9, Value.int 1, Value.int (md + 1)])) : Nat × va_E) ∧ h' na = some ((q9, Sum.inl (cO, 10, Sum.inr (Sum.inr (Sum.inr (Sum.inr (va_up (fun _ => none) 0 (some x))))))) : Nat × va_E))))) 1 10 (va_A ws sz) := by
  refine gx_ofW (cc := b_Al_add0) (maxL := 2) (ret := (some .boolean)) (by decide) rfl ?_
  intro p e s m args below meth c s₁ B hml hv
  obtain ⟨rfl, hsz, hz, hP, hK, hD0, hY⟩ := hv
  have hx := B.exec
  have hb := B.bytes
  have hr := B.returns
  have hts := hY.hts (#[Value.ref a, Value.ref x] : Array Value)
  have hown : s.vm.findClass "java/util/ArrayList" = some m.cls := findClass_of_methodNamed B.named
  have hlocks := B.notSynchronized
  have hne : c.exceptionTable.isEmpty = true := B.noHandlers (atoms_spec (ws := [Cond.code y_Al_add0 b_Al_add0 2 (some .boolean)]) B.pre _ List.mem_cons_self)
  subst hsz
  have hAz := gx_az hD0 hz
  have hD := hD0.self (sz := s.heap.size)
  have hN := gx_ns hP
  have hA : ∀ q : Nat, s.heap.size ≤ q → va_A ws s.heap.size q := fun q h => Or.inr h
  generalize va_A ws s.heap.size = A at hD hN hA hAz ⊢
  generalize hPQ : (fun (r : Option Value ⊕ String) (h' : gm_M) => (∃ q9 : Nat, r = Sum.inl (some (Value.int 1)) ∧ gm_g h h' [n, na] ∧ h' n = some ((a, Sum.inr (3, [Value.ref q9, Value.int 1, Value.int (md + 1)])) : Nat × va_E) ∧ h' na = some ((q9, Sum.inl (cO, 10, Sum.inr (Sum.inr (Sum.inr (Sum.inr (va_up (fun _ => none) 0 (some x))))))) : Nat × va_E))) = PQ
  have Z : gz D A s.heap h s.heap [] := ⟨ws, hM, hP, hD, va_S.rf⟩
  clear hP hD hM hD0
  have hU : gm_g h h [n, na] := gm_g.rf
  have hl := lv_entry ([Value.ref a, Value.ref x]) (n := 2) (Nat.le_of_ble_eq_true rfl)
  rw [lg_entry_eq]
  generalize (lg_sl ([Value.ref a, Value.ref x]) ++ List.replicate (2 - (lg_sl ([Value.ref a, Value.ref x])).length) Slot.unset).toArray = ls at hl ⊢
  have hl : lv_has ls 2 [(0, Value.ref a), (1, Value.ref x)] := hl
  refine lv_aload_n hx hb d_Al_add0_0 rfl (lv_at hl 0 rfl) ?_
  refine lv_dup hx hb d_Al_add0_1 rfl ?_
  refine gz_getR (ci := 3) (v := Value.int md) (C := "java/util/ArrayList") (T := F_Al) (N := 3) hx hb hts i_Al hown hK Z f_n rfl 2 (by decide) kf_Al_63 kW_mod rfl d_Al_add0_2 ?_
  refine lv_iconst (v := 1) hx hb d_Al_add0_5 (by decide) ?_
  refine lv_iadd hx hb d_Al_add0_6 ?_
  refine gz_putR (ci := 3) (v := Value.int (md + 1)) (ty := .int) (C := "java/util/ArrayList") (T := F_Al) (N := 3) hx hb hts i_Al t_Al_ok n_Al hown hK Z f_n rfl 2 (by decide) kf_Al_63 kW_mod rfl (by decide +kernel) rfl rfl (Nat.le_of_ble_eq_true rfl) d_Al_add0_7 (fun H locs Z => ?_)
  obtain ⟨h1, e_h1⟩ : ∃ z9 : gm_M, z9 = gm_up h n ((a, Sum.inr (3, [Value.ref (gx_av D), Value.int 0, Value.int (md + 1)])) : Nat × va_E) := ⟨_, rfl⟩
  replace Z : gz D A s.heap h1 H locs := by rw [e_h1]; exact Z
  have f_n_h1 : h1 n = some ((a, Sum.inr (3, [Value.ref (gx_av D), Value.int 0, Value.int (md + 1)])) : Nat × va_E) := by rw [e_h1]; exact gm_self
  replace hU : gm_g h h1 [n, na] := by rw [e_h1]; exact hU.put (by simp)
  refine lv_aload_n hx hb d_Al_add0_10 rfl (lv_at hl 0 rfl) ?_
  refine lv_aload_n hx hb d_Al_add0_11 rfl (lv_at hl 1 rfl) ?_
  refine lv_aload_n hx hb d_Al_add0_12 rfl (lv_at hl 0 rfl) ?_
  refine gz_get (ci := 3) (v := Value.ref (gx_av D)) (C := "java/util/ArrayList") (T := F_Al) (N := 3) hx hb hts i_Al hown hK Z f_n_h1 rfl 0 (by decide) kf_Al_9 rfl d_Al_add0_13 ?_
  refine lv_aload_n hx hb d_Al_add0_16 rfl (lv_at hl 0 rfl) ?_
  refine gz_get (ci := 3) (v := Value.int 0) (C := "java/util/ArrayList") (T := F_Al) (N := 3) hx hb hts i_Al hown hK Z f_n_h1 rfl 1 (by decide) kf_Al_48 rfl d_Al_add0_17 ?_
  have fam_h1 : gf_F P F h1 := by rw [e_h1]; exact gf_off fam (by omega)
  refine gz_call (ig := .invokevirtual 131) (av := [Value.ref a, Value.ref x, Value.ref (gx_av D), Value.int 0]) Z (fun ws hM => k_Al_add1_E l htr D tys z _ ws h1 hM cO n a na (md + 1) x P F f_n_h1 ht7 fam_h1 hnn hn9 hna hx9) (gx_invV (As := [Value.ref x, Value.ref (gx_av D), Value.int 0]) (rest := []) hx hb hown hts km_Al_131 kI_Al_add1 kV_Al_add1 kc_Al_add1 (by decide) (show (parseMethodDescriptor y_Al_add1.desc).map (fun d => d.parameters.length) = some 3 by decide +kernel) (gz_recv (ci := 3) hK Z rfl f_n_h1) rfl rfl d_Al_add0_20) (gx_cw (z := 0) hts kc_Al_add1 kN_Al rfl rfl ⟨Nat.le_of_ble_eq_true rfl, Nat.le_of_ble_eq_true rfl⟩) hb hml hz hK hY hAz hA hl.1 (lv_room (Nat.le_of_ble_eq_true rfl)) d_Al_add0_20 ⟨Nat.le_of_ble_eq_true rfl, Nat.le_of_ble_eq_true rfl⟩ (fun v2 h3 H locs hp Z => ?_) (fun x2 E9 ce h3 H locs hp hce Z => ?_)
  · rcases hp with ⟨q4, hv9, e_h3, f_n_h3, f_na_h3⟩
    cases hv9
    have f_n_h3 : h3 n = some ((a, Sum.inr (3, [Value.ref q4, Value.int 1, Value.int (md + 1)])) : Nat × va_E) := f_n_h3
    have f_na_h3 : h3 na = some ((q4, Sum.inl (cO, 10, Sum.inr (Sum.inr (Sum.inr (Sum.inr (va_up (fun _ => none) 0 (some x))))))) : Nat × va_E) := f_na_h3
    replace hU : gm_g h h3 [n, na] := hU.call e_h3 (by first | decide | (simp; done) | (simp; omega))
    refine W.eq (g2 := F0 m 23 ls []) rfl ?_
    refine W.widen (k := 1) (n := 10) (by decide) (by decide) ?_
    refine lv_iconst (v := 1) hx hb d_Al_add0_23 (by decide) ?_
    exact gz_zret (v := 1) hx hb hr hlocks hK Z (by decide) (by decide) (rfl) (by rw [← hPQ]; exact ⟨q4, rfl, hU, f_n_h3, f_na_h3⟩) d_Al_add0_24
  · rcases hp with ⟨q5, hv9, e_h3, f_n_h3, f_na_h3⟩
    cases hv9
