/-! CONTRACT of CommitLedger(), rows printed by an own text program -/
def le_G0 (cI cZ cF cM cR : ClassId) (q : Nat → Nat) (u0 u1 : Value) (ws : va_W) : Prop := ws[0]? = some (((q 0), Sum.inr (0, [Value.ref (q 1), Value.ref (q 5), Value.ref (q 8), Value.ref (q 20), Value.ref (q 25), Value.ref (q 12), Value.ref (q 16), Value.int 0, Value.int 0, Value.int 0, Value.int 16, Value.int 4, Value.int 0, Value.int 0, Value.int 0, Value.int 0, Value.int 0, Value.int (-1)])) : Nat × va_E) ∧ ws[1]? = some (((q 1), Sum.inr (1, [Value.ref (q 2), Value.ref (q 3), Value.ref (q 4), Value.int 0])) : Nat × va_E) ∧ ws[2]? = some (((q 2), Sum.inl (cI, 4096, Sum.inl (fun _ => 0))) : Nat × va_E) ∧ ws[3]? = some (((q 3), Sum.inl (cI, 4096, Sum.inl (fun _ => 0))) : Nat × va_E) ∧ ws[4]? = some (((q 4), Sum.inl (cI, 4096, Sum.inl (fun _ => 0))) : Nat × va_E) ∧ ws[5]? = some (((q 5), Sum.inr (2, [Value.ref (q 6), Value.ref (q 7), Value.int 0, Value.int 0])) : Nat × va_E) ∧ ws[6]? = some (((q 6), Sum.inr (3, [u0, Value.int 0, Value.int 0])) : Nat × va_E) ∧ ws[7]? = some (((q 7), Sum.inr (3, [u1, Value.int 0, Value.int 0])) : Nat × va_E) ∧ ws[8]? = some (((q 8), Sum.inr (4, [Value.ref (q 9), Value.ref (q 10), Value.ref (q 11), Value.null, Value.int 0, Value.int 0])) : Nat × va_E) ∧ ws[9]? = some (((q 9), Sum.inl (cF, 4096, Sum.inr (Sum.inr (Sum.inr (Sum.inr (fun _ => none)))))) : Nat × va_E) ∧ ws[10]? = some (((q 10), Sum.inl (cF, 4096, Sum.inr (Sum.inr (Sum.inr (Sum.inr (fun _ => none)))))) : Nat × va_E) ∧ ws[11]? = some (((q 11), Sum.inl (cZ, 4096, Sum.inl (fun _ => 0))) : Nat × va_E) ∧ ws[12]? = some (((q 12), Sum.inr (4, [Value.ref (q 13), Value.ref (q 14), Value.ref (q 15), Value.null, Value.int 0, Value.int 0])) : Nat × va_E) ∧ ws[13]? = some (((q 13), Sum.inl (cF, 4096, Sum.inr (Sum.inr (Sum.inr (Sum.inr (fun _ => none)))))) : Nat × va_E) ∧ ws[14]? = some (((q 14), Sum.inl (cF, 4096, Sum.inr (Sum.inr (Sum.inr (Sum.inr (fun _ => none)))))) : Nat × va_E) ∧ ws[15]? = some (((q 15), Sum.inl (cZ, 4096, Sum.inl (fun _ => 0))) : Nat × va_E)
theorem le_G0_mono {cI cZ cF cM cR : ClassId} {q : Nat → Nat} {u0 u1 : Value} {ws ws1 : va_W} {j : Nat} (h : gx_g ws ws1 j [46]) (g : le_G0 cI cZ cF cM cR q u0 u1 ws) : le_G0 cI cZ cF cM cR q u0 u1 ws1 := by
  unfold le_G0 at g ⊢
  obtain ⟨f_0, f_1, f_2, f_3, f_4, f_5, f_6, f_7, f_8, f_9, f_10, f_11, f_12, f_13, f_14, f_15⟩ := g
  exact ⟨h.at (by decide) f_0, h.at (by decide) f_1, h.at (by decide) f_2, h.at (by decide) f_3, h.at (by decide) f_4, h.at (by decide) f_5, h.at (by decide) f_6, h.at (by decide) f_7, h.at (by decide) f_8, h.at (by decide) f_9, h.at (by decide) f_10, h.at (by decide) f_11, h.at (by decide) f_12, h.at (by decide) f_13, h.at (by decide) f_14, h.at (by decide) f_15⟩
def le_G1 (cI cZ cF cM cR : ClassId) (q : Nat → Nat) (u0 u1 : Value) (ws : va_W) : Prop := ws[16]? = some (((q 16), Sum.inr (4, [Value.ref (q 17), Value.ref (q 18), Value.ref (q 19), Value.null, Value.int 0, Value.int 0])) : Nat × va_E) ∧ ws[17]? = some (((q 17), Sum.inl (cF, 4096, Sum.inr (Sum.inr (Sum.inr (Sum.inr (fun _ => none)))))) : Nat × va_E) ∧ ws[18]? = some (((q 18), Sum.inl (cF, 4096, Sum.inr (Sum.inr (Sum.inr (Sum.inr (fun _ => none)))))) : Nat × va_E) ∧ ws[19]? = some (((q 19), Sum.inl (cZ, 4096, Sum.inl (fun _ => 0))) : Nat × va_E) ∧ ws[20]? = some (((q 20), Sum.inl (cM, 4, Sum.inr (Sum.inr (Sum.inr (Sum.inr (va_up (va_up (va_up (va_up (fun _ => none) 0 (some (q 21))) 1 (some (q 22))) 2 (some (q 23))) 3 (some (q 24)))))))) : Nat × va_E) ∧ ws[21]? = some (((q 21), Sum.inr (5, [Value.int 0, Value.int 0, Value.int 0, Value.null])) : Nat × va_E) ∧ ws[22]? = some (((q 22), Sum.inr (5, [Value.int 0, Value.int 0, Value.int 0, Value.null])) : Nat × va_E) ∧ ws[23]? = some (((q 23), Sum.inr (5, [Value.int 0, Value.int 0, Value.int 0, Value.null])) : Nat × va_E) ∧ ws[24]? = some (((q 24), Sum.inr (5, [Value.int 0, Value.int 0, Value.int 0, Value.null])) : Nat × va_E) ∧ ws[25]? = some (((q 25), Sum.inl (cR, 4, Sum.inr (Sum.inr (Sum.inr (Sum.inr (va_up (va_up (va_up (va_up (fun _ => none) 0 (some (q 26))) 1 (some (q 31))) 2 (some (q 36))) 3 (some (q 41)))))))) : Nat × va_E) ∧ ws[26]? = some (((q 26), Sum.inr (6, [Value.ref (q 27), Value.int 0, Value.int 0])) : Nat × va_E) ∧ ws[27]? = some (((q 27), Sum.inr (4, [Value.ref (q 28), Value.ref (q 29), Value.ref (q 30), Value.null, Value.int 0, Value.int 0])) : Nat × va_E) ∧ ws[28]? = some (((q 28), Sum.inl (cF, 4096, Sum.inr (Sum.inr (Sum.inr (Sum.inr (fun _ => none)))))) : Nat × va_E) ∧ ws[29]? = some (((q 29), Sum.inl (cF, 4096, Sum.inr (Sum.inr (Sum.inr (Sum.inr (fun _ => none)))))) : Nat × va_E) ∧ ws[30]? = some (((q 30), Sum.inl (cZ, 4096, Sum.inl (fun _ => 0))) : Nat × va_E) ∧ ws[31]? = some (((q 31), Sum.inr (6, [Value.ref (q 32), Value.int 0, Value.int 0])) : Nat × va_E)
theorem le_G1_mono {cI cZ cF cM cR : ClassId} {q : Nat → Nat} {u0 u1 : Value} {ws ws1 : va_W} {j : Nat} (h : gx_g ws ws1 j [46]) (g : le_G1 cI cZ cF cM cR q u0 u1 ws) : le_G1 cI cZ cF cM cR q u0 u1 ws1 := by
  unfold le_G1 at g ⊢
  obtain ⟨f_16, f_17, f_18, f_19, f_20, f_21, f_22, f_23, f_24, f_25, f_26, f_27, f_28, f_29, f_30, f_31⟩ := g
  exact ⟨h.at (by decide) f_16, h.at (by decide) f_17, h.at (by decide) f_18, h.at (by decide) f_19, h.at (by decide) f_20, h.at (by decide) f_21, h.at (by decide) f_22, h.at (by decide) f_23, h.at (by decide) f_24, h.at (by decide) f_25, h.at (by decide) f_26, h.at (by decide) f_27, h.at (by decide) f_28, h.at (by decide) f_29, h.at (by decide) f_30, h.at (by decide) f_31⟩
def le_G2 (cI cZ cF cM cR : ClassId) (q : Nat → Nat) (u0 u1 : Value) (ws : va_W) : Prop := ws[32]? = some (((q 32), Sum.inr (4, [Value.ref (q 33), Value.ref (q 34), Value.ref (q 35), Value.null, Value.int 0, Value.int 0])) : Nat × va_E) ∧ ws[33]? = some (((q 33), Sum.inl (cF, 4096, Sum.inr (Sum.inr (Sum.inr (Sum.inr (fun _ => none)))))) : Nat × va_E) ∧ ws[34]? = some (((q 34), Sum.inl (cF, 4096, Sum.inr (Sum.inr (Sum.inr (Sum.inr (fun _ => none)))))) : Nat × va_E) ∧ ws[35]? = some (((q 35), Sum.inl (cZ, 4096, Sum.inl (fun _ => 0))) : Nat × va_E) ∧ ws[36]? = some (((q 36), Sum.inr (6, [Value.ref (q 37), Value.int 0, Value.int 0])) : Nat × va_E) ∧ ws[37]? = some (((q 37), Sum.inr (4, [Value.ref (q 38), Value.ref (q 39), Value.ref (q 40), Value.null, Value.int 0, Value.int 0])) : Nat × va_E) ∧ ws[38]? = some (((q 38), Sum.inl (cF, 4096, Sum.inr (Sum.inr (Sum.inr (Sum.inr (fun _ => none)))))) : Nat × va_E) ∧ ws[39]? = some (((q 39), Sum.inl (cF, 4096, Sum.inr (Sum.inr (Sum.inr (Sum.inr (fun _ => none)))))) : Nat × va_E) ∧ ws[40]? = some (((q 40), Sum.inl (cZ, 4096, Sum.inl (fun _ => 0))) : Nat × va_E) ∧ ws[41]? = some (((q 41), Sum.inr (6, [Value.ref (q 42), Value.int 0, Value.int 0])) : Nat × va_E) ∧ ws[42]? = some (((q 42), Sum.inr (4, [Value.ref (q 43), Value.ref (q 44), Value.ref (q 45), Value.null, Value.int 0, Value.int 0])) : Nat × va_E) ∧ ws[43]? = some (((q 43), Sum.inl (cF, 4096, Sum.inr (Sum.inr (Sum.inr (Sum.inr (fun _ => none)))))) : Nat × va_E) ∧ ws[44]? = some (((q 44), Sum.inl (cF, 4096, Sum.inr (Sum.inr (Sum.inr (Sum.inr (fun _ => none)))))) : Nat × va_E) ∧ ws[45]? = some (((q 45), Sum.inl (cZ, 4096, Sum.inl (fun _ => 0))) : Nat × va_E)
theorem le_G2_mono {cI cZ cF cM cR : ClassId} {q : Nat → Nat} {u0 u1 : Value} {ws ws1 : va_W} {j : Nat} (h : gx_g ws ws1 j [46]) (g : le_G2 cI cZ cF cM cR q u0 u1 ws) : le_G2 cI cZ cF cM cR q u0 u1 ws1 := by
  unfold le_G2 at g ⊢
  obtain ⟨f_32, f_33, f_34, f_35, f_36, f_37, f_38, f_39, f_40, f_41, f_42, f_43, f_44, f_45⟩ := g
  exact ⟨h.at (by decide) f_32, h.at (by decide) f_33, h.at (by decide) f_34, h.at (by decide) f_35, h.at (by decide) f_36, h.at (by decide) f_37, h.at (by decide) f_38, h.at (by decide) f_39, h.at (by decide) f_40, h.at (by decide) f_41, h.at (by decide) f_42, h.at (by decide) f_43, h.at (by decide) f_44, h.at (by decide) f_45⟩
set_option maxHeartbeats 4000000 in
set_option maxRecDepth 100000 in
theorem c_Le_init (l : Launch) (htr : l.stackTraces = false) (D : va_G) (tys : List (ClassId × FieldType)) (z sz : Nat) (ws : va_W) (cI : ClassId) (cZ : ClassId) (cF : ClassId) (cM : ClassId) (cR : ClassId) (a : Nat) (f_0 : ws[0]? = some ((a, Sum.inr (0, [Value.null, Value.null, Value.null, Value.null, Value.null, Value.null, Value.null, Value.int 0, Value.int 0, Value.int 0, Value.int 0, Value.int 0, Value.int 0, Value.int 0, Value.int 0, Value.int 0, Value.int 0, Value.int 0])) : Nat × va_E)) (ht0 : tys[0]? = some ((cI, FieldType.int) : ClassId × FieldType)) (ht1 : tys[1]? = some ((cZ, FieldType.boolean) : ClassId × FieldType)) (ht2 : tys[2]? = some ((cF, FieldType.object "CommitLedger$LedgerFile") : ClassId × FieldType)) (ht3 : tys[3]? = some ((cM, FieldType.object "CommitLedger$Merge") : ClassId × FieldType)) (ht4 : tys[4]? = some ((cR, FieldType.object "CommitLedger$Reader") : ClassId × FieldType)) (hlen : ws.length = 1) : gx_Met l y_Le_init [Cond.code y_Le_init b_Le_init 2 none] { frames := 5, cells := 45, slots := 200000, locals := 100 } (gx_P z sz D classes tys ws [Value.ref a]) (gx_Q D classes tys (va_A ws sz) (fun r ws' => r = Sum.inl none ∧ gx_g ws ws' 45 [0] ∧ ∃ (q : Nat → Nat) (u0 u1 : Value), q 0 = a ∧ le_G0 cI cZ cF cM cR q u0 u1 ws' ∧ le_G1 cI cZ cF cM cR q u0 u1 ws' ∧ le_G2 cI cZ cF cM cR q u0 u1 ws')) 45 200000 (va_A ws sz) := by
  refine gx_ofW (cc := b_Le_init) (maxL := 2) (ret := none) (by decide) rfl ?_
  intro p e s m args below meth c s₁ B hml hv
  obtain ⟨rfl, hsz, hz, hP, hK, hD0, hY⟩ := hv
  have hx := B.exec
  have hb := B.bytes
  have hr := B.returns
  have hts := hY.hts (#[Value.ref a] : Array Value)
  have hown : s.vm.findClass "CommitLedger" = some m.cls := findClass_of_methodNamed B.named
  have hlocks := B.notSynchronized
  have hin : meth.name = "<init>" := (name_of_methodNamed B.named B.method).1
  have hne : c.exceptionTable.isEmpty = true := B.noHandlers (atoms_spec (ws := [Cond.code y_Le_init b_Le_init 2 none]) B.pre _ List.mem_cons_self)
  subst hsz
  have hAz := gx_az hD0 hz
  have hD := hD0.self (sz := s.heap.size)
  have hN := gx_ns hP
  have hA : ∀ q : Nat, s.heap.size ≤ q → va_A ws s.heap.size q := fun q h => Or.inr h
  generalize va_A ws s.heap.size = A at hD hN hA hAz ⊢
  generalize hPQ : (fun (r : Option Value ⊕ String) (ws' : va_W) => r = Sum.inl none ∧ gx_g ws ws' 45 [0] ∧ ∃ (q : Nat → Nat) (u0 u1 : Value), q 0 = a ∧ le_G0 cI cZ cF cM cR q u0 u1 ws' ∧ le_G1 cI cZ cF cM cR q u0 u1 ws' ∧ le_G2 cI cZ cF cM cR q u0 u1 ws') = PQ
  have hS : va_S A s.heap s.heap [] := va_S.rf
  have hlen0 := hlen
  have hU : gx_g ws ws 0 [0] := gx_g.rf
  have hl := lv_entry ([Value.ref a]) (n := 2) (Nat.le_of_ble_eq_true rfl)
  rw [lg_entry_eq]
  generalize (lg_sl ([Value.ref a]) ++ List.replicate (2 - (lg_sl ([Value.ref a])).length) Slot.unset).toArray = ls at hl ⊢
  have hl : lv_has ls 2 [(0, Value.ref a)] := hl
  refine lv_aload_n hx hb d_Le_init_0 rfl (lv_at hl 0 rfl) ?_
  refine W.objInit hx hb hown (hts _ km_Le_1) (hts _ kI_Object_init) (hts _ kc_Object_init) rfl (by rw [hml]; exact hl.1) rfl d_Le_init_1 (Nat.le_of_ble_eq_true rfl) (Nat.le_of_ble_eq_true rfl) ?_
  refine W.eq (g2 := F0 m 4 ls []) rfl ?_
  refine lv_aload_n hx hb d_Le_init_4 rfl (lv_at hl 0 rfl) ?_
  refine va_new (ci := 1) (fs := [Value.null, Value.null, Value.null, Value.int 0]) (C := "CommitLedger$Entries") (T := F_En) (N := 4) hx hb hts i_En t_En t_En_ok hown (hts _ kk_Le_7) (hts _ kX_En) (hts _ kN_En) hK hP hD hS hA rfl (by decide) (Nat.le_of_ble_eq_true rfl) (Nat.le_of_ble_eq_true rfl) d_Le_init_5 (fun q1 H hP9 hD9 hS9 => ?_)
  obtain ⟨ws2, e_ws2⟩ : ∃ x : va_W, x = ws ++ [((q1, Sum.inr (1, [Value.null, Value.null, Value.null, Value.int 0])) : Nat × va_E)] := ⟨_, rfl⟩
  replace hP : va_P D classes ws2 H := by rw [e_ws2]; exact hP9
  replace hD : va_D A ws2 := by rw [e_ws2]; exact hD9
  replace hS := hS9
  clear hP9 hD9 hS9
  have f_1_ws2 : ws2[1]? = some ((q1, Sum.inr (1, [Value.null, Value.null, Value.null, Value.int 0])) : Nat × va_E) := by rw [e_ws2]; exact gs_last hlen
  replace hlen : ws2.length = 2 := by rw [e_ws2]; exact gs_len hlen
  replace hU : gx_g ws ws2 1 [0] := by rw [e_ws2]; exact hU.push
  refine W.widen (k := 1) (n := 4) (by decide) (by decide) ?_
  refine lv_dup hx hb d_Le_init_8 rfl ?_
  refine gx_call (ig := .invokespecial 9) (c_En_init l htr D tys z _ ws2 cI q1 1 2 f_1_ws2 ht0 hlen (by decide)) (gx_invIN (As := []) (rest := [Value.ref q1, Value.ref a]) hx hb hown hts km_Le_9 kI_En_init kc_En_init (by decide) rfl (show (parseMethodDescriptor y_En_init.desc).map (fun d => d.parameters.length) = some 0 by decide +kernel) rfl rfl d_Le_init_9) (gx_cw (z := 0) hts kc_En_init kN_En rfl rfl ⟨Nat.le_of_ble_eq_true rfl, Nat.le_of_ble_eq_true rfl⟩) hb hml gx_blind (gx_pre hz hP hK hD hY hS hAz [Value.ref q1]) rfl hl.1 (lv_room (Nat.le_of_ble_eq_true rfl)) d_Le_init_9 ⟨Nat.le_of_ble_eq_true rfl, Nat.le_of_ble_eq_true rfl⟩ (fun v3 st3 t3 L3 h0_3 hW_3 hQ_3 hL_3 => ?_) (fun v3 st3 t3 L3 h0_3 hW_3 hQ_3 hL_3 => ?_)
  · obtain ⟨ws4, hp, hP9, -, hD9, hS9⟩ := gx_back h0_3 hW_3 hQ_3 hL_3 hD hS hA
    clear hQ_3 h0_3 hL_3 hW_3 hP hD hS
    have hP := hP9
    have hD := hD9
    have hS := hS9
    clear hP9 hD9 hS9
    rcases hp with ⟨q5, q6, q7, hv9, e_ws4, f_1_ws4, f_2_ws4, f_3_ws4, f_4_ws4⟩
    cases hv9
    have f_1_ws4 : ws4[1]? = some ((q1, Sum.inr (1, [Value.ref q5, Value.ref q6, Value.ref q7, Value.int 0])) : Nat × va_E) := f_1_ws4
    have f_2_ws4 : ws4[2]? = some ((q5, Sum.inl (cI, 4096, Sum.inl (fun _ => 0))) : Nat × va_E) := f_2_ws4
    have f_3_ws4 : ws4[3]? = some ((q6, Sum.inl (cI, 4096, Sum.inl (fun _ => 0))) : Nat × va_E) := f_3_ws4
    have f_4_ws4 : ws4[4]? = some ((q7, Sum.inl (cI, 4096, Sum.inl (fun _ => 0))) : Nat × va_E) := f_4_ws4
    replace hlen : ws4.length = 5 := by rw [e_ws4.1, hlen]
    replace hU : gx_g ws ws4 4 [0] := hU.call e_ws4 (by rw [hlen0]; decide)
    refine W.eq (g2 := F0 m 12 ls [Value.ref q1, Value.ref a]) rfl ?_
    refine W.widen (k := 4) (n := 12292) (by decide) (by decide) ?_
    generalize t3.heap = H at hP hS ⊢
    generalize [] ++ L3 = locs at hS ⊢
    have f_0_ws2 : ws2[0]? = some ((a, Sum.inr (0, [Value.null, Value.null, Value.null, Value.null, Value.null, Value.null, Value.null, Value.int 0, Value.int 0, Value.int 0, Value.int 0, Value.int 0, Value.int 0, Value.int 0, Value.int 0, Value.int 0, Value.int 0, Value.int 0])) : Nat × va_E) := by rw [e_ws2]; exact gs_app f_0
    clear f_0
    have f_0_ws4 : ws4[0]? = some ((a, Sum.inr (0, [Value.null, Value.null, Value.null, Value.null, Value.null, Value.null, Value.null, Value.int 0, Value.int 0, Value.int 0, Value.int 0, Value.int 0, Value.int 0, Value.int 0, Value.int 0, Value.int 0, Value.int 0, Value.int 0])) : Nat × va_E) := e_ws4.at (by first | decide | (simp; done) | (simp; omega)) f_0_ws2
    clear f_0_ws2
    refine va_putF (D := D) (ci := 0) (v := Value.ref q1) (ty := .object "CommitLedger$Entries") (C := "CommitLedger") (T := F_Le) (N := 18) hx hb hts i_Le t_Le t_Le_ok n_Le hown hK hP hD hS 0 f_0_ws4 rfl 0 (by decide) (hts _ kf_Le_10) (fun _ h9 => h9) rfl hin rfl (by decide +kernel) rfl rfl (Nat.le_of_ble_eq_true rfl) d_Le_init_12 (fun H locs hP9 hD9 hS9 => ?_)
    obtain ⟨ws8, e_ws8⟩ : ∃ x : va_W, x = ws4.set 0 ((a, Sum.inr (0, [Value.ref q1, Value.null, Value.null, Value.null, Value.null, Value.null, Value.null, Value.int 0, Value.int 0, Value.int 0, Value.int 0, Value.int 0, Value.int 0, Value.int 0, Value.int 0, Value.int 0, Value.int 0, Value.int 0])) : Nat × va_E) := ⟨_, rfl⟩
    replace hP : va_P D classes ws8 H := by rw [e_ws8]; exact hP9
    replace hD : va_D A ws8 := by rw [e_ws8]; exact hD9
    replace hS := hS9
    clear hP9 hD9 hS9
    have f_0_ws8 : ws8[0]? = some ((a, Sum.inr (0, [Value.ref q1, Value.null, Value.null, Value.null, Value.null, Value.null, Value.null, Value.int 0, Value.int 0, Value.int 0, Value.int 0, Value.int 0, Value.int 0, Value.int 0, Value.int 0, Value.int 0, Value.int 0, Value.int 0])) : Nat × va_E) := by rw [e_ws8]; exact gs_self f_0_ws4
    replace hlen : ws8.length = 5 := by rw [e_ws8]; exact gs_lens hlen
    replace hU : gx_g ws ws8 4 [0] := by rw [e_ws8]; exact hU.put (Or.inl (by simp))
    refine lv_aload_n hx hb d_Le_init_15 rfl (lv_at hl 0 rfl) ?_
    refine va_new (ci := 2) (fs := [Value.null, Value.null, Value.int 0, Value.int 0]) (C := "CommitLedger$Directory") (T := F_Di) (N := 4) hx hb hts i_Di t_Di t_Di_ok hown (hts _ kk_Le_16) (hts _ kX_Di) (hts _ kN_Di) hK hP hD hS hA rfl (by decide) (Nat.le_of_ble_eq_true rfl) (Nat.le_of_ble_eq_true rfl) d_Le_init_16 (fun q9 H hP9 hD9 hS9 => ?_)
    obtain ⟨ws10, e_ws10⟩ : ∃ x : va_W, x = ws8 ++ [((q9, Sum.inr (2, [Value.null, Value.null, Value.int 0, Value.int 0])) : Nat × va_E)] := ⟨_, rfl⟩
    replace hP : va_P D classes ws10 H := by rw [e_ws10]; exact hP9
    replace hD : va_D A ws10 := by rw [e_ws10]; exact hD9
    replace hS := hS9
    clear hP9 hD9 hS9
    have f_5_ws10 : ws10[5]? = some ((q9, Sum.inr (2, [Value.null, Value.null, Value.int 0, Value.int 0])) : Nat × va_E) := by rw [e_ws10]; exact gs_last hlen
    replace hlen : ws10.length = 6 := by rw [e_ws10]; exact gs_len hlen
    replace hU : gx_g ws ws10 5 [0] := by rw [e_ws10]; exact hU.push
    refine W.widen (k := 5) (n := 12296) (by decide) (by decide) ?_
    refine lv_dup hx hb d_Le_init_19 rfl ?_
    refine gx_call (ig := .invokespecial 18) (c_Di_init l htr D tys z _ ws10 q9 5 6 f_5_ws10 hlen (by decide)) (gx_invIN (As := []) (rest := [Value.ref q9, Value.ref a]) hx hb hown hts km_Le_18 kI_Di_init kc_Di_init (by decide) rfl (show (parseMethodDescriptor y_Di_init.desc).map (fun d => d.parameters.length) = some 0 by decide +kernel) rfl rfl d_Le_init_20) (gx_cw (z := 0) hts kc_Di_init kN_Di rfl rfl ⟨Nat.le_of_ble_eq_true rfl, Nat.le_of_ble_eq_true rfl⟩) hb hml gx_blind (gx_pre hz hP hK hD hY hS hAz [Value.ref q9]) rfl hl.1 (lv_room (Nat.le_of_ble_eq_true rfl)) d_Le_init_20 ⟨Nat.le_of_ble_eq_true rfl, Nat.le_of_ble_eq_true rfl⟩ (fun v11 st11 t11 L11 h0_11 hW_11 hQ_11 hL_11 => ?_) (fun v11 st11 t11 L11 h0_11 hW_11 hQ_11 hL_11 => ?_)
    · obtain ⟨ws12, hp, hP9, -, hD9, hS9⟩ := gx_back h0_11 hW_11 hQ_11 hL_11 hD hS hA
      clear hQ_11 h0_11 hL_11 hW_11 hP hD hS
      have hP := hP9
      have hD := hD9
      have hS := hS9
      clear hP9 hD9 hS9
      rcases hp with ⟨q13, q14, v15, v16, hv9, e_ws12, f_5_ws12, f_6_ws12, f_7_ws12⟩
      cases hv9
      have f_5_ws12 : ws12[5]? = some ((q9, Sum.inr (2, [Value.ref q13, Value.ref q14, Value.int 0, Value.int 0])) : Nat × va_E) := f_5_ws12
      have f_6_ws12 : ws12[6]? = some ((q13, Sum.inr (3, [v15, Value.int 0, Value.int 0])) : Nat × va_E) := f_6_ws12
      have f_7_ws12 : ws12[7]? = some ((q14, Sum.inr (3, [v16, Value.int 0, Value.int 0])) : Nat × va_E) := f_7_ws12
      replace hlen : ws12.length = 8 := by rw [e_ws12.1, hlen]
      replace hU : gx_g ws ws12 7 [0] := hU.call e_ws12 (by rw [hlen0]; decide)
      refine W.eq (g2 := F0 m 23 ls [Value.ref q9, Value.ref a]) rfl ?_
      refine W.widen (k := 7) (n := 12302) (by decide) (by decide) ?_
      generalize t11.heap = H at hP hS ⊢
      generalize locs ++ L11 = locs at hS ⊢
      have f_0_ws10 : ws10[0]? = some ((a, Sum.inr (0, [Value.ref q1, Value.null, Value.null, Value.null, Value.null, Value.null, Value.null, Value.int 0, Value.int 0, Value.int 0, Value.int 0, Value.int 0, Value.int 0, Value.int 0, Value.int 0, Value.int 0, Value.int 0, Value.int 0])) : Nat × va_E) := by rw [e_ws10]; exact gs_app f_0_ws8
      clear f_0_ws8
      have f_0_ws12 : ws12[0]? = some ((a, Sum.inr (0, [Value.ref q1, Value.null, Value.null, Value.null, Value.null, Value.null, Value.null, Value.int 0, Value.int 0, Value.int 0, Value.int 0, Value.int 0, Value.int 0, Value.int 0, Value.int 0, Value.int 0, Value.int 0, Value.int 0])) : Nat × va_E) := e_ws12.at (by first | decide | (simp; done) | (simp; omega)) f_0_ws10
      clear f_0_ws10
      refine va_putF (D := D) (ci := 0) (v := Value.ref q9) (ty := .object "CommitLedger$Directory") (C := "CommitLedger") (T := F_Le) (N := 18) hx hb hts i_Le t_Le t_Le_ok n_Le hown hK hP hD hS 0 f_0_ws12 rfl 1 (by decide) (hts _ kf_Le_19) (fun _ h9 => h9) rfl hin rfl (by decide +kernel) rfl rfl (Nat.le_of_ble_eq_true rfl) d_Le_init_23 (fun H locs hP9 hD9 hS9 => ?_)
      obtain ⟨ws17, e_ws17⟩ : ∃ x : va_W, x = ws12.set 0 ((a, Sum.inr (0, [Value.ref q1, Value.ref q9, Value.null, Value.null, Value.null, Value.null, Value.null, Value.int 0, Value.int 0, Value.int 0, Value.int 0, Value.int 0, Value.int 0, Value.int 0, Value.int 0, Value.int 0, Value.int 0, Value.int 0])) : Nat × va_E) := ⟨_, rfl⟩
      replace hP : va_P D classes ws17 H := by rw [e_ws17]; exact hP9
      replace hD : va_D A ws17 := by rw [e_ws17]; exact hD9
      replace hS := hS9
      clear hP9 hD9 hS9
      have f_0_ws17 : ws17[0]? = some ((a, Sum.inr (0, [Value.ref q1, Value.ref q9, Value.null, Value.null, Value.null, Value.null, Value.null, Value.int 0, Value.int 0, Value.int 0, Value.int 0, Value.int 0, Value.int 0, Value.int 0, Value.int 0, Value.int 0, Value.int 0, Value.int 0])) : Nat × va_E) := by rw [e_ws17]; exact gs_self f_0_ws12
      replace hlen : ws17.length = 8 := by rw [e_ws17]; exact gs_lens hlen
      replace hU : gx_g ws ws17 7 [0] := by rw [e_ws17]; exact hU.put (Or.inl (by simp))
      refine lv_aload_n hx hb d_Le_init_26 rfl (lv_at hl 0 rfl) ?_
      refine va_new (ci := 4) (fs := [Value.null, Value.null, Value.null, Value.null, Value.int 0, Value.int 0]) (C := "CommitLedger$View") (T := F_Vi) (N := 6) hx hb hts i_Vi t_Vi t_Vi_ok hown (hts _ kk_Le_23) (hts _ kX_Vi) (hts _ kN_Vi) hK hP hD hS hA rfl (by decide) (Nat.le_of_ble_eq_true rfl) (Nat.le_of_ble_eq_true rfl) d_Le_init_27 (fun q18 H hP9 hD9 hS9 => ?_)
      obtain ⟨ws19, e_ws19⟩ : ∃ x : va_W, x = ws17 ++ [((q18, Sum.inr (4, [Value.null, Value.null, Value.null, Value.null, Value.int 0, Value.int 0])) : Nat × va_E)] := ⟨_, rfl⟩
      replace hP : va_P D classes ws19 H := by rw [e_ws19]; exact hP9
      replace hD : va_D A ws19 := by rw [e_ws19]; exact hD9
      replace hS := hS9
      clear hP9 hD9 hS9
      have f_8_ws19 : ws19[8]? = some ((q18, Sum.inr (4, [Value.null, Value.null, Value.null, Value.null, Value.int 0, Value.int 0])) : Nat × va_E) := by rw [e_ws19]; exact gs_last hlen
      replace hlen : ws19.length = 9 := by rw [e_ws19]; exact gs_len hlen
      replace hU : gx_g ws ws19 8 [0] := by rw [e_ws19]; exact hU.push
      refine W.widen (k := 8) (n := 12308) (by decide) (by decide) ?_
      refine lv_dup hx hb d_Le_init_30 rfl ?_
      refine gx_call (ig := .invokespecial 25) (c_Vi_init l htr D tys z _ ws19 cZ cF q18 8 9 f_8_ws19 ht1 ht2 hlen (by decide)) (gx_invIN (As := []) (rest := [Value.ref q18, Value.ref a]) hx hb hown hts km_Le_25 kI_Vi_init kc_Vi_init (by decide) rfl (show (parseMethodDescriptor y_Vi_init.desc).map (fun d => d.parameters.length) = some 0 by decide +kernel) rfl rfl d_Le_init_31) (gx_cw (z := 0) hts kc_Vi_init kN_Vi rfl rfl ⟨Nat.le_of_ble_eq_true rfl, Nat.le_of_ble_eq_true rfl⟩) hb hml gx_blind (gx_pre hz hP hK hD hY hS hAz [Value.ref q18]) rfl hl.1 (lv_room (Nat.le_of_ble_eq_true rfl)) d_Le_init_31 ⟨Nat.le_of_ble_eq_true rfl, Nat.le_of_ble_eq_true rfl⟩ (fun v20 st20 t20 L20 h0_20 hW_20 hQ_20 hL_20 => ?_) (fun v20 st20 t20 L20 h0_20 hW_20 hQ_20 hL_20 => ?_)
      · obtain ⟨ws21, hp, hP9, -, hD9, hS9⟩ := gx_back h0_20 hW_20 hQ_20 hL_20 hD hS hA
        clear hQ_20 h0_20 hL_20 hW_20 hP hD hS
        have hP := hP9
        have hD := hD9
        have hS := hS9
        clear hP9 hD9 hS9
        rcases hp with ⟨q22, q23, q24, hv9, e_ws21, f_8_ws21, f_9_ws21, f_10_ws21, f_11_ws21⟩
        cases hv9
        have f_8_ws21 : ws21[8]? = some ((q18, Sum.inr (4, [Value.ref q22, Value.ref q23, Value.ref q24, Value.null, Value.int 0, Value.int 0])) : Nat × va_E) := f_8_ws21
        have f_9_ws21 : ws21[9]? = some ((q22, Sum.inl (cF, 4096, Sum.inr (Sum.inr (Sum.inr (Sum.inr (fun _ => none)))))) : Nat × va_E) := f_9_ws21
        have f_10_ws21 : ws21[10]? = some ((q23, Sum.inl (cF, 4096, Sum.inr (Sum.inr (Sum.inr (Sum.inr (fun _ => none)))))) : Nat × va_E) := f_10_ws21
        have f_11_ws21 : ws21[11]? = some ((q24, Sum.inl (cZ, 4096, Sum.inl (fun _ => 0))) : Nat × va_E) := f_11_ws21
        replace hlen : ws21.length = 12 := by rw [e_ws21.1, hlen]
        replace hU : gx_g ws ws21 11 [0] := hU.call e_ws21 (by rw [hlen0]; decide)
        refine W.eq (g2 := F0 m 34 ls [Value.ref q18, Value.ref a]) rfl ?_
        refine W.widen (k := 11) (n := 24596) (by decide) (by decide) ?_
        generalize t20.heap = H at hP hS ⊢
        generalize locs ++ L20 = locs at hS ⊢
        have f_0_ws19 : ws19[0]? = some ((a, Sum.inr (0, [Value.ref q1, Value.ref q9, Value.null, Value.null, Value.null, Value.null, Value.null, Value.int 0, Value.int 0, Value.int 0, Value.int 0, Value.int 0, Value.int 0, Value.int 0, Value.int 0, Value.int 0, Value.int 0, Value.int 0])) : Nat × va_E) := by rw [e_ws19]; exact gs_app f_0_ws17
        clear f_0_ws17
        have f_0_ws21 : ws21[0]? = some ((a, Sum.inr (0, [Value.ref q1, Value.ref q9, Value.null, Value.null, Value.null, Value.null, Value.null, Value.int 0, Value.int 0, Value.int 0, Value.int 0, Value.int 0, Value.int 0, Value.int 0, Value.int 0, Value.int 0, Value.int 0, Value.int 0])) : Nat × va_E) := e_ws21.at (by first | decide | (simp; done) | (simp; omega)) f_0_ws19
        clear f_0_ws19
        refine va_putF (D := D) (ci := 0) (v := Value.ref q18) (ty := .object "CommitLedger$View") (C := "CommitLedger") (T := F_Le) (N := 18) hx hb hts i_Le t_Le t_Le_ok n_Le hown hK hP hD hS 0 f_0_ws21 rfl 2 (by decide) (hts _ kf_Le_26) (fun _ h9 => h9) rfl hin rfl (by decide +kernel) rfl rfl (Nat.le_of_ble_eq_true rfl) d_Le_init_34 (fun H locs hP9 hD9 hS9 => ?_)
        obtain ⟨ws25, e_ws25⟩ : ∃ x : va_W, x = ws21.set 0 ((a, Sum.inr (0, [Value.ref q1, Value.ref q9, Value.ref q18, Value.null, Value.null, Value.null, Value.null, Value.int 0, Value.int 0, Value.int 0, Value.int 0, Value.int 0, Value.int 0, Value.int 0, Value.int 0, Value.int 0, Value.int 0, Value.int 0])) : Nat × va_E) := ⟨_, rfl⟩
        replace hP : va_P D classes ws25 H := by rw [e_ws25]; exact hP9
        replace hD : va_D A ws25 := by rw [e_ws25]; exact hD9
        replace hS := hS9
        clear hP9 hD9 hS9
        have f_0_ws25 : ws25[0]? = some ((a, Sum.inr (0, [Value.ref q1, Value.ref q9, Value.ref q18, Value.null, Value.null, Value.null, Value.null, Value.int 0, Value.int 0, Value.int 0, Value.int 0, Value.int 0, Value.int 0, Value.int 0, Value.int 0, Value.int 0, Value.int 0, Value.int 0])) : Nat × va_E) := by rw [e_ws25]; exact gs_self f_0_ws21
        replace hlen : ws25.length = 12 := by rw [e_ws25]; exact gs_lens hlen
        replace hU : gx_g ws ws25 11 [0] := by rw [e_ws25]; exact hU.put (Or.inl (by simp))
        refine lv_aload_n hx hb d_Le_init_37 rfl (lv_at hl 0 rfl) ?_
        refine va_new (ci := 4) (fs := [Value.null, Value.null, Value.null, Value.null, Value.int 0, Value.int 0]) (C := "CommitLedger$View") (T := F_Vi) (N := 6) hx hb hts i_Vi t_Vi t_Vi_ok hown (hts _ kk_Le_23) (hts _ kX_Vi) (hts _ kN_Vi) hK hP hD hS hA rfl (by decide) (Nat.le_of_ble_eq_true rfl) (Nat.le_of_ble_eq_true rfl) d_Le_init_38 (fun q26 H hP9 hD9 hS9 => ?_)
        obtain ⟨ws27, e_ws27⟩ : ∃ x : va_W, x = ws25 ++ [((q26, Sum.inr (4, [Value.null, Value.null, Value.null, Value.null, Value.int 0, Value.int 0])) : Nat × va_E)] := ⟨_, rfl⟩
        replace hP : va_P D classes ws27 H := by rw [e_ws27]; exact hP9
        replace hD : va_D A ws27 := by rw [e_ws27]; exact hD9
        replace hS := hS9
        clear hP9 hD9 hS9
        have f_12_ws27 : ws27[12]? = some ((q26, Sum.inr (4, [Value.null, Value.null, Value.null, Value.null, Value.int 0, Value.int 0])) : Nat × va_E) := by rw [e_ws27]; exact gs_last hlen
        replace hlen : ws27.length = 13 := by rw [e_ws27]; exact gs_len hlen
        replace hU : gx_g ws ws27 12 [0] := by rw [e_ws27]; exact hU.push
        refine W.widen (k := 12) (n := 24602) (by decide) (by decide) ?_
        refine lv_dup hx hb d_Le_init_41 rfl ?_
        refine gx_call (ig := .invokespecial 25) (c_Vi_init l htr D tys z _ ws27 cZ cF q26 12 13 f_12_ws27 ht1 ht2 hlen (by decide)) (gx_invIN (As := []) (rest := [Value.ref q26, Value.ref a]) hx hb hown hts km_Le_25 kI_Vi_init kc_Vi_init (by decide) rfl (show (parseMethodDescriptor y_Vi_init.desc).map (fun d => d.parameters.length) = some 0 by decide +kernel) rfl rfl d_Le_init_42) (gx_cw (z := 0) hts kc_Vi_init kN_Vi rfl rfl ⟨Nat.le_of_ble_eq_true rfl, Nat.le_of_ble_eq_true rfl⟩) hb hml gx_blind (gx_pre hz hP hK hD hY hS hAz [Value.ref q26]) rfl hl.1 (lv_room (Nat.le_of_ble_eq_true rfl)) d_Le_init_42 ⟨Nat.le_of_ble_eq_true rfl, Nat.le_of_ble_eq_true rfl⟩ (fun v28 st28 t28 L28 h0_28 hW_28 hQ_28 hL_28 => ?_) (fun v28 st28 t28 L28 h0_28 hW_28 hQ_28 hL_28 => ?_)
        · obtain ⟨ws29, hp, hP9, -, hD9, hS9⟩ := gx_back h0_28 hW_28 hQ_28 hL_28 hD hS hA
          clear hQ_28 h0_28 hL_28 hW_28 hP hD hS
          have hP := hP9
          have hD := hD9
          have hS := hS9
          clear hP9 hD9 hS9
          rcases hp with ⟨q30, q31, q32, hv9, e_ws29, f_12_ws29, f_13_ws29, f_14_ws29, f_15_ws29⟩
          cases hv9
          have f_12_ws29 : ws29[12]? = some ((q26, Sum.inr (4, [Value.ref q30, Value.ref q31, Value.ref q32, Value.null, Value.int 0, Value.int 0])) : Nat × va_E) := f_12_ws29
          have f_13_ws29 : ws29[13]? = some ((q30, Sum.inl (cF, 4096, Sum.inr (Sum.inr (Sum.inr (Sum.inr (fun _ => none)))))) : Nat × va_E) := f_13_ws29
          have f_14_ws29 : ws29[14]? = some ((q31, Sum.inl (cF, 4096, Sum.inr (Sum.inr (Sum.inr (Sum.inr (fun _ => none)))))) : Nat × va_E) := f_14_ws29
          have f_15_ws29 : ws29[15]? = some ((q32, Sum.inl (cZ, 4096, Sum.inl (fun _ => 0))) : Nat × va_E) := f_15_ws29
          replace hlen : ws29.length = 16 := by rw [e_ws29.1, hlen]
          replace hU : gx_g ws ws29 15 [0] := hU.call e_ws29 (by rw [hlen0]; decide)
          refine W.eq (g2 := F0 m 45 ls [Value.ref q26, Value.ref a]) rfl ?_
          refine W.widen (k := 15) (n := 36890) (by decide) (by decide) ?_
          generalize t28.heap = H at hP hS ⊢
          generalize locs ++ L28 = locs at hS ⊢
          have f_0_ws27 : ws27[0]? = some ((a, Sum.inr (0, [Value.ref q1, Value.ref q9, Value.ref q18, Value.null, Value.null, Value.null, Value.null, Value.int 0, Value.int 0, Value.int 0, Value.int 0, Value.int 0, Value.int 0, Value.int 0, Value.int 0, Value.int 0, Value.int 0, Value.int 0])) : Nat × va_E) := by rw [e_ws27]; exact gs_app f_0_ws25
          clear f_0_ws25
          have f_0_ws29 : ws29[0]? = some ((a, Sum.inr (0, [Value.ref q1, Value.ref q9, Value.ref q18, Value.null, Value.null, Value.null, Value.null, Value.int 0, Value.int 0, Value.int 0, Value.int 0, Value.int 0, Value.int 0, Value.int 0, Value.int 0, Value.int 0, Value.int 0, Value.int 0])) : Nat × va_E) := e_ws29.at (by first | decide | (simp; done) | (simp; omega)) f_0_ws27
          clear f_0_ws27
          refine va_put (D := D) (ci := 0) (v := Value.ref q26) (ty := .object "CommitLedger$View") (C := "CommitLedger") (T := F_Le) (N := 18) hx hb hts i_Le t_Le t_Le_ok n_Le hown hK hP hD hS 0 f_0_ws29 rfl 5 (by decide) (hts _ kf_Le_30) (fun _ h9 => h9) rfl (by decide +kernel) rfl rfl (Nat.le_of_ble_eq_true rfl) d_Le_init_45 (fun H locs hP9 hD9 hS9 => ?_)
          obtain ⟨ws33, e_ws33⟩ : ∃ x : va_W, x = ws29.set 0 ((a, Sum.inr (0, [Value.ref q1, Value.ref q9, Value.ref q18, Value.null, Value.null, Value.ref q26, Value.null, Value.int 0, Value.int 0, Value.int 0, Value.int 0, Value.int 0, Value.int 0, Value.int 0, Value.int 0, Value.int 0, Value.int 0, Value.int 0])) : Nat × va_E) := ⟨_, rfl⟩
          replace hP : va_P D classes ws33 H := by rw [e_ws33]; exact hP9
          replace hD : va_D A ws33 := by rw [e_ws33]; exact hD9
          replace hS := hS9
          clear hP9 hD9 hS9
          have f_0_ws33 : ws33[0]? = some ((a, Sum.inr (0, [Value.ref q1, Value.ref q9, Value.ref q18, Value.null, Value.null, Value.ref q26, Value.null, Value.int 0, Value.int 0, Value.int 0, Value.int 0, Value.int 0, Value.int 0, Value.int 0, Value.int 0, Value.int 0, Value.int 0, Value.int 0])) : Nat × va_E) := by rw [e_ws33]; exact gs_self f_0_ws29
          replace hlen : ws33.length = 16 := by rw [e_ws33]; exact gs_lens hlen
          replace hU : gx_g ws ws33 15 [0] := by rw [e_ws33]; exact hU.put (Or.inl (by simp))
          refine lv_aload_n hx hb d_Le_init_48 rfl (lv_at hl 0 rfl) ?_
          refine va_new (ci := 4) (fs := [Value.null, Value.null, Value.null, Value.null, Value.int 0, Value.int 0]) (C := "CommitLedger$View") (T := F_Vi) (N := 6) hx hb hts i_Vi t_Vi t_Vi_ok hown (hts _ kk_Le_23) (hts _ kX_Vi) (hts _ kN_Vi) hK hP hD hS hA rfl (by decide) (Nat.le_of_ble_eq_true rfl) (Nat.le_of_ble_eq_true rfl) d_Le_init_49 (fun q34 H hP9 hD9 hS9 => ?_)
          obtain ⟨ws35, e_ws35⟩ : ∃ x : va_W, x = ws33 ++ [((q34, Sum.inr (4, [Value.null, Value.null, Value.null, Value.null, Value.int 0, Value.int 0])) : Nat × va_E)] := ⟨_, rfl⟩
          replace hP : va_P D classes ws35 H := by rw [e_ws35]; exact hP9
          replace hD : va_D A ws35 := by rw [e_ws35]; exact hD9
          replace hS := hS9
          clear hP9 hD9 hS9
          have f_16_ws35 : ws35[16]? = some ((q34, Sum.inr (4, [Value.null, Value.null, Value.null, Value.null, Value.int 0, Value.int 0])) : Nat × va_E) := by rw [e_ws35]; exact gs_last hlen
          replace hlen : ws35.length = 17 := by rw [e_ws35]; exact gs_len hlen
          replace hU : gx_g ws ws35 16 [0] := by rw [e_ws35]; exact hU.push
          refine W.widen (k := 16) (n := 36896) (by decide) (by decide) ?_
          refine lv_dup hx hb d_Le_init_52 rfl ?_
          refine gx_call (ig := .invokespecial 25) (c_Vi_init l htr D tys z _ ws35 cZ cF q34 16 17 f_16_ws35 ht1 ht2 hlen (by decide)) (gx_invIN (As := []) (rest := [Value.ref q34, Value.ref a]) hx hb hown hts km_Le_25 kI_Vi_init kc_Vi_init (by decide) rfl (show (parseMethodDescriptor y_Vi_init.desc).map (fun d => d.parameters.length) = some 0 by decide +kernel) rfl rfl d_Le_init_53) (gx_cw (z := 0) hts kc_Vi_init kN_Vi rfl rfl ⟨Nat.le_of_ble_eq_true rfl, Nat.le_of_ble_eq_true rfl⟩) hb hml gx_blind (gx_pre hz hP hK hD hY hS hAz [Value.ref q34]) rfl hl.1 (lv_room (Nat.le_of_ble_eq_true rfl)) d_Le_init_53 ⟨Nat.le_of_ble_eq_true rfl, Nat.le_of_ble_eq_true rfl⟩ (fun v36 st36 t36 L36 h0_36 hW_36 hQ_36 hL_36 => ?_) (fun v36 st36 t36 L36 h0_36 hW_36 hQ_36 hL_36 => ?_)
          · obtain ⟨ws37, hp, hP9, -, hD9, hS9⟩ := gx_back h0_36 hW_36 hQ_36 hL_36 hD hS hA
            clear hQ_36 h0_36 hL_36 hW_36 hP hD hS
            have hP := hP9
            have hD := hD9
            have hS := hS9
            clear hP9 hD9 hS9
            rcases hp with ⟨q38, q39, q40, hv9, e_ws37, f_16_ws37, f_17_ws37, f_18_ws37, f_19_ws37⟩
            cases hv9
            have f_16_ws37 : ws37[16]? = some ((q34, Sum.inr (4, [Value.ref q38, Value.ref q39, Value.ref q40, Value.null, Value.int 0, Value.int 0])) : Nat × va_E) := f_16_ws37
            have f_17_ws37 : ws37[17]? = some ((q38, Sum.inl (cF, 4096, Sum.inr (Sum.inr (Sum.inr (Sum.inr (fun _ => none)))))) : Nat × va_E) := f_17_ws37
            have f_18_ws37 : ws37[18]? = some ((q39, Sum.inl (cF, 4096, Sum.inr (Sum.inr (Sum.inr (Sum.inr (fun _ => none)))))) : Nat × va_E) := f_18_ws37
            have f_19_ws37 : ws37[19]? = some ((q40, Sum.inl (cZ, 4096, Sum.inl (fun _ => 0))) : Nat × va_E) := f_19_ws37
            replace hlen : ws37.length = 20 := by rw [e_ws37.1, hlen]
            replace hU : gx_g ws ws37 19 [0] := hU.call e_ws37 (by rw [hlen0]; decide)
            refine W.eq (g2 := F0 m 56 ls [Value.ref q34, Value.ref a]) rfl ?_
            refine W.widen (k := 19) (n := 49184) (by decide) (by decide) ?_
            generalize t36.heap = H at hP hS ⊢
            generalize locs ++ L36 = locs at hS ⊢
            have f_0_ws35 : ws35[0]? = some ((a, Sum.inr (0, [Value.ref q1, Value.ref q9, Value.ref q18, Value.null, Value.null, Value.ref q26, Value.null, Value.int 0, Value.int 0, Value.int 0, Value.int 0, Value.int 0, Value.int 0, Value.int 0, Value.int 0, Value.int 0, Value.int 0, Value.int 0])) : Nat × va_E) := by rw [e_ws35]; exact gs_app f_0_ws33
            clear f_0_ws33
            have f_0_ws37 : ws37[0]? = some ((a, Sum.inr (0, [Value.ref q1, Value.ref q9, Value.ref q18, Value.null, Value.null, Value.ref q26, Value.null, Value.int 0, Value.int 0, Value.int 0, Value.int 0, Value.int 0, Value.int 0, Value.int 0, Value.int 0, Value.int 0, Value.int 0, Value.int 0])) : Nat × va_E) := e_ws37.at (by first | decide | (simp; done) | (simp; omega)) f_0_ws35
            clear f_0_ws35
            refine va_put (D := D) (ci := 0) (v := Value.ref q34) (ty := .object "CommitLedger$View") (C := "CommitLedger") (T := F_Le) (N := 18) hx hb hts i_Le t_Le t_Le_ok n_Le hown hK hP hD hS 0 f_0_ws37 rfl 6 (by decide) (hts _ kf_Le_33) (fun _ h9 => h9) rfl (by decide +kernel) rfl rfl (Nat.le_of_ble_eq_true rfl) d_Le_init_56 (fun H locs hP9 hD9 hS9 => ?_)
            obtain ⟨ws41, e_ws41⟩ : ∃ x : va_W, x = ws37.set 0 ((a, Sum.inr (0, [Value.ref q1, Value.ref q9, Value.ref q18, Value.null, Value.null, Value.ref q26, Value.ref q34, Value.int 0, Value.int 0, Value.int 0, Value.int 0, Value.int 0, Value.int 0, Value.int 0, Value.int 0, Value.int 0, Value.int 0, Value.int 0])) : Nat × va_E) := ⟨_, rfl⟩
            replace hP : va_P D classes ws41 H := by rw [e_ws41]; exact hP9
            replace hD : va_D A ws41 := by rw [e_ws41]; exact hD9
            replace hS := hS9
            clear hP9 hD9 hS9
            have f_0_ws41 : ws41[0]? = some ((a, Sum.inr (0, [Value.ref q1, Value.ref q9, Value.ref q18, Value.null, Value.null, Value.ref q26, Value.ref q34, Value.int 0, Value.int 0, Value.int 0, Value.int 0, Value.int 0, Value.int 0, Value.int 0, Value.int 0, Value.int 0, Value.int 0, Value.int 0])) : Nat × va_E) := by rw [e_ws41]; exact gs_self f_0_ws37
            replace hlen : ws41.length = 20 := by rw [e_ws41]; exact gs_lens hlen
            replace hU : gx_g ws ws41 19 [0] := by rw [e_ws41]; exact hU.put (Or.inl (by simp))
            refine lv_aload_n hx hb d_Le_init_59 rfl (lv_at hl 0 rfl) ?_
            refine lv_iconst (v := 4) hx hb d_Le_init_60 (by decide) ?_
            refine gx_newq (C := "CommitLedger$Merge") (N' := 4) hx hb hown (hts _ kk_Le_36) (hts _ kO_Me) hK hP hD hS hA 3 ht3 (by decide) (by decide) (by decide) (Nat.le_of_ble_eq_true rfl) (Nat.le_of_ble_eq_true rfl) d_Le_init_61 (fun q42 H hP9 hD9 hS9 => ?_)
            obtain ⟨ws43, e_ws43⟩ : ∃ x : va_W, x = ws41 ++ [((q42, Sum.inl (cM, 4, Sum.inr (Sum.inr (Sum.inr (Sum.inr (fun _ => none)))))) : Nat × va_E)] := ⟨_, rfl⟩
            replace hP : va_P D classes ws43 H := by rw [e_ws43]; exact hP9
            replace hD : va_D A ws43 := by rw [e_ws43]; exact hD9
            replace hS := hS9
            clear hP9 hD9 hS9
            have f_20_ws43 : ws43[20]? = some ((q42, Sum.inl (cM, 4, Sum.inr (Sum.inr (Sum.inr (Sum.inr (fun _ => none)))))) : Nat × va_E) := by rw [e_ws43]; exact gs_last hlen
            replace hlen : ws43.length = 21 := by rw [e_ws43]; exact gs_len hlen
            replace hU : gx_g ws ws43 20 [0] := by rw [e_ws43]; exact hU.push
            refine W.widen (k := 20) (n := 49188) (by decide) (by decide) ?_
            have f_0_ws43 : ws43[0]? = some ((a, Sum.inr (0, [Value.ref q1, Value.ref q9, Value.ref q18, Value.null, Value.null, Value.ref q26, Value.ref q34, Value.int 0, Value.int 0, Value.int 0, Value.int 0, Value.int 0, Value.int 0, Value.int 0, Value.int 0, Value.int 0, Value.int 0, Value.int 0])) : Nat × va_E) := by rw [e_ws43]; exact gs_app f_0_ws41
            clear f_0_ws41
            refine va_putF (D := D) (ci := 0) (v := Value.ref q42) (ty := .array (.object "CommitLedger$Merge")) (C := "CommitLedger") (T := F_Le) (N := 18) hx hb hts i_Le t_Le t_Le_ok n_Le hown hK hP hD hS 0 f_0_ws43 rfl 3 (by decide) (hts _ kf_Le_38) (fun _ h9 => h9) rfl hin rfl (by decide +kernel) rfl rfl (Nat.le_of_ble_eq_true rfl) d_Le_init_64 (fun H locs hP9 hD9 hS9 => ?_)
            obtain ⟨ws44, e_ws44⟩ : ∃ x : va_W, x = ws43.set 0 ((a, Sum.inr (0, [Value.ref q1, Value.ref q9, Value.ref q18, Value.ref q42, Value.null, Value.ref q26, Value.ref q34, Value.int 0, Value.int 0, Value.int 0, Value.int 0, Value.int 0, Value.int 0, Value.int 0, Value.int 0, Value.int 0, Value.int 0, Value.int 0])) : Nat × va_E) := ⟨_, rfl⟩
            replace hP : va_P D classes ws44 H := by rw [e_ws44]; exact hP9
            replace hD : va_D A ws44 := by rw [e_ws44]; exact hD9
            replace hS := hS9
            clear hP9 hD9 hS9
            have f_0_ws44 : ws44[0]? = some ((a, Sum.inr (0, [Value.ref q1, Value.ref q9, Value.ref q18, Value.ref q42, Value.null, Value.ref q26, Value.ref q34, Value.int 0, Value.int 0, Value.int 0, Value.int 0, Value.int 0, Value.int 0, Value.int 0, Value.int 0, Value.int 0, Value.int 0, Value.int 0])) : Nat × va_E) := by rw [e_ws44]; exact gs_self f_0_ws43
            replace hlen : ws44.length = 21 := by rw [e_ws44]; exact gs_lens hlen
            replace hU : gx_g ws ws44 20 [0] := by rw [e_ws44]; exact hU.put (Or.inl (by simp))
            refine lv_iconst (v := 0) hx hb d_Le_init_67 (by decide) ?_
            refine lv_istore_n (lv' := [(1, Value.int 0), (0, Value.ref a)]) hx hb d_Le_init_68 rfl hl (by decide) rfl (fun ls hl => ?_)
            refine lv_iload_n hx hb d_Le_init_69 rfl (lv_at hl 0 rfl) ?_
            refine lv_iconst (v := 4) hx hb d_Le_init_70 (by decide) ?_
            refine lv_icmp_ge (tgt := 93) hx hb d_Le_init_71 (by decide) (fun c9 => absurd c9 (by decide)) (fun _ => ?_)
            refine lv_aload_n hx hb d_Le_init_74 rfl (lv_at hl 1 rfl) ?_
            refine va_get (D := D) (ci := 0) (v := Value.ref q42) (C := "CommitLedger") (T := F_Le) (N := 18) hx hb hts i_Le hown hK hP 0 f_0_ws44 rfl 3 (by decide) (hts _ kf_Le_38) (fun _ h9 => h9) rfl d_Le_init_75 ?_
            refine lv_iload_n hx hb d_Le_init_78 rfl (lv_at hl 0 rfl) ?_
            refine va_new (ci := 5) (fs := [Value.int 0, Value.int 0, Value.int 0, Value.null]) (C := "CommitLedger$Merge") (T := F_Me) (N := 4) hx hb hts i_Me t_Me t_Me_ok hown (hts _ kk_Le_36) (hts _ kX_Me) (hts _ kN_Me) hK hP hD hS hA rfl (by decide) (Nat.le_of_ble_eq_true rfl) (Nat.le_of_ble_eq_true rfl) d_Le_init_79 (fun q45 H hP9 hD9 hS9 => ?_)
            obtain ⟨ws46, e_ws46⟩ : ∃ x : va_W, x = ws44 ++ [((q45, Sum.inr (5, [Value.int 0, Value.int 0, Value.int 0, Value.null])) : Nat × va_E)] := ⟨_, rfl⟩
            replace hP : va_P D classes ws46 H := by rw [e_ws46]; exact hP9
            replace hD : va_D A ws46 := by rw [e_ws46]; exact hD9
            replace hS := hS9
            clear hP9 hD9 hS9
            have f_21_ws46 : ws46[21]? = some ((q45, Sum.inr (5, [Value.int 0, Value.int 0, Value.int 0, Value.null])) : Nat × va_E) := by rw [e_ws46]; exact gs_last hlen
            replace hlen : ws46.length = 22 := by rw [e_ws46]; exact gs_len hlen
            replace hU : gx_g ws ws46 21 [0] := by rw [e_ws46]; exact hU.push
            refine W.widen (k := 21) (n := 49192) (by decide) (by decide) ?_
            refine lv_dup hx hb d_Le_init_82 rfl ?_
            refine gx_call (ig := .invokespecial 42) (c_Me_init l htr D tys z _ ws46 q45 21 0 0 0 (Value.null) f_21_ws46) (gx_invIN (As := []) (rest := [Value.ref q45, Value.int 0, Value.ref q42]) hx hb hown hts km_Le_42 kI_Me_init kc_Me_init (by decide) rfl (show (parseMethodDescriptor y_Me_init.desc).map (fun d => d.parameters.length) = some 0 by decide +kernel) rfl rfl d_Le_init_83) (gx_cw (z := 0) hts kc_Me_init kN_Me rfl rfl ⟨Nat.le_of_ble_eq_true rfl, Nat.le_of_ble_eq_true rfl⟩) hb hml gx_blind (gx_pre hz hP hK hD hY hS hAz [Value.ref q45]) rfl hl.1 (lv_room (Nat.le_of_ble_eq_true rfl)) d_Le_init_83 ⟨Nat.le_of_ble_eq_true rfl, Nat.le_of_ble_eq_true rfl⟩ (fun v47 st47 t47 L47 h0_47 hW_47 hQ_47 hL_47 => ?_) (fun v47 st47 t47 L47 h0_47 hW_47 hQ_47 hL_47 => ?_)
            · obtain ⟨ws48, hp, hP9, -, hD9, hS9⟩ := gx_back h0_47 hW_47 hQ_47 hL_47 hD hS hA
              clear hQ_47 h0_47 hL_47 hW_47 hP hD hS
              have hP := hP9
              have hD := hD9
              have hS := hS9
              clear hP9 hD9 hS9
              rcases hp with ⟨hv9, e_ws48⟩
              cases hv9
              rw [e_ws48] at hP hD
              refine W.eq (g2 := F0 m 86 ls [Value.ref q45, Value.int 0, Value.ref q42]) rfl ?_
              generalize t47.heap = H at hP hS ⊢
              generalize locs ++ L47 = locs at hS ⊢
              have f_20_ws44 : ws44[20]? = some ((q42, Sum.inl (cM, 4, Sum.inr (Sum.inr (Sum.inr (Sum.inr (fun _ => none)))))) : Nat × va_E) := by rw [e_ws44]; exact gs_ne (by decide) f_20_ws43
              clear f_20_ws43
              have f_20_ws46 : ws46[20]? = some ((q42, Sum.inl (cM, 4, Sum.inr (Sum.inr (Sum.inr (Sum.inr (fun _ => none)))))) : Nat × va_E) := by rw [e_ws46]; exact gs_app f_20_ws44
              clear f_20_ws44
              refine gx_aast (D := D) (j := 0) hx hb hK hP hD hS 20 3 21 5 f_20_ws46 ht3 f_21_ws46 rfl (gx_inl (by decide)) (by decide) d_Le_init_86 (fun H locs hP9 hD9 hS9 => ?_)
              obtain ⟨ws49, e_ws49⟩ : ∃ x : va_W, x = ws46.set 20 ((q42, Sum.inl (cM, 4, Sum.inr (Sum.inr (Sum.inr (Sum.inr (va_up (fun _ => none) 0 (some q45))))))) : Nat × va_E) := ⟨_, rfl⟩
              replace hP : va_P D classes ws49 H := by rw [e_ws49]; exact hP9
              replace hD : va_D A ws49 := by rw [e_ws49]; exact hD9
              replace hS := hS9
              clear hP9 hD9 hS9
              have f_20_ws49 : ws49[20]? = some ((q42, Sum.inl (cM, 4, Sum.inr (Sum.inr (Sum.inr (Sum.inr (va_up (fun _ => none) 0 (some q45))))))) : Nat × va_E) := by rw [e_ws49]; exact gs_self f_20_ws46
              replace hlen : ws49.length = 22 := by rw [e_ws49]; exact gs_lens hlen
              replace hU : gx_g ws ws49 21 [0] := by rw [e_ws49]; exact hU.put (Or.inr (by rw [hlen0]; decide))
              refine lv_iinc (v := 1) (lv' := [(1, Value.int 1), (0, Value.ref a)]) hx hb d_Le_init_87 hl (k := 0) rfl (by decide) (by decide) rfl (fun ls hl => ?_)
              refine lv_goto (tgt := 69) hx hb d_Le_init_90 (by decide) ?_
              refine lv_iload_n hx hb d_Le_init_69 rfl (lv_at hl 0 rfl) ?_
              refine lv_iconst (v := 4) hx hb d_Le_init_70 (by decide) ?_
              refine lv_icmp_ge (tgt := 93) hx hb d_Le_init_71 (by decide) (fun c9 => absurd c9 (by decide)) (fun _ => ?_)
              refine lv_aload_n hx hb d_Le_init_74 rfl (lv_at hl 1 rfl) ?_
              have f_0_ws46 : ws46[0]? = some ((a, Sum.inr (0, [Value.ref q1, Value.ref q9, Value.ref q18, Value.ref q42, Value.null, Value.ref q26, Value.ref q34, Value.int 0, Value.int 0, Value.int 0, Value.int 0, Value.int 0, Value.int 0, Value.int 0, Value.int 0, Value.int 0, Value.int 0, Value.int 0])) : Nat × va_E) := by rw [e_ws46]; exact gs_app f_0_ws44
              clear f_0_ws44
              have f_0_ws49 : ws49[0]? = some ((a, Sum.inr (0, [Value.ref q1, Value.ref q9, Value.ref q18, Value.ref q42, Value.null, Value.ref q26, Value.ref q34, Value.int 0, Value.int 0, Value.int 0, Value.int 0, Value.int 0, Value.int 0, Value.int 0, Value.int 0, Value.int 0, Value.int 0, Value.int 0])) : Nat × va_E) := by rw [e_ws49]; exact gs_ne (by decide) f_0_ws46
              clear f_0_ws46
              refine va_get (D := D) (ci := 0) (v := Value.ref q42) (C := "CommitLedger") (T := F_Le) (N := 18) hx hb hts i_Le hown hK hP 0 f_0_ws49 rfl 3 (by decide) (hts _ kf_Le_38) (fun _ h9 => h9) rfl d_Le_init_75 ?_
              refine lv_iload_n hx hb d_Le_init_78 rfl (lv_at hl 0 rfl) ?_
              refine va_new (ci := 5) (fs := [Value.int 0, Value.int 0, Value.int 0, Value.null]) (C := "CommitLedger$Merge") (T := F_Me) (N := 4) hx hb hts i_Me t_Me t_Me_ok hown (hts _ kk_Le_36) (hts _ kX_Me) (hts _ kN_Me) hK hP hD hS hA rfl (by decide) (Nat.le_of_ble_eq_true rfl) (Nat.le_of_ble_eq_true rfl) d_Le_init_79 (fun q50 H hP9 hD9 hS9 => ?_)
              obtain ⟨ws51, e_ws51⟩ : ∃ x : va_W, x = ws49 ++ [((q50, Sum.inr (5, [Value.int 0, Value.int 0, Value.int 0, Value.null])) : Nat × va_E)] := ⟨_, rfl⟩
              replace hP : va_P D classes ws51 H := by rw [e_ws51]; exact hP9
              replace hD : va_D A ws51 := by rw [e_ws51]; exact hD9
              replace hS := hS9
              clear hP9 hD9 hS9
              have f_22_ws51 : ws51[22]? = some ((q50, Sum.inr (5, [Value.int 0, Value.int 0, Value.int 0, Value.null])) : Nat × va_E) := by rw [e_ws51]; exact gs_last hlen
              replace hlen : ws51.length = 23 := by rw [e_ws51]; exact gs_len hlen
              replace hU : gx_g ws ws51 22 [0] := by rw [e_ws51]; exact hU.push
              refine W.widen (k := 22) (n := 49196) (by decide) (by decide) ?_
              refine lv_dup hx hb d_Le_init_82 rfl ?_
              refine gx_call (ig := .invokespecial 42) (c_Me_init l htr D tys z _ ws51 q50 22 0 0 0 (Value.null) f_22_ws51) (gx_invIN (As := []) (rest := [Value.ref q50, Value.int 1, Value.ref q42]) hx hb hown hts km_Le_42 kI_Me_init kc_Me_init (by decide) rfl (show (parseMethodDescriptor y_Me_init.desc).map (fun d => d.parameters.length) = some 0 by decide +kernel) rfl rfl d_Le_init_83) (gx_cw (z := 0) hts kc_Me_init kN_Me rfl rfl ⟨Nat.le_of_ble_eq_true rfl, Nat.le_of_ble_eq_true rfl⟩) hb hml gx_blind (gx_pre hz hP hK hD hY hS hAz [Value.ref q50]) rfl hl.1 (lv_room (Nat.le_of_ble_eq_true rfl)) d_Le_init_83 ⟨Nat.le_of_ble_eq_true rfl, Nat.le_of_ble_eq_true rfl⟩ (fun v52 st52 t52 L52 h0_52 hW_52 hQ_52 hL_52 => ?_) (fun v52 st52 t52 L52 h0_52 hW_52 hQ_52 hL_52 => ?_)
              · obtain ⟨ws53, hp, hP9, -, hD9, hS9⟩ := gx_back h0_52 hW_52 hQ_52 hL_52 hD hS hA
                clear hQ_52 h0_52 hL_52 hW_52 hP hD hS
                have hP := hP9
                have hD := hD9
                have hS := hS9
                clear hP9 hD9 hS9
                rcases hp with ⟨hv9, e_ws53⟩
                cases hv9
                rw [e_ws53] at hP hD
                refine W.eq (g2 := F0 m 86 ls [Value.ref q50, Value.int 1, Value.ref q42]) rfl ?_
                generalize t52.heap = H at hP hS ⊢
                generalize locs ++ L52 = locs at hS ⊢
                have f_20_ws51 : ws51[20]? = some ((q42, Sum.inl (cM, 4, Sum.inr (Sum.inr (Sum.inr (Sum.inr (va_up (fun _ => none) 0 (some q45))))))) : Nat × va_E) := by rw [e_ws51]; exact gs_app f_20_ws49
                clear f_20_ws49
                refine gx_aast (D := D) (j := 1) hx hb hK hP hD hS 20 3 22 5 f_20_ws51 ht3 f_22_ws51 rfl (gx_inl (by decide)) (by decide) d_Le_init_86 (fun H locs hP9 hD9 hS9 => ?_)
                obtain ⟨ws54, e_ws54⟩ : ∃ x : va_W, x = ws51.set 20 ((q42, Sum.inl (cM, 4, Sum.inr (Sum.inr (Sum.inr (Sum.inr (va_up (va_up (fun _ => none) 0 (some q45)) 1 (some q50))))))) : Nat × va_E) := ⟨_, rfl⟩
                replace hP : va_P D classes ws54 H := by rw [e_ws54]; exact hP9
                replace hD : va_D A ws54 := by rw [e_ws54]; exact hD9
                replace hS := hS9
                clear hP9 hD9 hS9
                have f_20_ws54 : ws54[20]? = some ((q42, Sum.inl (cM, 4, Sum.inr (Sum.inr (Sum.inr (Sum.inr (va_up (va_up (fun _ => none) 0 (some q45)) 1 (some q50))))))) : Nat × va_E) := by rw [e_ws54]; exact gs_self f_20_ws51
                replace hlen : ws54.length = 23 := by rw [e_ws54]; exact gs_lens hlen
                replace hU : gx_g ws ws54 22 [0] := by rw [e_ws54]; exact hU.put (Or.inr (by rw [hlen0]; decide))
                refine lv_iinc (v := 2) (lv' := [(1, Value.int 2), (0, Value.ref a)]) hx hb d_Le_init_87 hl (k := 0) rfl (by decide) (by decide) rfl (fun ls hl => ?_)
                refine lv_goto (tgt := 69) hx hb d_Le_init_90 (by decide) ?_
                refine lv_iload_n hx hb d_Le_init_69 rfl (lv_at hl 0 rfl) ?_
                refine lv_iconst (v := 4) hx hb d_Le_init_70 (by decide) ?_
                refine lv_icmp_ge (tgt := 93) hx hb d_Le_init_71 (by decide) (fun c9 => absurd c9 (by decide)) (fun _ => ?_)
                refine lv_aload_n hx hb d_Le_init_74 rfl (lv_at hl 1 rfl) ?_
                have f_0_ws51 : ws51[0]? = some ((a, Sum.inr (0, [Value.ref q1, Value.ref q9, Value.ref q18, Value.ref q42, Value.null, Value.ref q26, Value.ref q34, Value.int 0, Value.int 0, Value.int 0, Value.int 0, Value.int 0, Value.int 0, Value.int 0, Value.int 0, Value.int 0, Value.int 0, Value.int 0])) : Nat × va_E) := by rw [e_ws51]; exact gs_app f_0_ws49
                clear f_0_ws49
                have f_0_ws54 : ws54[0]? = some ((a, Sum.inr (0, [Value.ref q1, Value.ref q9, Value.ref q18, Value.ref q42, Value.null, Value.ref q26, Value.ref q34, Value.int 0, Value.int 0, Value.int 0, Value.int 0, Value.int 0, Value.int 0, Value.int 0, Value.int 0, Value.int 0, Value.int 0, Value.int 0])) : Nat × va_E) := by rw [e_ws54]; exact gs_ne (by decide) f_0_ws51
                clear f_0_ws51
                refine va_get (D := D) (ci := 0) (v := Value.ref q42) (C := "CommitLedger") (T := F_Le) (N := 18) hx hb hts i_Le hown hK hP 0 f_0_ws54 rfl 3 (by decide) (hts _ kf_Le_38) (fun _ h9 => h9) rfl d_Le_init_75 ?_
                refine lv_iload_n hx hb d_Le_init_78 rfl (lv_at hl 0 rfl) ?_
                refine va_new (ci := 5) (fs := [Value.int 0, Value.int 0, Value.int 0, Value.null]) (C := "CommitLedger$Merge") (T := F_Me) (N := 4) hx hb hts i_Me t_Me t_Me_ok hown (hts _ kk_Le_36) (hts _ kX_Me) (hts _ kN_Me) hK hP hD hS hA rfl (by decide) (Nat.le_of_ble_eq_true rfl) (Nat.le_of_ble_eq_true rfl) d_Le_init_79 (fun q55 H hP9 hD9 hS9 => ?_)
                obtain ⟨ws56, e_ws56⟩ : ∃ x : va_W, x = ws54 ++ [((q55, Sum.inr (5, [Value.int 0, Value.int 0, Value.int 0, Value.null])) : Nat × va_E)] := ⟨_, rfl⟩
                replace hP : va_P D classes ws56 H := by rw [e_ws56]; exact hP9
                replace hD : va_D A ws56 := by rw [e_ws56]; exact hD9
                replace hS := hS9
                clear hP9 hD9 hS9
                have f_23_ws56 : ws56[23]? = some ((q55, Sum.inr (5, [Value.int 0, Value.int 0, Value.int 0, Value.null])) : Nat × va_E) := by rw [e_ws56]; exact gs_last hlen
                replace hlen : ws56.length = 24 := by rw [e_ws56]; exact gs_len hlen
                replace hU : gx_g ws ws56 23 [0] := by rw [e_ws56]; exact hU.push
                refine W.widen (k := 23) (n := 49200) (by decide) (by decide) ?_
                refine lv_dup hx hb d_Le_init_82 rfl ?_
                refine gx_call (ig := .invokespecial 42) (c_Me_init l htr D tys z _ ws56 q55 23 0 0 0 (Value.null) f_23_ws56) (gx_invIN (As := []) (rest := [Value.ref q55, Value.int 2, Value.ref q42]) hx hb hown hts km_Le_42 kI_Me_init kc_Me_init (by decide) rfl (show (parseMethodDescriptor y_Me_init.desc).map (fun d => d.parameters.length) = some 0 by decide +kernel) rfl rfl d_Le_init_83) (gx_cw (z := 0) hts kc_Me_init kN_Me rfl rfl ⟨Nat.le_of_ble_eq_true rfl, Nat.le_of_ble_eq_true rfl⟩) hb hml gx_blind (gx_pre hz hP hK hD hY hS hAz [Value.ref q55]) rfl hl.1 (lv_room (Nat.le_of_ble_eq_true rfl)) d_Le_init_83 ⟨Nat.le_of_ble_eq_true rfl, Nat.le_of_ble_eq_true rfl⟩ (fun v57 st57 t57 L57 h0_57 hW_57 hQ_57 hL_57 => ?_) (fun v57 st57 t57 L57 h0_57 hW_57 hQ_57 hL_57 => ?_)
                · obtain ⟨ws58, hp, hP9, -, hD9, hS9⟩ := gx_back h0_57 hW_57 hQ_57 hL_57 hD hS hA
                  clear hQ_57 h0_57 hL_57 hW_57 hP hD hS
                  have hP := hP9
                  have hD := hD9
                  have hS := hS9
                  clear hP9 hD9 hS9
                  rcases hp with ⟨hv9, e_ws58⟩
                  cases hv9
                  rw [e_ws58] at hP hD
                  refine W.eq (g2 := F0 m 86 ls [Value.ref q55, Value.int 2, Value.ref q42]) rfl ?_
                  generalize t57.heap = H at hP hS ⊢
                  generalize locs ++ L57 = locs at hS ⊢
                  have f_20_ws56 : ws56[20]? = some ((q42, Sum.inl (cM, 4, Sum.inr (Sum.inr (Sum.inr (Sum.inr (va_up (va_up (fun _ => none) 0 (some q45)) 1 (some q50))))))) : Nat × va_E) := by rw [e_ws56]; exact gs_app f_20_ws54
                  clear f_20_ws54
                  refine gx_aast (D := D) (j := 2) hx hb hK hP hD hS 20 3 23 5 f_20_ws56 ht3 f_23_ws56 rfl (gx_inl (by decide)) (by decide) d_Le_init_86 (fun H locs hP9 hD9 hS9 => ?_)
                  obtain ⟨ws59, e_ws59⟩ : ∃ x : va_W, x = ws56.set 20 ((q42, Sum.inl (cM, 4, Sum.inr (Sum.inr (Sum.inr (Sum.inr (va_up (va_up (va_up (fun _ => none) 0 (some q45)) 1 (some q50)) 2 (some q55))))))) : Nat × va_E) := ⟨_, rfl⟩
                  replace hP : va_P D classes ws59 H := by rw [e_ws59]; exact hP9
                  replace hD : va_D A ws59 := by rw [e_ws59]; exact hD9
                  replace hS := hS9
                  clear hP9 hD9 hS9
                  have f_20_ws59 : ws59[20]? = some ((q42, Sum.inl (cM, 4, Sum.inr (Sum.inr (Sum.inr (Sum.inr (va_up (va_up (va_up (fun _ => none) 0 (some q45)) 1 (some q50)) 2 (some q55))))))) : Nat × va_E) := by rw [e_ws59]; exact gs_self f_20_ws56
                  replace hlen : ws59.length = 24 := by rw [e_ws59]; exact gs_lens hlen
                  replace hU : gx_g ws ws59 23 [0] := by rw [e_ws59]; exact hU.put (Or.inr (by rw [hlen0]; decide))
                  refine lv_iinc (v := 3) (lv' := [(1, Value.int 3), (0, Value.ref a)]) hx hb d_Le_init_87 hl (k := 0) rfl (by decide) (by decide) rfl (fun ls hl => ?_)
                  refine lv_goto (tgt := 69) hx hb d_Le_init_90 (by decide) ?_
                  refine lv_iload_n hx hb d_Le_init_69 rfl (lv_at hl 0 rfl) ?_
                  refine lv_iconst (v := 4) hx hb d_Le_init_70 (by decide) ?_
                  refine lv_icmp_ge (tgt := 93) hx hb d_Le_init_71 (by decide) (fun c9 => absurd c9 (by decide)) (fun _ => ?_)
                  refine lv_aload_n hx hb d_Le_init_74 rfl (lv_at hl 1 rfl) ?_
                  have f_0_ws56 : ws56[0]? = some ((a, Sum.inr (0, [Value.ref q1, Value.ref q9, Value.ref q18, Value.ref q42, Value.null, Value.ref q26, Value.ref q34, Value.int 0, Value.int 0, Value.int 0, Value.int 0, Value.int 0, Value.int 0, Value.int 0, Value.int 0, Value.int 0, Value.int 0, Value.int 0])) : Nat × va_E) := by rw [e_ws56]; exact gs_app f_0_ws54
                  clear f_0_ws54
                  have f_0_ws59 : ws59[0]? = some ((a, Sum.inr (0, [Value.ref q1, Value.ref q9, Value.ref q18, Value.ref q42, Value.null, Value.ref q26, Value.ref q34, Value.int 0, Value.int 0, Value.int 0, Value.int 0, Value.int 0, Value.int 0, Value.int 0, Value.int 0, Value.int 0, Value.int 0, Value.int 0])) : Nat × va_E) := by rw [e_ws59]; exact gs_ne (by decide) f_0_ws56
                  clear f_0_ws56
                  refine va_get (D := D) (ci := 0) (v := Value.ref q42) (C := "CommitLedger") (T := F_Le) (N := 18) hx hb hts i_Le hown hK hP 0 f_0_ws59 rfl 3 (by decide) (hts _ kf_Le_38) (fun _ h9 => h9) rfl d_Le_init_75 ?_
                  refine lv_iload_n hx hb d_Le_init_78 rfl (lv_at hl 0 rfl) ?_
                  refine va_new (ci := 5) (fs := [Value.int 0, Value.int 0, Value.int 0, Value.null]) (C := "CommitLedger$Merge") (T := F_Me) (N := 4) hx hb hts i_Me t_Me t_Me_ok hown (hts _ kk_Le_36) (hts _ kX_Me) (hts _ kN_Me) hK hP hD hS hA rfl (by decide) (Nat.le_of_ble_eq_true rfl) (Nat.le_of_ble_eq_true rfl) d_Le_init_79 (fun q60 H hP9 hD9 hS9 => ?_)
                  obtain ⟨ws61, e_ws61⟩ : ∃ x : va_W, x = ws59 ++ [((q60, Sum.inr (5, [Value.int 0, Value.int 0, Value.int 0, Value.null])) : Nat × va_E)] := ⟨_, rfl⟩
                  replace hP : va_P D classes ws61 H := by rw [e_ws61]; exact hP9
                  replace hD : va_D A ws61 := by rw [e_ws61]; exact hD9
                  replace hS := hS9
                  clear hP9 hD9 hS9
                  have f_24_ws61 : ws61[24]? = some ((q60, Sum.inr (5, [Value.int 0, Value.int 0, Value.int 0, Value.null])) : Nat × va_E) := by rw [e_ws61]; exact gs_last hlen
                  replace hlen : ws61.length = 25 := by rw [e_ws61]; exact gs_len hlen
                  replace hU : gx_g ws ws61 24 [0] := by rw [e_ws61]; exact hU.push
                  refine W.widen (k := 24) (n := 49204) (by decide) (by decide) ?_
                  refine lv_dup hx hb d_Le_init_82 rfl ?_
                  refine gx_call (ig := .invokespecial 42) (c_Me_init l htr D tys z _ ws61 q60 24 0 0 0 (Value.null) f_24_ws61) (gx_invIN (As := []) (rest := [Value.ref q60, Value.int 3, Value.ref q42]) hx hb hown hts km_Le_42 kI_Me_init kc_Me_init (by decide) rfl (show (parseMethodDescriptor y_Me_init.desc).map (fun d => d.parameters.length) = some 0 by decide +kernel) rfl rfl d_Le_init_83) (gx_cw (z := 0) hts kc_Me_init kN_Me rfl rfl ⟨Nat.le_of_ble_eq_true rfl, Nat.le_of_ble_eq_true rfl⟩) hb hml gx_blind (gx_pre hz hP hK hD hY hS hAz [Value.ref q60]) rfl hl.1 (lv_room (Nat.le_of_ble_eq_true rfl)) d_Le_init_83 ⟨Nat.le_of_ble_eq_true rfl, Nat.le_of_ble_eq_true rfl⟩ (fun v62 st62 t62 L62 h0_62 hW_62 hQ_62 hL_62 => ?_) (fun v62 st62 t62 L62 h0_62 hW_62 hQ_62 hL_62 => ?_)
                  · obtain ⟨ws63, hp, hP9, -, hD9, hS9⟩ := gx_back h0_62 hW_62 hQ_62 hL_62 hD hS hA
                    clear hQ_62 h0_62 hL_62 hW_62 hP hD hS
                    have hP := hP9
                    have hD := hD9
                    have hS := hS9
                    clear hP9 hD9 hS9
                    rcases hp with ⟨hv9, e_ws63⟩
                    cases hv9
                    rw [e_ws63] at hP hD
                    refine W.eq (g2 := F0 m 86 ls [Value.ref q60, Value.int 3, Value.ref q42]) rfl ?_
                    generalize t62.heap = H at hP hS ⊢
                    generalize locs ++ L62 = locs at hS ⊢
                    have f_20_ws61 : ws61[20]? = some ((q42, Sum.inl (cM, 4, Sum.inr (Sum.inr (Sum.inr (Sum.inr (va_up (va_up (va_up (fun _ => none) 0 (some q45)) 1 (some q50)) 2 (some q55))))))) : Nat × va_E) := by rw [e_ws61]; exact gs_app f_20_ws59
                    clear f_20_ws59
                    refine gx_aast (D := D) (j := 3) hx hb hK hP hD hS 20 3 24 5 f_20_ws61 ht3 f_24_ws61 rfl (gx_inl (by decide)) (by decide) d_Le_init_86 (fun H locs hP9 hD9 hS9 => ?_)
                    obtain ⟨ws64, e_ws64⟩ : ∃ x : va_W, x = ws61.set 20 ((q42, Sum.inl (cM, 4, Sum.inr (Sum.inr (Sum.inr (Sum.inr (va_up (va_up (va_up (va_up (fun _ => none) 0 (some q45)) 1 (some q50)) 2 (some q55)) 3 (some q60))))))) : Nat × va_E) := ⟨_, rfl⟩
                    replace hP : va_P D classes ws64 H := by rw [e_ws64]; exact hP9
                    replace hD : va_D A ws64 := by rw [e_ws64]; exact hD9
                    replace hS := hS9
                    clear hP9 hD9 hS9
                    have f_20_ws64 : ws64[20]? = some ((q42, Sum.inl (cM, 4, Sum.inr (Sum.inr (Sum.inr (Sum.inr (va_up (va_up (va_up (va_up (fun _ => none) 0 (some q45)) 1 (some q50)) 2 (some q55)) 3 (some q60))))))) : Nat × va_E) := by rw [e_ws64]; exact gs_self f_20_ws61
                    replace hlen : ws64.length = 25 := by rw [e_ws64]; exact gs_lens hlen
                    replace hU : gx_g ws ws64 24 [0] := by rw [e_ws64]; exact hU.put (Or.inr (by rw [hlen0]; decide))
                    refine lv_iinc (v := 4) (lv' := [(1, Value.int 4), (0, Value.ref a)]) hx hb d_Le_init_87 hl (k := 0) rfl (by decide) (by decide) rfl (fun ls hl => ?_)
                    refine lv_goto (tgt := 69) hx hb d_Le_init_90 (by decide) ?_
                    refine lv_iload_n hx hb d_Le_init_69 rfl (lv_at hl 0 rfl) ?_
                    refine lv_iconst (v := 4) hx hb d_Le_init_70 (by decide) ?_
                    refine lv_icmp_ge (tgt := 93) hx hb d_Le_init_71 (by decide) (fun _ => ?_) (fun c9 => absurd (by decide) c9)
                    refine lv_aload_n hx hb d_Le_init_93 rfl (lv_at hl 1 rfl) ?_
                    refine lv_iconst (v := 4) hx hb d_Le_init_94 (by decide) ?_
                    refine gx_newq (C := "CommitLedger$Reader") (N' := 4) hx hb hown (hts _ kk_Le_43) (hts _ kO_Re) hK hP hD hS hA 4 ht4 (by decide) (by decide) (by decide) (Nat.le_of_ble_eq_true rfl) (Nat.le_of_ble_eq_true rfl) d_Le_init_95 (fun q65 H hP9 hD9 hS9 => ?_)
                    obtain ⟨ws66, e_ws66⟩ : ∃ x : va_W, x = ws64 ++ [((q65, Sum.inl (cR, 4, Sum.inr (Sum.inr (Sum.inr (Sum.inr (fun _ => none)))))) : Nat × va_E)] := ⟨_, rfl⟩
                    replace hP : va_P D classes ws66 H := by rw [e_ws66]; exact hP9
                    replace hD : va_D A ws66 := by rw [e_ws66]; exact hD9
                    replace hS := hS9
                    clear hP9 hD9 hS9
                    have f_25_ws66 : ws66[25]? = some ((q65, Sum.inl (cR, 4, Sum.inr (Sum.inr (Sum.inr (Sum.inr (fun _ => none)))))) : Nat × va_E) := by rw [e_ws66]; exact gs_last hlen
                    replace hlen : ws66.length = 26 := by rw [e_ws66]; exact gs_len hlen
                    replace hU : gx_g ws ws66 25 [0] := by rw [e_ws66]; exact hU.push
                    refine W.widen (k := 25) (n := 49208) (by decide) (by decide) ?_
                    have f_0_ws61 : ws61[0]? = some ((a, Sum.inr (0, [Value.ref q1, Value.ref q9, Value.ref q18, Value.ref q42, Value.null, Value.ref q26, Value.ref q34, Value.int 0, Value.int 0, Value.int 0, Value.int 0, Value.int 0, Value.int 0, Value.int 0, Value.int 0, Value.int 0, Value.int 0, Value.int 0])) : Nat × va_E) := by rw [e_ws61]; exact gs_app f_0_ws59
                    clear f_0_ws59
                    have f_0_ws64 : ws64[0]? = some ((a, Sum.inr (0, [Value.ref q1, Value.ref q9, Value.ref q18, Value.ref q42, Value.null, Value.ref q26, Value.ref q34, Value.int 0, Value.int 0, Value.int 0, Value.int 0, Value.int 0, Value.int 0, Value.int 0, Value.int 0, Value.int 0, Value.int 0, Value.int 0])) : Nat × va_E) := by rw [e_ws64]; exact gs_ne (by decide) f_0_ws61
                    clear f_0_ws61
                    have f_0_ws66 : ws66[0]? = some ((a, Sum.inr (0, [Value.ref q1, Value.ref q9, Value.ref q18, Value.ref q42, Value.null, Value.ref q26, Value.ref q34, Value.int 0, Value.int 0, Value.int 0, Value.int 0, Value.int 0, Value.int 0, Value.int 0, Value.int 0, Value.int 0, Value.int 0, Value.int 0])) : Nat × va_E) := by rw [e_ws66]; exact gs_app f_0_ws64
                    clear f_0_ws64
                    refine va_putF (D := D) (ci := 0) (v := Value.ref q65) (ty := .array (.object "CommitLedger$Reader")) (C := "CommitLedger") (T := F_Le) (N := 18) hx hb hts i_Le t_Le t_Le_ok n_Le hown hK hP hD hS 0 f_0_ws66 rfl 4 (by decide) (hts _ kf_Le_45) (fun _ h9 => h9) rfl hin rfl (by decide +kernel) rfl rfl (Nat.le_of_ble_eq_true rfl) d_Le_init_98 (fun H locs hP9 hD9 hS9 => ?_)
                    obtain ⟨ws67, e_ws67⟩ : ∃ x : va_W, x = ws66.set 0 ((a, Sum.inr (0, [Value.ref q1, Value.ref q9, Value.ref q18, Value.ref q42, Value.ref q65, Value.ref q26, Value.ref q34, Value.int 0, Value.int 0, Value.int 0, Value.int 0, Value.int 0, Value.int 0, Value.int 0, Value.int 0, Value.int 0, Value.int 0, Value.int 0])) : Nat × va_E) := ⟨_, rfl⟩
                    replace hP : va_P D classes ws67 H := by rw [e_ws67]; exact hP9
                    replace hD : va_D A ws67 := by rw [e_ws67]; exact hD9
                    replace hS := hS9
                    clear hP9 hD9 hS9
                    have f_0_ws67 : ws67[0]? = some ((a, Sum.inr (0, [Value.ref q1, Value.ref q9, Value.ref q18, Value.ref q42, Value.ref q65, Value.ref q26, Value.ref q34, Value.int 0, Value.int 0, Value.int 0, Value.int 0, Value.int 0, Value.int 0, Value.int 0, Value.int 0, Value.int 0, Value.int 0, Value.int 0])) : Nat × va_E) := by rw [e_ws67]; exact gs_self f_0_ws66
                    replace hlen : ws67.length = 26 := by rw [e_ws67]; exact gs_lens hlen
                    replace hU : gx_g ws ws67 25 [0] := by rw [e_ws67]; exact hU.put (Or.inl (by simp))
                    refine lv_iconst (v := 0) hx hb d_Le_init_101 (by decide) ?_
                    refine lv_istore_n (lv' := [(1, Value.int 0), (0, Value.ref a)]) hx hb d_Le_init_102 rfl hl (by decide) rfl (fun ls hl => ?_)
                    refine lv_iload_n hx hb d_Le_init_103 rfl (lv_at hl 0 rfl) ?_
                    refine lv_iconst (v := 4) hx hb d_Le_init_104 (by decide) ?_
                    refine lv_icmp_ge (tgt := 127) hx hb d_Le_init_105 (by decide) (fun c9 => absurd c9 (by decide)) (fun _ => ?_)
                    refine lv_aload_n hx hb d_Le_init_108 rfl (lv_at hl 1 rfl) ?_
                    refine va_get (D := D) (ci := 0) (v := Value.ref q65) (C := "CommitLedger") (T := F_Le) (N := 18) hx hb hts i_Le hown hK hP 0 f_0_ws67 rfl 4 (by decide) (hts _ kf_Le_45) (fun _ h9 => h9) rfl d_Le_init_109 ?_
                    refine lv_iload_n hx hb d_Le_init_112 rfl (lv_at hl 0 rfl) ?_
                    refine va_new (ci := 6) (fs := [Value.null, Value.int 0, Value.int 0]) (C := "CommitLedger$Reader") (T := F_Re) (N := 3) hx hb hts i_Re t_Re t_Re_ok hown (hts _ kk_Le_43) (hts _ kX_Re) (hts _ kN_Re) hK hP hD hS hA rfl (by decide) (Nat.le_of_ble_eq_true rfl) (Nat.le_of_ble_eq_true rfl) d_Le_init_113 (fun q68 H hP9 hD9 hS9 => ?_)
                    obtain ⟨ws69, e_ws69⟩ : ∃ x : va_W, x = ws67 ++ [((q68, Sum.inr (6, [Value.null, Value.int 0, Value.int 0])) : Nat × va_E)] := ⟨_, rfl⟩
                    replace hP : va_P D classes ws69 H := by rw [e_ws69]; exact hP9
                    replace hD : va_D A ws69 := by rw [e_ws69]; exact hD9
                    replace hS := hS9
                    clear hP9 hD9 hS9
                    have f_26_ws69 : ws69[26]? = some ((q68, Sum.inr (6, [Value.null, Value.int 0, Value.int 0])) : Nat × va_E) := by rw [e_ws69]; exact gs_last hlen
                    replace hlen : ws69.length = 27 := by rw [e_ws69]; exact gs_len hlen
                    replace hU : gx_g ws ws69 26 [0] := by rw [e_ws69]; exact hU.push
                    refine W.widen (k := 26) (n := 49211) (by decide) (by decide) ?_
                    refine lv_dup hx hb d_Le_init_116 rfl ?_
                    refine gx_call (ig := .invokespecial 49) (c_Re_init l htr D tys z _ ws69 cZ cF q68 26 27 f_26_ws69 ht1 ht2 hlen (by decide)) (gx_invIN (As := []) (rest := [Value.ref q68, Value.int 0, Value.ref q65]) hx hb hown hts km_Le_49 kI_Re_init kc_Re_init (by decide) rfl (show (parseMethodDescriptor y_Re_init.desc).map (fun d => d.parameters.length) = some 0 by decide +kernel) rfl rfl d_Le_init_117) (gx_cw (z := 0) hts kc_Re_init kN_Re rfl rfl ⟨Nat.le_of_ble_eq_true rfl, Nat.le_of_ble_eq_true rfl⟩) hb hml gx_blind (gx_pre hz hP hK hD hY hS hAz [Value.ref q68]) rfl hl.1 (lv_room (Nat.le_of_ble_eq_true rfl)) d_Le_init_117 ⟨Nat.le_of_ble_eq_true rfl, Nat.le_of_ble_eq_true rfl⟩ (fun v70 st70 t70 L70 h0_70 hW_70 hQ_70 hL_70 => ?_) (fun v70 st70 t70 L70 h0_70 hW_70 hQ_70 hL_70 => ?_)
                    · obtain ⟨ws71, hp, hP9, -, hD9, hS9⟩ := gx_back h0_70 hW_70 hQ_70 hL_70 hD hS hA
                      clear hQ_70 h0_70 hL_70 hW_70 hP hD hS
                      have hP := hP9
                      have hD := hD9
                      have hS := hS9
                      clear hP9 hD9 hS9
                      rcases hp with ⟨q72, q73, q74, q75, hv9, e_ws71, f_26_ws71, f_27_ws71, f_28_ws71, f_29_ws71, f_30_ws71⟩
                      cases hv9
                      have f_26_ws71 : ws71[26]? = some ((q68, Sum.inr (6, [Value.ref q72, Value.int 0, Value.int 0])) : Nat × va_E) := f_26_ws71
                      have f_27_ws71 : ws71[27]? = some ((q72, Sum.inr (4, [Value.ref q73, Value.ref q74, Value.ref q75, Value.null, Value.int 0, Value.int 0])) : Nat × va_E) := f_27_ws71
                      have f_28_ws71 : ws71[28]? = some ((q73, Sum.inl (cF, 4096, Sum.inr (Sum.inr (Sum.inr (Sum.inr (fun _ => none)))))) : Nat × va_E) := f_28_ws71
                      have f_29_ws71 : ws71[29]? = some ((q74, Sum.inl (cF, 4096, Sum.inr (Sum.inr (Sum.inr (Sum.inr (fun _ => none)))))) : Nat × va_E) := f_29_ws71
                      have f_30_ws71 : ws71[30]? = some ((q75, Sum.inl (cZ, 4096, Sum.inl (fun _ => 0))) : Nat × va_E) := f_30_ws71
                      replace hlen : ws71.length = 31 := by rw [e_ws71.1, hlen]
                      replace hU : gx_g ws ws71 30 [0] := hU.call e_ws71 (by rw [hlen0]; decide)
                      refine W.eq (g2 := F0 m 120 ls [Value.ref q68, Value.int 0, Value.ref q65]) rfl ?_
                      refine W.widen (k := 30) (n := 61505) (by decide) (by decide) ?_
                      generalize t70.heap = H at hP hS ⊢
                      generalize locs ++ L70 = locs at hS ⊢
                      have f_25_ws67 : ws67[25]? = some ((q65, Sum.inl (cR, 4, Sum.inr (Sum.inr (Sum.inr (Sum.inr (fun _ => none)))))) : Nat × va_E) := by rw [e_ws67]; exact gs_ne (by decide) f_25_ws66
                      clear f_25_ws66
                      have f_25_ws69 : ws69[25]? = some ((q65, Sum.inl (cR, 4, Sum.inr (Sum.inr (Sum.inr (Sum.inr (fun _ => none)))))) : Nat × va_E) := by rw [e_ws69]; exact gs_app f_25_ws67
                      clear f_25_ws67
                      have f_25_ws71 : ws71[25]? = some ((q65, Sum.inl (cR, 4, Sum.inr (Sum.inr (Sum.inr (Sum.inr (fun _ => none)))))) : Nat × va_E) := e_ws71.at (by first | decide | (simp; done) | (simp; omega)) f_25_ws69
                      clear f_25_ws69
                      refine gx_aast (D := D) (j := 0) hx hb hK hP hD hS 25 4 26 6 f_25_ws71 ht4 f_26_ws71 rfl (gx_inl (by decide)) (by decide) d_Le_init_120 (fun H locs hP9 hD9 hS9 => ?_)
                      obtain ⟨ws76, e_ws76⟩ : ∃ x : va_W, x = ws71.set 25 ((q65, Sum.inl (cR, 4, Sum.inr (Sum.inr (Sum.inr (Sum.inr (va_up (fun _ => none) 0 (some q68))))))) : Nat × va_E) := ⟨_, rfl⟩
                      replace hP : va_P D classes ws76 H := by rw [e_ws76]; exact hP9
                      replace hD : va_D A ws76 := by rw [e_ws76]; exact hD9
                      replace hS := hS9
                      clear hP9 hD9 hS9
                      have f_25_ws76 : ws76[25]? = some ((q65, Sum.inl (cR, 4, Sum.inr (Sum.inr (Sum.inr (Sum.inr (va_up (fun _ => none) 0 (some q68))))))) : Nat × va_E) := by rw [e_ws76]; exact gs_self f_25_ws71
                      replace hlen : ws76.length = 31 := by rw [e_ws76]; exact gs_lens hlen
                      replace hU : gx_g ws ws76 30 [0] := by rw [e_ws76]; exact hU.put (Or.inr (by rw [hlen0]; decide))
                      refine lv_iinc (v := 1) (lv' := [(1, Value.int 1), (0, Value.ref a)]) hx hb d_Le_init_121 hl (k := 0) rfl (by decide) (by decide) rfl (fun ls hl => ?_)
                      refine lv_goto (tgt := 103) hx hb d_Le_init_124 (by decide) ?_
                      refine lv_iload_n hx hb d_Le_init_103 rfl (lv_at hl 0 rfl) ?_
                      refine lv_iconst (v := 4) hx hb d_Le_init_104 (by decide) ?_
                      refine lv_icmp_ge (tgt := 127) hx hb d_Le_init_105 (by decide) (fun c9 => absurd c9 (by decide)) (fun _ => ?_)
                      refine lv_aload_n hx hb d_Le_init_108 rfl (lv_at hl 1 rfl) ?_
                      have f_0_ws69 : ws69[0]? = some ((a, Sum.inr (0, [Value.ref q1, Value.ref q9, Value.ref q18, Value.ref q42, Value.ref q65, Value.ref q26, Value.ref q34, Value.int 0, Value.int 0, Value.int 0, Value.int 0, Value.int 0, Value.int 0, Value.int 0, Value.int 0, Value.int 0, Value.int 0, Value.int 0])) : Nat × va_E) := by rw [e_ws69]; exact gs_app f_0_ws67
                      clear f_0_ws67
                      have f_0_ws71 : ws71[0]? = some ((a, Sum.inr (0, [Value.ref q1, Value.ref q9, Value.ref q18, Value.ref q42, Value.ref q65, Value.ref q26, Value.ref q34, Value.int 0, Value.int 0, Value.int 0, Value.int 0, Value.int 0, Value.int 0, Value.int 0, Value.int 0, Value.int 0, Value.int 0, Value.int 0])) : Nat × va_E) := e_ws71.at (by first | decide | (simp; done) | (simp; omega)) f_0_ws69
                      clear f_0_ws69
                      have f_0_ws76 : ws76[0]? = some ((a, Sum.inr (0, [Value.ref q1, Value.ref q9, Value.ref q18, Value.ref q42, Value.ref q65, Value.ref q26, Value.ref q34, Value.int 0, Value.int 0, Value.int 0, Value.int 0, Value.int 0, Value.int 0, Value.int 0, Value.int 0, Value.int 0, Value.int 0, Value.int 0])) : Nat × va_E) := by rw [e_ws76]; exact gs_ne (by decide) f_0_ws71
                      clear f_0_ws71
                      refine va_get (D := D) (ci := 0) (v := Value.ref q65) (C := "CommitLedger") (T := F_Le) (N := 18) hx hb hts i_Le hown hK hP 0 f_0_ws76 rfl 4 (by decide) (hts _ kf_Le_45) (fun _ h9 => h9) rfl d_Le_init_109 ?_
                      refine lv_iload_n hx hb d_Le_init_112 rfl (lv_at hl 0 rfl) ?_
                      refine va_new (ci := 6) (fs := [Value.null, Value.int 0, Value.int 0]) (C := "CommitLedger$Reader") (T := F_Re) (N := 3) hx hb hts i_Re t_Re t_Re_ok hown (hts _ kk_Le_43) (hts _ kX_Re) (hts _ kN_Re) hK hP hD hS hA rfl (by decide) (Nat.le_of_ble_eq_true rfl) (Nat.le_of_ble_eq_true rfl) d_Le_init_113 (fun q77 H hP9 hD9 hS9 => ?_)
                      obtain ⟨ws78, e_ws78⟩ : ∃ x : va_W, x = ws76 ++ [((q77, Sum.inr (6, [Value.null, Value.int 0, Value.int 0])) : Nat × va_E)] := ⟨_, rfl⟩
                      replace hP : va_P D classes ws78 H := by rw [e_ws78]; exact hP9
                      replace hD : va_D A ws78 := by rw [e_ws78]; exact hD9
                      replace hS := hS9
                      clear hP9 hD9 hS9
                      have f_31_ws78 : ws78[31]? = some ((q77, Sum.inr (6, [Value.null, Value.int 0, Value.int 0])) : Nat × va_E) := by rw [e_ws78]; exact gs_last hlen
                      replace hlen : ws78.length = 32 := by rw [e_ws78]; exact gs_len hlen
                      replace hU : gx_g ws ws78 31 [0] := by rw [e_ws78]; exact hU.push
                      refine W.widen (k := 31) (n := 61508) (by decide) (by decide) ?_
                      refine lv_dup hx hb d_Le_init_116 rfl ?_
                      refine gx_call (ig := .invokespecial 49) (c_Re_init l htr D tys z _ ws78 cZ cF q77 31 32 f_31_ws78 ht1 ht2 hlen (by decide)) (gx_invIN (As := []) (rest := [Value.ref q77, Value.int 1, Value.ref q65]) hx hb hown hts km_Le_49 kI_Re_init kc_Re_init (by decide) rfl (show (parseMethodDescriptor y_Re_init.desc).map (fun d => d.parameters.length) = some 0 by decide +kernel) rfl rfl d_Le_init_117) (gx_cw (z := 0) hts kc_Re_init kN_Re rfl rfl ⟨Nat.le_of_ble_eq_true rfl, Nat.le_of_ble_eq_true rfl⟩) hb hml gx_blind (gx_pre hz hP hK hD hY hS hAz [Value.ref q77]) rfl hl.1 (lv_room (Nat.le_of_ble_eq_true rfl)) d_Le_init_117 ⟨Nat.le_of_ble_eq_true rfl, Nat.le_of_ble_eq_true rfl⟩ (fun v79 st79 t79 L79 h0_79 hW_79 hQ_79 hL_79 => ?_) (fun v79 st79 t79 L79 h0_79 hW_79 hQ_79 hL_79 => ?_)
                      · obtain ⟨ws80, hp, hP9, -, hD9, hS9⟩ := gx_back h0_79 hW_79 hQ_79 hL_79 hD hS hA
                        clear hQ_79 h0_79 hL_79 hW_79 hP hD hS
                        have hP := hP9
                        have hD := hD9
                        have hS := hS9
                        clear hP9 hD9 hS9
                        rcases hp with ⟨q81, q82, q83, q84, hv9, e_ws80, f_31_ws80, f_32_ws80, f_33_ws80, f_34_ws80, f_35_ws80⟩
                        cases hv9
                        have f_31_ws80 : ws80[31]? = some ((q77, Sum.inr (6, [Value.ref q81, Value.int 0, Value.int 0])) : Nat × va_E) := f_31_ws80
                        have f_32_ws80 : ws80[32]? = some ((q81, Sum.inr (4, [Value.ref q82, Value.ref q83, Value.ref q84, Value.null, Value.int 0, Value.int 0])) : Nat × va_E) := f_32_ws80
                        have f_33_ws80 : ws80[33]? = some ((q82, Sum.inl (cF, 4096, Sum.inr (Sum.inr (Sum.inr (Sum.inr (fun _ => none)))))) : Nat × va_E) := f_33_ws80
                        have f_34_ws80 : ws80[34]? = some ((q83, Sum.inl (cF, 4096, Sum.inr (Sum.inr (Sum.inr (Sum.inr (fun _ => none)))))) : Nat × va_E) := f_34_ws80
                        have f_35_ws80 : ws80[35]? = some ((q84, Sum.inl (cZ, 4096, Sum.inl (fun _ => 0))) : Nat × va_E) := f_35_ws80
                        replace hlen : ws80.length = 36 := by rw [e_ws80.1, hlen]
                        replace hU : gx_g ws ws80 35 [0] := hU.call e_ws80 (by rw [hlen0]; decide)
                        refine W.eq (g2 := F0 m 120 ls [Value.ref q77, Value.int 1, Value.ref q65]) rfl ?_
                        refine W.widen (k := 35) (n := 73802) (by decide) (by decide) ?_
                        generalize t79.heap = H at hP hS ⊢
                        generalize locs ++ L79 = locs at hS ⊢
                        have f_25_ws78 : ws78[25]? = some ((q65, Sum.inl (cR, 4, Sum.inr (Sum.inr (Sum.inr (Sum.inr (va_up (fun _ => none) 0 (some q68))))))) : Nat × va_E) := by rw [e_ws78]; exact gs_app f_25_ws76
                        clear f_25_ws76
                        have f_25_ws80 : ws80[25]? = some ((q65, Sum.inl (cR, 4, Sum.inr (Sum.inr (Sum.inr (Sum.inr (va_up (fun _ => none) 0 (some q68))))))) : Nat × va_E) := e_ws80.at (by first | decide | (simp; done) | (simp; omega)) f_25_ws78
                        clear f_25_ws78
                        refine gx_aast (D := D) (j := 1) hx hb hK hP hD hS 25 4 31 6 f_25_ws80 ht4 f_31_ws80 rfl (gx_inl (by decide)) (by decide) d_Le_init_120 (fun H locs hP9 hD9 hS9 => ?_)
                        obtain ⟨ws85, e_ws85⟩ : ∃ x : va_W, x = ws80.set 25 ((q65, Sum.inl (cR, 4, Sum.inr (Sum.inr (Sum.inr (Sum.inr (va_up (va_up (fun _ => none) 0 (some q68)) 1 (some q77))))))) : Nat × va_E) := ⟨_, rfl⟩
                        replace hP : va_P D classes ws85 H := by rw [e_ws85]; exact hP9
                        replace hD : va_D A ws85 := by rw [e_ws85]; exact hD9
                        replace hS := hS9
                        clear hP9 hD9 hS9
                        have f_25_ws85 : ws85[25]? = some ((q65, Sum.inl (cR, 4, Sum.inr (Sum.inr (Sum.inr (Sum.inr (va_up (va_up (fun _ => none) 0 (some q68)) 1 (some q77))))))) : Nat × va_E) := by rw [e_ws85]; exact gs_self f_25_ws80
                        replace hlen : ws85.length = 36 := by rw [e_ws85]; exact gs_lens hlen
                        replace hU : gx_g ws ws85 35 [0] := by rw [e_ws85]; exact hU.put (Or.inr (by rw [hlen0]; decide))
                        refine lv_iinc (v := 2) (lv' := [(1, Value.int 2), (0, Value.ref a)]) hx hb d_Le_init_121 hl (k := 0) rfl (by decide) (by decide) rfl (fun ls hl => ?_)
                        refine lv_goto (tgt := 103) hx hb d_Le_init_124 (by decide) ?_
                        refine lv_iload_n hx hb d_Le_init_103 rfl (lv_at hl 0 rfl) ?_
                        refine lv_iconst (v := 4) hx hb d_Le_init_104 (by decide) ?_
                        refine lv_icmp_ge (tgt := 127) hx hb d_Le_init_105 (by decide) (fun c9 => absurd c9 (by decide)) (fun _ => ?_)
                        refine lv_aload_n hx hb d_Le_init_108 rfl (lv_at hl 1 rfl) ?_
                        have f_0_ws78 : ws78[0]? = some ((a, Sum.inr (0, [Value.ref q1, Value.ref q9, Value.ref q18, Value.ref q42, Value.ref q65, Value.ref q26, Value.ref q34, Value.int 0, Value.int 0, Value.int 0, Value.int 0, Value.int 0, Value.int 0, Value.int 0, Value.int 0, Value.int 0, Value.int 0, Value.int 0])) : Nat × va_E) := by rw [e_ws78]; exact gs_app f_0_ws76
                        clear f_0_ws76
                        have f_0_ws80 : ws80[0]? = some ((a, Sum.inr (0, [Value.ref q1, Value.ref q9, Value.ref q18, Value.ref q42, Value.ref q65, Value.ref q26, Value.ref q34, Value.int 0, Value.int 0, Value.int 0, Value.int 0, Value.int 0, Value.int 0, Value.int 0, Value.int 0, Value.int 0, Value.int 0, Value.int 0])) : Nat × va_E) := e_ws80.at (by first | decide | (simp; done) | (simp; omega)) f_0_ws78
                        clear f_0_ws78
                        have f_0_ws85 : ws85[0]? = some ((a, Sum.inr (0, [Value.ref q1, Value.ref q9, Value.ref q18, Value.ref q42, Value.ref q65, Value.ref q26, Value.ref q34, Value.int 0, Value.int 0, Value.int 0, Value.int 0, Value.int 0, Value.int 0, Value.int 0, Value.int 0, Value.int 0, Value.int 0, Value.int 0])) : Nat × va_E) := by rw [e_ws85]; exact gs_ne (by decide) f_0_ws80
                        clear f_0_ws80
                        refine va_get (D := D) (ci := 0) (v := Value.ref q65) (C := "CommitLedger") (T := F_Le) (N := 18) hx hb hts i_Le hown hK hP 0 f_0_ws85 rfl 4 (by decide) (hts _ kf_Le_45) (fun _ h9 => h9) rfl d_Le_init_109 ?_
                        refine lv_iload_n hx hb d_Le_init_112 rfl (lv_at hl 0 rfl) ?_
                        refine va_new (ci := 6) (fs := [Value.null, Value.int 0, Value.int 0]) (C := "CommitLedger$Reader") (T := F_Re) (N := 3) hx hb hts i_Re t_Re t_Re_ok hown (hts _ kk_Le_43) (hts _ kX_Re) (hts _ kN_Re) hK hP hD hS hA rfl (by decide) (Nat.le_of_ble_eq_true rfl) (Nat.le_of_ble_eq_true rfl) d_Le_init_113 (fun q86 H hP9 hD9 hS9 => ?_)
                        obtain ⟨ws87, e_ws87⟩ : ∃ x : va_W, x = ws85 ++ [((q86, Sum.inr (6, [Value.null, Value.int 0, Value.int 0])) : Nat × va_E)] := ⟨_, rfl⟩
                        replace hP : va_P D classes ws87 H := by rw [e_ws87]; exact hP9
                        replace hD : va_D A ws87 := by rw [e_ws87]; exact hD9
                        replace hS := hS9
                        clear hP9 hD9 hS9
                        have f_36_ws87 : ws87[36]? = some ((q86, Sum.inr (6, [Value.null, Value.int 0, Value.int 0])) : Nat × va_E) := by rw [e_ws87]; exact gs_last hlen
                        replace hlen : ws87.length = 37 := by rw [e_ws87]; exact gs_len hlen
                        replace hU : gx_g ws ws87 36 [0] := by rw [e_ws87]; exact hU.push
                        refine W.widen (k := 36) (n := 73805) (by decide) (by decide) ?_
                        refine lv_dup hx hb d_Le_init_116 rfl ?_
                        refine gx_call (ig := .invokespecial 49) (c_Re_init l htr D tys z _ ws87 cZ cF q86 36 37 f_36_ws87 ht1 ht2 hlen (by decide)) (gx_invIN (As := []) (rest := [Value.ref q86, Value.int 2, Value.ref q65]) hx hb hown hts km_Le_49 kI_Re_init kc_Re_init (by decide) rfl (show (parseMethodDescriptor y_Re_init.desc).map (fun d => d.parameters.length) = some 0 by decide +kernel) rfl rfl d_Le_init_117) (gx_cw (z := 0) hts kc_Re_init kN_Re rfl rfl ⟨Nat.le_of_ble_eq_true rfl, Nat.le_of_ble_eq_true rfl⟩) hb hml gx_blind (gx_pre hz hP hK hD hY hS hAz [Value.ref q86]) rfl hl.1 (lv_room (Nat.le_of_ble_eq_true rfl)) d_Le_init_117 ⟨Nat.le_of_ble_eq_true rfl, Nat.le_of_ble_eq_true rfl⟩ (fun v88 st88 t88 L88 h0_88 hW_88 hQ_88 hL_88 => ?_) (fun v88 st88 t88 L88 h0_88 hW_88 hQ_88 hL_88 => ?_)
                        · obtain ⟨ws89, hp, hP9, -, hD9, hS9⟩ := gx_back h0_88 hW_88 hQ_88 hL_88 hD hS hA
                          clear hQ_88 h0_88 hL_88 hW_88 hP hD hS
                          have hP := hP9
                          have hD := hD9
                          have hS := hS9
                          clear hP9 hD9 hS9
                          rcases hp with ⟨q90, q91, q92, q93, hv9, e_ws89, f_36_ws89, f_37_ws89, f_38_ws89, f_39_ws89, f_40_ws89⟩
                          cases hv9
                          have f_36_ws89 : ws89[36]? = some ((q86, Sum.inr (6, [Value.ref q90, Value.int 0, Value.int 0])) : Nat × va_E) := f_36_ws89
                          have f_37_ws89 : ws89[37]? = some ((q90, Sum.inr (4, [Value.ref q91, Value.ref q92, Value.ref q93, Value.null, Value.int 0, Value.int 0])) : Nat × va_E) := f_37_ws89
                          have f_38_ws89 : ws89[38]? = some ((q91, Sum.inl (cF, 4096, Sum.inr (Sum.inr (Sum.inr (Sum.inr (fun _ => none)))))) : Nat × va_E) := f_38_ws89
                          have f_39_ws89 : ws89[39]? = some ((q92, Sum.inl (cF, 4096, Sum.inr (Sum.inr (Sum.inr (Sum.inr (fun _ => none)))))) : Nat × va_E) := f_39_ws89
                          have f_40_ws89 : ws89[40]? = some ((q93, Sum.inl (cZ, 4096, Sum.inl (fun _ => 0))) : Nat × va_E) := f_40_ws89
                          replace hlen : ws89.length = 41 := by rw [e_ws89.1, hlen]
                          replace hU : gx_g ws ws89 40 [0] := hU.call e_ws89 (by rw [hlen0]; decide)
                          refine W.eq (g2 := F0 m 120 ls [Value.ref q86, Value.int 2, Value.ref q65]) rfl ?_
                          refine W.widen (k := 40) (n := 86099) (by decide) (by decide) ?_
                          generalize t88.heap = H at hP hS ⊢
                          generalize locs ++ L88 = locs at hS ⊢
                          have f_25_ws87 : ws87[25]? = some ((q65, Sum.inl (cR, 4, Sum.inr (Sum.inr (Sum.inr (Sum.inr (va_up (va_up (fun _ => none) 0 (some q68)) 1 (some q77))))))) : Nat × va_E) := by rw [e_ws87]; exact gs_app f_25_ws85
                          clear f_25_ws85
                          have f_25_ws89 : ws89[25]? = some ((q65, Sum.inl (cR, 4, Sum.inr (Sum.inr (Sum.inr (Sum.inr (va_up (va_up (fun _ => none) 0 (some q68)) 1 (some q77))))))) : Nat × va_E) := e_ws89.at (by first | decide | (simp; done) | (simp; omega)) f_25_ws87
                          clear f_25_ws87
                          refine gx_aast (D := D) (j := 2) hx hb hK hP hD hS 25 4 36 6 f_25_ws89 ht4 f_36_ws89 rfl (gx_inl (by decide)) (by decide) d_Le_init_120 (fun H locs hP9 hD9 hS9 => ?_)
                          obtain ⟨ws94, e_ws94⟩ : ∃ x : va_W, x = ws89.set 25 ((q65, Sum.inl (cR, 4, Sum.inr (Sum.inr (Sum.inr (Sum.inr (va_up (va_up (va_up (fun _ => none) 0 (some q68)) 1 (some q77)) 2 (some q86))))))) : Nat × va_E) := ⟨_, rfl⟩
                          replace hP : va_P D classes ws94 H := by rw [e_ws94]; exact hP9
                          replace hD : va_D A ws94 := by rw [e_ws94]; exact hD9
                          replace hS := hS9
                          clear hP9 hD9 hS9
                          have f_25_ws94 : ws94[25]? = some ((q65, Sum.inl (cR, 4, Sum.inr (Sum.inr (Sum.inr (Sum.inr (va_up (va_up (va_up (fun _ => none) 0 (some q68)) 1 (some q77)) 2 (some q86))))))) : Nat × va_E) := by rw [e_ws94]; exact gs_self f_25_ws89
                          replace hlen : ws94.length = 41 := by rw [e_ws94]; exact gs_lens hlen
                          replace hU : gx_g ws ws94 40 [0] := by rw [e_ws94]; exact hU.put (Or.inr (by rw [hlen0]; decide))
                          refine lv_iinc (v := 3) (lv' := [(1, Value.int 3), (0, Value.ref a)]) hx hb d_Le_init_121 hl (k := 0) rfl (by decide) (by decide) rfl (fun ls hl => ?_)
                          refine lv_goto (tgt := 103) hx hb d_Le_init_124 (by decide) ?_
                          refine lv_iload_n hx hb d_Le_init_103 rfl (lv_at hl 0 rfl) ?_
                          refine lv_iconst (v := 4) hx hb d_Le_init_104 (by decide) ?_
                          refine lv_icmp_ge (tgt := 127) hx hb d_Le_init_105 (by decide) (fun c9 => absurd c9 (by decide)) (fun _ => ?_)
                          refine lv_aload_n hx hb d_Le_init_108 rfl (lv_at hl 1 rfl) ?_
                          have f_0_ws87 : ws87[0]? = some ((a, Sum.inr (0, [Value.ref q1, Value.ref q9, Value.ref q18, Value.ref q42, Value.ref q65, Value.ref q26, Value.ref q34, Value.int 0, Value.int 0, Value.int 0, Value.int 0, Value.int 0, Value.int 0, Value.int 0, Value.int 0, Value.int 0, Value.int 0, Value.int 0])) : Nat × va_E) := by rw [e_ws87]; exact gs_app f_0_ws85
                          clear f_0_ws85
                          have f_0_ws89 : ws89[0]? = some ((a, Sum.inr (0, [Value.ref q1, Value.ref q9, Value.ref q18, Value.ref q42, Value.ref q65, Value.ref q26, Value.ref q34, Value.int 0, Value.int 0, Value.int 0, Value.int 0, Value.int 0, Value.int 0, Value.int 0, Value.int 0, Value.int 0, Value.int 0, Value.int 0])) : Nat × va_E) := e_ws89.at (by first | decide | (simp; done) | (simp; omega)) f_0_ws87
                          clear f_0_ws87
                          have f_0_ws94 : ws94[0]? = some ((a, Sum.inr (0, [Value.ref q1, Value.ref q9, Value.ref q18, Value.ref q42, Value.ref q65, Value.ref q26, Value.ref q34, Value.int 0, Value.int 0, Value.int 0, Value.int 0, Value.int 0, Value.int 0, Value.int 0, Value.int 0, Value.int 0, Value.int 0, Value.int 0])) : Nat × va_E) := by rw [e_ws94]; exact gs_ne (by decide) f_0_ws89
                          clear f_0_ws89
                          refine va_get (D := D) (ci := 0) (v := Value.ref q65) (C := "CommitLedger") (T := F_Le) (N := 18) hx hb hts i_Le hown hK hP 0 f_0_ws94 rfl 4 (by decide) (hts _ kf_Le_45) (fun _ h9 => h9) rfl d_Le_init_109 ?_
                          refine lv_iload_n hx hb d_Le_init_112 rfl (lv_at hl 0 rfl) ?_
                          refine va_new (ci := 6) (fs := [Value.null, Value.int 0, Value.int 0]) (C := "CommitLedger$Reader") (T := F_Re) (N := 3) hx hb hts i_Re t_Re t_Re_ok hown (hts _ kk_Le_43) (hts _ kX_Re) (hts _ kN_Re) hK hP hD hS hA rfl (by decide) (Nat.le_of_ble_eq_true rfl) (Nat.le_of_ble_eq_true rfl) d_Le_init_113 (fun q95 H hP9 hD9 hS9 => ?_)
                          obtain ⟨ws96, e_ws96⟩ : ∃ x : va_W, x = ws94 ++ [((q95, Sum.inr (6, [Value.null, Value.int 0, Value.int 0])) : Nat × va_E)] := ⟨_, rfl⟩
                          replace hP : va_P D classes ws96 H := by rw [e_ws96]; exact hP9
                          replace hD : va_D A ws96 := by rw [e_ws96]; exact hD9
                          replace hS := hS9
                          clear hP9 hD9 hS9
                          have f_41_ws96 : ws96[41]? = some ((q95, Sum.inr (6, [Value.null, Value.int 0, Value.int 0])) : Nat × va_E) := by rw [e_ws96]; exact gs_last hlen
                          replace hlen : ws96.length = 42 := by rw [e_ws96]; exact gs_len hlen
                          replace hU : gx_g ws ws96 41 [0] := by rw [e_ws96]; exact hU.push
                          refine W.widen (k := 41) (n := 86102) (by decide) (by decide) ?_
                          refine lv_dup hx hb d_Le_init_116 rfl ?_
                          refine gx_call (ig := .invokespecial 49) (c_Re_init l htr D tys z _ ws96 cZ cF q95 41 42 f_41_ws96 ht1 ht2 hlen (by decide)) (gx_invIN (As := []) (rest := [Value.ref q95, Value.int 3, Value.ref q65]) hx hb hown hts km_Le_49 kI_Re_init kc_Re_init (by decide) rfl (show (parseMethodDescriptor y_Re_init.desc).map (fun d => d.parameters.length) = some 0 by decide +kernel) rfl rfl d_Le_init_117) (gx_cw (z := 0) hts kc_Re_init kN_Re rfl rfl ⟨Nat.le_of_ble_eq_true rfl, Nat.le_of_ble_eq_true rfl⟩) hb hml gx_blind (gx_pre hz hP hK hD hY hS hAz [Value.ref q95]) rfl hl.1 (lv_room (Nat.le_of_ble_eq_true rfl)) d_Le_init_117 ⟨Nat.le_of_ble_eq_true rfl, Nat.le_of_ble_eq_true rfl⟩ (fun v97 st97 t97 L97 h0_97 hW_97 hQ_97 hL_97 => ?_) (fun v97 st97 t97 L97 h0_97 hW_97 hQ_97 hL_97 => ?_)
                          · obtain ⟨ws98, hp, hP9, -, hD9, hS9⟩ := gx_back h0_97 hW_97 hQ_97 hL_97 hD hS hA
                            clear hQ_97 h0_97 hL_97 hW_97 hP hD hS
                            have hP := hP9
                            have hD := hD9
                            have hS := hS9
                            clear hP9 hD9 hS9
                            rcases hp with ⟨q99, q100, q101, q102, hv9, e_ws98, f_41_ws98, f_42_ws98, f_43_ws98, f_44_ws98, f_45_ws98⟩
                            cases hv9
                            have f_41_ws98 : ws98[41]? = some ((q95, Sum.inr (6, [Value.ref q99, Value.int 0, Value.int 0])) : Nat × va_E) := f_41_ws98
                            have f_42_ws98 : ws98[42]? = some ((q99, Sum.inr (4, [Value.ref q100, Value.ref q101, Value.ref q102, Value.null, Value.int 0, Value.int 0])) : Nat × va_E) := f_42_ws98
                            have f_43_ws98 : ws98[43]? = some ((q100, Sum.inl (cF, 4096, Sum.inr (Sum.inr (Sum.inr (Sum.inr (fun _ => none)))))) : Nat × va_E) := f_43_ws98
                            have f_44_ws98 : ws98[44]? = some ((q101, Sum.inl (cF, 4096, Sum.inr (Sum.inr (Sum.inr (Sum.inr (fun _ => none)))))) : Nat × va_E) := f_44_ws98
                            have f_45_ws98 : ws98[45]? = some ((q102, Sum.inl (cZ, 4096, Sum.inl (fun _ => 0))) : Nat × va_E) := f_45_ws98
                            replace hlen : ws98.length = 46 := by rw [e_ws98.1, hlen]
                            replace hU : gx_g ws ws98 45 [0] := hU.call e_ws98 (by rw [hlen0]; decide)
                            refine W.eq (g2 := F0 m 120 ls [Value.ref q95, Value.int 3, Value.ref q65]) rfl ?_
                            refine W.widen (k := 45) (n := 98396) (by decide) (by decide) ?_
                            generalize t97.heap = H at hP hS ⊢
                            generalize locs ++ L97 = locs at hS ⊢
                            have f_25_ws96 : ws96[25]? = some ((q65, Sum.inl (cR, 4, Sum.inr (Sum.inr (Sum.inr (Sum.inr (va_up (va_up (va_up (fun _ => none) 0 (some q68)) 1 (some q77)) 2 (some q86))))))) : Nat × va_E) := by rw [e_ws96]; exact gs_app f_25_ws94
                            clear f_25_ws94
                            have f_25_ws98 : ws98[25]? = some ((q65, Sum.inl (cR, 4, Sum.inr (Sum.inr (Sum.inr (Sum.inr (va_up (va_up (va_up (fun _ => none) 0 (some q68)) 1 (some q77)) 2 (some q86))))))) : Nat × va_E) := e_ws98.at (by first | decide | (simp; done) | (simp; omega)) f_25_ws96
                            clear f_25_ws96
                            refine gx_aast (D := D) (j := 3) hx hb hK hP hD hS 25 4 41 6 f_25_ws98 ht4 f_41_ws98 rfl (gx_inl (by decide)) (by decide) d_Le_init_120 (fun H locs hP9 hD9 hS9 => ?_)
                            obtain ⟨ws103, e_ws103⟩ : ∃ x : va_W, x = ws98.set 25 ((q65, Sum.inl (cR, 4, Sum.inr (Sum.inr (Sum.inr (Sum.inr (va_up (va_up (va_up (va_up (fun _ => none) 0 (some q68)) 1 (some q77)) 2 (some q86)) 3 (some q95))))))) : Nat × va_E) := ⟨_, rfl⟩
                            replace hP : va_P D classes ws103 H := by rw [e_ws103]; exact hP9
                            replace hD : va_D A ws103 := by rw [e_ws103]; exact hD9
                            replace hS := hS9
                            clear hP9 hD9 hS9
                            have f_25_ws103 : ws103[25]? = some ((q65, Sum.inl (cR, 4, Sum.inr (Sum.inr (Sum.inr (Sum.inr (va_up (va_up (va_up (va_up (fun _ => none) 0 (some q68)) 1 (some q77)) 2 (some q86)) 3 (some q95))))))) : Nat × va_E) := by rw [e_ws103]; exact gs_self f_25_ws98
                            replace hlen : ws103.length = 46 := by rw [e_ws103]; exact gs_lens hlen
                            replace hU : gx_g ws ws103 45 [0] := by rw [e_ws103]; exact hU.put (Or.inr (by rw [hlen0]; decide))
                            refine lv_iinc (v := 4) (lv' := [(1, Value.int 4), (0, Value.ref a)]) hx hb d_Le_init_121 hl (k := 0) rfl (by decide) (by decide) rfl (fun ls hl => ?_)
                            refine lv_goto (tgt := 103) hx hb d_Le_init_124 (by decide) ?_
                            refine lv_iload_n hx hb d_Le_init_103 rfl (lv_at hl 0 rfl) ?_
                            refine lv_iconst (v := 4) hx hb d_Le_init_104 (by decide) ?_
                            refine lv_icmp_ge (tgt := 127) hx hb d_Le_init_105 (by decide) (fun _ => ?_) (fun c9 => absurd (by decide) c9)
                            refine lv_aload_n hx hb d_Le_init_127 rfl (lv_at hl 1 rfl) ?_
                            refine lv_bipush (v := 16) hx hb d_Le_init_128 (by decide) ?_
                            have f_0_ws96 : ws96[0]? = some ((a, Sum.inr (0, [Value.ref q1, Value.ref q9, Value.ref q18, Value.ref q42, Value.ref q65, Value.ref q26, Value.ref q34, Value.int 0, Value.int 0, Value.int 0, Value.int 0, Value.int 0, Value.int 0, Value.int 0, Value.int 0, Value.int 0, Value.int 0, Value.int 0])) : Nat × va_E) := by rw [e_ws96]; exact gs_app f_0_ws94
                            clear f_0_ws94
                            have f_0_ws98 : ws98[0]? = some ((a, Sum.inr (0, [Value.ref q1, Value.ref q9, Value.ref q18, Value.ref q42, Value.ref q65, Value.ref q26, Value.ref q34, Value.int 0, Value.int 0, Value.int 0, Value.int 0, Value.int 0, Value.int 0, Value.int 0, Value.int 0, Value.int 0, Value.int 0, Value.int 0])) : Nat × va_E) := e_ws98.at (by first | decide | (simp; done) | (simp; omega)) f_0_ws96
                            clear f_0_ws96
                            have f_0_ws103 : ws103[0]? = some ((a, Sum.inr (0, [Value.ref q1, Value.ref q9, Value.ref q18, Value.ref q42, Value.ref q65, Value.ref q26, Value.ref q34, Value.int 0, Value.int 0, Value.int 0, Value.int 0, Value.int 0, Value.int 0, Value.int 0, Value.int 0, Value.int 0, Value.int 0, Value.int 0])) : Nat × va_E) := by rw [e_ws103]; exact gs_ne (by decide) f_0_ws98
                            clear f_0_ws98
                            refine va_put (D := D) (ci := 0) (v := Value.int 16) (ty := .int) (C := "CommitLedger") (T := F_Le) (N := 18) hx hb hts i_Le t_Le t_Le_ok n_Le hown hK hP hD hS 0 f_0_ws103 rfl 10 (by decide) (hts _ kf_Le_50) (fun _ h9 => h9) rfl (by decide +kernel) rfl rfl (Nat.le_of_ble_eq_true rfl) d_Le_init_130 (fun H locs hP9 hD9 hS9 => ?_)
                            obtain ⟨ws104, e_ws104⟩ : ∃ x : va_W, x = ws103.set 0 ((a, Sum.inr (0, [Value.ref q1, Value.ref q9, Value.ref q18, Value.ref q42, Value.ref q65, Value.ref q26, Value.ref q34, Value.int 0, Value.int 0, Value.int 0, Value.int 16, Value.int 0, Value.int 0, Value.int 0, Value.int 0, Value.int 0, Value.int 0, Value.int 0])) : Nat × va_E) := ⟨_, rfl⟩
                            replace hP : va_P D classes ws104 H := by rw [e_ws104]; exact hP9
                            replace hD : va_D A ws104 := by rw [e_ws104]; exact hD9
                            replace hS := hS9
                            clear hP9 hD9 hS9
                            have f_0_ws104 : ws104[0]? = some ((a, Sum.inr (0, [Value.ref q1, Value.ref q9, Value.ref q18, Value.ref q42, Value.ref q65, Value.ref q26, Value.ref q34, Value.int 0, Value.int 0, Value.int 0, Value.int 16, Value.int 0, Value.int 0, Value.int 0, Value.int 0, Value.int 0, Value.int 0, Value.int 0])) : Nat × va_E) := by rw [e_ws104]; exact gs_self f_0_ws103
                            replace hlen : ws104.length = 46 := by rw [e_ws104]; exact gs_lens hlen
                            replace hU : gx_g ws ws104 45 [0] := by rw [e_ws104]; exact hU.put (Or.inl (by simp))
                            refine lv_aload_n hx hb d_Le_init_133 rfl (lv_at hl 1 rfl) ?_
                            refine lv_iconst (v := 4) hx hb d_Le_init_134 (by decide) ?_
                            refine va_put (D := D) (ci := 0) (v := Value.int 4) (ty := .int) (C := "CommitLedger") (T := F_Le) (N := 18) hx hb hts i_Le t_Le t_Le_ok n_Le hown hK hP hD hS 0 f_0_ws104 rfl 11 (by decide) (hts _ kf_Le_54) (fun _ h9 => h9) rfl (by decide +kernel) rfl rfl (Nat.le_of_ble_eq_true rfl) d_Le_init_135 (fun H locs hP9 hD9 hS9 => ?_)
                            obtain ⟨ws105, e_ws105⟩ : ∃ x : va_W, x = ws104.set 0 ((a, Sum.inr (0, [Value.ref q1, Value.ref q9, Value.ref q18, Value.ref q42, Value.ref q65, Value.ref q26, Value.ref q34, Value.int 0, Value.int 0, Value.int 0, Value.int 16, Value.int 4, Value.int 0, Value.int 0, Value.int 0, Value.int 0, Value.int 0, Value.int 0])) : Nat × va_E) := ⟨_, rfl⟩
                            replace hP : va_P D classes ws105 H := by rw [e_ws105]; exact hP9
                            replace hD : va_D A ws105 := by rw [e_ws105]; exact hD9
                            replace hS := hS9
                            clear hP9 hD9 hS9
                            have f_0_ws105 : ws105[0]? = some ((a, Sum.inr (0, [Value.ref q1, Value.ref q9, Value.ref q18, Value.ref q42, Value.ref q65, Value.ref q26, Value.ref q34, Value.int 0, Value.int 0, Value.int 0, Value.int 16, Value.int 4, Value.int 0, Value.int 0, Value.int 0, Value.int 0, Value.int 0, Value.int 0])) : Nat × va_E) := by rw [e_ws105]; exact gs_self f_0_ws104
                            replace hlen : ws105.length = 46 := by rw [e_ws105]; exact gs_lens hlen
                            replace hU : gx_g ws ws105 45 [0] := by rw [e_ws105]; exact hU.put (Or.inl (by simp))
                            refine lv_aload_n hx hb d_Le_init_138 rfl (lv_at hl 1 rfl) ?_
                            refine lv_iconst (v := (-1)) hx hb d_Le_init_139 (by decide) ?_
                            refine va_put (D := D) (ci := 0) (v := Value.int (-1)) (ty := .int) (C := "CommitLedger") (T := F_Le) (N := 18) hx hb hts i_Le t_Le t_Le_ok n_Le hown hK hP hD hS 0 f_0_ws105 rfl 17 (by decide) (hts _ kf_Le_57) (fun _ h9 => h9) rfl (by decide +kernel) rfl rfl (Nat.le_of_ble_eq_true rfl) d_Le_init_140 (fun H locs hP9 hD9 hS9 => ?_)
                            obtain ⟨ws106, e_ws106⟩ : ∃ x : va_W, x = ws105.set 0 ((a, Sum.inr (0, [Value.ref q1, Value.ref q9, Value.ref q18, Value.ref q42, Value.ref q65, Value.ref q26, Value.ref q34, Value.int 0, Value.int 0, Value.int 0, Value.int 16, Value.int 4, Value.int 0, Value.int 0, Value.int 0, Value.int 0, Value.int 0, Value.int (-1)])) : Nat × va_E) := ⟨_, rfl⟩
                            replace hP : va_P D classes ws106 H := by rw [e_ws106]; exact hP9
                            replace hD : va_D A ws106 := by rw [e_ws106]; exact hD9
                            replace hS := hS9
                            clear hP9 hD9 hS9
                            have f_0_ws106 : ws106[0]? = some ((a, Sum.inr (0, [Value.ref q1, Value.ref q9, Value.ref q18, Value.ref q42, Value.ref q65, Value.ref q26, Value.ref q34, Value.int 0, Value.int 0, Value.int 0, Value.int 16, Value.int 4, Value.int 0, Value.int 0, Value.int 0, Value.int 0, Value.int 0, Value.int (-1)])) : Nat × va_E) := by rw [e_ws106]; exact gs_self f_0_ws105
                            replace hlen : ws106.length = 46 := by rw [e_ws106]; exact gs_lens hlen
                            replace hU : gx_g ws ws106 45 [0] := by rw [e_ws106]; exact hU.put (Or.inl (by simp))
                            have f_1_ws8 : ws8[1]? = some ((q1, Sum.inr (1, [Value.ref q5, Value.ref q6, Value.ref q7, Value.int 0])) : Nat × va_E) := by rw [e_ws8]; exact gs_ne (by decide) f_1_ws4
                            clear f_1_ws4
                            have f_1_ws10 : ws10[1]? = some ((q1, Sum.inr (1, [Value.ref q5, Value.ref q6, Value.ref q7, Value.int 0])) : Nat × va_E) := by rw [e_ws10]; exact gs_app f_1_ws8
                            clear f_1_ws8
                            have f_1_ws12 : ws12[1]? = some ((q1, Sum.inr (1, [Value.ref q5, Value.ref q6, Value.ref q7, Value.int 0])) : Nat × va_E) := e_ws12.at (by first | decide | (simp; done) | (simp; omega)) f_1_ws10
                            clear f_1_ws10
                            have f_1_ws17 : ws17[1]? = some ((q1, Sum.inr (1, [Value.ref q5, Value.ref q6, Value.ref q7, Value.int 0])) : Nat × va_E) := by rw [e_ws17]; exact gs_ne (by decide) f_1_ws12
                            clear f_1_ws12
                            have f_1_ws19 : ws19[1]? = some ((q1, Sum.inr (1, [Value.ref q5, Value.ref q6, Value.ref q7, Value.int 0])) : Nat × va_E) := by rw [e_ws19]; exact gs_app f_1_ws17
                            clear f_1_ws17
                            have f_1_ws21 : ws21[1]? = some ((q1, Sum.inr (1, [Value.ref q5, Value.ref q6, Value.ref q7, Value.int 0])) : Nat × va_E) := e_ws21.at (by first | decide | (simp; done) | (simp; omega)) f_1_ws19
                            clear f_1_ws19
                            have f_1_ws25 : ws25[1]? = some ((q1, Sum.inr (1, [Value.ref q5, Value.ref q6, Value.ref q7, Value.int 0])) : Nat × va_E) := by rw [e_ws25]; exact gs_ne (by decide) f_1_ws21
                            clear f_1_ws21
                            have f_1_ws27 : ws27[1]? = some ((q1, Sum.inr (1, [Value.ref q5, Value.ref q6, Value.ref q7, Value.int 0])) : Nat × va_E) := by rw [e_ws27]; exact gs_app f_1_ws25
                            clear f_1_ws25
                            have f_1_ws29 : ws29[1]? = some ((q1, Sum.inr (1, [Value.ref q5, Value.ref q6, Value.ref q7, Value.int 0])) : Nat × va_E) := e_ws29.at (by first | decide | (simp; done) | (simp; omega)) f_1_ws27
                            clear f_1_ws27
                            have f_1_ws33 : ws33[1]? = some ((q1, Sum.inr (1, [Value.ref q5, Value.ref q6, Value.ref q7, Value.int 0])) : Nat × va_E) := by rw [e_ws33]; exact gs_ne (by decide) f_1_ws29
                            clear f_1_ws29
                            have f_1_ws35 : ws35[1]? = some ((q1, Sum.inr (1, [Value.ref q5, Value.ref q6, Value.ref q7, Value.int 0])) : Nat × va_E) := by rw [e_ws35]; exact gs_app f_1_ws33
                            clear f_1_ws33
                            have f_1_ws37 : ws37[1]? = some ((q1, Sum.inr (1, [Value.ref q5, Value.ref q6, Value.ref q7, Value.int 0])) : Nat × va_E) := e_ws37.at (by first | decide | (simp; done) | (simp; omega)) f_1_ws35
                            clear f_1_ws35
                            have f_1_ws41 : ws41[1]? = some ((q1, Sum.inr (1, [Value.ref q5, Value.ref q6, Value.ref q7, Value.int 0])) : Nat × va_E) := by rw [e_ws41]; exact gs_ne (by decide) f_1_ws37
                            clear f_1_ws37
                            have f_1_ws43 : ws43[1]? = some ((q1, Sum.inr (1, [Value.ref q5, Value.ref q6, Value.ref q7, Value.int 0])) : Nat × va_E) := by rw [e_ws43]; exact gs_app f_1_ws41
                            clear f_1_ws41
                            have f_1_ws44 : ws44[1]? = some ((q1, Sum.inr (1, [Value.ref q5, Value.ref q6, Value.ref q7, Value.int 0])) : Nat × va_E) := by rw [e_ws44]; exact gs_ne (by decide) f_1_ws43
                            clear f_1_ws43
                            have f_1_ws46 : ws46[1]? = some ((q1, Sum.inr (1, [Value.ref q5, Value.ref q6, Value.ref q7, Value.int 0])) : Nat × va_E) := by rw [e_ws46]; exact gs_app f_1_ws44
                            clear f_1_ws44
                            have f_1_ws49 : ws49[1]? = some ((q1, Sum.inr (1, [Value.ref q5, Value.ref q6, Value.ref q7, Value.int 0])) : Nat × va_E) := by rw [e_ws49]; exact gs_ne (by decide) f_1_ws46
                            clear f_1_ws46
                            have f_1_ws51 : ws51[1]? = some ((q1, Sum.inr (1, [Value.ref q5, Value.ref q6, Value.ref q7, Value.int 0])) : Nat × va_E) := by rw [e_ws51]; exact gs_app f_1_ws49
                            clear f_1_ws49
                            have f_1_ws54 : ws54[1]? = some ((q1, Sum.inr (1, [Value.ref q5, Value.ref q6, Value.ref q7, Value.int 0])) : Nat × va_E) := by rw [e_ws54]; exact gs_ne (by decide) f_1_ws51
                            clear f_1_ws51
                            have f_1_ws56 : ws56[1]? = some ((q1, Sum.inr (1, [Value.ref q5, Value.ref q6, Value.ref q7, Value.int 0])) : Nat × va_E) := by rw [e_ws56]; exact gs_app f_1_ws54
                            clear f_1_ws54
                            have f_1_ws59 : ws59[1]? = some ((q1, Sum.inr (1, [Value.ref q5, Value.ref q6, Value.ref q7, Value.int 0])) : Nat × va_E) := by rw [e_ws59]; exact gs_ne (by decide) f_1_ws56
                            clear f_1_ws56
                            have f_1_ws61 : ws61[1]? = some ((q1, Sum.inr (1, [Value.ref q5, Value.ref q6, Value.ref q7, Value.int 0])) : Nat × va_E) := by rw [e_ws61]; exact gs_app f_1_ws59
                            clear f_1_ws59
                            have f_1_ws64 : ws64[1]? = some ((q1, Sum.inr (1, [Value.ref q5, Value.ref q6, Value.ref q7, Value.int 0])) : Nat × va_E) := by rw [e_ws64]; exact gs_ne (by decide) f_1_ws61
                            clear f_1_ws61
                            have f_1_ws66 : ws66[1]? = some ((q1, Sum.inr (1, [Value.ref q5, Value.ref q6, Value.ref q7, Value.int 0])) : Nat × va_E) := by rw [e_ws66]; exact gs_app f_1_ws64
                            clear f_1_ws64
                            have f_1_ws67 : ws67[1]? = some ((q1, Sum.inr (1, [Value.ref q5, Value.ref q6, Value.ref q7, Value.int 0])) : Nat × va_E) := by rw [e_ws67]; exact gs_ne (by decide) f_1_ws66
                            clear f_1_ws66
                            have f_1_ws69 : ws69[1]? = some ((q1, Sum.inr (1, [Value.ref q5, Value.ref q6, Value.ref q7, Value.int 0])) : Nat × va_E) := by rw [e_ws69]; exact gs_app f_1_ws67
                            clear f_1_ws67
                            have f_1_ws71 : ws71[1]? = some ((q1, Sum.inr (1, [Value.ref q5, Value.ref q6, Value.ref q7, Value.int 0])) : Nat × va_E) := e_ws71.at (by first | decide | (simp; done) | (simp; omega)) f_1_ws69
                            clear f_1_ws69
                            have f_1_ws76 : ws76[1]? = some ((q1, Sum.inr (1, [Value.ref q5, Value.ref q6, Value.ref q7, Value.int 0])) : Nat × va_E) := by rw [e_ws76]; exact gs_ne (by decide) f_1_ws71
                            clear f_1_ws71
                            have f_1_ws78 : ws78[1]? = some ((q1, Sum.inr (1, [Value.ref q5, Value.ref q6, Value.ref q7, Value.int 0])) : Nat × va_E) := by rw [e_ws78]; exact gs_app f_1_ws76
                            clear f_1_ws76
                            have f_1_ws80 : ws80[1]? = some ((q1, Sum.inr (1, [Value.ref q5, Value.ref q6, Value.ref q7, Value.int 0])) : Nat × va_E) := e_ws80.at (by first | decide | (simp; done) | (simp; omega)) f_1_ws78
                            clear f_1_ws78
                            have f_1_ws85 : ws85[1]? = some ((q1, Sum.inr (1, [Value.ref q5, Value.ref q6, Value.ref q7, Value.int 0])) : Nat × va_E) := by rw [e_ws85]; exact gs_ne (by decide) f_1_ws80
                            clear f_1_ws80
                            have f_1_ws87 : ws87[1]? = some ((q1, Sum.inr (1, [Value.ref q5, Value.ref q6, Value.ref q7, Value.int 0])) : Nat × va_E) := by rw [e_ws87]; exact gs_app f_1_ws85
                            clear f_1_ws85
                            have f_1_ws89 : ws89[1]? = some ((q1, Sum.inr (1, [Value.ref q5, Value.ref q6, Value.ref q7, Value.int 0])) : Nat × va_E) := e_ws89.at (by first | decide | (simp; done) | (simp; omega)) f_1_ws87
                            clear f_1_ws87
                            have f_1_ws94 : ws94[1]? = some ((q1, Sum.inr (1, [Value.ref q5, Value.ref q6, Value.ref q7, Value.int 0])) : Nat × va_E) := by rw [e_ws94]; exact gs_ne (by decide) f_1_ws89
                            clear f_1_ws89
                            have f_1_ws96 : ws96[1]? = some ((q1, Sum.inr (1, [Value.ref q5, Value.ref q6, Value.ref q7, Value.int 0])) : Nat × va_E) := by rw [e_ws96]; exact gs_app f_1_ws94
                            clear f_1_ws94
                            have f_1_ws98 : ws98[1]? = some ((q1, Sum.inr (1, [Value.ref q5, Value.ref q6, Value.ref q7, Value.int 0])) : Nat × va_E) := e_ws98.at (by first | decide | (simp; done) | (simp; omega)) f_1_ws96
                            clear f_1_ws96
                            have f_1_ws103 : ws103[1]? = some ((q1, Sum.inr (1, [Value.ref q5, Value.ref q6, Value.ref q7, Value.int 0])) : Nat × va_E) := by rw [e_ws103]; exact gs_ne (by decide) f_1_ws98
                            clear f_1_ws98
                            have f_1_ws104 : ws104[1]? = some ((q1, Sum.inr (1, [Value.ref q5, Value.ref q6, Value.ref q7, Value.int 0])) : Nat × va_E) := by rw [e_ws104]; exact gs_ne (by decide) f_1_ws103
                            clear f_1_ws103
                            have f_1_ws105 : ws105[1]? = some ((q1, Sum.inr (1, [Value.ref q5, Value.ref q6, Value.ref q7, Value.int 0])) : Nat × va_E) := by rw [e_ws105]; exact gs_ne (by decide) f_1_ws104
                            clear f_1_ws104
                            have f_1_ws106 : ws106[1]? = some ((q1, Sum.inr (1, [Value.ref q5, Value.ref q6, Value.ref q7, Value.int 0])) : Nat × va_E) := by rw [e_ws106]; exact gs_ne (by decide) f_1_ws105
                            clear f_1_ws105
                            have f_2_ws8 : ws8[2]? = some ((q5, Sum.inl (cI, 4096, Sum.inl (fun _ => 0))) : Nat × va_E) := by rw [e_ws8]; exact gs_ne (by decide) f_2_ws4
                            clear f_2_ws4
                            have f_2_ws10 : ws10[2]? = some ((q5, Sum.inl (cI, 4096, Sum.inl (fun _ => 0))) : Nat × va_E) := by rw [e_ws10]; exact gs_app f_2_ws8
                            clear f_2_ws8
                            have f_2_ws12 : ws12[2]? = some ((q5, Sum.inl (cI, 4096, Sum.inl (fun _ => 0))) : Nat × va_E) := e_ws12.at (by first | decide | (simp; done) | (simp; omega)) f_2_ws10
                            clear f_2_ws10
                            have f_2_ws17 : ws17[2]? = some ((q5, Sum.inl (cI, 4096, Sum.inl (fun _ => 0))) : Nat × va_E) := by rw [e_ws17]; exact gs_ne (by decide) f_2_ws12
                            clear f_2_ws12
                            have f_2_ws19 : ws19[2]? = some ((q5, Sum.inl (cI, 4096, Sum.inl (fun _ => 0))) : Nat × va_E) := by rw [e_ws19]; exact gs_app f_2_ws17
                            clear f_2_ws17
                            have f_2_ws21 : ws21[2]? = some ((q5, Sum.inl (cI, 4096, Sum.inl (fun _ => 0))) : Nat × va_E) := e_ws21.at (by first | decide | (simp; done) | (simp; omega)) f_2_ws19
                            clear f_2_ws19
                            have f_2_ws25 : ws25[2]? = some ((q5, Sum.inl (cI, 4096, Sum.inl (fun _ => 0))) : Nat × va_E) := by rw [e_ws25]; exact gs_ne (by decide) f_2_ws21
                            clear f_2_ws21
                            have f_2_ws27 : ws27[2]? = some ((q5, Sum.inl (cI, 4096, Sum.inl (fun _ => 0))) : Nat × va_E) := by rw [e_ws27]; exact gs_app f_2_ws25
                            clear f_2_ws25
                            have f_2_ws29 : ws29[2]? = some ((q5, Sum.inl (cI, 4096, Sum.inl (fun _ => 0))) : Nat × va_E) := e_ws29.at (by first | decide | (simp; done) | (simp; omega)) f_2_ws27
                            clear f_2_ws27
                            have f_2_ws33 : ws33[2]? = some ((q5, Sum.inl (cI, 4096, Sum.inl (fun _ => 0))) : Nat × va_E) := by rw [e_ws33]; exact gs_ne (by decide) f_2_ws29
                            clear f_2_ws29
                            have f_2_ws35 : ws35[2]? = some ((q5, Sum.inl (cI, 4096, Sum.inl (fun _ => 0))) : Nat × va_E) := by rw [e_ws35]; exact gs_app f_2_ws33
                            clear f_2_ws33
                            have f_2_ws37 : ws37[2]? = some ((q5, Sum.inl (cI, 4096, Sum.inl (fun _ => 0))) : Nat × va_E) := e_ws37.at (by first | decide | (simp; done) | (simp; omega)) f_2_ws35
                            clear f_2_ws35
                            have f_2_ws41 : ws41[2]? = some ((q5, Sum.inl (cI, 4096, Sum.inl (fun _ => 0))) : Nat × va_E) := by rw [e_ws41]; exact gs_ne (by decide) f_2_ws37
                            clear f_2_ws37
                            have f_2_ws43 : ws43[2]? = some ((q5, Sum.inl (cI, 4096, Sum.inl (fun _ => 0))) : Nat × va_E) := by rw [e_ws43]; exact gs_app f_2_ws41
                            clear f_2_ws41
                            have f_2_ws44 : ws44[2]? = some ((q5, Sum.inl (cI, 4096, Sum.inl (fun _ => 0))) : Nat × va_E) := by rw [e_ws44]; exact gs_ne (by decide) f_2_ws43
                            clear f_2_ws43
                            have f_2_ws46 : ws46[2]? = some ((q5, Sum.inl (cI, 4096, Sum.inl (fun _ => 0))) : Nat × va_E) := by rw [e_ws46]; exact gs_app f_2_ws44
                            clear f_2_ws44
                            have f_2_ws49 : ws49[2]? = some ((q5, Sum.inl (cI, 4096, Sum.inl (fun _ => 0))) : Nat × va_E) := by rw [e_ws49]; exact gs_ne (by decide) f_2_ws46
                            clear f_2_ws46
                            have f_2_ws51 : ws51[2]? = some ((q5, Sum.inl (cI, 4096, Sum.inl (fun _ => 0))) : Nat × va_E) := by rw [e_ws51]; exact gs_app f_2_ws49
                            clear f_2_ws49
                            have f_2_ws54 : ws54[2]? = some ((q5, Sum.inl (cI, 4096, Sum.inl (fun _ => 0))) : Nat × va_E) := by rw [e_ws54]; exact gs_ne (by decide) f_2_ws51
                            clear f_2_ws51
                            have f_2_ws56 : ws56[2]? = some ((q5, Sum.inl (cI, 4096, Sum.inl (fun _ => 0))) : Nat × va_E) := by rw [e_ws56]; exact gs_app f_2_ws54
                            clear f_2_ws54
                            have f_2_ws59 : ws59[2]? = some ((q5, Sum.inl (cI, 4096, Sum.inl (fun _ => 0))) : Nat × va_E) := by rw [e_ws59]; exact gs_ne (by decide) f_2_ws56
                            clear f_2_ws56
                            have f_2_ws61 : ws61[2]? = some ((q5, Sum.inl (cI, 4096, Sum.inl (fun _ => 0))) : Nat × va_E) := by rw [e_ws61]; exact gs_app f_2_ws59
                            clear f_2_ws59
                            have f_2_ws64 : ws64[2]? = some ((q5, Sum.inl (cI, 4096, Sum.inl (fun _ => 0))) : Nat × va_E) := by rw [e_ws64]; exact gs_ne (by decide) f_2_ws61
                            clear f_2_ws61
                            have f_2_ws66 : ws66[2]? = some ((q5, Sum.inl (cI, 4096, Sum.inl (fun _ => 0))) : Nat × va_E) := by rw [e_ws66]; exact gs_app f_2_ws64
                            clear f_2_ws64
                            have f_2_ws67 : ws67[2]? = some ((q5, Sum.inl (cI, 4096, Sum.inl (fun _ => 0))) : Nat × va_E) := by rw [e_ws67]; exact gs_ne (by decide) f_2_ws66
                            clear f_2_ws66
                            have f_2_ws69 : ws69[2]? = some ((q5, Sum.inl (cI, 4096, Sum.inl (fun _ => 0))) : Nat × va_E) := by rw [e_ws69]; exact gs_app f_2_ws67
                            clear f_2_ws67
                            have f_2_ws71 : ws71[2]? = some ((q5, Sum.inl (cI, 4096, Sum.inl (fun _ => 0))) : Nat × va_E) := e_ws71.at (by first | decide | (simp; done) | (simp; omega)) f_2_ws69
                            clear f_2_ws69
                            have f_2_ws76 : ws76[2]? = some ((q5, Sum.inl (cI, 4096, Sum.inl (fun _ => 0))) : Nat × va_E) := by rw [e_ws76]; exact gs_ne (by decide) f_2_ws71
                            clear f_2_ws71
                            have f_2_ws78 : ws78[2]? = some ((q5, Sum.inl (cI, 4096, Sum.inl (fun _ => 0))) : Nat × va_E) := by rw [e_ws78]; exact gs_app f_2_ws76
                            clear f_2_ws76
                            have f_2_ws80 : ws80[2]? = some ((q5, Sum.inl (cI, 4096, Sum.inl (fun _ => 0))) : Nat × va_E) := e_ws80.at (by first | decide | (simp; done) | (simp; omega)) f_2_ws78
                            clear f_2_ws78
                            have f_2_ws85 : ws85[2]? = some ((q5, Sum.inl (cI, 4096, Sum.inl (fun _ => 0))) : Nat × va_E) := by rw [e_ws85]; exact gs_ne (by decide) f_2_ws80
                            clear f_2_ws80
                            have f_2_ws87 : ws87[2]? = some ((q5, Sum.inl (cI, 4096, Sum.inl (fun _ => 0))) : Nat × va_E) := by rw [e_ws87]; exact gs_app f_2_ws85
                            clear f_2_ws85
                            have f_2_ws89 : ws89[2]? = some ((q5, Sum.inl (cI, 4096, Sum.inl (fun _ => 0))) : Nat × va_E) := e_ws89.at (by first | decide | (simp; done) | (simp; omega)) f_2_ws87
                            clear f_2_ws87
                            have f_2_ws94 : ws94[2]? = some ((q5, Sum.inl (cI, 4096, Sum.inl (fun _ => 0))) : Nat × va_E) := by rw [e_ws94]; exact gs_ne (by decide) f_2_ws89
                            clear f_2_ws89
                            have f_2_ws96 : ws96[2]? = some ((q5, Sum.inl (cI, 4096, Sum.inl (fun _ => 0))) : Nat × va_E) := by rw [e_ws96]; exact gs_app f_2_ws94
                            clear f_2_ws94
                            have f_2_ws98 : ws98[2]? = some ((q5, Sum.inl (cI, 4096, Sum.inl (fun _ => 0))) : Nat × va_E) := e_ws98.at (by first | decide | (simp; done) | (simp; omega)) f_2_ws96
                            clear f_2_ws96
                            have f_2_ws103 : ws103[2]? = some ((q5, Sum.inl (cI, 4096, Sum.inl (fun _ => 0))) : Nat × va_E) := by rw [e_ws103]; exact gs_ne (by decide) f_2_ws98
                            clear f_2_ws98
                            have f_2_ws104 : ws104[2]? = some ((q5, Sum.inl (cI, 4096, Sum.inl (fun _ => 0))) : Nat × va_E) := by rw [e_ws104]; exact gs_ne (by decide) f_2_ws103
                            clear f_2_ws103
                            have f_2_ws105 : ws105[2]? = some ((q5, Sum.inl (cI, 4096, Sum.inl (fun _ => 0))) : Nat × va_E) := by rw [e_ws105]; exact gs_ne (by decide) f_2_ws104
                            clear f_2_ws104
                            have f_2_ws106 : ws106[2]? = some ((q5, Sum.inl (cI, 4096, Sum.inl (fun _ => 0))) : Nat × va_E) := by rw [e_ws106]; exact gs_ne (by decide) f_2_ws105
                            clear f_2_ws105
                            have f_3_ws8 : ws8[3]? = some ((q6, Sum.inl (cI, 4096, Sum.inl (fun _ => 0))) : Nat × va_E) := by rw [e_ws8]; exact gs_ne (by decide) f_3_ws4
                            clear f_3_ws4
                            have f_3_ws10 : ws10[3]? = some ((q6, Sum.inl (cI, 4096, Sum.inl (fun _ => 0))) : Nat × va_E) := by rw [e_ws10]; exact gs_app f_3_ws8
                            clear f_3_ws8
                            have f_3_ws12 : ws12[3]? = some ((q6, Sum.inl (cI, 4096, Sum.inl (fun _ => 0))) : Nat × va_E) := e_ws12.at (by first | decide | (simp; done) | (simp; omega)) f_3_ws10
                            clear f_3_ws10
                            have f_3_ws17 : ws17[3]? = some ((q6, Sum.inl (cI, 4096, Sum.inl (fun _ => 0))) : Nat × va_E) := by rw [e_ws17]; exact gs_ne (by decide) f_3_ws12
                            clear f_3_ws12
                            have f_3_ws19 : ws19[3]? = some ((q6, Sum.inl (cI, 4096, Sum.inl (fun _ => 0))) : Nat × va_E) := by rw [e_ws19]; exact gs_app f_3_ws17
                            clear f_3_ws17
                            have f_3_ws21 : ws21[3]? = some ((q6, Sum.inl (cI, 4096, Sum.inl (fun _ => 0))) : Nat × va_E) := e_ws21.at (by first | decide | (simp; done) | (simp; omega)) f_3_ws19
                            clear f_3_ws19
                            have f_3_ws25 : ws25[3]? = some ((q6, Sum.inl (cI, 4096, Sum.inl (fun _ => 0))) : Nat × va_E) := by rw [e_ws25]; exact gs_ne (by decide) f_3_ws21
                            clear f_3_ws21
                            have f_3_ws27 : ws27[3]? = some ((q6, Sum.inl (cI, 4096, Sum.inl (fun _ => 0))) : Nat × va_E) := by rw [e_ws27]; exact gs_app f_3_ws25
                            clear f_3_ws25
                            have f_3_ws29 : ws29[3]? = some ((q6, Sum.inl (cI, 4096, Sum.inl (fun _ => 0))) : Nat × va_E) := e_ws29.at (by first | decide | (simp; done) | (simp; omega)) f_3_ws27
                            clear f_3_ws27
                            have f_3_ws33 : ws33[3]? = some ((q6, Sum.inl (cI, 4096, Sum.inl (fun _ => 0))) : Nat × va_E) := by rw [e_ws33]; exact gs_ne (by decide) f_3_ws29
                            clear f_3_ws29
                            have f_3_ws35 : ws35[3]? = some ((q6, Sum.inl (cI, 4096, Sum.inl (fun _ => 0))) : Nat × va_E) := by rw [e_ws35]; exact gs_app f_3_ws33
                            clear f_3_ws33
                            have f_3_ws37 : ws37[3]? = some ((q6, Sum.inl (cI, 4096, Sum.inl (fun _ => 0))) : Nat × va_E) := e_ws37.at (by first | decide | (simp; done) | (simp; omega)) f_3_ws35
                            clear f_3_ws35
                            have f_3_ws41 : ws41[3]? = some ((q6, Sum.inl (cI, 4096, Sum.inl (fun _ => 0))) : Nat × va_E) := by rw [e_ws41]; exact gs_ne (by decide) f_3_ws37
                            clear f_3_ws37
                            have f_3_ws43 : ws43[3]? = some ((q6, Sum.inl (cI, 4096, Sum.inl (fun _ => 0))) : Nat × va_E) := by rw [e_ws43]; exact gs_app f_3_ws41
                            clear f_3_ws41
                            have f_3_ws44 : ws44[3]? = some ((q6, Sum.inl (cI, 4096, Sum.inl (fun _ => 0))) : Nat × va_E) := by rw [e_ws44]; exact gs_ne (by decide) f_3_ws43
                            clear f_3_ws43
                            have f_3_ws46 : ws46[3]? = some ((q6, Sum.inl (cI, 4096, Sum.inl (fun _ => 0))) : Nat × va_E) := by rw [e_ws46]; exact gs_app f_3_ws44
                            clear f_3_ws44
                            have f_3_ws49 : ws49[3]? = some ((q6, Sum.inl (cI, 4096, Sum.inl (fun _ => 0))) : Nat × va_E) := by rw [e_ws49]; exact gs_ne (by decide) f_3_ws46
                            clear f_3_ws46
                            have f_3_ws51 : ws51[3]? = some ((q6, Sum.inl (cI, 4096, Sum.inl (fun _ => 0))) : Nat × va_E) := by rw [e_ws51]; exact gs_app f_3_ws49
                            clear f_3_ws49
                            have f_3_ws54 : ws54[3]? = some ((q6, Sum.inl (cI, 4096, Sum.inl (fun _ => 0))) : Nat × va_E) := by rw [e_ws54]; exact gs_ne (by decide) f_3_ws51
                            clear f_3_ws51
                            have f_3_ws56 : ws56[3]? = some ((q6, Sum.inl (cI, 4096, Sum.inl (fun _ => 0))) : Nat × va_E) := by rw [e_ws56]; exact gs_app f_3_ws54
                            clear f_3_ws54
                            have f_3_ws59 : ws59[3]? = some ((q6, Sum.inl (cI, 4096, Sum.inl (fun _ => 0))) : Nat × va_E) := by rw [e_ws59]; exact gs_ne (by decide) f_3_ws56
                            clear f_3_ws56
                            have f_3_ws61 : ws61[3]? = some ((q6, Sum.inl (cI, 4096, Sum.inl (fun _ => 0))) : Nat × va_E) := by rw [e_ws61]; exact gs_app f_3_ws59
                            clear f_3_ws59
                            have f_3_ws64 : ws64[3]? = some ((q6, Sum.inl (cI, 4096, Sum.inl (fun _ => 0))) : Nat × va_E) := by rw [e_ws64]; exact gs_ne (by decide) f_3_ws61
                            clear f_3_ws61
                            have f_3_ws66 : ws66[3]? = some ((q6, Sum.inl (cI, 4096, Sum.inl (fun _ => 0))) : Nat × va_E) := by rw [e_ws66]; exact gs_app f_3_ws64
                            clear f_3_ws64
                            have f_3_ws67 : ws67[3]? = some ((q6, Sum.inl (cI, 4096, Sum.inl (fun _ => 0))) : Nat × va_E) := by rw [e_ws67]; exact gs_ne (by decide) f_3_ws66
                            clear f_3_ws66
                            have f_3_ws69 : ws69[3]? = some ((q6, Sum.inl (cI, 4096, Sum.inl (fun _ => 0))) : Nat × va_E) := by rw [e_ws69]; exact gs_app f_3_ws67
                            clear f_3_ws67
                            have f_3_ws71 : ws71[3]? = some ((q6, Sum.inl (cI, 4096, Sum.inl (fun _ => 0))) : Nat × va_E) := e_ws71.at (by first | decide | (simp; done) | (simp; omega)) f_3_ws69
                            clear f_3_ws69
                            have f_3_ws76 : ws76[3]? = some ((q6, Sum.inl (cI, 4096, Sum.inl (fun _ => 0))) : Nat × va_E) := by rw [e_ws76]; exact gs_ne (by decide) f_3_ws71
                            clear f_3_ws71
                            have f_3_ws78 : ws78[3]? = some ((q6, Sum.inl (cI, 4096, Sum.inl (fun _ => 0))) : Nat × va_E) := by rw [e_ws78]; exact gs_app f_3_ws76
                            clear f_3_ws76
                            have f_3_ws80 : ws80[3]? = some ((q6, Sum.inl (cI, 4096, Sum.inl (fun _ => 0))) : Nat × va_E) := e_ws80.at (by first | decide | (simp; done) | (simp; omega)) f_3_ws78
                            clear f_3_ws78
                            have f_3_ws85 : ws85[3]? = some ((q6, Sum.inl (cI, 4096, Sum.inl (fun _ => 0))) : Nat × va_E) := by rw [e_ws85]; exact gs_ne (by decide) f_3_ws80
                            clear f_3_ws80
                            have f_3_ws87 : ws87[3]? = some ((q6, Sum.inl (cI, 4096, Sum.inl (fun _ => 0))) : Nat × va_E) := by rw [e_ws87]; exact gs_app f_3_ws85
                            clear f_3_ws85
                            have f_3_ws89 : ws89[3]? = some ((q6, Sum.inl (cI, 4096, Sum.inl (fun _ => 0))) : Nat × va_E) := e_ws89.at (by first | decide | (simp; done) | (simp; omega)) f_3_ws87
                            clear f_3_ws87
                            have f_3_ws94 : ws94[3]? = some ((q6, Sum.inl (cI, 4096, Sum.inl (fun _ => 0))) : Nat × va_E) := by rw [e_ws94]; exact gs_ne (by decide) f_3_ws89
                            clear f_3_ws89
                            have f_3_ws96 : ws96[3]? = some ((q6, Sum.inl (cI, 4096, Sum.inl (fun _ => 0))) : Nat × va_E) := by rw [e_ws96]; exact gs_app f_3_ws94
                            clear f_3_ws94
                            have f_3_ws98 : ws98[3]? = some ((q6, Sum.inl (cI, 4096, Sum.inl (fun _ => 0))) : Nat × va_E) := e_ws98.at (by first | decide | (simp; done) | (simp; omega)) f_3_ws96
                            clear f_3_ws96
                            have f_3_ws103 : ws103[3]? = some ((q6, Sum.inl (cI, 4096, Sum.inl (fun _ => 0))) : Nat × va_E) := by rw [e_ws103]; exact gs_ne (by decide) f_3_ws98
                            clear f_3_ws98
                            have f_3_ws104 : ws104[3]? = some ((q6, Sum.inl (cI, 4096, Sum.inl (fun _ => 0))) : Nat × va_E) := by rw [e_ws104]; exact gs_ne (by decide) f_3_ws103
                            clear f_3_ws103
                            have f_3_ws105 : ws105[3]? = some ((q6, Sum.inl (cI, 4096, Sum.inl (fun _ => 0))) : Nat × va_E) := by rw [e_ws105]; exact gs_ne (by decide) f_3_ws104
                            clear f_3_ws104
                            have f_3_ws106 : ws106[3]? = some ((q6, Sum.inl (cI, 4096, Sum.inl (fun _ => 0))) : Nat × va_E) := by rw [e_ws106]; exact gs_ne (by decide) f_3_ws105
                            clear f_3_ws105
                            have f_4_ws8 : ws8[4]? = some ((q7, Sum.inl (cI, 4096, Sum.inl (fun _ => 0))) : Nat × va_E) := by rw [e_ws8]; exact gs_ne (by decide) f_4_ws4
                            clear f_4_ws4
                            have f_4_ws10 : ws10[4]? = some ((q7, Sum.inl (cI, 4096, Sum.inl (fun _ => 0))) : Nat × va_E) := by rw [e_ws10]; exact gs_app f_4_ws8
                            clear f_4_ws8
                            have f_4_ws12 : ws12[4]? = some ((q7, Sum.inl (cI, 4096, Sum.inl (fun _ => 0))) : Nat × va_E) := e_ws12.at (by first | decide | (simp; done) | (simp; omega)) f_4_ws10
                            clear f_4_ws10
                            have f_4_ws17 : ws17[4]? = some ((q7, Sum.inl (cI, 4096, Sum.inl (fun _ => 0))) : Nat × va_E) := by rw [e_ws17]; exact gs_ne (by decide) f_4_ws12
                            clear f_4_ws12
                            have f_4_ws19 : ws19[4]? = some ((q7, Sum.inl (cI, 4096, Sum.inl (fun _ => 0))) : Nat × va_E) := by rw [e_ws19]; exact gs_app f_4_ws17
                            clear f_4_ws17
                            have f_4_ws21 : ws21[4]? = some ((q7, Sum.inl (cI, 4096, Sum.inl (fun _ => 0))) : Nat × va_E) := e_ws21.at (by first | decide | (simp; done) | (simp; omega)) f_4_ws19
                            clear f_4_ws19
                            have f_4_ws25 : ws25[4]? = some ((q7, Sum.inl (cI, 4096, Sum.inl (fun _ => 0))) : Nat × va_E) := by rw [e_ws25]; exact gs_ne (by decide) f_4_ws21
                            clear f_4_ws21
                            have f_4_ws27 : ws27[4]? = some ((q7, Sum.inl (cI, 4096, Sum.inl (fun _ => 0))) : Nat × va_E) := by rw [e_ws27]; exact gs_app f_4_ws25
                            clear f_4_ws25
                            have f_4_ws29 : ws29[4]? = some ((q7, Sum.inl (cI, 4096, Sum.inl (fun _ => 0))) : Nat × va_E) := e_ws29.at (by first | decide | (simp; done) | (simp; omega)) f_4_ws27
                            clear f_4_ws27
                            have f_4_ws33 : ws33[4]? = some ((q7, Sum.inl (cI, 4096, Sum.inl (fun _ => 0))) : Nat × va_E) := by rw [e_ws33]; exact gs_ne (by decide) f_4_ws29
                            clear f_4_ws29
                            have f_4_ws35 : ws35[4]? = some ((q7, Sum.inl (cI, 4096, Sum.inl (fun _ => 0))) : Nat × va_E) := by rw [e_ws35]; exact gs_app f_4_ws33
                            clear f_4_ws33
                            have f_4_ws37 : ws37[4]? = some ((q7, Sum.inl (cI, 4096, Sum.inl (fun _ => 0))) : Nat × va_E) := e_ws37.at (by first | decide | (simp; done) | (simp; omega)) f_4_ws35
                            clear f_4_ws35
                            have f_4_ws41 : ws41[4]? = some ((q7, Sum.inl (cI, 4096, Sum.inl (fun _ => 0))) : Nat × va_E) := by rw [e_ws41]; exact gs_ne (by decide) f_4_ws37
                            clear f_4_ws37
                            have f_4_ws43 : ws43[4]? = some ((q7, Sum.inl (cI, 4096, Sum.inl (fun _ => 0))) : Nat × va_E) := by rw [e_ws43]; exact gs_app f_4_ws41
                            clear f_4_ws41
                            have f_4_ws44 : ws44[4]? = some ((q7, Sum.inl (cI, 4096, Sum.inl (fun _ => 0))) : Nat × va_E) := by rw [e_ws44]; exact gs_ne (by decide) f_4_ws43
                            clear f_4_ws43
                            have f_4_ws46 : ws46[4]? = some ((q7, Sum.inl (cI, 4096, Sum.inl (fun _ => 0))) : Nat × va_E) := by rw [e_ws46]; exact gs_app f_4_ws44
                            clear f_4_ws44
                            have f_4_ws49 : ws49[4]? = some ((q7, Sum.inl (cI, 4096, Sum.inl (fun _ => 0))) : Nat × va_E) := by rw [e_ws49]; exact gs_ne (by decide) f_4_ws46
                            clear f_4_ws46
                            have f_4_ws51 : ws51[4]? = some ((q7, Sum.inl (cI, 4096, Sum.inl (fun _ => 0))) : Nat × va_E) := by rw [e_ws51]; exact gs_app f_4_ws49
                            clear f_4_ws49
                            have f_4_ws54 : ws54[4]? = some ((q7, Sum.inl (cI, 4096, Sum.inl (fun _ => 0))) : Nat × va_E) := by rw [e_ws54]; exact gs_ne (by decide) f_4_ws51
                            clear f_4_ws51
                            have f_4_ws56 : ws56[4]? = some ((q7, Sum.inl (cI, 4096, Sum.inl (fun _ => 0))) : Nat × va_E) := by rw [e_ws56]; exact gs_app f_4_ws54
                            clear f_4_ws54
                            have f_4_ws59 : ws59[4]? = some ((q7, Sum.inl (cI, 4096, Sum.inl (fun _ => 0))) : Nat × va_E) := by rw [e_ws59]; exact gs_ne (by decide) f_4_ws56
                            clear f_4_ws56
                            have f_4_ws61 : ws61[4]? = some ((q7, Sum.inl (cI, 4096, Sum.inl (fun _ => 0))) : Nat × va_E) := by rw [e_ws61]; exact gs_app f_4_ws59
                            clear f_4_ws59
                            have f_4_ws64 : ws64[4]? = some ((q7, Sum.inl (cI, 4096, Sum.inl (fun _ => 0))) : Nat × va_E) := by rw [e_ws64]; exact gs_ne (by decide) f_4_ws61
                            clear f_4_ws61
                            have f_4_ws66 : ws66[4]? = some ((q7, Sum.inl (cI, 4096, Sum.inl (fun _ => 0))) : Nat × va_E) := by rw [e_ws66]; exact gs_app f_4_ws64
                            clear f_4_ws64
                            have f_4_ws67 : ws67[4]? = some ((q7, Sum.inl (cI, 4096, Sum.inl (fun _ => 0))) : Nat × va_E) := by rw [e_ws67]; exact gs_ne (by decide) f_4_ws66
                            clear f_4_ws66
                            have f_4_ws69 : ws69[4]? = some ((q7, Sum.inl (cI, 4096, Sum.inl (fun _ => 0))) : Nat × va_E) := by rw [e_ws69]; exact gs_app f_4_ws67
                            clear f_4_ws67
                            have f_4_ws71 : ws71[4]? = some ((q7, Sum.inl (cI, 4096, Sum.inl (fun _ => 0))) : Nat × va_E) := e_ws71.at (by first | decide | (simp; done) | (simp; omega)) f_4_ws69
                            clear f_4_ws69
                            have f_4_ws76 : ws76[4]? = some ((q7, Sum.inl (cI, 4096, Sum.inl (fun _ => 0))) : Nat × va_E) := by rw [e_ws76]; exact gs_ne (by decide) f_4_ws71
                            clear f_4_ws71
                            have f_4_ws78 : ws78[4]? = some ((q7, Sum.inl (cI, 4096, Sum.inl (fun _ => 0))) : Nat × va_E) := by rw [e_ws78]; exact gs_app f_4_ws76
                            clear f_4_ws76
                            have f_4_ws80 : ws80[4]? = some ((q7, Sum.inl (cI, 4096, Sum.inl (fun _ => 0))) : Nat × va_E) := e_ws80.at (by first | decide | (simp; done) | (simp; omega)) f_4_ws78
                            clear f_4_ws78
                            have f_4_ws85 : ws85[4]? = some ((q7, Sum.inl (cI, 4096, Sum.inl (fun _ => 0))) : Nat × va_E) := by rw [e_ws85]; exact gs_ne (by decide) f_4_ws80
                            clear f_4_ws80
                            have f_4_ws87 : ws87[4]? = some ((q7, Sum.inl (cI, 4096, Sum.inl (fun _ => 0))) : Nat × va_E) := by rw [e_ws87]; exact gs_app f_4_ws85
                            clear f_4_ws85
                            have f_4_ws89 : ws89[4]? = some ((q7, Sum.inl (cI, 4096, Sum.inl (fun _ => 0))) : Nat × va_E) := e_ws89.at (by first | decide | (simp; done) | (simp; omega)) f_4_ws87
                            clear f_4_ws87
                            have f_4_ws94 : ws94[4]? = some ((q7, Sum.inl (cI, 4096, Sum.inl (fun _ => 0))) : Nat × va_E) := by rw [e_ws94]; exact gs_ne (by decide) f_4_ws89
                            clear f_4_ws89
                            have f_4_ws96 : ws96[4]? = some ((q7, Sum.inl (cI, 4096, Sum.inl (fun _ => 0))) : Nat × va_E) := by rw [e_ws96]; exact gs_app f_4_ws94
                            clear f_4_ws94
                            have f_4_ws98 : ws98[4]? = some ((q7, Sum.inl (cI, 4096, Sum.inl (fun _ => 0))) : Nat × va_E) := e_ws98.at (by first | decide | (simp; done) | (simp; omega)) f_4_ws96
                            clear f_4_ws96
                            have f_4_ws103 : ws103[4]? = some ((q7, Sum.inl (cI, 4096, Sum.inl (fun _ => 0))) : Nat × va_E) := by rw [e_ws103]; exact gs_ne (by decide) f_4_ws98
                            clear f_4_ws98
                            have f_4_ws104 : ws104[4]? = some ((q7, Sum.inl (cI, 4096, Sum.inl (fun _ => 0))) : Nat × va_E) := by rw [e_ws104]; exact gs_ne (by decide) f_4_ws103
                            clear f_4_ws103
                            have f_4_ws105 : ws105[4]? = some ((q7, Sum.inl (cI, 4096, Sum.inl (fun _ => 0))) : Nat × va_E) := by rw [e_ws105]; exact gs_ne (by decide) f_4_ws104
                            clear f_4_ws104
                            have f_4_ws106 : ws106[4]? = some ((q7, Sum.inl (cI, 4096, Sum.inl (fun _ => 0))) : Nat × va_E) := by rw [e_ws106]; exact gs_ne (by decide) f_4_ws105
                            clear f_4_ws105
                            have f_5_ws17 : ws17[5]? = some ((q9, Sum.inr (2, [Value.ref q13, Value.ref q14, Value.int 0, Value.int 0])) : Nat × va_E) := by rw [e_ws17]; exact gs_ne (by decide) f_5_ws12
                            clear f_5_ws12
                            have f_5_ws19 : ws19[5]? = some ((q9, Sum.inr (2, [Value.ref q13, Value.ref q14, Value.int 0, Value.int 0])) : Nat × va_E) := by rw [e_ws19]; exact gs_app f_5_ws17
                            clear f_5_ws17
                            have f_5_ws21 : ws21[5]? = some ((q9, Sum.inr (2, [Value.ref q13, Value.ref q14, Value.int 0, Value.int 0])) : Nat × va_E) := e_ws21.at (by first | decide | (simp; done) | (simp; omega)) f_5_ws19
                            clear f_5_ws19
                            have f_5_ws25 : ws25[5]? = some ((q9, Sum.inr (2, [Value.ref q13, Value.ref q14, Value.int 0, Value.int 0])) : Nat × va_E) := by rw [e_ws25]; exact gs_ne (by decide) f_5_ws21
                            clear f_5_ws21
                            have f_5_ws27 : ws27[5]? = some ((q9, Sum.inr (2, [Value.ref q13, Value.ref q14, Value.int 0, Value.int 0])) : Nat × va_E) := by rw [e_ws27]; exact gs_app f_5_ws25
                            clear f_5_ws25
                            have f_5_ws29 : ws29[5]? = some ((q9, Sum.inr (2, [Value.ref q13, Value.ref q14, Value.int 0, Value.int 0])) : Nat × va_E) := e_ws29.at (by first | decide | (simp; done) | (simp; omega)) f_5_ws27
                            clear f_5_ws27
                            have f_5_ws33 : ws33[5]? = some ((q9, Sum.inr (2, [Value.ref q13, Value.ref q14, Value.int 0, Value.int 0])) : Nat × va_E) := by rw [e_ws33]; exact gs_ne (by decide) f_5_ws29
                            clear f_5_ws29
                            have f_5_ws35 : ws35[5]? = some ((q9, Sum.inr (2, [Value.ref q13, Value.ref q14, Value.int 0, Value.int 0])) : Nat × va_E) := by rw [e_ws35]; exact gs_app f_5_ws33
                            clear f_5_ws33
                            have f_5_ws37 : ws37[5]? = some ((q9, Sum.inr (2, [Value.ref q13, Value.ref q14, Value.int 0, Value.int 0])) : Nat × va_E) := e_ws37.at (by first | decide | (simp; done) | (simp; omega)) f_5_ws35
                            clear f_5_ws35
                            have f_5_ws41 : ws41[5]? = some ((q9, Sum.inr (2, [Value.ref q13, Value.ref q14, Value.int 0, Value.int 0])) : Nat × va_E) := by rw [e_ws41]; exact gs_ne (by decide) f_5_ws37
                            clear f_5_ws37
                            have f_5_ws43 : ws43[5]? = some ((q9, Sum.inr (2, [Value.ref q13, Value.ref q14, Value.int 0, Value.int 0])) : Nat × va_E) := by rw [e_ws43]; exact gs_app f_5_ws41
                            clear f_5_ws41
                            have f_5_ws44 : ws44[5]? = some ((q9, Sum.inr (2, [Value.ref q13, Value.ref q14, Value.int 0, Value.int 0])) : Nat × va_E) := by rw [e_ws44]; exact gs_ne (by decide) f_5_ws43
                            clear f_5_ws43
                            have f_5_ws46 : ws46[5]? = some ((q9, Sum.inr (2, [Value.ref q13, Value.ref q14, Value.int 0, Value.int 0])) : Nat × va_E) := by rw [e_ws46]; exact gs_app f_5_ws44
                            clear f_5_ws44
                            have f_5_ws49 : ws49[5]? = some ((q9, Sum.inr (2, [Value.ref q13, Value.ref q14, Value.int 0, Value.int 0])) : Nat × va_E) := by rw [e_ws49]; exact gs_ne (by decide) f_5_ws46
                            clear f_5_ws46
                            have f_5_ws51 : ws51[5]? = some ((q9, Sum.inr (2, [Value.ref q13, Value.ref q14, Value.int 0, Value.int 0])) : Nat × va_E) := by rw [e_ws51]; exact gs_app f_5_ws49
                            clear f_5_ws49
                            have f_5_ws54 : ws54[5]? = some ((q9, Sum.inr (2, [Value.ref q13, Value.ref q14, Value.int 0, Value.int 0])) : Nat × va_E) := by rw [e_ws54]; exact gs_ne (by decide) f_5_ws51
                            clear f_5_ws51
                            have f_5_ws56 : ws56[5]? = some ((q9, Sum.inr (2, [Value.ref q13, Value.ref q14, Value.int 0, Value.int 0])) : Nat × va_E) := by rw [e_ws56]; exact gs_app f_5_ws54
                            clear f_5_ws54
                            have f_5_ws59 : ws59[5]? = some ((q9, Sum.inr (2, [Value.ref q13, Value.ref q14, Value.int 0, Value.int 0])) : Nat × va_E) := by rw [e_ws59]; exact gs_ne (by decide) f_5_ws56
                            clear f_5_ws56
                            have f_5_ws61 : ws61[5]? = some ((q9, Sum.inr (2, [Value.ref q13, Value.ref q14, Value.int 0, Value.int 0])) : Nat × va_E) := by rw [e_ws61]; exact gs_app f_5_ws59
                            clear f_5_ws59
                            have f_5_ws64 : ws64[5]? = some ((q9, Sum.inr (2, [Value.ref q13, Value.ref q14, Value.int 0, Value.int 0])) : Nat × va_E) := by rw [e_ws64]; exact gs_ne (by decide) f_5_ws61
                            clear f_5_ws61
                            have f_5_ws66 : ws66[5]? = some ((q9, Sum.inr (2, [Value.ref q13, Value.ref q14, Value.int 0, Value.int 0])) : Nat × va_E) := by rw [e_ws66]; exact gs_app f_5_ws64
                            clear f_5_ws64
                            have f_5_ws67 : ws67[5]? = some ((q9, Sum.inr (2, [Value.ref q13, Value.ref q14, Value.int 0, Value.int 0])) : Nat × va_E) := by rw [e_ws67]; exact gs_ne (by decide) f_5_ws66
                            clear f_5_ws66
                            have f_5_ws69 : ws69[5]? = some ((q9, Sum.inr (2, [Value.ref q13, Value.ref q14, Value.int 0, Value.int 0])) : Nat × va_E) := by rw [e_ws69]; exact gs_app f_5_ws67
                            clear f_5_ws67
                            have f_5_ws71 : ws71[5]? = some ((q9, Sum.inr (2, [Value.ref q13, Value.ref q14, Value.int 0, Value.int 0])) : Nat × va_E) := e_ws71.at (by first | decide | (simp; done) | (simp; omega)) f_5_ws69
                            clear f_5_ws69
                            have f_5_ws76 : ws76[5]? = some ((q9, Sum.inr (2, [Value.ref q13, Value.ref q14, Value.int 0, Value.int 0])) : Nat × va_E) := by rw [e_ws76]; exact gs_ne (by decide) f_5_ws71
                            clear f_5_ws71
                            have f_5_ws78 : ws78[5]? = some ((q9, Sum.inr (2, [Value.ref q13, Value.ref q14, Value.int 0, Value.int 0])) : Nat × va_E) := by rw [e_ws78]; exact gs_app f_5_ws76
                            clear f_5_ws76
                            have f_5_ws80 : ws80[5]? = some ((q9, Sum.inr (2, [Value.ref q13, Value.ref q14, Value.int 0, Value.int 0])) : Nat × va_E) := e_ws80.at (by first | decide | (simp; done) | (simp; omega)) f_5_ws78
                            clear f_5_ws78
                            have f_5_ws85 : ws85[5]? = some ((q9, Sum.inr (2, [Value.ref q13, Value.ref q14, Value.int 0, Value.int 0])) : Nat × va_E) := by rw [e_ws85]; exact gs_ne (by decide) f_5_ws80
                            clear f_5_ws80
                            have f_5_ws87 : ws87[5]? = some ((q9, Sum.inr (2, [Value.ref q13, Value.ref q14, Value.int 0, Value.int 0])) : Nat × va_E) := by rw [e_ws87]; exact gs_app f_5_ws85
                            clear f_5_ws85
                            have f_5_ws89 : ws89[5]? = some ((q9, Sum.inr (2, [Value.ref q13, Value.ref q14, Value.int 0, Value.int 0])) : Nat × va_E) := e_ws89.at (by first | decide | (simp; done) | (simp; omega)) f_5_ws87
                            clear f_5_ws87
                            have f_5_ws94 : ws94[5]? = some ((q9, Sum.inr (2, [Value.ref q13, Value.ref q14, Value.int 0, Value.int 0])) : Nat × va_E) := by rw [e_ws94]; exact gs_ne (by decide) f_5_ws89
                            clear f_5_ws89
                            have f_5_ws96 : ws96[5]? = some ((q9, Sum.inr (2, [Value.ref q13, Value.ref q14, Value.int 0, Value.int 0])) : Nat × va_E) := by rw [e_ws96]; exact gs_app f_5_ws94
                            clear f_5_ws94
                            have f_5_ws98 : ws98[5]? = some ((q9, Sum.inr (2, [Value.ref q13, Value.ref q14, Value.int 0, Value.int 0])) : Nat × va_E) := e_ws98.at (by first | decide | (simp; done) | (simp; omega)) f_5_ws96
                            clear f_5_ws96
                            have f_5_ws103 : ws103[5]? = some ((q9, Sum.inr (2, [Value.ref q13, Value.ref q14, Value.int 0, Value.int 0])) : Nat × va_E) := by rw [e_ws103]; exact gs_ne (by decide) f_5_ws98
                            clear f_5_ws98
                            have f_5_ws104 : ws104[5]? = some ((q9, Sum.inr (2, [Value.ref q13, Value.ref q14, Value.int 0, Value.int 0])) : Nat × va_E) := by rw [e_ws104]; exact gs_ne (by decide) f_5_ws103
                            clear f_5_ws103
                            have f_5_ws105 : ws105[5]? = some ((q9, Sum.inr (2, [Value.ref q13, Value.ref q14, Value.int 0, Value.int 0])) : Nat × va_E) := by rw [e_ws105]; exact gs_ne (by decide) f_5_ws104
                            clear f_5_ws104
                            have f_5_ws106 : ws106[5]? = some ((q9, Sum.inr (2, [Value.ref q13, Value.ref q14, Value.int 0, Value.int 0])) : Nat × va_E) := by rw [e_ws106]; exact gs_ne (by decide) f_5_ws105
                            clear f_5_ws105
                            have f_6_ws17 : ws17[6]? = some ((q13, Sum.inr (3, [v15, Value.int 0, Value.int 0])) : Nat × va_E) := by rw [e_ws17]; exact gs_ne (by decide) f_6_ws12
                            clear f_6_ws12
                            have f_6_ws19 : ws19[6]? = some ((q13, Sum.inr (3, [v15, Value.int 0, Value.int 0])) : Nat × va_E) := by rw [e_ws19]; exact gs_app f_6_ws17
                            clear f_6_ws17
                            have f_6_ws21 : ws21[6]? = some ((q13, Sum.inr (3, [v15, Value.int 0, Value.int 0])) : Nat × va_E) := e_ws21.at (by first | decide | (simp; done) | (simp; omega)) f_6_ws19
                            clear f_6_ws19
                            have f_6_ws25 : ws25[6]? = some ((q13, Sum.inr (3, [v15, Value.int 0, Value.int 0])) : Nat × va_E) := by rw [e_ws25]; exact gs_ne (by decide) f_6_ws21
                            clear f_6_ws21
                            have f_6_ws27 : ws27[6]? = some ((q13, Sum.inr (3, [v15, Value.int 0, Value.int 0])) : Nat × va_E) := by rw [e_ws27]; exact gs_app f_6_ws25
                            clear f_6_ws25
                            have f_6_ws29 : ws29[6]? = some ((q13, Sum.inr (3, [v15, Value.int 0, Value.int 0])) : Nat × va_E) := e_ws29.at (by first | decide | (simp; done) | (simp; omega)) f_6_ws27
                            clear f_6_ws27
                            have f_6_ws33 : ws33[6]? = some ((q13, Sum.inr (3, [v15, Value.int 0, Value.int 0])) : Nat × va_E) := by rw [e_ws33]; exact gs_ne (by decide) f_6_ws29
                            clear f_6_ws29
                            have f_6_ws35 : ws35[6]? = some ((q13, Sum.inr (3, [v15, Value.int 0, Value.int 0])) : Nat × va_E) := by rw [e_ws35]; exact gs_app f_6_ws33
                            clear f_6_ws33
                            have f_6_ws37 : ws37[6]? = some ((q13, Sum.inr (3, [v15, Value.int 0, Value.int 0])) : Nat × va_E) := e_ws37.at (by first | decide | (simp; done) | (simp; omega)) f_6_ws35
                            clear f_6_ws35
                            have f_6_ws41 : ws41[6]? = some ((q13, Sum.inr (3, [v15, Value.int 0, Value.int 0])) : Nat × va_E) := by rw [e_ws41]; exact gs_ne (by decide) f_6_ws37
                            clear f_6_ws37
                            have f_6_ws43 : ws43[6]? = some ((q13, Sum.inr (3, [v15, Value.int 0, Value.int 0])) : Nat × va_E) := by rw [e_ws43]; exact gs_app f_6_ws41
                            clear f_6_ws41
                            have f_6_ws44 : ws44[6]? = some ((q13, Sum.inr (3, [v15, Value.int 0, Value.int 0])) : Nat × va_E) := by rw [e_ws44]; exact gs_ne (by decide) f_6_ws43
                            clear f_6_ws43
                            have f_6_ws46 : ws46[6]? = some ((q13, Sum.inr (3, [v15, Value.int 0, Value.int 0])) : Nat × va_E) := by rw [e_ws46]; exact gs_app f_6_ws44
                            clear f_6_ws44
                            have f_6_ws49 : ws49[6]? = some ((q13, Sum.inr (3, [v15, Value.int 0, Value.int 0])) : Nat × va_E) := by rw [e_ws49]; exact gs_ne (by decide) f_6_ws46
                            clear f_6_ws46
                            have f_6_ws51 : ws51[6]? = some ((q13, Sum.inr (3, [v15, Value.int 0, Value.int 0])) : Nat × va_E) := by rw [e_ws51]; exact gs_app f_6_ws49
                            clear f_6_ws49
                            have f_6_ws54 : ws54[6]? = some ((q13, Sum.inr (3, [v15, Value.int 0, Value.int 0])) : Nat × va_E) := by rw [e_ws54]; exact gs_ne (by decide) f_6_ws51
                            clear f_6_ws51
                            have f_6_ws56 : ws56[6]? = some ((q13, Sum.inr (3, [v15, Value.int 0, Value.int 0])) : Nat × va_E) := by rw [e_ws56]; exact gs_app f_6_ws54
                            clear f_6_ws54
                            have f_6_ws59 : ws59[6]? = some ((q13, Sum.inr (3, [v15, Value.int 0, Value.int 0])) : Nat × va_E) := by rw [e_ws59]; exact gs_ne (by decide) f_6_ws56
                            clear f_6_ws56
                            have f_6_ws61 : ws61[6]? = some ((q13, Sum.inr (3, [v15, Value.int 0, Value.int 0])) : Nat × va_E) := by rw [e_ws61]; exact gs_app f_6_ws59
                            clear f_6_ws59
                            have f_6_ws64 : ws64[6]? = some ((q13, Sum.inr (3, [v15, Value.int 0, Value.int 0])) : Nat × va_E) := by rw [e_ws64]; exact gs_ne (by decide) f_6_ws61
                            clear f_6_ws61
                            have f_6_ws66 : ws66[6]? = some ((q13, Sum.inr (3, [v15, Value.int 0, Value.int 0])) : Nat × va_E) := by rw [e_ws66]; exact gs_app f_6_ws64
                            clear f_6_ws64
                            have f_6_ws67 : ws67[6]? = some ((q13, Sum.inr (3, [v15, Value.int 0, Value.int 0])) : Nat × va_E) := by rw [e_ws67]; exact gs_ne (by decide) f_6_ws66
                            clear f_6_ws66
                            have f_6_ws69 : ws69[6]? = some ((q13, Sum.inr (3, [v15, Value.int 0, Value.int 0])) : Nat × va_E) := by rw [e_ws69]; exact gs_app f_6_ws67
                            clear f_6_ws67
                            have f_6_ws71 : ws71[6]? = some ((q13, Sum.inr (3, [v15, Value.int 0, Value.int 0])) : Nat × va_E) := e_ws71.at (by first | decide | (simp; done) | (simp; omega)) f_6_ws69
                            clear f_6_ws69
                            have f_6_ws76 : ws76[6]? = some ((q13, Sum.inr (3, [v15, Value.int 0, Value.int 0])) : Nat × va_E) := by rw [e_ws76]; exact gs_ne (by decide) f_6_ws71
                            clear f_6_ws71
                            have f_6_ws78 : ws78[6]? = some ((q13, Sum.inr (3, [v15, Value.int 0, Value.int 0])) : Nat × va_E) := by rw [e_ws78]; exact gs_app f_6_ws76
                            clear f_6_ws76
                            have f_6_ws80 : ws80[6]? = some ((q13, Sum.inr (3, [v15, Value.int 0, Value.int 0])) : Nat × va_E) := e_ws80.at (by first | decide | (simp; done) | (simp; omega)) f_6_ws78
                            clear f_6_ws78
                            have f_6_ws85 : ws85[6]? = some ((q13, Sum.inr (3, [v15, Value.int 0, Value.int 0])) : Nat × va_E) := by rw [e_ws85]; exact gs_ne (by decide) f_6_ws80
                            clear f_6_ws80
                            have f_6_ws87 : ws87[6]? = some ((q13, Sum.inr (3, [v15, Value.int 0, Value.int 0])) : Nat × va_E) := by rw [e_ws87]; exact gs_app f_6_ws85
                            clear f_6_ws85
                            have f_6_ws89 : ws89[6]? = some ((q13, Sum.inr (3, [v15, Value.int 0, Value.int 0])) : Nat × va_E) := e_ws89.at (by first | decide | (simp; done) | (simp; omega)) f_6_ws87
                            clear f_6_ws87
                            have f_6_ws94 : ws94[6]? = some ((q13, Sum.inr (3, [v15, Value.int 0, Value.int 0])) : Nat × va_E) := by rw [e_ws94]; exact gs_ne (by decide) f_6_ws89
                            clear f_6_ws89
                            have f_6_ws96 : ws96[6]? = some ((q13, Sum.inr (3, [v15, Value.int 0, Value.int 0])) : Nat × va_E) := by rw [e_ws96]; exact gs_app f_6_ws94
                            clear f_6_ws94
                            have f_6_ws98 : ws98[6]? = some ((q13, Sum.inr (3, [v15, Value.int 0, Value.int 0])) : Nat × va_E) := e_ws98.at (by first | decide | (simp; done) | (simp; omega)) f_6_ws96
                            clear f_6_ws96
                            have f_6_ws103 : ws103[6]? = some ((q13, Sum.inr (3, [v15, Value.int 0, Value.int 0])) : Nat × va_E) := by rw [e_ws103]; exact gs_ne (by decide) f_6_ws98
                            clear f_6_ws98
                            have f_6_ws104 : ws104[6]? = some ((q13, Sum.inr (3, [v15, Value.int 0, Value.int 0])) : Nat × va_E) := by rw [e_ws104]; exact gs_ne (by decide) f_6_ws103
                            clear f_6_ws103
                            have f_6_ws105 : ws105[6]? = some ((q13, Sum.inr (3, [v15, Value.int 0, Value.int 0])) : Nat × va_E) := by rw [e_ws105]; exact gs_ne (by decide) f_6_ws104
                            clear f_6_ws104
                            have f_6_ws106 : ws106[6]? = some ((q13, Sum.inr (3, [v15, Value.int 0, Value.int 0])) : Nat × va_E) := by rw [e_ws106]; exact gs_ne (by decide) f_6_ws105
                            clear f_6_ws105
                            have f_7_ws17 : ws17[7]? = some ((q14, Sum.inr (3, [v16, Value.int 0, Value.int 0])) : Nat × va_E) := by rw [e_ws17]; exact gs_ne (by decide) f_7_ws12
                            clear f_7_ws12
                            have f_7_ws19 : ws19[7]? = some ((q14, Sum.inr (3, [v16, Value.int 0, Value.int 0])) : Nat × va_E) := by rw [e_ws19]; exact gs_app f_7_ws17
                            clear f_7_ws17
                            have f_7_ws21 : ws21[7]? = some ((q14, Sum.inr (3, [v16, Value.int 0, Value.int 0])) : Nat × va_E) := e_ws21.at (by first | decide | (simp; done) | (simp; omega)) f_7_ws19
                            clear f_7_ws19
                            have f_7_ws25 : ws25[7]? = some ((q14, Sum.inr (3, [v16, Value.int 0, Value.int 0])) : Nat × va_E) := by rw [e_ws25]; exact gs_ne (by decide) f_7_ws21
                            clear f_7_ws21
                            have f_7_ws27 : ws27[7]? = some ((q14, Sum.inr (3, [v16, Value.int 0, Value.int 0])) : Nat × va_E) := by rw [e_ws27]; exact gs_app f_7_ws25
                            clear f_7_ws25
                            have f_7_ws29 : ws29[7]? = some ((q14, Sum.inr (3, [v16, Value.int 0, Value.int 0])) : Nat × va_E) := e_ws29.at (by first | decide | (simp; done) | (simp; omega)) f_7_ws27
                            clear f_7_ws27
                            have f_7_ws33 : ws33[7]? = some ((q14, Sum.inr (3, [v16, Value.int 0, Value.int 0])) : Nat × va_E) := by rw [e_ws33]; exact gs_ne (by decide) f_7_ws29
                            clear f_7_ws29
                            have f_7_ws35 : ws35[7]? = some ((q14, Sum.inr (3, [v16, Value.int 0, Value.int 0])) : Nat × va_E) := by rw [e_ws35]; exact gs_app f_7_ws33
                            clear f_7_ws33
                            have f_7_ws37 : ws37[7]? = some ((q14, Sum.inr (3, [v16, Value.int 0, Value.int 0])) : Nat × va_E) := e_ws37.at (by first | decide | (simp; done) | (simp; omega)) f_7_ws35
                            clear f_7_ws35
                            have f_7_ws41 : ws41[7]? = some ((q14, Sum.inr (3, [v16, Value.int 0, Value.int 0])) : Nat × va_E) := by rw [e_ws41]; exact gs_ne (by decide) f_7_ws37
                            clear f_7_ws37
                            have f_7_ws43 : ws43[7]? = some ((q14, Sum.inr (3, [v16, Value.int 0, Value.int 0])) : Nat × va_E) := by rw [e_ws43]; exact gs_app f_7_ws41
                            clear f_7_ws41
                            have f_7_ws44 : ws44[7]? = some ((q14, Sum.inr (3, [v16, Value.int 0, Value.int 0])) : Nat × va_E) := by rw [e_ws44]; exact gs_ne (by decide) f_7_ws43
                            clear f_7_ws43
                            have f_7_ws46 : ws46[7]? = some ((q14, Sum.inr (3, [v16, Value.int 0, Value.int 0])) : Nat × va_E) := by rw [e_ws46]; exact gs_app f_7_ws44
                            clear f_7_ws44
                            have f_7_ws49 : ws49[7]? = some ((q14, Sum.inr (3, [v16, Value.int 0, Value.int 0])) : Nat × va_E) := by rw [e_ws49]; exact gs_ne (by decide) f_7_ws46
                            clear f_7_ws46
                            have f_7_ws51 : ws51[7]? = some ((q14, Sum.inr (3, [v16, Value.int 0, Value.int 0])) : Nat × va_E) := by rw [e_ws51]; exact gs_app f_7_ws49
                            clear f_7_ws49
                            have f_7_ws54 : ws54[7]? = some ((q14, Sum.inr (3, [v16, Value.int 0, Value.int 0])) : Nat × va_E) := by rw [e_ws54]; exact gs_ne (by decide) f_7_ws51
                            clear f_7_ws51
                            have f_7_ws56 : ws56[7]? = some ((q14, Sum.inr (3, [v16, Value.int 0, Value.int 0])) : Nat × va_E) := by rw [e_ws56]; exact gs_app f_7_ws54
                            clear f_7_ws54
                            have f_7_ws59 : ws59[7]? = some ((q14, Sum.inr (3, [v16, Value.int 0, Value.int 0])) : Nat × va_E) := by rw [e_ws59]; exact gs_ne (by decide) f_7_ws56
                            clear f_7_ws56
                            have f_7_ws61 : ws61[7]? = some ((q14, Sum.inr (3, [v16, Value.int 0, Value.int 0])) : Nat × va_E) := by rw [e_ws61]; exact gs_app f_7_ws59
                            clear f_7_ws59
                            have f_7_ws64 : ws64[7]? = some ((q14, Sum.inr (3, [v16, Value.int 0, Value.int 0])) : Nat × va_E) := by rw [e_ws64]; exact gs_ne (by decide) f_7_ws61
                            clear f_7_ws61
                            have f_7_ws66 : ws66[7]? = some ((q14, Sum.inr (3, [v16, Value.int 0, Value.int 0])) : Nat × va_E) := by rw [e_ws66]; exact gs_app f_7_ws64
                            clear f_7_ws64
                            have f_7_ws67 : ws67[7]? = some ((q14, Sum.inr (3, [v16, Value.int 0, Value.int 0])) : Nat × va_E) := by rw [e_ws67]; exact gs_ne (by decide) f_7_ws66
                            clear f_7_ws66
                            have f_7_ws69 : ws69[7]? = some ((q14, Sum.inr (3, [v16, Value.int 0, Value.int 0])) : Nat × va_E) := by rw [e_ws69]; exact gs_app f_7_ws67
                            clear f_7_ws67
                            have f_7_ws71 : ws71[7]? = some ((q14, Sum.inr (3, [v16, Value.int 0, Value.int 0])) : Nat × va_E) := e_ws71.at (by first | decide | (simp; done) | (simp; omega)) f_7_ws69
                            clear f_7_ws69
                            have f_7_ws76 : ws76[7]? = some ((q14, Sum.inr (3, [v16, Value.int 0, Value.int 0])) : Nat × va_E) := by rw [e_ws76]; exact gs_ne (by decide) f_7_ws71
                            clear f_7_ws71
                            have f_7_ws78 : ws78[7]? = some ((q14, Sum.inr (3, [v16, Value.int 0, Value.int 0])) : Nat × va_E) := by rw [e_ws78]; exact gs_app f_7_ws76
                            clear f_7_ws76
                            have f_7_ws80 : ws80[7]? = some ((q14, Sum.inr (3, [v16, Value.int 0, Value.int 0])) : Nat × va_E) := e_ws80.at (by first | decide | (simp; done) | (simp; omega)) f_7_ws78
                            clear f_7_ws78
                            have f_7_ws85 : ws85[7]? = some ((q14, Sum.inr (3, [v16, Value.int 0, Value.int 0])) : Nat × va_E) := by rw [e_ws85]; exact gs_ne (by decide) f_7_ws80
                            clear f_7_ws80
                            have f_7_ws87 : ws87[7]? = some ((q14, Sum.inr (3, [v16, Value.int 0, Value.int 0])) : Nat × va_E) := by rw [e_ws87]; exact gs_app f_7_ws85
                            clear f_7_ws85
                            have f_7_ws89 : ws89[7]? = some ((q14, Sum.inr (3, [v16, Value.int 0, Value.int 0])) : Nat × va_E) := e_ws89.at (by first | decide | (simp; done) | (simp; omega)) f_7_ws87
                            clear f_7_ws87
                            have f_7_ws94 : ws94[7]? = some ((q14, Sum.inr (3, [v16, Value.int 0, Value.int 0])) : Nat × va_E) := by rw [e_ws94]; exact gs_ne (by decide) f_7_ws89
                            clear f_7_ws89
                            have f_7_ws96 : ws96[7]? = some ((q14, Sum.inr (3, [v16, Value.int 0, Value.int 0])) : Nat × va_E) := by rw [e_ws96]; exact gs_app f_7_ws94
                            clear f_7_ws94
                            have f_7_ws98 : ws98[7]? = some ((q14, Sum.inr (3, [v16, Value.int 0, Value.int 0])) : Nat × va_E) := e_ws98.at (by first | decide | (simp; done) | (simp; omega)) f_7_ws96
                            clear f_7_ws96
                            have f_7_ws103 : ws103[7]? = some ((q14, Sum.inr (3, [v16, Value.int 0, Value.int 0])) : Nat × va_E) := by rw [e_ws103]; exact gs_ne (by decide) f_7_ws98
                            clear f_7_ws98
                            have f_7_ws104 : ws104[7]? = some ((q14, Sum.inr (3, [v16, Value.int 0, Value.int 0])) : Nat × va_E) := by rw [e_ws104]; exact gs_ne (by decide) f_7_ws103
                            clear f_7_ws103
                            have f_7_ws105 : ws105[7]? = some ((q14, Sum.inr (3, [v16, Value.int 0, Value.int 0])) : Nat × va_E) := by rw [e_ws105]; exact gs_ne (by decide) f_7_ws104
                            clear f_7_ws104
                            have f_7_ws106 : ws106[7]? = some ((q14, Sum.inr (3, [v16, Value.int 0, Value.int 0])) : Nat × va_E) := by rw [e_ws106]; exact gs_ne (by decide) f_7_ws105
                            clear f_7_ws105
                            have f_8_ws25 : ws25[8]? = some ((q18, Sum.inr (4, [Value.ref q22, Value.ref q23, Value.ref q24, Value.null, Value.int 0, Value.int 0])) : Nat × va_E) := by rw [e_ws25]; exact gs_ne (by decide) f_8_ws21
                            clear f_8_ws21
                            have f_8_ws27 : ws27[8]? = some ((q18, Sum.inr (4, [Value.ref q22, Value.ref q23, Value.ref q24, Value.null, Value.int 0, Value.int 0])) : Nat × va_E) := by rw [e_ws27]; exact gs_app f_8_ws25
                            clear f_8_ws25
                            have f_8_ws29 : ws29[8]? = some ((q18, Sum.inr (4, [Value.ref q22, Value.ref q23, Value.ref q24, Value.null, Value.int 0, Value.int 0])) : Nat × va_E) := e_ws29.at (by first | decide | (simp; done) | (simp; omega)) f_8_ws27
                            clear f_8_ws27
                            have f_8_ws33 : ws33[8]? = some ((q18, Sum.inr (4, [Value.ref q22, Value.ref q23, Value.ref q24, Value.null, Value.int 0, Value.int 0])) : Nat × va_E) := by rw [e_ws33]; exact gs_ne (by decide) f_8_ws29
                            clear f_8_ws29
                            have f_8_ws35 : ws35[8]? = some ((q18, Sum.inr (4, [Value.ref q22, Value.ref q23, Value.ref q24, Value.null, Value.int 0, Value.int 0])) : Nat × va_E) := by rw [e_ws35]; exact gs_app f_8_ws33
                            clear f_8_ws33
                            have f_8_ws37 : ws37[8]? = some ((q18, Sum.inr (4, [Value.ref q22, Value.ref q23, Value.ref q24, Value.null, Value.int 0, Value.int 0])) : Nat × va_E) := e_ws37.at (by first | decide | (simp; done) | (simp; omega)) f_8_ws35
                            clear f_8_ws35
                            have f_8_ws41 : ws41[8]? = some ((q18, Sum.inr (4, [Value.ref q22, Value.ref q23, Value.ref q24, Value.null, Value.int 0, Value.int 0])) : Nat × va_E) := by rw [e_ws41]; exact gs_ne (by decide) f_8_ws37
                            clear f_8_ws37
                            have f_8_ws43 : ws43[8]? = some ((q18, Sum.inr (4, [Value.ref q22, Value.ref q23, Value.ref q24, Value.null, Value.int 0, Value.int 0])) : Nat × va_E) := by rw [e_ws43]; exact gs_app f_8_ws41
                            clear f_8_ws41
                            have f_8_ws44 : ws44[8]? = some ((q18, Sum.inr (4, [Value.ref q22, Value.ref q23, Value.ref q24, Value.null, Value.int 0, Value.int 0])) : Nat × va_E) := by rw [e_ws44]; exact gs_ne (by decide) f_8_ws43
                            clear f_8_ws43
                            have f_8_ws46 : ws46[8]? = some ((q18, Sum.inr (4, [Value.ref q22, Value.ref q23, Value.ref q24, Value.null, Value.int 0, Value.int 0])) : Nat × va_E) := by rw [e_ws46]; exact gs_app f_8_ws44
                            clear f_8_ws44
                            have f_8_ws49 : ws49[8]? = some ((q18, Sum.inr (4, [Value.ref q22, Value.ref q23, Value.ref q24, Value.null, Value.int 0, Value.int 0])) : Nat × va_E) := by rw [e_ws49]; exact gs_ne (by decide) f_8_ws46
                            clear f_8_ws46
                            have f_8_ws51 : ws51[8]? = some ((q18, Sum.inr (4, [Value.ref q22, Value.ref q23, Value.ref q24, Value.null, Value.int 0, Value.int 0])) : Nat × va_E) := by rw [e_ws51]; exact gs_app f_8_ws49
                            clear f_8_ws49
                            have f_8_ws54 : ws54[8]? = some ((q18, Sum.inr (4, [Value.ref q22, Value.ref q23, Value.ref q24, Value.null, Value.int 0, Value.int 0])) : Nat × va_E) := by rw [e_ws54]; exact gs_ne (by decide) f_8_ws51
                            clear f_8_ws51
                            have f_8_ws56 : ws56[8]? = some ((q18, Sum.inr (4, [Value.ref q22, Value.ref q23, Value.ref q24, Value.null, Value.int 0, Value.int 0])) : Nat × va_E) := by rw [e_ws56]; exact gs_app f_8_ws54
                            clear f_8_ws54
                            have f_8_ws59 : ws59[8]? = some ((q18, Sum.inr (4, [Value.ref q22, Value.ref q23, Value.ref q24, Value.null, Value.int 0, Value.int 0])) : Nat × va_E) := by rw [e_ws59]; exact gs_ne (by decide) f_8_ws56
                            clear f_8_ws56
                            have f_8_ws61 : ws61[8]? = some ((q18, Sum.inr (4, [Value.ref q22, Value.ref q23, Value.ref q24, Value.null, Value.int 0, Value.int 0])) : Nat × va_E) := by rw [e_ws61]; exact gs_app f_8_ws59
                            clear f_8_ws59
                            have f_8_ws64 : ws64[8]? = some ((q18, Sum.inr (4, [Value.ref q22, Value.ref q23, Value.ref q24, Value.null, Value.int 0, Value.int 0])) : Nat × va_E) := by rw [e_ws64]; exact gs_ne (by decide) f_8_ws61
                            clear f_8_ws61
                            have f_8_ws66 : ws66[8]? = some ((q18, Sum.inr (4, [Value.ref q22, Value.ref q23, Value.ref q24, Value.null, Value.int 0, Value.int 0])) : Nat × va_E) := by rw [e_ws66]; exact gs_app f_8_ws64
                            clear f_8_ws64
                            have f_8_ws67 : ws67[8]? = some ((q18, Sum.inr (4, [Value.ref q22, Value.ref q23, Value.ref q24, Value.null, Value.int 0, Value.int 0])) : Nat × va_E) := by rw [e_ws67]; exact gs_ne (by decide) f_8_ws66
                            clear f_8_ws66
                            have f_8_ws69 : ws69[8]? = some ((q18, Sum.inr (4, [Value.ref q22, Value.ref q23, Value.ref q24, Value.null, Value.int 0, Value.int 0])) : Nat × va_E) := by rw [e_ws69]; exact gs_app f_8_ws67
                            clear f_8_ws67
                            have f_8_ws71 : ws71[8]? = some ((q18, Sum.inr (4, [Value.ref q22, Value.ref q23, Value.ref q24, Value.null, Value.int 0, Value.int 0])) : Nat × va_E) := e_ws71.at (by first | decide | (simp; done) | (simp; omega)) f_8_ws69
                            clear f_8_ws69
                            have f_8_ws76 : ws76[8]? = some ((q18, Sum.inr (4, [Value.ref q22, Value.ref q23, Value.ref q24, Value.null, Value.int 0, Value.int 0])) : Nat × va_E) := by rw [e_ws76]; exact gs_ne (by decide) f_8_ws71
                            clear f_8_ws71
                            have f_8_ws78 : ws78[8]? = some ((q18, Sum.inr (4, [Value.ref q22, Value.ref q23, Value.ref q24, Value.null, Value.int 0, Value.int 0])) : Nat × va_E) := by rw [e_ws78]; exact gs_app f_8_ws76
                            clear f_8_ws76
                            have f_8_ws80 : ws80[8]? = some ((q18, Sum.inr (4, [Value.ref q22, Value.ref q23, Value.ref q24, Value.null, Value.int 0, Value.int 0])) : Nat × va_E) := e_ws80.at (by first | decide | (simp; done) | (simp; omega)) f_8_ws78
                            clear f_8_ws78
                            have f_8_ws85 : ws85[8]? = some ((q18, Sum.inr (4, [Value.ref q22, Value.ref q23, Value.ref q24, Value.null, Value.int 0, Value.int 0])) : Nat × va_E) := by rw [e_ws85]; exact gs_ne (by decide) f_8_ws80
                            clear f_8_ws80
                            have f_8_ws87 : ws87[8]? = some ((q18, Sum.inr (4, [Value.ref q22, Value.ref q23, Value.ref q24, Value.null, Value.int 0, Value.int 0])) : Nat × va_E) := by rw [e_ws87]; exact gs_app f_8_ws85
                            clear f_8_ws85
                            have f_8_ws89 : ws89[8]? = some ((q18, Sum.inr (4, [Value.ref q22, Value.ref q23, Value.ref q24, Value.null, Value.int 0, Value.int 0])) : Nat × va_E) := e_ws89.at (by first | decide | (simp; done) | (simp; omega)) f_8_ws87
                            clear f_8_ws87
                            have f_8_ws94 : ws94[8]? = some ((q18, Sum.inr (4, [Value.ref q22, Value.ref q23, Value.ref q24, Value.null, Value.int 0, Value.int 0])) : Nat × va_E) := by rw [e_ws94]; exact gs_ne (by decide) f_8_ws89
                            clear f_8_ws89
                            have f_8_ws96 : ws96[8]? = some ((q18, Sum.inr (4, [Value.ref q22, Value.ref q23, Value.ref q24, Value.null, Value.int 0, Value.int 0])) : Nat × va_E) := by rw [e_ws96]; exact gs_app f_8_ws94
                            clear f_8_ws94
                            have f_8_ws98 : ws98[8]? = some ((q18, Sum.inr (4, [Value.ref q22, Value.ref q23, Value.ref q24, Value.null, Value.int 0, Value.int 0])) : Nat × va_E) := e_ws98.at (by first | decide | (simp; done) | (simp; omega)) f_8_ws96
                            clear f_8_ws96
                            have f_8_ws103 : ws103[8]? = some ((q18, Sum.inr (4, [Value.ref q22, Value.ref q23, Value.ref q24, Value.null, Value.int 0, Value.int 0])) : Nat × va_E) := by rw [e_ws103]; exact gs_ne (by decide) f_8_ws98
                            clear f_8_ws98
                            have f_8_ws104 : ws104[8]? = some ((q18, Sum.inr (4, [Value.ref q22, Value.ref q23, Value.ref q24, Value.null, Value.int 0, Value.int 0])) : Nat × va_E) := by rw [e_ws104]; exact gs_ne (by decide) f_8_ws103
                            clear f_8_ws103
                            have f_8_ws105 : ws105[8]? = some ((q18, Sum.inr (4, [Value.ref q22, Value.ref q23, Value.ref q24, Value.null, Value.int 0, Value.int 0])) : Nat × va_E) := by rw [e_ws105]; exact gs_ne (by decide) f_8_ws104
                            clear f_8_ws104
                            have f_8_ws106 : ws106[8]? = some ((q18, Sum.inr (4, [Value.ref q22, Value.ref q23, Value.ref q24, Value.null, Value.int 0, Value.int 0])) : Nat × va_E) := by rw [e_ws106]; exact gs_ne (by decide) f_8_ws105
                            clear f_8_ws105
                            have f_9_ws25 : ws25[9]? = some ((q22, Sum.inl (cF, 4096, Sum.inr (Sum.inr (Sum.inr (Sum.inr (fun _ => none)))))) : Nat × va_E) := by rw [e_ws25]; exact gs_ne (by decide) f_9_ws21
                            clear f_9_ws21
                            have f_9_ws27 : ws27[9]? = some ((q22, Sum.inl (cF, 4096, Sum.inr (Sum.inr (Sum.inr (Sum.inr (fun _ => none)))))) : Nat × va_E) := by rw [e_ws27]; exact gs_app f_9_ws25
                            clear f_9_ws25
                            have f_9_ws29 : ws29[9]? = some ((q22, Sum.inl (cF, 4096, Sum.inr (Sum.inr (Sum.inr (Sum.inr (fun _ => none)))))) : Nat × va_E) := e_ws29.at (by first | decide | (simp; done) | (simp; omega)) f_9_ws27
                            clear f_9_ws27
                            have f_9_ws33 : ws33[9]? = some ((q22, Sum.inl (cF, 4096, Sum.inr (Sum.inr (Sum.inr (Sum.inr (fun _ => none)))))) : Nat × va_E) := by rw [e_ws33]; exact gs_ne (by decide) f_9_ws29
                            clear f_9_ws29
                            have f_9_ws35 : ws35[9]? = some ((q22, Sum.inl (cF, 4096, Sum.inr (Sum.inr (Sum.inr (Sum.inr (fun _ => none)))))) : Nat × va_E) := by rw [e_ws35]; exact gs_app f_9_ws33
                            clear f_9_ws33
                            have f_9_ws37 : ws37[9]? = some ((q22, Sum.inl (cF, 4096, Sum.inr (Sum.inr (Sum.inr (Sum.inr (fun _ => none)))))) : Nat × va_E) := e_ws37.at (by first | decide | (simp; done) | (simp; omega)) f_9_ws35
                            clear f_9_ws35
                            have f_9_ws41 : ws41[9]? = some ((q22, Sum.inl (cF, 4096, Sum.inr (Sum.inr (Sum.inr (Sum.inr (fun _ => none)))))) : Nat × va_E) := by rw [e_ws41]; exact gs_ne (by decide) f_9_ws37
                            clear f_9_ws37
                            have f_9_ws43 : ws43[9]? = some ((q22, Sum.inl (cF, 4096, Sum.inr (Sum.inr (Sum.inr (Sum.inr (fun _ => none)))))) : Nat × va_E) := by rw [e_ws43]; exact gs_app f_9_ws41
                            clear f_9_ws41
                            have f_9_ws44 : ws44[9]? = some ((q22, Sum.inl (cF, 4096, Sum.inr (Sum.inr (Sum.inr (Sum.inr (fun _ => none)))))) : Nat × va_E) := by rw [e_ws44]; exact gs_ne (by decide) f_9_ws43
                            clear f_9_ws43
                            have f_9_ws46 : ws46[9]? = some ((q22, Sum.inl (cF, 4096, Sum.inr (Sum.inr (Sum.inr (Sum.inr (fun _ => none)))))) : Nat × va_E) := by rw [e_ws46]; exact gs_app f_9_ws44
                            clear f_9_ws44
                            have f_9_ws49 : ws49[9]? = some ((q22, Sum.inl (cF, 4096, Sum.inr (Sum.inr (Sum.inr (Sum.inr (fun _ => none)))))) : Nat × va_E) := by rw [e_ws49]; exact gs_ne (by decide) f_9_ws46
                            clear f_9_ws46
                            have f_9_ws51 : ws51[9]? = some ((q22, Sum.inl (cF, 4096, Sum.inr (Sum.inr (Sum.inr (Sum.inr (fun _ => none)))))) : Nat × va_E) := by rw [e_ws51]; exact gs_app f_9_ws49
                            clear f_9_ws49
                            have f_9_ws54 : ws54[9]? = some ((q22, Sum.inl (cF, 4096, Sum.inr (Sum.inr (Sum.inr (Sum.inr (fun _ => none)))))) : Nat × va_E) := by rw [e_ws54]; exact gs_ne (by decide) f_9_ws51
                            clear f_9_ws51
                            have f_9_ws56 : ws56[9]? = some ((q22, Sum.inl (cF, 4096, Sum.inr (Sum.inr (Sum.inr (Sum.inr (fun _ => none)))))) : Nat × va_E) := by rw [e_ws56]; exact gs_app f_9_ws54
                            clear f_9_ws54
                            have f_9_ws59 : ws59[9]? = some ((q22, Sum.inl (cF, 4096, Sum.inr (Sum.inr (Sum.inr (Sum.inr (fun _ => none)))))) : Nat × va_E) := by rw [e_ws59]; exact gs_ne (by decide) f_9_ws56
                            clear f_9_ws56
                            have f_9_ws61 : ws61[9]? = some ((q22, Sum.inl (cF, 4096, Sum.inr (Sum.inr (Sum.inr (Sum.inr (fun _ => none)))))) : Nat × va_E) := by rw [e_ws61]; exact gs_app f_9_ws59
                            clear f_9_ws59
                            have f_9_ws64 : ws64[9]? = some ((q22, Sum.inl (cF, 4096, Sum.inr (Sum.inr (Sum.inr (Sum.inr (fun _ => none)))))) : Nat × va_E) := by rw [e_ws64]; exact gs_ne (by decide) f_9_ws61
                            clear f_9_ws61
                            have f_9_ws66 : ws66[9]? = some ((q22, Sum.inl (cF, 4096, Sum.inr (Sum.inr (Sum.inr (Sum.inr (fun _ => none)))))) : Nat × va_E) := by rw [e_ws66]; exact gs_app f_9_ws64
                            clear f_9_ws64
                            have f_9_ws67 : ws67[9]? = some ((q22, Sum.inl (cF, 4096, Sum.inr (Sum.inr (Sum.inr (Sum.inr (fun _ => none)))))) : Nat × va_E) := by rw [e_ws67]; exact gs_ne (by decide) f_9_ws66
                            clear f_9_ws66
                            have f_9_ws69 : ws69[9]? = some ((q22, Sum.inl (cF, 4096, Sum.inr (Sum.inr (Sum.inr (Sum.inr (fun _ => none)))))) : Nat × va_E) := by rw [e_ws69]; exact gs_app f_9_ws67
                            clear f_9_ws67
                            have f_9_ws71 : ws71[9]? = some ((q22, Sum.inl (cF, 4096, Sum.inr (Sum.inr (Sum.inr (Sum.inr (fun _ => none)))))) : Nat × va_E) := e_ws71.at (by first | decide | (simp; done) | (simp; omega)) f_9_ws69
                            clear f_9_ws69
                            have f_9_ws76 : ws76[9]? = some ((q22, Sum.inl (cF, 4096, Sum.inr (Sum.inr (Sum.inr (Sum.inr (fun _ => none)))))) : Nat × va_E) := by rw [e_ws76]; exact gs_ne (by decide) f_9_ws71
                            clear f_9_ws71
                            have f_9_ws78 : ws78[9]? = some ((q22, Sum.inl (cF, 4096, Sum.inr (Sum.inr (Sum.inr (Sum.inr (fun _ => none)))))) : Nat × va_E) := by rw [e_ws78]; exact gs_app f_9_ws76
                            clear f_9_ws76
                            have f_9_ws80 : ws80[9]? = some ((q22, Sum.inl (cF, 4096, Sum.inr (Sum.inr (Sum.inr (Sum.inr (fun _ => none)))))) : Nat × va_E) := e_ws80.at (by first | decide | (simp; done) | (simp; omega)) f_9_ws78
                            clear f_9_ws78
                            have f_9_ws85 : ws85[9]? = some ((q22, Sum.inl (cF, 4096, Sum.inr (Sum.inr (Sum.inr (Sum.inr (fun _ => none)))))) : Nat × va_E) := by rw [e_ws85]; exact gs_ne (by decide) f_9_ws80
                            clear f_9_ws80
                            have f_9_ws87 : ws87[9]? = some ((q22, Sum.inl (cF, 4096, Sum.inr (Sum.inr (Sum.inr (Sum.inr (fun _ => none)))))) : Nat × va_E) := by rw [e_ws87]; exact gs_app f_9_ws85
                            clear f_9_ws85
                            have f_9_ws89 : ws89[9]? = some ((q22, Sum.inl (cF, 4096, Sum.inr (Sum.inr (Sum.inr (Sum.inr (fun _ => none)))))) : Nat × va_E) := e_ws89.at (by first | decide | (simp; done) | (simp; omega)) f_9_ws87
                            clear f_9_ws87
                            have f_9_ws94 : ws94[9]? = some ((q22, Sum.inl (cF, 4096, Sum.inr (Sum.inr (Sum.inr (Sum.inr (fun _ => none)))))) : Nat × va_E) := by rw [e_ws94]; exact gs_ne (by decide) f_9_ws89
                            clear f_9_ws89
                            have f_9_ws96 : ws96[9]? = some ((q22, Sum.inl (cF, 4096, Sum.inr (Sum.inr (Sum.inr (Sum.inr (fun _ => none)))))) : Nat × va_E) := by rw [e_ws96]; exact gs_app f_9_ws94
                            clear f_9_ws94
                            have f_9_ws98 : ws98[9]? = some ((q22, Sum.inl (cF, 4096, Sum.inr (Sum.inr (Sum.inr (Sum.inr (fun _ => none)))))) : Nat × va_E) := e_ws98.at (by first | decide | (simp; done) | (simp; omega)) f_9_ws96
                            clear f_9_ws96
                            have f_9_ws103 : ws103[9]? = some ((q22, Sum.inl (cF, 4096, Sum.inr (Sum.inr (Sum.inr (Sum.inr (fun _ => none)))))) : Nat × va_E) := by rw [e_ws103]; exact gs_ne (by decide) f_9_ws98
                            clear f_9_ws98
                            have f_9_ws104 : ws104[9]? = some ((q22, Sum.inl (cF, 4096, Sum.inr (Sum.inr (Sum.inr (Sum.inr (fun _ => none)))))) : Nat × va_E) := by rw [e_ws104]; exact gs_ne (by decide) f_9_ws103
                            clear f_9_ws103
                            have f_9_ws105 : ws105[9]? = some ((q22, Sum.inl (cF, 4096, Sum.inr (Sum.inr (Sum.inr (Sum.inr (fun _ => none)))))) : Nat × va_E) := by rw [e_ws105]; exact gs_ne (by decide) f_9_ws104
                            clear f_9_ws104
                            have f_9_ws106 : ws106[9]? = some ((q22, Sum.inl (cF, 4096, Sum.inr (Sum.inr (Sum.inr (Sum.inr (fun _ => none)))))) : Nat × va_E) := by rw [e_ws106]; exact gs_ne (by decide) f_9_ws105
                            clear f_9_ws105
                            have f_10_ws25 : ws25[10]? = some ((q23, Sum.inl (cF, 4096, Sum.inr (Sum.inr (Sum.inr (Sum.inr (fun _ => none)))))) : Nat × va_E) := by rw [e_ws25]; exact gs_ne (by decide) f_10_ws21
                            clear f_10_ws21
                            have f_10_ws27 : ws27[10]? = some ((q23, Sum.inl (cF, 4096, Sum.inr (Sum.inr (Sum.inr (Sum.inr (fun _ => none)))))) : Nat × va_E) := by rw [e_ws27]; exact gs_app f_10_ws25
                            clear f_10_ws25
                            have f_10_ws29 : ws29[10]? = some ((q23, Sum.inl (cF, 4096, Sum.inr (Sum.inr (Sum.inr (Sum.inr (fun _ => none)))))) : Nat × va_E) := e_ws29.at (by first | decide | (simp; done) | (simp; omega)) f_10_ws27
                            clear f_10_ws27
                            have f_10_ws33 : ws33[10]? = some ((q23, Sum.inl (cF, 4096, Sum.inr (Sum.inr (Sum.inr (Sum.inr (fun _ => none)))))) : Nat × va_E) := by rw [e_ws33]; exact gs_ne (by decide) f_10_ws29
                            clear f_10_ws29
                            have f_10_ws35 : ws35[10]? = some ((q23, Sum.inl (cF, 4096, Sum.inr (Sum.inr (Sum.inr (Sum.inr (fun _ => none)))))) : Nat × va_E) := by rw [e_ws35]; exact gs_app f_10_ws33
                            clear f_10_ws33
                            have f_10_ws37 : ws37[10]? = some ((q23, Sum.inl (cF, 4096, Sum.inr (Sum.inr (Sum.inr (Sum.inr (fun _ => none)))))) : Nat × va_E) := e_ws37.at (by first | decide | (simp; done) | (simp; omega)) f_10_ws35
                            clear f_10_ws35
                            have f_10_ws41 : ws41[10]? = some ((q23, Sum.inl (cF, 4096, Sum.inr (Sum.inr (Sum.inr (Sum.inr (fun _ => none)))))) : Nat × va_E) := by rw [e_ws41]; exact gs_ne (by decide) f_10_ws37
                            clear f_10_ws37
                            have f_10_ws43 : ws43[10]? = some ((q23, Sum.inl (cF, 4096, Sum.inr (Sum.inr (Sum.inr (Sum.inr (fun _ => none)))))) : Nat × va_E) := by rw [e_ws43]; exact gs_app f_10_ws41
                            clear f_10_ws41
                            have f_10_ws44 : ws44[10]? = some ((q23, Sum.inl (cF, 4096, Sum.inr (Sum.inr (Sum.inr (Sum.inr (fun _ => none)))))) : Nat × va_E) := by rw [e_ws44]; exact gs_ne (by decide) f_10_ws43
                            clear f_10_ws43
                            have f_10_ws46 : ws46[10]? = some ((q23, Sum.inl (cF, 4096, Sum.inr (Sum.inr (Sum.inr (Sum.inr (fun _ => none)))))) : Nat × va_E) := by rw [e_ws46]; exact gs_app f_10_ws44
                            clear f_10_ws44
                            have f_10_ws49 : ws49[10]? = some ((q23, Sum.inl (cF, 4096, Sum.inr (Sum.inr (Sum.inr (Sum.inr (fun _ => none)))))) : Nat × va_E) := by rw [e_ws49]; exact gs_ne (by decide) f_10_ws46
                            clear f_10_ws46
                            have f_10_ws51 : ws51[10]? = some ((q23, Sum.inl (cF, 4096, Sum.inr (Sum.inr (Sum.inr (Sum.inr (fun _ => none)))))) : Nat × va_E) := by rw [e_ws51]; exact gs_app f_10_ws49
                            clear f_10_ws49
                            have f_10_ws54 : ws54[10]? = some ((q23, Sum.inl (cF, 4096, Sum.inr (Sum.inr (Sum.inr (Sum.inr (fun _ => none)))))) : Nat × va_E) := by rw [e_ws54]; exact gs_ne (by decide) f_10_ws51
                            clear f_10_ws51
                            have f_10_ws56 : ws56[10]? = some ((q23, Sum.inl (cF, 4096, Sum.inr (Sum.inr (Sum.inr (Sum.inr (fun _ => none)))))) : Nat × va_E) := by rw [e_ws56]; exact gs_app f_10_ws54
                            clear f_10_ws54
                            have f_10_ws59 : ws59[10]? = some ((q23, Sum.inl (cF, 4096, Sum.inr (Sum.inr (Sum.inr (Sum.inr (fun _ => none)))))) : Nat × va_E) := by rw [e_ws59]; exact gs_ne (by decide) f_10_ws56
                            clear f_10_ws56
                            have f_10_ws61 : ws61[10]? = some ((q23, Sum.inl (cF, 4096, Sum.inr (Sum.inr (Sum.inr (Sum.inr (fun _ => none)))))) : Nat × va_E) := by rw [e_ws61]; exact gs_app f_10_ws59
                            clear f_10_ws59
                            have f_10_ws64 : ws64[10]? = some ((q23, Sum.inl (cF, 4096, Sum.inr (Sum.inr (Sum.inr (Sum.inr (fun _ => none)))))) : Nat × va_E) := by rw [e_ws64]; exact gs_ne (by decide) f_10_ws61
                            clear f_10_ws61
                            have f_10_ws66 : ws66[10]? = some ((q23, Sum.inl (cF, 4096, Sum.inr (Sum.inr (Sum.inr (Sum.inr (fun _ => none)))))) : Nat × va_E) := by rw [e_ws66]; exact gs_app f_10_ws64
                            clear f_10_ws64
                            have f_10_ws67 : ws67[10]? = some ((q23, Sum.inl (cF, 4096, Sum.inr (Sum.inr (Sum.inr (Sum.inr (fun _ => none)))))) : Nat × va_E) := by rw [e_ws67]; exact gs_ne (by decide) f_10_ws66
                            clear f_10_ws66
                            have f_10_ws69 : ws69[10]? = some ((q23, Sum.inl (cF, 4096, Sum.inr (Sum.inr (Sum.inr (Sum.inr (fun _ => none)))))) : Nat × va_E) := by rw [e_ws69]; exact gs_app f_10_ws67
                            clear f_10_ws67
                            have f_10_ws71 : ws71[10]? = some ((q23, Sum.inl (cF, 4096, Sum.inr (Sum.inr (Sum.inr (Sum.inr (fun _ => none)))))) : Nat × va_E) := e_ws71.at (by first | decide | (simp; done) | (simp; omega)) f_10_ws69
                            clear f_10_ws69
                            have f_10_ws76 : ws76[10]? = some ((q23, Sum.inl (cF, 4096, Sum.inr (Sum.inr (Sum.inr (Sum.inr (fun _ => none)))))) : Nat × va_E) := by rw [e_ws76]; exact gs_ne (by decide) f_10_ws71
                            clear f_10_ws71
                            have f_10_ws78 : ws78[10]? = some ((q23, Sum.inl (cF, 4096, Sum.inr (Sum.inr (Sum.inr (Sum.inr (fun _ => none)))))) : Nat × va_E) := by rw [e_ws78]; exact gs_app f_10_ws76
                            clear f_10_ws76
                            have f_10_ws80 : ws80[10]? = some ((q23, Sum.inl (cF, 4096, Sum.inr (Sum.inr (Sum.inr (Sum.inr (fun _ => none)))))) : Nat × va_E) := e_ws80.at (by first | decide | (simp; done) | (simp; omega)) f_10_ws78
                            clear f_10_ws78
                            have f_10_ws85 : ws85[10]? = some ((q23, Sum.inl (cF, 4096, Sum.inr (Sum.inr (Sum.inr (Sum.inr (fun _ => none)))))) : Nat × va_E) := by rw [e_ws85]; exact gs_ne (by decide) f_10_ws80
                            clear f_10_ws80
                            have f_10_ws87 : ws87[10]? = some ((q23, Sum.inl (cF, 4096, Sum.inr (Sum.inr (Sum.inr (Sum.inr (fun _ => none)))))) : Nat × va_E) := by rw [e_ws87]; exact gs_app f_10_ws85
                            clear f_10_ws85
                            have f_10_ws89 : ws89[10]? = some ((q23, Sum.inl (cF, 4096, Sum.inr (Sum.inr (Sum.inr (Sum.inr (fun _ => none)))))) : Nat × va_E) := e_ws89.at (by first | decide | (simp; done) | (simp; omega)) f_10_ws87
                            clear f_10_ws87
                            have f_10_ws94 : ws94[10]? = some ((q23, Sum.inl (cF, 4096, Sum.inr (Sum.inr (Sum.inr (Sum.inr (fun _ => none)))))) : Nat × va_E) := by rw [e_ws94]; exact gs_ne (by decide) f_10_ws89
                            clear f_10_ws89
                            have f_10_ws96 : ws96[10]? = some ((q23, Sum.inl (cF, 4096, Sum.inr (Sum.inr (Sum.inr (Sum.inr (fun _ => none)))))) : Nat × va_E) := by rw [e_ws96]; exact gs_app f_10_ws94
                            clear f_10_ws94
                            have f_10_ws98 : ws98[10]? = some ((q23, Sum.inl (cF, 4096, Sum.inr (Sum.inr (Sum.inr (Sum.inr (fun _ => none)))))) : Nat × va_E) := e_ws98.at (by first | decide | (simp; done) | (simp; omega)) f_10_ws96
                            clear f_10_ws96
                            have f_10_ws103 : ws103[10]? = some ((q23, Sum.inl (cF, 4096, Sum.inr (Sum.inr (Sum.inr (Sum.inr (fun _ => none)))))) : Nat × va_E) := by rw [e_ws103]; exact gs_ne (by decide) f_10_ws98
                            clear f_10_ws98
                            have f_10_ws104 : ws104[10]? = some ((q23, Sum.inl (cF, 4096, Sum.inr (Sum.inr (Sum.inr (Sum.inr (fun _ => none)))))) : Nat × va_E) := by rw [e_ws104]; exact gs_ne (by decide) f_10_ws103
                            clear f_10_ws103
                            have f_10_ws105 : ws105[10]? = some ((q23, Sum.inl (cF, 4096, Sum.inr (Sum.inr (Sum.inr (Sum.inr (fun _ => none)))))) : Nat × va_E) := by rw [e_ws105]; exact gs_ne (by decide) f_10_ws104
                            clear f_10_ws104
                            have f_10_ws106 : ws106[10]? = some ((q23, Sum.inl (cF, 4096, Sum.inr (Sum.inr (Sum.inr (Sum.inr (fun _ => none)))))) : Nat × va_E) := by rw [e_ws106]; exact gs_ne (by decide) f_10_ws105
                            clear f_10_ws105
                            have f_11_ws25 : ws25[11]? = some ((q24, Sum.inl (cZ, 4096, Sum.inl (fun _ => 0))) : Nat × va_E) := by rw [e_ws25]; exact gs_ne (by decide) f_11_ws21
                            clear f_11_ws21
                            have f_11_ws27 : ws27[11]? = some ((q24, Sum.inl (cZ, 4096, Sum.inl (fun _ => 0))) : Nat × va_E) := by rw [e_ws27]; exact gs_app f_11_ws25
                            clear f_11_ws25
                            have f_11_ws29 : ws29[11]? = some ((q24, Sum.inl (cZ, 4096, Sum.inl (fun _ => 0))) : Nat × va_E) := e_ws29.at (by first | decide | (simp; done) | (simp; omega)) f_11_ws27
                            clear f_11_ws27
                            have f_11_ws33 : ws33[11]? = some ((q24, Sum.inl (cZ, 4096, Sum.inl (fun _ => 0))) : Nat × va_E) := by rw [e_ws33]; exact gs_ne (by decide) f_11_ws29
                            clear f_11_ws29
                            have f_11_ws35 : ws35[11]? = some ((q24, Sum.inl (cZ, 4096, Sum.inl (fun _ => 0))) : Nat × va_E) := by rw [e_ws35]; exact gs_app f_11_ws33
                            clear f_11_ws33
                            have f_11_ws37 : ws37[11]? = some ((q24, Sum.inl (cZ, 4096, Sum.inl (fun _ => 0))) : Nat × va_E) := e_ws37.at (by first | decide | (simp; done) | (simp; omega)) f_11_ws35
                            clear f_11_ws35
                            have f_11_ws41 : ws41[11]? = some ((q24, Sum.inl (cZ, 4096, Sum.inl (fun _ => 0))) : Nat × va_E) := by rw [e_ws41]; exact gs_ne (by decide) f_11_ws37
                            clear f_11_ws37
                            have f_11_ws43 : ws43[11]? = some ((q24, Sum.inl (cZ, 4096, Sum.inl (fun _ => 0))) : Nat × va_E) := by rw [e_ws43]; exact gs_app f_11_ws41
                            clear f_11_ws41
                            have f_11_ws44 : ws44[11]? = some ((q24, Sum.inl (cZ, 4096, Sum.inl (fun _ => 0))) : Nat × va_E) := by rw [e_ws44]; exact gs_ne (by decide) f_11_ws43
                            clear f_11_ws43
                            have f_11_ws46 : ws46[11]? = some ((q24, Sum.inl (cZ, 4096, Sum.inl (fun _ => 0))) : Nat × va_E) := by rw [e_ws46]; exact gs_app f_11_ws44
                            clear f_11_ws44
                            have f_11_ws49 : ws49[11]? = some ((q24, Sum.inl (cZ, 4096, Sum.inl (fun _ => 0))) : Nat × va_E) := by rw [e_ws49]; exact gs_ne (by decide) f_11_ws46
                            clear f_11_ws46
                            have f_11_ws51 : ws51[11]? = some ((q24, Sum.inl (cZ, 4096, Sum.inl (fun _ => 0))) : Nat × va_E) := by rw [e_ws51]; exact gs_app f_11_ws49
                            clear f_11_ws49
                            have f_11_ws54 : ws54[11]? = some ((q24, Sum.inl (cZ, 4096, Sum.inl (fun _ => 0))) : Nat × va_E) := by rw [e_ws54]; exact gs_ne (by decide) f_11_ws51
                            clear f_11_ws51
                            have f_11_ws56 : ws56[11]? = some ((q24, Sum.inl (cZ, 4096, Sum.inl (fun _ => 0))) : Nat × va_E) := by rw [e_ws56]; exact gs_app f_11_ws54
                            clear f_11_ws54
                            have f_11_ws59 : ws59[11]? = some ((q24, Sum.inl (cZ, 4096, Sum.inl (fun _ => 0))) : Nat × va_E) := by rw [e_ws59]; exact gs_ne (by decide) f_11_ws56
                            clear f_11_ws56
                            have f_11_ws61 : ws61[11]? = some ((q24, Sum.inl (cZ, 4096, Sum.inl (fun _ => 0))) : Nat × va_E) := by rw [e_ws61]; exact gs_app f_11_ws59
                            clear f_11_ws59
                            have f_11_ws64 : ws64[11]? = some ((q24, Sum.inl (cZ, 4096, Sum.inl (fun _ => 0))) : Nat × va_E) := by rw [e_ws64]; exact gs_ne (by decide) f_11_ws61
                            clear f_11_ws61
                            have f_11_ws66 : ws66[11]? = some ((q24, Sum.inl (cZ, 4096, Sum.inl (fun _ => 0))) : Nat × va_E) := by rw [e_ws66]; exact gs_app f_11_ws64
                            clear f_11_ws64
                            have f_11_ws67 : ws67[11]? = some ((q24, Sum.inl (cZ, 4096, Sum.inl (fun _ => 0))) : Nat × va_E) := by rw [e_ws67]; exact gs_ne (by decide) f_11_ws66
                            clear f_11_ws66
                            have f_11_ws69 : ws69[11]? = some ((q24, Sum.inl (cZ, 4096, Sum.inl (fun _ => 0))) : Nat × va_E) := by rw [e_ws69]; exact gs_app f_11_ws67
                            clear f_11_ws67
                            have f_11_ws71 : ws71[11]? = some ((q24, Sum.inl (cZ, 4096, Sum.inl (fun _ => 0))) : Nat × va_E) := e_ws71.at (by first | decide | (simp; done) | (simp; omega)) f_11_ws69
                            clear f_11_ws69
                            have f_11_ws76 : ws76[11]? = some ((q24, Sum.inl (cZ, 4096, Sum.inl (fun _ => 0))) : Nat × va_E) := by rw [e_ws76]; exact gs_ne (by decide) f_11_ws71
                            clear f_11_ws71
                            have f_11_ws78 : ws78[11]? = some ((q24, Sum.inl (cZ, 4096, Sum.inl (fun _ => 0))) : Nat × va_E) := by rw [e_ws78]; exact gs_app f_11_ws76
                            clear f_11_ws76
                            have f_11_ws80 : ws80[11]? = some ((q24, Sum.inl (cZ, 4096, Sum.inl (fun _ => 0))) : Nat × va_E) := e_ws80.at (by first | decide | (simp; done) | (simp; omega)) f_11_ws78
                            clear f_11_ws78
                            have f_11_ws85 : ws85[11]? = some ((q24, Sum.inl (cZ, 4096, Sum.inl (fun _ => 0))) : Nat × va_E) := by rw [e_ws85]; exact gs_ne (by decide) f_11_ws80
                            clear f_11_ws80
                            have f_11_ws87 : ws87[11]? = some ((q24, Sum.inl (cZ, 4096, Sum.inl (fun _ => 0))) : Nat × va_E) := by rw [e_ws87]; exact gs_app f_11_ws85
                            clear f_11_ws85
                            have f_11_ws89 : ws89[11]? = some ((q24, Sum.inl (cZ, 4096, Sum.inl (fun _ => 0))) : Nat × va_E) := e_ws89.at (by first | decide | (simp; done) | (simp; omega)) f_11_ws87
                            clear f_11_ws87
                            have f_11_ws94 : ws94[11]? = some ((q24, Sum.inl (cZ, 4096, Sum.inl (fun _ => 0))) : Nat × va_E) := by rw [e_ws94]; exact gs_ne (by decide) f_11_ws89
                            clear f_11_ws89
                            have f_11_ws96 : ws96[11]? = some ((q24, Sum.inl (cZ, 4096, Sum.inl (fun _ => 0))) : Nat × va_E) := by rw [e_ws96]; exact gs_app f_11_ws94
                            clear f_11_ws94
                            have f_11_ws98 : ws98[11]? = some ((q24, Sum.inl (cZ, 4096, Sum.inl (fun _ => 0))) : Nat × va_E) := e_ws98.at (by first | decide | (simp; done) | (simp; omega)) f_11_ws96
                            clear f_11_ws96
                            have f_11_ws103 : ws103[11]? = some ((q24, Sum.inl (cZ, 4096, Sum.inl (fun _ => 0))) : Nat × va_E) := by rw [e_ws103]; exact gs_ne (by decide) f_11_ws98
                            clear f_11_ws98
                            have f_11_ws104 : ws104[11]? = some ((q24, Sum.inl (cZ, 4096, Sum.inl (fun _ => 0))) : Nat × va_E) := by rw [e_ws104]; exact gs_ne (by decide) f_11_ws103
                            clear f_11_ws103
                            have f_11_ws105 : ws105[11]? = some ((q24, Sum.inl (cZ, 4096, Sum.inl (fun _ => 0))) : Nat × va_E) := by rw [e_ws105]; exact gs_ne (by decide) f_11_ws104
                            clear f_11_ws104
                            have f_11_ws106 : ws106[11]? = some ((q24, Sum.inl (cZ, 4096, Sum.inl (fun _ => 0))) : Nat × va_E) := by rw [e_ws106]; exact gs_ne (by decide) f_11_ws105
                            clear f_11_ws105
                            have f_12_ws33 : ws33[12]? = some ((q26, Sum.inr (4, [Value.ref q30, Value.ref q31, Value.ref q32, Value.null, Value.int 0, Value.int 0])) : Nat × va_E) := by rw [e_ws33]; exact gs_ne (by decide) f_12_ws29
                            clear f_12_ws29
                            have f_12_ws35 : ws35[12]? = some ((q26, Sum.inr (4, [Value.ref q30, Value.ref q31, Value.ref q32, Value.null, Value.int 0, Value.int 0])) : Nat × va_E) := by rw [e_ws35]; exact gs_app f_12_ws33
                            clear f_12_ws33
                            have f_12_ws37 : ws37[12]? = some ((q26, Sum.inr (4, [Value.ref q30, Value.ref q31, Value.ref q32, Value.null, Value.int 0, Value.int 0])) : Nat × va_E) := e_ws37.at (by first | decide | (simp; done) | (simp; omega)) f_12_ws35
                            clear f_12_ws35
                            have f_12_ws41 : ws41[12]? = some ((q26, Sum.inr (4, [Value.ref q30, Value.ref q31, Value.ref q32, Value.null, Value.int 0, Value.int 0])) : Nat × va_E) := by rw [e_ws41]; exact gs_ne (by decide) f_12_ws37
                            clear f_12_ws37
                            have f_12_ws43 : ws43[12]? = some ((q26, Sum.inr (4, [Value.ref q30, Value.ref q31, Value.ref q32, Value.null, Value.int 0, Value.int 0])) : Nat × va_E) := by rw [e_ws43]; exact gs_app f_12_ws41
                            clear f_12_ws41
                            have f_12_ws44 : ws44[12]? = some ((q26, Sum.inr (4, [Value.ref q30, Value.ref q31, Value.ref q32, Value.null, Value.int 0, Value.int 0])) : Nat × va_E) := by rw [e_ws44]; exact gs_ne (by decide) f_12_ws43
                            clear f_12_ws43
                            have f_12_ws46 : ws46[12]? = some ((q26, Sum.inr (4, [Value.ref q30, Value.ref q31, Value.ref q32, Value.null, Value.int 0, Value.int 0])) : Nat × va_E) := by rw [e_ws46]; exact gs_app f_12_ws44
                            clear f_12_ws44
                            have f_12_ws49 : ws49[12]? = some ((q26, Sum.inr (4, [Value.ref q30, Value.ref q31, Value.ref q32, Value.null, Value.int 0, Value.int 0])) : Nat × va_E) := by rw [e_ws49]; exact gs_ne (by decide) f_12_ws46
                            clear f_12_ws46
                            have f_12_ws51 : ws51[12]? = some ((q26, Sum.inr (4, [Value.ref q30, Value.ref q31, Value.ref q32, Value.null, Value.int 0, Value.int 0])) : Nat × va_E) := by rw [e_ws51]; exact gs_app f_12_ws49
                            clear f_12_ws49
                            have f_12_ws54 : ws54[12]? = some ((q26, Sum.inr (4, [Value.ref q30, Value.ref q31, Value.ref q32, Value.null, Value.int 0, Value.int 0])) : Nat × va_E) := by rw [e_ws54]; exact gs_ne (by decide) f_12_ws51
                            clear f_12_ws51
                            have f_12_ws56 : ws56[12]? = some ((q26, Sum.inr (4, [Value.ref q30, Value.ref q31, Value.ref q32, Value.null, Value.int 0, Value.int 0])) : Nat × va_E) := by rw [e_ws56]; exact gs_app f_12_ws54
                            clear f_12_ws54
                            have f_12_ws59 : ws59[12]? = some ((q26, Sum.inr (4, [Value.ref q30, Value.ref q31, Value.ref q32, Value.null, Value.int 0, Value.int 0])) : Nat × va_E) := by rw [e_ws59]; exact gs_ne (by decide) f_12_ws56
                            clear f_12_ws56
                            have f_12_ws61 : ws61[12]? = some ((q26, Sum.inr (4, [Value.ref q30, Value.ref q31, Value.ref q32, Value.null, Value.int 0, Value.int 0])) : Nat × va_E) := by rw [e_ws61]; exact gs_app f_12_ws59
                            clear f_12_ws59
                            have f_12_ws64 : ws64[12]? = some ((q26, Sum.inr (4, [Value.ref q30, Value.ref q31, Value.ref q32, Value.null, Value.int 0, Value.int 0])) : Nat × va_E) := by rw [e_ws64]; exact gs_ne (by decide) f_12_ws61
                            clear f_12_ws61
                            have f_12_ws66 : ws66[12]? = some ((q26, Sum.inr (4, [Value.ref q30, Value.ref q31, Value.ref q32, Value.null, Value.int 0, Value.int 0])) : Nat × va_E) := by rw [e_ws66]; exact gs_app f_12_ws64
                            clear f_12_ws64
                            have f_12_ws67 : ws67[12]? = some ((q26, Sum.inr (4, [Value.ref q30, Value.ref q31, Value.ref q32, Value.null, Value.int 0, Value.int 0])) : Nat × va_E) := by rw [e_ws67]; exact gs_ne (by decide) f_12_ws66
                            clear f_12_ws66
                            have f_12_ws69 : ws69[12]? = some ((q26, Sum.inr (4, [Value.ref q30, Value.ref q31, Value.ref q32, Value.null, Value.int 0, Value.int 0])) : Nat × va_E) := by rw [e_ws69]; exact gs_app f_12_ws67
                            clear f_12_ws67
                            have f_12_ws71 : ws71[12]? = some ((q26, Sum.inr (4, [Value.ref q30, Value.ref q31, Value.ref q32, Value.null, Value.int 0, Value.int 0])) : Nat × va_E) := e_ws71.at (by first | decide | (simp; done) | (simp; omega)) f_12_ws69
                            clear f_12_ws69
                            have f_12_ws76 : ws76[12]? = some ((q26, Sum.inr (4, [Value.ref q30, Value.ref q31, Value.ref q32, Value.null, Value.int 0, Value.int 0])) : Nat × va_E) := by rw [e_ws76]; exact gs_ne (by decide) f_12_ws71
                            clear f_12_ws71
                            have f_12_ws78 : ws78[12]? = some ((q26, Sum.inr (4, [Value.ref q30, Value.ref q31, Value.ref q32, Value.null, Value.int 0, Value.int 0])) : Nat × va_E) := by rw [e_ws78]; exact gs_app f_12_ws76
                            clear f_12_ws76
                            have f_12_ws80 : ws80[12]? = some ((q26, Sum.inr (4, [Value.ref q30, Value.ref q31, Value.ref q32, Value.null, Value.int 0, Value.int 0])) : Nat × va_E) := e_ws80.at (by first | decide | (simp; done) | (simp; omega)) f_12_ws78
                            clear f_12_ws78
                            have f_12_ws85 : ws85[12]? = some ((q26, Sum.inr (4, [Value.ref q30, Value.ref q31, Value.ref q32, Value.null, Value.int 0, Value.int 0])) : Nat × va_E) := by rw [e_ws85]; exact gs_ne (by decide) f_12_ws80
                            clear f_12_ws80
                            have f_12_ws87 : ws87[12]? = some ((q26, Sum.inr (4, [Value.ref q30, Value.ref q31, Value.ref q32, Value.null, Value.int 0, Value.int 0])) : Nat × va_E) := by rw [e_ws87]; exact gs_app f_12_ws85
                            clear f_12_ws85
                            have f_12_ws89 : ws89[12]? = some ((q26, Sum.inr (4, [Value.ref q30, Value.ref q31, Value.ref q32, Value.null, Value.int 0, Value.int 0])) : Nat × va_E) := e_ws89.at (by first | decide | (simp; done) | (simp; omega)) f_12_ws87
                            clear f_12_ws87
                            have f_12_ws94 : ws94[12]? = some ((q26, Sum.inr (4, [Value.ref q30, Value.ref q31, Value.ref q32, Value.null, Value.int 0, Value.int 0])) : Nat × va_E) := by rw [e_ws94]; exact gs_ne (by decide) f_12_ws89
                            clear f_12_ws89
                            have f_12_ws96 : ws96[12]? = some ((q26, Sum.inr (4, [Value.ref q30, Value.ref q31, Value.ref q32, Value.null, Value.int 0, Value.int 0])) : Nat × va_E) := by rw [e_ws96]; exact gs_app f_12_ws94
                            clear f_12_ws94
                            have f_12_ws98 : ws98[12]? = some ((q26, Sum.inr (4, [Value.ref q30, Value.ref q31, Value.ref q32, Value.null, Value.int 0, Value.int 0])) : Nat × va_E) := e_ws98.at (by first | decide | (simp; done) | (simp; omega)) f_12_ws96
                            clear f_12_ws96
                            have f_12_ws103 : ws103[12]? = some ((q26, Sum.inr (4, [Value.ref q30, Value.ref q31, Value.ref q32, Value.null, Value.int 0, Value.int 0])) : Nat × va_E) := by rw [e_ws103]; exact gs_ne (by decide) f_12_ws98
                            clear f_12_ws98
                            have f_12_ws104 : ws104[12]? = some ((q26, Sum.inr (4, [Value.ref q30, Value.ref q31, Value.ref q32, Value.null, Value.int 0, Value.int 0])) : Nat × va_E) := by rw [e_ws104]; exact gs_ne (by decide) f_12_ws103
                            clear f_12_ws103
                            have f_12_ws105 : ws105[12]? = some ((q26, Sum.inr (4, [Value.ref q30, Value.ref q31, Value.ref q32, Value.null, Value.int 0, Value.int 0])) : Nat × va_E) := by rw [e_ws105]; exact gs_ne (by decide) f_12_ws104
                            clear f_12_ws104
                            have f_12_ws106 : ws106[12]? = some ((q26, Sum.inr (4, [Value.ref q30, Value.ref q31, Value.ref q32, Value.null, Value.int 0, Value.int 0])) : Nat × va_E) := by rw [e_ws106]; exact gs_ne (by decide) f_12_ws105
                            clear f_12_ws105
                            have f_13_ws33 : ws33[13]? = some ((q30, Sum.inl (cF, 4096, Sum.inr (Sum.inr (Sum.inr (Sum.inr (fun _ => none)))))) : Nat × va_E) := by rw [e_ws33]; exact gs_ne (by decide) f_13_ws29
                            clear f_13_ws29
                            have f_13_ws35 : ws35[13]? = some ((q30, Sum.inl (cF, 4096, Sum.inr (Sum.inr (Sum.inr (Sum.inr (fun _ => none)))))) : Nat × va_E) := by rw [e_ws35]; exact gs_app f_13_ws33
                            clear f_13_ws33
                            have f_13_ws37 : ws37[13]? = some ((q30, Sum.inl (cF, 4096, Sum.inr (Sum.inr (Sum.inr (Sum.inr (fun _ => none)))))) : Nat × va_E) := e_ws37.at (by first | decide | (simp; done) | (simp; omega)) f_13_ws35
                            clear f_13_ws35
                            have f_13_ws41 : ws41[13]? = some ((q30, Sum.inl (cF, 4096, Sum.inr (Sum.inr (Sum.inr (Sum.inr (fun _ => none)))))) : Nat × va_E) := by rw [e_ws41]; exact gs_ne (by decide) f_13_ws37
                            clear f_13_ws37
                            have f_13_ws43 : ws43[13]? = some ((q30, Sum.inl (cF, 4096, Sum.inr (Sum.inr (Sum.inr (Sum.inr (fun _ => none)))))) : Nat × va_E) := by rw [e_ws43]; exact gs_app f_13_ws41
                            clear f_13_ws41
                            have f_13_ws44 : ws44[13]? = some ((q30, Sum.inl (cF, 4096, Sum.inr (Sum.inr (Sum.inr (Sum.inr (fun _ => none)))))) : Nat × va_E) := by rw [e_ws44]; exact gs_ne (by decide) f_13_ws43
                            clear f_13_ws43
                            have f_13_ws46 : ws46[13]? = some ((q30, Sum.inl (cF, 4096, Sum.inr (Sum.inr (Sum.inr (Sum.inr (fun _ => none)))))) : Nat × va_E) := by rw [e_ws46]; exact gs_app f_13_ws44
                            clear f_13_ws44
                            have f_13_ws49 : ws49[13]? = some ((q30, Sum.inl (cF, 4096, Sum.inr (Sum.inr (Sum.inr (Sum.inr (fun _ => none)))))) : Nat × va_E) := by rw [e_ws49]; exact gs_ne (by decide) f_13_ws46
                            clear f_13_ws46
                            have f_13_ws51 : ws51[13]? = some ((q30, Sum.inl (cF, 4096, Sum.inr (Sum.inr (Sum.inr (Sum.inr (fun _ => none)))))) : Nat × va_E) := by rw [e_ws51]; exact gs_app f_13_ws49
                            clear f_13_ws49
                            have f_13_ws54 : ws54[13]? = some ((q30, Sum.inl (cF, 4096, Sum.inr (Sum.inr (Sum.inr (Sum.inr (fun _ => none)))))) : Nat × va_E) := by rw [e_ws54]; exact gs_ne (by decide) f_13_ws51
                            clear f_13_ws51
                            have f_13_ws56 : ws56[13]? = some ((q30, Sum.inl (cF, 4096, Sum.inr (Sum.inr (Sum.inr (Sum.inr (fun _ => none)))))) : Nat × va_E) := by rw [e_ws56]; exact gs_app f_13_ws54
                            clear f_13_ws54
                            have f_13_ws59 : ws59[13]? = some ((q30, Sum.inl (cF, 4096, Sum.inr (Sum.inr (Sum.inr (Sum.inr (fun _ => none)))))) : Nat × va_E) := by rw [e_ws59]; exact gs_ne (by decide) f_13_ws56
                            clear f_13_ws56
                            have f_13_ws61 : ws61[13]? = some ((q30, Sum.inl (cF, 4096, Sum.inr (Sum.inr (Sum.inr (Sum.inr (fun _ => none)))))) : Nat × va_E) := by rw [e_ws61]; exact gs_app f_13_ws59
                            clear f_13_ws59
                            have f_13_ws64 : ws64[13]? = some ((q30, Sum.inl (cF, 4096, Sum.inr (Sum.inr (Sum.inr (Sum.inr (fun _ => none)))))) : Nat × va_E) := by rw [e_ws64]; exact gs_ne (by decide) f_13_ws61
                            clear f_13_ws61
                            have f_13_ws66 : ws66[13]? = some ((q30, Sum.inl (cF, 4096, Sum.inr (Sum.inr (Sum.inr (Sum.inr (fun _ => none)))))) : Nat × va_E) := by rw [e_ws66]; exact gs_app f_13_ws64
                            clear f_13_ws64
                            have f_13_ws67 : ws67[13]? = some ((q30, Sum.inl (cF, 4096, Sum.inr (Sum.inr (Sum.inr (Sum.inr (fun _ => none)))))) : Nat × va_E) := by rw [e_ws67]; exact gs_ne (by decide) f_13_ws66
                            clear f_13_ws66
                            have f_13_ws69 : ws69[13]? = some ((q30, Sum.inl (cF, 4096, Sum.inr (Sum.inr (Sum.inr (Sum.inr (fun _ => none)))))) : Nat × va_E) := by rw [e_ws69]; exact gs_app f_13_ws67
                            clear f_13_ws67
                            have f_13_ws71 : ws71[13]? = some ((q30, Sum.inl (cF, 4096, Sum.inr (Sum.inr (Sum.inr (Sum.inr (fun _ => none)))))) : Nat × va_E) := e_ws71.at (by first | decide | (simp; done) | (simp; omega)) f_13_ws69
                            clear f_13_ws69
                            have f_13_ws76 : ws76[13]? = some ((q30, Sum.inl (cF, 4096, Sum.inr (Sum.inr (Sum.inr (Sum.inr (fun _ => none)))))) : Nat × va_E) := by rw [e_ws76]; exact gs_ne (by decide) f_13_ws71
                            clear f_13_ws71
                            have f_13_ws78 : ws78[13]? = some ((q30, Sum.inl (cF, 4096, Sum.inr (Sum.inr (Sum.inr (Sum.inr (fun _ => none)))))) : Nat × va_E) := by rw [e_ws78]; exact gs_app f_13_ws76
                            clear f_13_ws76
                            have f_13_ws80 : ws80[13]? = some ((q30, Sum.inl (cF, 4096, Sum.inr (Sum.inr (Sum.inr (Sum.inr (fun _ => none)))))) : Nat × va_E) := e_ws80.at (by first | decide | (simp; done) | (simp; omega)) f_13_ws78
                            clear f_13_ws78
                            have f_13_ws85 : ws85[13]? = some ((q30, Sum.inl (cF, 4096, Sum.inr (Sum.inr (Sum.inr (Sum.inr (fun _ => none)))))) : Nat × va_E) := by rw [e_ws85]; exact gs_ne (by decide) f_13_ws80
                            clear f_13_ws80
                            have f_13_ws87 : ws87[13]? = some ((q30, Sum.inl (cF, 4096, Sum.inr (Sum.inr (Sum.inr (Sum.inr (fun _ => none)))))) : Nat × va_E) := by rw [e_ws87]; exact gs_app f_13_ws85
                            clear f_13_ws85
                            have f_13_ws89 : ws89[13]? = some ((q30, Sum.inl (cF, 4096, Sum.inr (Sum.inr (Sum.inr (Sum.inr (fun _ => none)))))) : Nat × va_E) := e_ws89.at (by first | decide | (simp; done) | (simp; omega)) f_13_ws87
                            clear f_13_ws87
                            have f_13_ws94 : ws94[13]? = some ((q30, Sum.inl (cF, 4096, Sum.inr (Sum.inr (Sum.inr (Sum.inr (fun _ => none)))))) : Nat × va_E) := by rw [e_ws94]; exact gs_ne (by decide) f_13_ws89
                            clear f_13_ws89
                            have f_13_ws96 : ws96[13]? = some ((q30, Sum.inl (cF, 4096, Sum.inr (Sum.inr (Sum.inr (Sum.inr (fun _ => none)))))) : Nat × va_E) := by rw [e_ws96]; exact gs_app f_13_ws94
                            clear f_13_ws94
                            have f_13_ws98 : ws98[13]? = some ((q30, Sum.inl (cF, 4096, Sum.inr (Sum.inr (Sum.inr (Sum.inr (fun _ => none)))))) : Nat × va_E) := e_ws98.at (by first | decide | (simp; done) | (simp; omega)) f_13_ws96
                            clear f_13_ws96
                            have f_13_ws103 : ws103[13]? = some ((q30, Sum.inl (cF, 4096, Sum.inr (Sum.inr (Sum.inr (Sum.inr (fun _ => none)))))) : Nat × va_E) := by rw [e_ws103]; exact gs_ne (by decide) f_13_ws98
                            clear f_13_ws98
                            have f_13_ws104 : ws104[13]? = some ((q30, Sum.inl (cF, 4096, Sum.inr (Sum.inr (Sum.inr (Sum.inr (fun _ => none)))))) : Nat × va_E) := by rw [e_ws104]; exact gs_ne (by decide) f_13_ws103
                            clear f_13_ws103
                            have f_13_ws105 : ws105[13]? = some ((q30, Sum.inl (cF, 4096, Sum.inr (Sum.inr (Sum.inr (Sum.inr (fun _ => none)))))) : Nat × va_E) := by rw [e_ws105]; exact gs_ne (by decide) f_13_ws104
                            clear f_13_ws104
                            have f_13_ws106 : ws106[13]? = some ((q30, Sum.inl (cF, 4096, Sum.inr (Sum.inr (Sum.inr (Sum.inr (fun _ => none)))))) : Nat × va_E) := by rw [e_ws106]; exact gs_ne (by decide) f_13_ws105
                            clear f_13_ws105
                            have f_14_ws33 : ws33[14]? = some ((q31, Sum.inl (cF, 4096, Sum.inr (Sum.inr (Sum.inr (Sum.inr (fun _ => none)))))) : Nat × va_E) := by rw [e_ws33]; exact gs_ne (by decide) f_14_ws29
                            clear f_14_ws29
                            have f_14_ws35 : ws35[14]? = some ((q31, Sum.inl (cF, 4096, Sum.inr (Sum.inr (Sum.inr (Sum.inr (fun _ => none)))))) : Nat × va_E) := by rw [e_ws35]; exact gs_app f_14_ws33
                            clear f_14_ws33
                            have f_14_ws37 : ws37[14]? = some ((q31, Sum.inl (cF, 4096, Sum.inr (Sum.inr (Sum.inr (Sum.inr (fun _ => none)))))) : Nat × va_E) := e_ws37.at (by first | decide | (simp; done) | (simp; omega)) f_14_ws35
                            clear f_14_ws35
                            have f_14_ws41 : ws41[14]? = some ((q31, Sum.inl (cF, 4096, Sum.inr (Sum.inr (Sum.inr (Sum.inr (fun _ => none)))))) : Nat × va_E) := by rw [e_ws41]; exact gs_ne (by decide) f_14_ws37
                            clear f_14_ws37
                            have f_14_ws43 : ws43[14]? = some ((q31, Sum.inl (cF, 4096, Sum.inr (Sum.inr (Sum.inr (Sum.inr (fun _ => none)))))) : Nat × va_E) := by rw [e_ws43]; exact gs_app f_14_ws41
                            clear f_14_ws41
                            have f_14_ws44 : ws44[14]? = some ((q31, Sum.inl (cF, 4096, Sum.inr (Sum.inr (Sum.inr (Sum.inr (fun _ => none)))))) : Nat × va_E) := by rw [e_ws44]; exact gs_ne (by decide) f_14_ws43
                            clear f_14_ws43
                            have f_14_ws46 : ws46[14]? = some ((q31, Sum.inl (cF, 4096, Sum.inr (Sum.inr (Sum.inr (Sum.inr (fun _ => none)))))) : Nat × va_E) := by rw [e_ws46]; exact gs_app f_14_ws44
                            clear f_14_ws44
                            have f_14_ws49 : ws49[14]? = some ((q31, Sum.inl (cF, 4096, Sum.inr (Sum.inr (Sum.inr (Sum.inr (fun _ => none)))))) : Nat × va_E) := by rw [e_ws49]; exact gs_ne (by decide) f_14_ws46
                            clear f_14_ws46
                            have f_14_ws51 : ws51[14]? = some ((q31, Sum.inl (cF, 4096, Sum.inr (Sum.inr (Sum.inr (Sum.inr (fun _ => none)))))) : Nat × va_E) := by rw [e_ws51]; exact gs_app f_14_ws49
                            clear f_14_ws49
                            have f_14_ws54 : ws54[14]? = some ((q31, Sum.inl (cF, 4096, Sum.inr (Sum.inr (Sum.inr (Sum.inr (fun _ => none)))))) : Nat × va_E) := by rw [e_ws54]; exact gs_ne (by decide) f_14_ws51
                            clear f_14_ws51
                            have f_14_ws56 : ws56[14]? = some ((q31, Sum.inl (cF, 4096, Sum.inr (Sum.inr (Sum.inr (Sum.inr (fun _ => none)))))) : Nat × va_E) := by rw [e_ws56]; exact gs_app f_14_ws54
                            clear f_14_ws54
                            have f_14_ws59 : ws59[14]? = some ((q31, Sum.inl (cF, 4096, Sum.inr (Sum.inr (Sum.inr (Sum.inr (fun _ => none)))))) : Nat × va_E) := by rw [e_ws59]; exact gs_ne (by decide) f_14_ws56
                            clear f_14_ws56
                            have f_14_ws61 : ws61[14]? = some ((q31, Sum.inl (cF, 4096, Sum.inr (Sum.inr (Sum.inr (Sum.inr (fun _ => none)))))) : Nat × va_E) := by rw [e_ws61]; exact gs_app f_14_ws59
                            clear f_14_ws59
                            have f_14_ws64 : ws64[14]? = some ((q31, Sum.inl (cF, 4096, Sum.inr (Sum.inr (Sum.inr (Sum.inr (fun _ => none)))))) : Nat × va_E) := by rw [e_ws64]; exact gs_ne (by decide) f_14_ws61
                            clear f_14_ws61
                            have f_14_ws66 : ws66[14]? = some ((q31, Sum.inl (cF, 4096, Sum.inr (Sum.inr (Sum.inr (Sum.inr (fun _ => none)))))) : Nat × va_E) := by rw [e_ws66]; exact gs_app f_14_ws64
                            clear f_14_ws64
                            have f_14_ws67 : ws67[14]? = some ((q31, Sum.inl (cF, 4096, Sum.inr (Sum.inr (Sum.inr (Sum.inr (fun _ => none)))))) : Nat × va_E) := by rw [e_ws67]; exact gs_ne (by decide) f_14_ws66
                            clear f_14_ws66
                            have f_14_ws69 : ws69[14]? = some ((q31, Sum.inl (cF, 4096, Sum.inr (Sum.inr (Sum.inr (Sum.inr (fun _ => none)))))) : Nat × va_E) := by rw [e_ws69]; exact gs_app f_14_ws67
                            clear f_14_ws67
                            have f_14_ws71 : ws71[14]? = some ((q31, Sum.inl (cF, 4096, Sum.inr (Sum.inr (Sum.inr (Sum.inr (fun _ => none)))))) : Nat × va_E) := e_ws71.at (by first | decide | (simp; done) | (simp; omega)) f_14_ws69
                            clear f_14_ws69
                            have f_14_ws76 : ws76[14]? = some ((q31, Sum.inl (cF, 4096, Sum.inr (Sum.inr (Sum.inr (Sum.inr (fun _ => none)))))) : Nat × va_E) := by rw [e_ws76]; exact gs_ne (by decide) f_14_ws71
                            clear f_14_ws71
                            have f_14_ws78 : ws78[14]? = some ((q31, Sum.inl (cF, 4096, Sum.inr (Sum.inr (Sum.inr (Sum.inr (fun _ => none)))))) : Nat × va_E) := by rw [e_ws78]; exact gs_app f_14_ws76
                            clear f_14_ws76
                            have f_14_ws80 : ws80[14]? = some ((q31, Sum.inl (cF, 4096, Sum.inr (Sum.inr (Sum.inr (Sum.inr (fun _ => none)))))) : Nat × va_E) := e_ws80.at (by first | decide | (simp; done) | (simp; omega)) f_14_ws78
                            clear f_14_ws78
                            have f_14_ws85 : ws85[14]? = some ((q31, Sum.inl (cF, 4096, Sum.inr (Sum.inr (Sum.inr (Sum.inr (fun _ => none)))))) : Nat × va_E) := by rw [e_ws85]; exact gs_ne (by decide) f_14_ws80
                            clear f_14_ws80
                            have f_14_ws87 : ws87[14]? = some ((q31, Sum.inl (cF, 4096, Sum.inr (Sum.inr (Sum.inr (Sum.inr (fun _ => none)))))) : Nat × va_E) := by rw [e_ws87]; exact gs_app f_14_ws85
                            clear f_14_ws85
                            have f_14_ws89 : ws89[14]? = some ((q31, Sum.inl (cF, 4096, Sum.inr (Sum.inr (Sum.inr (Sum.inr (fun _ => none)))))) : Nat × va_E) := e_ws89.at (by first | decide | (simp; done) | (simp; omega)) f_14_ws87
                            clear f_14_ws87
                            have f_14_ws94 : ws94[14]? = some ((q31, Sum.inl (cF, 4096, Sum.inr (Sum.inr (Sum.inr (Sum.inr (fun _ => none)))))) : Nat × va_E) := by rw [e_ws94]; exact gs_ne (by decide) f_14_ws89
                            clear f_14_ws89
                            have f_14_ws96 : ws96[14]? = some ((q31, Sum.inl (cF, 4096, Sum.inr (Sum.inr (Sum.inr (Sum.inr (fun _ => none)))))) : Nat × va_E) := by rw [e_ws96]; exact gs_app f_14_ws94
                            clear f_14_ws94
                            have f_14_ws98 : ws98[14]? = some ((q31, Sum.inl (cF, 4096, Sum.inr (Sum.inr (Sum.inr (Sum.inr (fun _ => none)))))) : Nat × va_E) := e_ws98.at (by first | decide | (simp; done) | (simp; omega)) f_14_ws96
                            clear f_14_ws96
                            have f_14_ws103 : ws103[14]? = some ((q31, Sum.inl (cF, 4096, Sum.inr (Sum.inr (Sum.inr (Sum.inr (fun _ => none)))))) : Nat × va_E) := by rw [e_ws103]; exact gs_ne (by decide) f_14_ws98
                            clear f_14_ws98
                            have f_14_ws104 : ws104[14]? = some ((q31, Sum.inl (cF, 4096, Sum.inr (Sum.inr (Sum.inr (Sum.inr (fun _ => none)))))) : Nat × va_E) := by rw [e_ws104]; exact gs_ne (by decide) f_14_ws103
                            clear f_14_ws103
                            have f_14_ws105 : ws105[14]? = some ((q31, Sum.inl (cF, 4096, Sum.inr (Sum.inr (Sum.inr (Sum.inr (fun _ => none)))))) : Nat × va_E) := by rw [e_ws105]; exact gs_ne (by decide) f_14_ws104
                            clear f_14_ws104
                            have f_14_ws106 : ws106[14]? = some ((q31, Sum.inl (cF, 4096, Sum.inr (Sum.inr (Sum.inr (Sum.inr (fun _ => none)))))) : Nat × va_E) := by rw [e_ws106]; exact gs_ne (by decide) f_14_ws105
                            clear f_14_ws105
                            have f_15_ws33 : ws33[15]? = some ((q32, Sum.inl (cZ, 4096, Sum.inl (fun _ => 0))) : Nat × va_E) := by rw [e_ws33]; exact gs_ne (by decide) f_15_ws29
                            clear f_15_ws29
                            have f_15_ws35 : ws35[15]? = some ((q32, Sum.inl (cZ, 4096, Sum.inl (fun _ => 0))) : Nat × va_E) := by rw [e_ws35]; exact gs_app f_15_ws33
                            clear f_15_ws33
                            have f_15_ws37 : ws37[15]? = some ((q32, Sum.inl (cZ, 4096, Sum.inl (fun _ => 0))) : Nat × va_E) := e_ws37.at (by first | decide | (simp; done) | (simp; omega)) f_15_ws35
                            clear f_15_ws35
                            have f_15_ws41 : ws41[15]? = some ((q32, Sum.inl (cZ, 4096, Sum.inl (fun _ => 0))) : Nat × va_E) := by rw [e_ws41]; exact gs_ne (by decide) f_15_ws37
                            clear f_15_ws37
                            have f_15_ws43 : ws43[15]? = some ((q32, Sum.inl (cZ, 4096, Sum.inl (fun _ => 0))) : Nat × va_E) := by rw [e_ws43]; exact gs_app f_15_ws41
                            clear f_15_ws41
                            have f_15_ws44 : ws44[15]? = some ((q32, Sum.inl (cZ, 4096, Sum.inl (fun _ => 0))) : Nat × va_E) := by rw [e_ws44]; exact gs_ne (by decide) f_15_ws43
                            clear f_15_ws43
                            have f_15_ws46 : ws46[15]? = some ((q32, Sum.inl (cZ, 4096, Sum.inl (fun _ => 0))) : Nat × va_E) := by rw [e_ws46]; exact gs_app f_15_ws44
                            clear f_15_ws44
                            have f_15_ws49 : ws49[15]? = some ((q32, Sum.inl (cZ, 4096, Sum.inl (fun _ => 0))) : Nat × va_E) := by rw [e_ws49]; exact gs_ne (by decide) f_15_ws46
                            clear f_15_ws46
                            have f_15_ws51 : ws51[15]? = some ((q32, Sum.inl (cZ, 4096, Sum.inl (fun _ => 0))) : Nat × va_E) := by rw [e_ws51]; exact gs_app f_15_ws49
                            clear f_15_ws49
                            have f_15_ws54 : ws54[15]? = some ((q32, Sum.inl (cZ, 4096, Sum.inl (fun _ => 0))) : Nat × va_E) := by rw [e_ws54]; exact gs_ne (by decide) f_15_ws51
                            clear f_15_ws51
                            have f_15_ws56 : ws56[15]? = some ((q32, Sum.inl (cZ, 4096, Sum.inl (fun _ => 0))) : Nat × va_E) := by rw [e_ws56]; exact gs_app f_15_ws54
                            clear f_15_ws54
                            have f_15_ws59 : ws59[15]? = some ((q32, Sum.inl (cZ, 4096, Sum.inl (fun _ => 0))) : Nat × va_E) := by rw [e_ws59]; exact gs_ne (by decide) f_15_ws56
                            clear f_15_ws56
                            have f_15_ws61 : ws61[15]? = some ((q32, Sum.inl (cZ, 4096, Sum.inl (fun _ => 0))) : Nat × va_E) := by rw [e_ws61]; exact gs_app f_15_ws59
                            clear f_15_ws59
                            have f_15_ws64 : ws64[15]? = some ((q32, Sum.inl (cZ, 4096, Sum.inl (fun _ => 0))) : Nat × va_E) := by rw [e_ws64]; exact gs_ne (by decide) f_15_ws61
                            clear f_15_ws61
                            have f_15_ws66 : ws66[15]? = some ((q32, Sum.inl (cZ, 4096, Sum.inl (fun _ => 0))) : Nat × va_E) := by rw [e_ws66]; exact gs_app f_15_ws64
                            clear f_15_ws64
                            have f_15_ws67 : ws67[15]? = some ((q32, Sum.inl (cZ, 4096, Sum.inl (fun _ => 0))) : Nat × va_E) := by rw [e_ws67]; exact gs_ne (by decide) f_15_ws66
                            clear f_15_ws66
                            have f_15_ws69 : ws69[15]? = some ((q32, Sum.inl (cZ, 4096, Sum.inl (fun _ => 0))) : Nat × va_E) := by rw [e_ws69]; exact gs_app f_15_ws67
                            clear f_15_ws67
                            have f_15_ws71 : ws71[15]? = some ((q32, Sum.inl (cZ, 4096, Sum.inl (fun _ => 0))) : Nat × va_E) := e_ws71.at (by first | decide | (simp; done) | (simp; omega)) f_15_ws69
                            clear f_15_ws69
                            have f_15_ws76 : ws76[15]? = some ((q32, Sum.inl (cZ, 4096, Sum.inl (fun _ => 0))) : Nat × va_E) := by rw [e_ws76]; exact gs_ne (by decide) f_15_ws71
                            clear f_15_ws71
                            have f_15_ws78 : ws78[15]? = some ((q32, Sum.inl (cZ, 4096, Sum.inl (fun _ => 0))) : Nat × va_E) := by rw [e_ws78]; exact gs_app f_15_ws76
                            clear f_15_ws76
                            have f_15_ws80 : ws80[15]? = some ((q32, Sum.inl (cZ, 4096, Sum.inl (fun _ => 0))) : Nat × va_E) := e_ws80.at (by first | decide | (simp; done) | (simp; omega)) f_15_ws78
                            clear f_15_ws78
                            have f_15_ws85 : ws85[15]? = some ((q32, Sum.inl (cZ, 4096, Sum.inl (fun _ => 0))) : Nat × va_E) := by rw [e_ws85]; exact gs_ne (by decide) f_15_ws80
                            clear f_15_ws80
                            have f_15_ws87 : ws87[15]? = some ((q32, Sum.inl (cZ, 4096, Sum.inl (fun _ => 0))) : Nat × va_E) := by rw [e_ws87]; exact gs_app f_15_ws85
                            clear f_15_ws85
                            have f_15_ws89 : ws89[15]? = some ((q32, Sum.inl (cZ, 4096, Sum.inl (fun _ => 0))) : Nat × va_E) := e_ws89.at (by first | decide | (simp; done) | (simp; omega)) f_15_ws87
                            clear f_15_ws87
                            have f_15_ws94 : ws94[15]? = some ((q32, Sum.inl (cZ, 4096, Sum.inl (fun _ => 0))) : Nat × va_E) := by rw [e_ws94]; exact gs_ne (by decide) f_15_ws89
                            clear f_15_ws89
                            have f_15_ws96 : ws96[15]? = some ((q32, Sum.inl (cZ, 4096, Sum.inl (fun _ => 0))) : Nat × va_E) := by rw [e_ws96]; exact gs_app f_15_ws94
                            clear f_15_ws94
                            have f_15_ws98 : ws98[15]? = some ((q32, Sum.inl (cZ, 4096, Sum.inl (fun _ => 0))) : Nat × va_E) := e_ws98.at (by first | decide | (simp; done) | (simp; omega)) f_15_ws96
                            clear f_15_ws96
                            have f_15_ws103 : ws103[15]? = some ((q32, Sum.inl (cZ, 4096, Sum.inl (fun _ => 0))) : Nat × va_E) := by rw [e_ws103]; exact gs_ne (by decide) f_15_ws98
                            clear f_15_ws98
                            have f_15_ws104 : ws104[15]? = some ((q32, Sum.inl (cZ, 4096, Sum.inl (fun _ => 0))) : Nat × va_E) := by rw [e_ws104]; exact gs_ne (by decide) f_15_ws103
                            clear f_15_ws103
                            have f_15_ws105 : ws105[15]? = some ((q32, Sum.inl (cZ, 4096, Sum.inl (fun _ => 0))) : Nat × va_E) := by rw [e_ws105]; exact gs_ne (by decide) f_15_ws104
                            clear f_15_ws104
                            have f_15_ws106 : ws106[15]? = some ((q32, Sum.inl (cZ, 4096, Sum.inl (fun _ => 0))) : Nat × va_E) := by rw [e_ws106]; exact gs_ne (by decide) f_15_ws105
                            clear f_15_ws105
                            have f_16_ws41 : ws41[16]? = some ((q34, Sum.inr (4, [Value.ref q38, Value.ref q39, Value.ref q40, Value.null, Value.int 0, Value.int 0])) : Nat × va_E) := by rw [e_ws41]; exact gs_ne (by decide) f_16_ws37
                            clear f_16_ws37
                            have f_16_ws43 : ws43[16]? = some ((q34, Sum.inr (4, [Value.ref q38, Value.ref q39, Value.ref q40, Value.null, Value.int 0, Value.int 0])) : Nat × va_E) := by rw [e_ws43]; exact gs_app f_16_ws41
                            clear f_16_ws41
                            have f_16_ws44 : ws44[16]? = some ((q34, Sum.inr (4, [Value.ref q38, Value.ref q39, Value.ref q40, Value.null, Value.int 0, Value.int 0])) : Nat × va_E) := by rw [e_ws44]; exact gs_ne (by decide) f_16_ws43
                            clear f_16_ws43
                            have f_16_ws46 : ws46[16]? = some ((q34, Sum.inr (4, [Value.ref q38, Value.ref q39, Value.ref q40, Value.null, Value.int 0, Value.int 0])) : Nat × va_E) := by rw [e_ws46]; exact gs_app f_16_ws44
                            clear f_16_ws44
                            have f_16_ws49 : ws49[16]? = some ((q34, Sum.inr (4, [Value.ref q38, Value.ref q39, Value.ref q40, Value.null, Value.int 0, Value.int 0])) : Nat × va_E) := by rw [e_ws49]; exact gs_ne (by decide) f_16_ws46
                            clear f_16_ws46
                            have f_16_ws51 : ws51[16]? = some ((q34, Sum.inr (4, [Value.ref q38, Value.ref q39, Value.ref q40, Value.null, Value.int 0, Value.int 0])) : Nat × va_E) := by rw [e_ws51]; exact gs_app f_16_ws49
                            clear f_16_ws49
                            have f_16_ws54 : ws54[16]? = some ((q34, Sum.inr (4, [Value.ref q38, Value.ref q39, Value.ref q40, Value.null, Value.int 0, Value.int 0])) : Nat × va_E) := by rw [e_ws54]; exact gs_ne (by decide) f_16_ws51
                            clear f_16_ws51
                            have f_16_ws56 : ws56[16]? = some ((q34, Sum.inr (4, [Value.ref q38, Value.ref q39, Value.ref q40, Value.null, Value.int 0, Value.int 0])) : Nat × va_E) := by rw [e_ws56]; exact gs_app f_16_ws54
                            clear f_16_ws54
                            have f_16_ws59 : ws59[16]? = some ((q34, Sum.inr (4, [Value.ref q38, Value.ref q39, Value.ref q40, Value.null, Value.int 0, Value.int 0])) : Nat × va_E) := by rw [e_ws59]; exact gs_ne (by decide) f_16_ws56
                            clear f_16_ws56
                            have f_16_ws61 : ws61[16]? = some ((q34, Sum.inr (4, [Value.ref q38, Value.ref q39, Value.ref q40, Value.null, Value.int 0, Value.int 0])) : Nat × va_E) := by rw [e_ws61]; exact gs_app f_16_ws59
                            clear f_16_ws59
                            have f_16_ws64 : ws64[16]? = some ((q34, Sum.inr (4, [Value.ref q38, Value.ref q39, Value.ref q40, Value.null, Value.int 0, Value.int 0])) : Nat × va_E) := by rw [e_ws64]; exact gs_ne (by decide) f_16_ws61
                            clear f_16_ws61
                            have f_16_ws66 : ws66[16]? = some ((q34, Sum.inr (4, [Value.ref q38, Value.ref q39, Value.ref q40, Value.null, Value.int 0, Value.int 0])) : Nat × va_E) := by rw [e_ws66]; exact gs_app f_16_ws64
                            clear f_16_ws64
                            have f_16_ws67 : ws67[16]? = some ((q34, Sum.inr (4, [Value.ref q38, Value.ref q39, Value.ref q40, Value.null, Value.int 0, Value.int 0])) : Nat × va_E) := by rw [e_ws67]; exact gs_ne (by decide) f_16_ws66
                            clear f_16_ws66
                            have f_16_ws69 : ws69[16]? = some ((q34, Sum.inr (4, [Value.ref q38, Value.ref q39, Value.ref q40, Value.null, Value.int 0, Value.int 0])) : Nat × va_E) := by rw [e_ws69]; exact gs_app f_16_ws67
                            clear f_16_ws67
                            have f_16_ws71 : ws71[16]? = some ((q34, Sum.inr (4, [Value.ref q38, Value.ref q39, Value.ref q40, Value.null, Value.int 0, Value.int 0])) : Nat × va_E) := e_ws71.at (by first | decide | (simp; done) | (simp; omega)) f_16_ws69
                            clear f_16_ws69
                            have f_16_ws76 : ws76[16]? = some ((q34, Sum.inr (4, [Value.ref q38, Value.ref q39, Value.ref q40, Value.null, Value.int 0, Value.int 0])) : Nat × va_E) := by rw [e_ws76]; exact gs_ne (by decide) f_16_ws71
                            clear f_16_ws71
                            have f_16_ws78 : ws78[16]? = some ((q34, Sum.inr (4, [Value.ref q38, Value.ref q39, Value.ref q40, Value.null, Value.int 0, Value.int 0])) : Nat × va_E) := by rw [e_ws78]; exact gs_app f_16_ws76
                            clear f_16_ws76
                            have f_16_ws80 : ws80[16]? = some ((q34, Sum.inr (4, [Value.ref q38, Value.ref q39, Value.ref q40, Value.null, Value.int 0, Value.int 0])) : Nat × va_E) := e_ws80.at (by first | decide | (simp; done) | (simp; omega)) f_16_ws78
                            clear f_16_ws78
                            have f_16_ws85 : ws85[16]? = some ((q34, Sum.inr (4, [Value.ref q38, Value.ref q39, Value.ref q40, Value.null, Value.int 0, Value.int 0])) : Nat × va_E) := by rw [e_ws85]; exact gs_ne (by decide) f_16_ws80
                            clear f_16_ws80
                            have f_16_ws87 : ws87[16]? = some ((q34, Sum.inr (4, [Value.ref q38, Value.ref q39, Value.ref q40, Value.null, Value.int 0, Value.int 0])) : Nat × va_E) := by rw [e_ws87]; exact gs_app f_16_ws85
                            clear f_16_ws85
                            have f_16_ws89 : ws89[16]? = some ((q34, Sum.inr (4, [Value.ref q38, Value.ref q39, Value.ref q40, Value.null, Value.int 0, Value.int 0])) : Nat × va_E) := e_ws89.at (by first | decide | (simp; done) | (simp; omega)) f_16_ws87
                            clear f_16_ws87
                            have f_16_ws94 : ws94[16]? = some ((q34, Sum.inr (4, [Value.ref q38, Value.ref q39, Value.ref q40, Value.null, Value.int 0, Value.int 0])) : Nat × va_E) := by rw [e_ws94]; exact gs_ne (by decide) f_16_ws89
                            clear f_16_ws89
                            have f_16_ws96 : ws96[16]? = some ((q34, Sum.inr (4, [Value.ref q38, Value.ref q39, Value.ref q40, Value.null, Value.int 0, Value.int 0])) : Nat × va_E) := by rw [e_ws96]; exact gs_app f_16_ws94
                            clear f_16_ws94
                            have f_16_ws98 : ws98[16]? = some ((q34, Sum.inr (4, [Value.ref q38, Value.ref q39, Value.ref q40, Value.null, Value.int 0, Value.int 0])) : Nat × va_E) := e_ws98.at (by first | decide | (simp; done) | (simp; omega)) f_16_ws96
                            clear f_16_ws96
                            have f_16_ws103 : ws103[16]? = some ((q34, Sum.inr (4, [Value.ref q38, Value.ref q39, Value.ref q40, Value.null, Value.int 0, Value.int 0])) : Nat × va_E) := by rw [e_ws103]; exact gs_ne (by decide) f_16_ws98
                            clear f_16_ws98
                            have f_16_ws104 : ws104[16]? = some ((q34, Sum.inr (4, [Value.ref q38, Value.ref q39, Value.ref q40, Value.null, Value.int 0, Value.int 0])) : Nat × va_E) := by rw [e_ws104]; exact gs_ne (by decide) f_16_ws103
                            clear f_16_ws103
                            have f_16_ws105 : ws105[16]? = some ((q34, Sum.inr (4, [Value.ref q38, Value.ref q39, Value.ref q40, Value.null, Value.int 0, Value.int 0])) : Nat × va_E) := by rw [e_ws105]; exact gs_ne (by decide) f_16_ws104
                            clear f_16_ws104
                            have f_16_ws106 : ws106[16]? = some ((q34, Sum.inr (4, [Value.ref q38, Value.ref q39, Value.ref q40, Value.null, Value.int 0, Value.int 0])) : Nat × va_E) := by rw [e_ws106]; exact gs_ne (by decide) f_16_ws105
                            clear f_16_ws105
                            have f_17_ws41 : ws41[17]? = some ((q38, Sum.inl (cF, 4096, Sum.inr (Sum.inr (Sum.inr (Sum.inr (fun _ => none)))))) : Nat × va_E) := by rw [e_ws41]; exact gs_ne (by decide) f_17_ws37
                            clear f_17_ws37
                            have f_17_ws43 : ws43[17]? = some ((q38, Sum.inl (cF, 4096, Sum.inr (Sum.inr (Sum.inr (Sum.inr (fun _ => none)))))) : Nat × va_E) := by rw [e_ws43]; exact gs_app f_17_ws41
                            clear f_17_ws41
                            have f_17_ws44 : ws44[17]? = some ((q38, Sum.inl (cF, 4096, Sum.inr (Sum.inr (Sum.inr (Sum.inr (fun _ => none)))))) : Nat × va_E) := by rw [e_ws44]; exact gs_ne (by decide) f_17_ws43
                            clear f_17_ws43
                            have f_17_ws46 : ws46[17]? = some ((q38, Sum.inl (cF, 4096, Sum.inr (Sum.inr (Sum.inr (Sum.inr (fun _ => none)))))) : Nat × va_E) := by rw [e_ws46]; exact gs_app f_17_ws44
                            clear f_17_ws44
                            have f_17_ws49 : ws49[17]? = some ((q38, Sum.inl (cF, 4096, Sum.inr (Sum.inr (Sum.inr (Sum.inr (fun _ => none)))))) : Nat × va_E) := by rw [e_ws49]; exact gs_ne (by decide) f_17_ws46
                            clear f_17_ws46
                            have f_17_ws51 : ws51[17]? = some ((q38, Sum.inl (cF, 4096, Sum.inr (Sum.inr (Sum.inr (Sum.inr (fun _ => none)))))) : Nat × va_E) := by rw [e_ws51]; exact gs_app f_17_ws49
                            clear f_17_ws49
                            have f_17_ws54 : ws54[17]? = some ((q38, Sum.inl (cF, 4096, Sum.inr (Sum.inr (Sum.inr (Sum.inr (fun _ => none)))))) : Nat × va_E) := by rw [e_ws54]; exact gs_ne (by decide) f_17_ws51
                            clear f_17_ws51
                            have f_17_ws56 : ws56[17]? = some ((q38, Sum.inl (cF, 4096, Sum.inr (Sum.inr (Sum.inr (Sum.inr (fun _ => none)))))) : Nat × va_E) := by rw [e_ws56]; exact gs_app f_17_ws54
                            clear f_17_ws54
                            have f_17_ws59 : ws59[17]? = some ((q38, Sum.inl (cF, 4096, Sum.inr (Sum.inr (Sum.inr (Sum.inr (fun _ => none)))))) : Nat × va_E) := by rw [e_ws59]; exact gs_ne (by decide) f_17_ws56
                            clear f_17_ws56
                            have f_17_ws61 : ws61[17]? = some ((q38, Sum.inl (cF, 4096, Sum.inr (Sum.inr (Sum.inr (Sum.inr (fun _ => none)))))) : Nat × va_E) := by rw [e_ws61]; exact gs_app f_17_ws59
                            clear f_17_ws59
                            have f_17_ws64 : ws64[17]? = some ((q38, Sum.inl (cF, 4096, Sum.inr (Sum.inr (Sum.inr (Sum.inr (fun _ => none)))))) : Nat × va_E) := by rw [e_ws64]; exact gs_ne (by decide) f_17_ws61
                            clear f_17_ws61
                            have f_17_ws66 : ws66[17]? = some ((q38, Sum.inl (cF, 4096, Sum.inr (Sum.inr (Sum.inr (Sum.inr (fun _ => none)))))) : Nat × va_E) := by rw [e_ws66]; exact gs_app f_17_ws64
                            clear f_17_ws64
                            have f_17_ws67 : ws67[17]? = some ((q38, Sum.inl (cF, 4096, Sum.inr (Sum.inr (Sum.inr (Sum.inr (fun _ => none)))))) : Nat × va_E) := by rw [e_ws67]; exact gs_ne (by decide) f_17_ws66
                            clear f_17_ws66
                            have f_17_ws69 : ws69[17]? = some ((q38, Sum.inl (cF, 4096, Sum.inr (Sum.inr (Sum.inr (Sum.inr (fun _ => none)))))) : Nat × va_E) := by rw [e_ws69]; exact gs_app f_17_ws67
                            clear f_17_ws67
                            have f_17_ws71 : ws71[17]? = some ((q38, Sum.inl (cF, 4096, Sum.inr (Sum.inr (Sum.inr (Sum.inr (fun _ => none)))))) : Nat × va_E) := e_ws71.at (by first | decide | (simp; done) | (simp; omega)) f_17_ws69
                            clear f_17_ws69
                            have f_17_ws76 : ws76[17]? = some ((q38, Sum.inl (cF, 4096, Sum.inr (Sum.inr (Sum.inr (Sum.inr (fun _ => none)))))) : Nat × va_E) := by rw [e_ws76]; exact gs_ne (by decide) f_17_ws71
                            clear f_17_ws71
                            have f_17_ws78 : ws78[17]? = some ((q38, Sum.inl (cF, 4096, Sum.inr (Sum.inr (Sum.inr (Sum.inr (fun _ => none)))))) : Nat × va_E) := by rw [e_ws78]; exact gs_app f_17_ws76
                            clear f_17_ws76
                            have f_17_ws80 : ws80[17]? = some ((q38, Sum.inl (cF, 4096, Sum.inr (Sum.inr (Sum.inr (Sum.inr (fun _ => none)))))) : Nat × va_E) := e_ws80.at (by first | decide | (simp; done) | (simp; omega)) f_17_ws78
                            clear f_17_ws78
                            have f_17_ws85 : ws85[17]? = some ((q38, Sum.inl (cF, 4096, Sum.inr (Sum.inr (Sum.inr (Sum.inr (fun _ => none)))))) : Nat × va_E) := by rw [e_ws85]; exact gs_ne (by decide) f_17_ws80
                            clear f_17_ws80
                            have f_17_ws87 : ws87[17]? = some ((q38, Sum.inl (cF, 4096, Sum.inr (Sum.inr (Sum.inr (Sum.inr (fun _ => none)))))) : Nat × va_E) := by rw [e_ws87]; exact gs_app f_17_ws85
                            clear f_17_ws85
                            have f_17_ws89 : ws89[17]? = some ((q38, Sum.inl (cF, 4096, Sum.inr (Sum.inr (Sum.inr (Sum.inr (fun _ => none)))))) : Nat × va_E) := e_ws89.at (by first | decide | (simp; done) | (simp; omega)) f_17_ws87
                            clear f_17_ws87
                            have f_17_ws94 : ws94[17]? = some ((q38, Sum.inl (cF, 4096, Sum.inr (Sum.inr (Sum.inr (Sum.inr (fun _ => none)))))) : Nat × va_E) := by rw [e_ws94]; exact gs_ne (by decide) f_17_ws89
                            clear f_17_ws89
                            have f_17_ws96 : ws96[17]? = some ((q38, Sum.inl (cF, 4096, Sum.inr (Sum.inr (Sum.inr (Sum.inr (fun _ => none)))))) : Nat × va_E) := by rw [e_ws96]; exact gs_app f_17_ws94
                            clear f_17_ws94
                            have f_17_ws98 : ws98[17]? = some ((q38, Sum.inl (cF, 4096, Sum.inr (Sum.inr (Sum.inr (Sum.inr (fun _ => none)))))) : Nat × va_E) := e_ws98.at (by first | decide | (simp; done) | (simp; omega)) f_17_ws96
                            clear f_17_ws96
                            have f_17_ws103 : ws103[17]? = some ((q38, Sum.inl (cF, 4096, Sum.inr (Sum.inr (Sum.inr (Sum.inr (fun _ => none)))))) : Nat × va_E) := by rw [e_ws103]; exact gs_ne (by decide) f_17_ws98
                            clear f_17_ws98
                            have f_17_ws104 : ws104[17]? = some ((q38, Sum.inl (cF, 4096, Sum.inr (Sum.inr (Sum.inr (Sum.inr (fun _ => none)))))) : Nat × va_E) := by rw [e_ws104]; exact gs_ne (by decide) f_17_ws103
                            clear f_17_ws103
                            have f_17_ws105 : ws105[17]? = some ((q38, Sum.inl (cF, 4096, Sum.inr (Sum.inr (Sum.inr (Sum.inr (fun _ => none)))))) : Nat × va_E) := by rw [e_ws105]; exact gs_ne (by decide) f_17_ws104
                            clear f_17_ws104
                            have f_17_ws106 : ws106[17]? = some ((q38, Sum.inl (cF, 4096, Sum.inr (Sum.inr (Sum.inr (Sum.inr (fun _ => none)))))) : Nat × va_E) := by rw [e_ws106]; exact gs_ne (by decide) f_17_ws105
                            clear f_17_ws105
                            have f_18_ws41 : ws41[18]? = some ((q39, Sum.inl (cF, 4096, Sum.inr (Sum.inr (Sum.inr (Sum.inr (fun _ => none)))))) : Nat × va_E) := by rw [e_ws41]; exact gs_ne (by decide) f_18_ws37
                            clear f_18_ws37
                            have f_18_ws43 : ws43[18]? = some ((q39, Sum.inl (cF, 4096, Sum.inr (Sum.inr (Sum.inr (Sum.inr (fun _ => none)))))) : Nat × va_E) := by rw [e_ws43]; exact gs_app f_18_ws41
                            clear f_18_ws41
                            have f_18_ws44 : ws44[18]? = some ((q39, Sum.inl (cF, 4096, Sum.inr (Sum.inr (Sum.inr (Sum.inr (fun _ => none)))))) : Nat × va_E) := by rw [e_ws44]; exact gs_ne (by decide) f_18_ws43
                            clear f_18_ws43
                            have f_18_ws46 : ws46[18]? = some ((q39, Sum.inl (cF, 4096, Sum.inr (Sum.inr (Sum.inr (Sum.inr (fun _ => none)))))) : Nat × va_E) := by rw [e_ws46]; exact gs_app f_18_ws44
                            clear f_18_ws44
                            have f_18_ws49 : ws49[18]? = some ((q39, Sum.inl (cF, 4096, Sum.inr (Sum.inr (Sum.inr (Sum.inr (fun _ => none)))))) : Nat × va_E) := by rw [e_ws49]; exact gs_ne (by decide) f_18_ws46
                            clear f_18_ws46
                            have f_18_ws51 : ws51[18]? = some ((q39, Sum.inl (cF, 4096, Sum.inr (Sum.inr (Sum.inr (Sum.inr (fun _ => none)))))) : Nat × va_E) := by rw [e_ws51]; exact gs_app f_18_ws49
                            clear f_18_ws49
                            have f_18_ws54 : ws54[18]? = some ((q39, Sum.inl (cF, 4096, Sum.inr (Sum.inr (Sum.inr (Sum.inr (fun _ => none)))))) : Nat × va_E) := by rw [e_ws54]; exact gs_ne (by decide) f_18_ws51
                            clear f_18_ws51
                            have f_18_ws56 : ws56[18]? = some ((q39, Sum.inl (cF, 4096, Sum.inr (Sum.inr (Sum.inr (Sum.inr (fun _ => none)))))) : Nat × va_E) := by rw [e_ws56]; exact gs_app f_18_ws54
                            clear f_18_ws54
                            have f_18_ws59 : ws59[18]? = some ((q39, Sum.inl (cF, 4096, Sum.inr (Sum.inr (Sum.inr (Sum.inr (fun _ => none)))))) : Nat × va_E) := by rw [e_ws59]; exact gs_ne (by decide) f_18_ws56
                            clear f_18_ws56
                            have f_18_ws61 : ws61[18]? = some ((q39, Sum.inl (cF, 4096, Sum.inr (Sum.inr (Sum.inr (Sum.inr (fun _ => none)))))) : Nat × va_E) := by rw [e_ws61]; exact gs_app f_18_ws59
                            clear f_18_ws59
                            have f_18_ws64 : ws64[18]? = some ((q39, Sum.inl (cF, 4096, Sum.inr (Sum.inr (Sum.inr (Sum.inr (fun _ => none)))))) : Nat × va_E) := by rw [e_ws64]; exact gs_ne (by decide) f_18_ws61
                            clear f_18_ws61
                            have f_18_ws66 : ws66[18]? = some ((q39, Sum.inl (cF, 4096, Sum.inr (Sum.inr (Sum.inr (Sum.inr (fun _ => none)))))) : Nat × va_E) := by rw [e_ws66]; exact gs_app f_18_ws64
                            clear f_18_ws64
                            have f_18_ws67 : ws67[18]? = some ((q39, Sum.inl (cF, 4096, Sum.inr (Sum.inr (Sum.inr (Sum.inr (fun _ => none)))))) : Nat × va_E) := by rw [e_ws67]; exact gs_ne (by decide) f_18_ws66
                            clear f_18_ws66
                            have f_18_ws69 : ws69[18]? = some ((q39, Sum.inl (cF, 4096, Sum.inr (Sum.inr (Sum.inr (Sum.inr (fun _ => none)))))) : Nat × va_E) := by rw [e_ws69]; exact gs_app f_18_ws67
                            clear f_18_ws67
                            have f_18_ws71 : ws71[18]? = some ((q39, Sum.inl (cF, 4096, Sum.inr (Sum.inr (Sum.inr (Sum.inr (fun _ => none)))))) : Nat × va_E) := e_ws71.at (by first | decide | (simp; done) | (simp; omega)) f_18_ws69
                            clear f_18_ws69
                            have f_18_ws76 : ws76[18]? = some ((q39, Sum.inl (cF, 4096, Sum.inr (Sum.inr (Sum.inr (Sum.inr (fun _ => none)))))) : Nat × va_E) := by rw [e_ws76]; exact gs_ne (by decide) f_18_ws71
                            clear f_18_ws71
                            have f_18_ws78 : ws78[18]? = some ((q39, Sum.inl (cF, 4096, Sum.inr (Sum.inr (Sum.inr (Sum.inr (fun _ => none)))))) : Nat × va_E) := by rw [e_ws78]; exact gs_app f_18_ws76
                            clear f_18_ws76
                            have f_18_ws80 : ws80[18]? = some ((q39, Sum.inl (cF, 4096, Sum.inr (Sum.inr (Sum.inr (Sum.inr (fun _ => none)))))) : Nat × va_E) := e_ws80.at (by first | decide | (simp; done) | (simp; omega)) f_18_ws78
                            clear f_18_ws78
                            have f_18_ws85 : ws85[18]? = some ((q39, Sum.inl (cF, 4096, Sum.inr (Sum.inr (Sum.inr (Sum.inr (fun _ => none)))))) : Nat × va_E) := by rw [e_ws85]; exact gs_ne (by decide) f_18_ws80
                            clear f_18_ws80
                            have f_18_ws87 : ws87[18]? = some ((q39, Sum.inl (cF, 4096, Sum.inr (Sum.inr (Sum.inr (Sum.inr (fun _ => none)))))) : Nat × va_E) := by rw [e_ws87]; exact gs_app f_18_ws85
                            clear f_18_ws85
                            have f_18_ws89 : ws89[18]? = some ((q39, Sum.inl (cF, 4096, Sum.inr (Sum.inr (Sum.inr (Sum.inr (fun _ => none)))))) : Nat × va_E) := e_ws89.at (by first | decide | (simp; done) | (simp; omega)) f_18_ws87
                            clear f_18_ws87
                            have f_18_ws94 : ws94[18]? = some ((q39, Sum.inl (cF, 4096, Sum.inr (Sum.inr (Sum.inr (Sum.inr (fun _ => none)))))) : Nat × va_E) := by rw [e_ws94]; exact gs_ne (by decide) f_18_ws89
                            clear f_18_ws89
                            have f_18_ws96 : ws96[18]? = some ((q39, Sum.inl (cF, 4096, Sum.inr (Sum.inr (Sum.inr (Sum.inr (fun _ => none)))))) : Nat × va_E) := by rw [e_ws96]; exact gs_app f_18_ws94
                            clear f_18_ws94
                            have f_18_ws98 : ws98[18]? = some ((q39, Sum.inl (cF, 4096, Sum.inr (Sum.inr (Sum.inr (Sum.inr (fun _ => none)))))) : Nat × va_E) := e_ws98.at (by first | decide | (simp; done) | (simp; omega)) f_18_ws96
                            clear f_18_ws96
                            have f_18_ws103 : ws103[18]? = some ((q39, Sum.inl (cF, 4096, Sum.inr (Sum.inr (Sum.inr (Sum.inr (fun _ => none)))))) : Nat × va_E) := by rw [e_ws103]; exact gs_ne (by decide) f_18_ws98
                            clear f_18_ws98
                            have f_18_ws104 : ws104[18]? = some ((q39, Sum.inl (cF, 4096, Sum.inr (Sum.inr (Sum.inr (Sum.inr (fun _ => none)))))) : Nat × va_E) := by rw [e_ws104]; exact gs_ne (by decide) f_18_ws103
                            clear f_18_ws103
                            have f_18_ws105 : ws105[18]? = some ((q39, Sum.inl (cF, 4096, Sum.inr (Sum.inr (Sum.inr (Sum.inr (fun _ => none)))))) : Nat × va_E) := by rw [e_ws105]; exact gs_ne (by decide) f_18_ws104
                            clear f_18_ws104
                            have f_18_ws106 : ws106[18]? = some ((q39, Sum.inl (cF, 4096, Sum.inr (Sum.inr (Sum.inr (Sum.inr (fun _ => none)))))) : Nat × va_E) := by rw [e_ws106]; exact gs_ne (by decide) f_18_ws105
                            clear f_18_ws105
                            have f_19_ws41 : ws41[19]? = some ((q40, Sum.inl (cZ, 4096, Sum.inl (fun _ => 0))) : Nat × va_E) := by rw [e_ws41]; exact gs_ne (by decide) f_19_ws37
                            clear f_19_ws37
                            have f_19_ws43 : ws43[19]? = some ((q40, Sum.inl (cZ, 4096, Sum.inl (fun _ => 0))) : Nat × va_E) := by rw [e_ws43]; exact gs_app f_19_ws41
                            clear f_19_ws41
                            have f_19_ws44 : ws44[19]? = some ((q40, Sum.inl (cZ, 4096, Sum.inl (fun _ => 0))) : Nat × va_E) := by rw [e_ws44]; exact gs_ne (by decide) f_19_ws43
                            clear f_19_ws43
                            have f_19_ws46 : ws46[19]? = some ((q40, Sum.inl (cZ, 4096, Sum.inl (fun _ => 0))) : Nat × va_E) := by rw [e_ws46]; exact gs_app f_19_ws44
                            clear f_19_ws44
                            have f_19_ws49 : ws49[19]? = some ((q40, Sum.inl (cZ, 4096, Sum.inl (fun _ => 0))) : Nat × va_E) := by rw [e_ws49]; exact gs_ne (by decide) f_19_ws46
                            clear f_19_ws46
                            have f_19_ws51 : ws51[19]? = some ((q40, Sum.inl (cZ, 4096, Sum.inl (fun _ => 0))) : Nat × va_E) := by rw [e_ws51]; exact gs_app f_19_ws49
                            clear f_19_ws49
                            have f_19_ws54 : ws54[19]? = some ((q40, Sum.inl (cZ, 4096, Sum.inl (fun _ => 0))) : Nat × va_E) := by rw [e_ws54]; exact gs_ne (by decide) f_19_ws51
                            clear f_19_ws51
                            have f_19_ws56 : ws56[19]? = some ((q40, Sum.inl (cZ, 4096, Sum.inl (fun _ => 0))) : Nat × va_E) := by rw [e_ws56]; exact gs_app f_19_ws54
                            clear f_19_ws54
                            have f_19_ws59 : ws59[19]? = some ((q40, Sum.inl (cZ, 4096, Sum.inl (fun _ => 0))) : Nat × va_E) := by rw [e_ws59]; exact gs_ne (by decide) f_19_ws56
                            clear f_19_ws56
                            have f_19_ws61 : ws61[19]? = some ((q40, Sum.inl (cZ, 4096, Sum.inl (fun _ => 0))) : Nat × va_E) := by rw [e_ws61]; exact gs_app f_19_ws59
                            clear f_19_ws59
                            have f_19_ws64 : ws64[19]? = some ((q40, Sum.inl (cZ, 4096, Sum.inl (fun _ => 0))) : Nat × va_E) := by rw [e_ws64]; exact gs_ne (by decide) f_19_ws61
                            clear f_19_ws61
                            have f_19_ws66 : ws66[19]? = some ((q40, Sum.inl (cZ, 4096, Sum.inl (fun _ => 0))) : Nat × va_E) := by rw [e_ws66]; exact gs_app f_19_ws64
                            clear f_19_ws64
                            have f_19_ws67 : ws67[19]? = some ((q40, Sum.inl (cZ, 4096, Sum.inl (fun _ => 0))) : Nat × va_E) := by rw [e_ws67]; exact gs_ne (by decide) f_19_ws66
                            clear f_19_ws66
                            have f_19_ws69 : ws69[19]? = some ((q40, Sum.inl (cZ, 4096, Sum.inl (fun _ => 0))) : Nat × va_E) := by rw [e_ws69]; exact gs_app f_19_ws67
                            clear f_19_ws67
                            have f_19_ws71 : ws71[19]? = some ((q40, Sum.inl (cZ, 4096, Sum.inl (fun _ => 0))) : Nat × va_E) := e_ws71.at (by first | decide | (simp; done) | (simp; omega)) f_19_ws69
                            clear f_19_ws69
                            have f_19_ws76 : ws76[19]? = some ((q40, Sum.inl (cZ, 4096, Sum.inl (fun _ => 0))) : Nat × va_E) := by rw [e_ws76]; exact gs_ne (by decide) f_19_ws71
                            clear f_19_ws71
                            have f_19_ws78 : ws78[19]? = some ((q40, Sum.inl (cZ, 4096, Sum.inl (fun _ => 0))) : Nat × va_E) := by rw [e_ws78]; exact gs_app f_19_ws76
                            clear f_19_ws76
                            have f_19_ws80 : ws80[19]? = some ((q40, Sum.inl (cZ, 4096, Sum.inl (fun _ => 0))) : Nat × va_E) := e_ws80.at (by first | decide | (simp; done) | (simp; omega)) f_19_ws78
                            clear f_19_ws78
                            have f_19_ws85 : ws85[19]? = some ((q40, Sum.inl (cZ, 4096, Sum.inl (fun _ => 0))) : Nat × va_E) := by rw [e_ws85]; exact gs_ne (by decide) f_19_ws80
                            clear f_19_ws80
                            have f_19_ws87 : ws87[19]? = some ((q40, Sum.inl (cZ, 4096, Sum.inl (fun _ => 0))) : Nat × va_E) := by rw [e_ws87]; exact gs_app f_19_ws85
                            clear f_19_ws85
                            have f_19_ws89 : ws89[19]? = some ((q40, Sum.inl (cZ, 4096, Sum.inl (fun _ => 0))) : Nat × va_E) := e_ws89.at (by first | decide | (simp; done) | (simp; omega)) f_19_ws87
                            clear f_19_ws87
                            have f_19_ws94 : ws94[19]? = some ((q40, Sum.inl (cZ, 4096, Sum.inl (fun _ => 0))) : Nat × va_E) := by rw [e_ws94]; exact gs_ne (by decide) f_19_ws89
                            clear f_19_ws89
                            have f_19_ws96 : ws96[19]? = some ((q40, Sum.inl (cZ, 4096, Sum.inl (fun _ => 0))) : Nat × va_E) := by rw [e_ws96]; exact gs_app f_19_ws94
                            clear f_19_ws94
                            have f_19_ws98 : ws98[19]? = some ((q40, Sum.inl (cZ, 4096, Sum.inl (fun _ => 0))) : Nat × va_E) := e_ws98.at (by first | decide | (simp; done) | (simp; omega)) f_19_ws96
                            clear f_19_ws96
                            have f_19_ws103 : ws103[19]? = some ((q40, Sum.inl (cZ, 4096, Sum.inl (fun _ => 0))) : Nat × va_E) := by rw [e_ws103]; exact gs_ne (by decide) f_19_ws98
                            clear f_19_ws98
                            have f_19_ws104 : ws104[19]? = some ((q40, Sum.inl (cZ, 4096, Sum.inl (fun _ => 0))) : Nat × va_E) := by rw [e_ws104]; exact gs_ne (by decide) f_19_ws103
                            clear f_19_ws103
                            have f_19_ws105 : ws105[19]? = some ((q40, Sum.inl (cZ, 4096, Sum.inl (fun _ => 0))) : Nat × va_E) := by rw [e_ws105]; exact gs_ne (by decide) f_19_ws104
                            clear f_19_ws104
                            have f_19_ws106 : ws106[19]? = some ((q40, Sum.inl (cZ, 4096, Sum.inl (fun _ => 0))) : Nat × va_E) := by rw [e_ws106]; exact gs_ne (by decide) f_19_ws105
                            clear f_19_ws105
                            have f_20_ws66 : ws66[20]? = some ((q42, Sum.inl (cM, 4, Sum.inr (Sum.inr (Sum.inr (Sum.inr (va_up (va_up (va_up (va_up (fun _ => none) 0 (some q45)) 1 (some q50)) 2 (some q55)) 3 (some q60))))))) : Nat × va_E) := by rw [e_ws66]; exact gs_app f_20_ws64
                            clear f_20_ws64
                            have f_20_ws67 : ws67[20]? = some ((q42, Sum.inl (cM, 4, Sum.inr (Sum.inr (Sum.inr (Sum.inr (va_up (va_up (va_up (va_up (fun _ => none) 0 (some q45)) 1 (some q50)) 2 (some q55)) 3 (some q60))))))) : Nat × va_E) := by rw [e_ws67]; exact gs_ne (by decide) f_20_ws66
                            clear f_20_ws66
                            have f_20_ws69 : ws69[20]? = some ((q42, Sum.inl (cM, 4, Sum.inr (Sum.inr (Sum.inr (Sum.inr (va_up (va_up (va_up (va_up (fun _ => none) 0 (some q45)) 1 (some q50)) 2 (some q55)) 3 (some q60))))))) : Nat × va_E) := by rw [e_ws69]; exact gs_app f_20_ws67
                            clear f_20_ws67
                            have f_20_ws71 : ws71[20]? = some ((q42, Sum.inl (cM, 4, Sum.inr (Sum.inr (Sum.inr (Sum.inr (va_up (va_up (va_up (va_up (fun _ => none) 0 (some q45)) 1 (some q50)) 2 (some q55)) 3 (some q60))))))) : Nat × va_E) := e_ws71.at (by first | decide | (simp; done) | (simp; omega)) f_20_ws69
                            clear f_20_ws69
                            have f_20_ws76 : ws76[20]? = some ((q42, Sum.inl (cM, 4, Sum.inr (Sum.inr (Sum.inr (Sum.inr (va_up (va_up (va_up (va_up (fun _ => none) 0 (some q45)) 1 (some q50)) 2 (some q55)) 3 (some q60))))))) : Nat × va_E) := by rw [e_ws76]; exact gs_ne (by decide) f_20_ws71
                            clear f_20_ws71
                            have f_20_ws78 : ws78[20]? = some ((q42, Sum.inl (cM, 4, Sum.inr (Sum.inr (Sum.inr (Sum.inr (va_up (va_up (va_up (va_up (fun _ => none) 0 (some q45)) 1 (some q50)) 2 (some q55)) 3 (some q60))))))) : Nat × va_E) := by rw [e_ws78]; exact gs_app f_20_ws76
                            clear f_20_ws76
                            have f_20_ws80 : ws80[20]? = some ((q42, Sum.inl (cM, 4, Sum.inr (Sum.inr (Sum.inr (Sum.inr (va_up (va_up (va_up (va_up (fun _ => none) 0 (some q45)) 1 (some q50)) 2 (some q55)) 3 (some q60))))))) : Nat × va_E) := e_ws80.at (by first | decide | (simp; done) | (simp; omega)) f_20_ws78
                            clear f_20_ws78
                            have f_20_ws85 : ws85[20]? = some ((q42, Sum.inl (cM, 4, Sum.inr (Sum.inr (Sum.inr (Sum.inr (va_up (va_up (va_up (va_up (fun _ => none) 0 (some q45)) 1 (some q50)) 2 (some q55)) 3 (some q60))))))) : Nat × va_E) := by rw [e_ws85]; exact gs_ne (by decide) f_20_ws80
                            clear f_20_ws80
                            have f_20_ws87 : ws87[20]? = some ((q42, Sum.inl (cM, 4, Sum.inr (Sum.inr (Sum.inr (Sum.inr (va_up (va_up (va_up (va_up (fun _ => none) 0 (some q45)) 1 (some q50)) 2 (some q55)) 3 (some q60))))))) : Nat × va_E) := by rw [e_ws87]; exact gs_app f_20_ws85
                            clear f_20_ws85
                            have f_20_ws89 : ws89[20]? = some ((q42, Sum.inl (cM, 4, Sum.inr (Sum.inr (Sum.inr (Sum.inr (va_up (va_up (va_up (va_up (fun _ => none) 0 (some q45)) 1 (some q50)) 2 (some q55)) 3 (some q60))))))) : Nat × va_E) := e_ws89.at (by first | decide | (simp; done) | (simp; omega)) f_20_ws87
                            clear f_20_ws87
                            have f_20_ws94 : ws94[20]? = some ((q42, Sum.inl (cM, 4, Sum.inr (Sum.inr (Sum.inr (Sum.inr (va_up (va_up (va_up (va_up (fun _ => none) 0 (some q45)) 1 (some q50)) 2 (some q55)) 3 (some q60))))))) : Nat × va_E) := by rw [e_ws94]; exact gs_ne (by decide) f_20_ws89
                            clear f_20_ws89
                            have f_20_ws96 : ws96[20]? = some ((q42, Sum.inl (cM, 4, Sum.inr (Sum.inr (Sum.inr (Sum.inr (va_up (va_up (va_up (va_up (fun _ => none) 0 (some q45)) 1 (some q50)) 2 (some q55)) 3 (some q60))))))) : Nat × va_E) := by rw [e_ws96]; exact gs_app f_20_ws94
                            clear f_20_ws94
                            have f_20_ws98 : ws98[20]? = some ((q42, Sum.inl (cM, 4, Sum.inr (Sum.inr (Sum.inr (Sum.inr (va_up (va_up (va_up (va_up (fun _ => none) 0 (some q45)) 1 (some q50)) 2 (some q55)) 3 (some q60))))))) : Nat × va_E) := e_ws98.at (by first | decide | (simp; done) | (simp; omega)) f_20_ws96
                            clear f_20_ws96
                            have f_20_ws103 : ws103[20]? = some ((q42, Sum.inl (cM, 4, Sum.inr (Sum.inr (Sum.inr (Sum.inr (va_up (va_up (va_up (va_up (fun _ => none) 0 (some q45)) 1 (some q50)) 2 (some q55)) 3 (some q60))))))) : Nat × va_E) := by rw [e_ws103]; exact gs_ne (by decide) f_20_ws98
                            clear f_20_ws98
                            have f_20_ws104 : ws104[20]? = some ((q42, Sum.inl (cM, 4, Sum.inr (Sum.inr (Sum.inr (Sum.inr (va_up (va_up (va_up (va_up (fun _ => none) 0 (some q45)) 1 (some q50)) 2 (some q55)) 3 (some q60))))))) : Nat × va_E) := by rw [e_ws104]; exact gs_ne (by decide) f_20_ws103
                            clear f_20_ws103
                            have f_20_ws105 : ws105[20]? = some ((q42, Sum.inl (cM, 4, Sum.inr (Sum.inr (Sum.inr (Sum.inr (va_up (va_up (va_up (va_up (fun _ => none) 0 (some q45)) 1 (some q50)) 2 (some q55)) 3 (some q60))))))) : Nat × va_E) := by rw [e_ws105]; exact gs_ne (by decide) f_20_ws104
                            clear f_20_ws104
                            have f_20_ws106 : ws106[20]? = some ((q42, Sum.inl (cM, 4, Sum.inr (Sum.inr (Sum.inr (Sum.inr (va_up (va_up (va_up (va_up (fun _ => none) 0 (some q45)) 1 (some q50)) 2 (some q55)) 3 (some q60))))))) : Nat × va_E) := by rw [e_ws106]; exact gs_ne (by decide) f_20_ws105
                            clear f_20_ws105
                            have f_21_ws49 : ws49[21]? = some ((q45, Sum.inr (5, [Value.int 0, Value.int 0, Value.int 0, Value.null])) : Nat × va_E) := by rw [e_ws49]; exact gs_ne (by decide) f_21_ws46
                            clear f_21_ws46
                            have f_21_ws51 : ws51[21]? = some ((q45, Sum.inr (5, [Value.int 0, Value.int 0, Value.int 0, Value.null])) : Nat × va_E) := by rw [e_ws51]; exact gs_app f_21_ws49
                            clear f_21_ws49
                            have f_21_ws54 : ws54[21]? = some ((q45, Sum.inr (5, [Value.int 0, Value.int 0, Value.int 0, Value.null])) : Nat × va_E) := by rw [e_ws54]; exact gs_ne (by decide) f_21_ws51
                            clear f_21_ws51
                            have f_21_ws56 : ws56[21]? = some ((q45, Sum.inr (5, [Value.int 0, Value.int 0, Value.int 0, Value.null])) : Nat × va_E) := by rw [e_ws56]; exact gs_app f_21_ws54
                            clear f_21_ws54
                            have f_21_ws59 : ws59[21]? = some ((q45, Sum.inr (5, [Value.int 0, Value.int 0, Value.int 0, Value.null])) : Nat × va_E) := by rw [e_ws59]; exact gs_ne (by decide) f_21_ws56
                            clear f_21_ws56
                            have f_21_ws61 : ws61[21]? = some ((q45, Sum.inr (5, [Value.int 0, Value.int 0, Value.int 0, Value.null])) : Nat × va_E) := by rw [e_ws61]; exact gs_app f_21_ws59
                            clear f_21_ws59
                            have f_21_ws64 : ws64[21]? = some ((q45, Sum.inr (5, [Value.int 0, Value.int 0, Value.int 0, Value.null])) : Nat × va_E) := by rw [e_ws64]; exact gs_ne (by decide) f_21_ws61
                            clear f_21_ws61
                            have f_21_ws66 : ws66[21]? = some ((q45, Sum.inr (5, [Value.int 0, Value.int 0, Value.int 0, Value.null])) : Nat × va_E) := by rw [e_ws66]; exact gs_app f_21_ws64
                            clear f_21_ws64
                            have f_21_ws67 : ws67[21]? = some ((q45, Sum.inr (5, [Value.int 0, Value.int 0, Value.int 0, Value.null])) : Nat × va_E) := by rw [e_ws67]; exact gs_ne (by decide) f_21_ws66
                            clear f_21_ws66
                            have f_21_ws69 : ws69[21]? = some ((q45, Sum.inr (5, [Value.int 0, Value.int 0, Value.int 0, Value.null])) : Nat × va_E) := by rw [e_ws69]; exact gs_app f_21_ws67
                            clear f_21_ws67
                            have f_21_ws71 : ws71[21]? = some ((q45, Sum.inr (5, [Value.int 0, Value.int 0, Value.int 0, Value.null])) : Nat × va_E) := e_ws71.at (by first | decide | (simp; done) | (simp; omega)) f_21_ws69
                            clear f_21_ws69
                            have f_21_ws76 : ws76[21]? = some ((q45, Sum.inr (5, [Value.int 0, Value.int 0, Value.int 0, Value.null])) : Nat × va_E) := by rw [e_ws76]; exact gs_ne (by decide) f_21_ws71
                            clear f_21_ws71
                            have f_21_ws78 : ws78[21]? = some ((q45, Sum.inr (5, [Value.int 0, Value.int 0, Value.int 0, Value.null])) : Nat × va_E) := by rw [e_ws78]; exact gs_app f_21_ws76
                            clear f_21_ws76
                            have f_21_ws80 : ws80[21]? = some ((q45, Sum.inr (5, [Value.int 0, Value.int 0, Value.int 0, Value.null])) : Nat × va_E) := e_ws80.at (by first | decide | (simp; done) | (simp; omega)) f_21_ws78
                            clear f_21_ws78
                            have f_21_ws85 : ws85[21]? = some ((q45, Sum.inr (5, [Value.int 0, Value.int 0, Value.int 0, Value.null])) : Nat × va_E) := by rw [e_ws85]; exact gs_ne (by decide) f_21_ws80
                            clear f_21_ws80
                            have f_21_ws87 : ws87[21]? = some ((q45, Sum.inr (5, [Value.int 0, Value.int 0, Value.int 0, Value.null])) : Nat × va_E) := by rw [e_ws87]; exact gs_app f_21_ws85
                            clear f_21_ws85
                            have f_21_ws89 : ws89[21]? = some ((q45, Sum.inr (5, [Value.int 0, Value.int 0, Value.int 0, Value.null])) : Nat × va_E) := e_ws89.at (by first | decide | (simp; done) | (simp; omega)) f_21_ws87
                            clear f_21_ws87
                            have f_21_ws94 : ws94[21]? = some ((q45, Sum.inr (5, [Value.int 0, Value.int 0, Value.int 0, Value.null])) : Nat × va_E) := by rw [e_ws94]; exact gs_ne (by decide) f_21_ws89
                            clear f_21_ws89
                            have f_21_ws96 : ws96[21]? = some ((q45, Sum.inr (5, [Value.int 0, Value.int 0, Value.int 0, Value.null])) : Nat × va_E) := by rw [e_ws96]; exact gs_app f_21_ws94
                            clear f_21_ws94
                            have f_21_ws98 : ws98[21]? = some ((q45, Sum.inr (5, [Value.int 0, Value.int 0, Value.int 0, Value.null])) : Nat × va_E) := e_ws98.at (by first | decide | (simp; done) | (simp; omega)) f_21_ws96
                            clear f_21_ws96
                            have f_21_ws103 : ws103[21]? = some ((q45, Sum.inr (5, [Value.int 0, Value.int 0, Value.int 0, Value.null])) : Nat × va_E) := by rw [e_ws103]; exact gs_ne (by decide) f_21_ws98
                            clear f_21_ws98
                            have f_21_ws104 : ws104[21]? = some ((q45, Sum.inr (5, [Value.int 0, Value.int 0, Value.int 0, Value.null])) : Nat × va_E) := by rw [e_ws104]; exact gs_ne (by decide) f_21_ws103
                            clear f_21_ws103
                            have f_21_ws105 : ws105[21]? = some ((q45, Sum.inr (5, [Value.int 0, Value.int 0, Value.int 0, Value.null])) : Nat × va_E) := by rw [e_ws105]; exact gs_ne (by decide) f_21_ws104
                            clear f_21_ws104
                            have f_21_ws106 : ws106[21]? = some ((q45, Sum.inr (5, [Value.int 0, Value.int 0, Value.int 0, Value.null])) : Nat × va_E) := by rw [e_ws106]; exact gs_ne (by decide) f_21_ws105
                            clear f_21_ws105
                            have f_22_ws54 : ws54[22]? = some ((q50, Sum.inr (5, [Value.int 0, Value.int 0, Value.int 0, Value.null])) : Nat × va_E) := by rw [e_ws54]; exact gs_ne (by decide) f_22_ws51
                            clear f_22_ws51
                            have f_22_ws56 : ws56[22]? = some ((q50, Sum.inr (5, [Value.int 0, Value.int 0, Value.int 0, Value.null])) : Nat × va_E) := by rw [e_ws56]; exact gs_app f_22_ws54
                            clear f_22_ws54
                            have f_22_ws59 : ws59[22]? = some ((q50, Sum.inr (5, [Value.int 0, Value.int 0, Value.int 0, Value.null])) : Nat × va_E) := by rw [e_ws59]; exact gs_ne (by decide) f_22_ws56
                            clear f_22_ws56
                            have f_22_ws61 : ws61[22]? = some ((q50, Sum.inr (5, [Value.int 0, Value.int 0, Value.int 0, Value.null])) : Nat × va_E) := by rw [e_ws61]; exact gs_app f_22_ws59
                            clear f_22_ws59
                            have f_22_ws64 : ws64[22]? = some ((q50, Sum.inr (5, [Value.int 0, Value.int 0, Value.int 0, Value.null])) : Nat × va_E) := by rw [e_ws64]; exact gs_ne (by decide) f_22_ws61
                            clear f_22_ws61
                            have f_22_ws66 : ws66[22]? = some ((q50, Sum.inr (5, [Value.int 0, Value.int 0, Value.int 0, Value.null])) : Nat × va_E) := by rw [e_ws66]; exact gs_app f_22_ws64
                            clear f_22_ws64
                            have f_22_ws67 : ws67[22]? = some ((q50, Sum.inr (5, [Value.int 0, Value.int 0, Value.int 0, Value.null])) : Nat × va_E) := by rw [e_ws67]; exact gs_ne (by decide) f_22_ws66
                            clear f_22_ws66
                            have f_22_ws69 : ws69[22]? = some ((q50, Sum.inr (5, [Value.int 0, Value.int 0, Value.int 0, Value.null])) : Nat × va_E) := by rw [e_ws69]; exact gs_app f_22_ws67
                            clear f_22_ws67
                            have f_22_ws71 : ws71[22]? = some ((q50, Sum.inr (5, [Value.int 0, Value.int 0, Value.int 0, Value.null])) : Nat × va_E) := e_ws71.at (by first | decide | (simp; done) | (simp; omega)) f_22_ws69
                            clear f_22_ws69
                            have f_22_ws76 : ws76[22]? = some ((q50, Sum.inr (5, [Value.int 0, Value.int 0, Value.int 0, Value.null])) : Nat × va_E) := by rw [e_ws76]; exact gs_ne (by decide) f_22_ws71
                            clear f_22_ws71
                            have f_22_ws78 : ws78[22]? = some ((q50, Sum.inr (5, [Value.int 0, Value.int 0, Value.int 0, Value.null])) : Nat × va_E) := by rw [e_ws78]; exact gs_app f_22_ws76
                            clear f_22_ws76
                            have f_22_ws80 : ws80[22]? = some ((q50, Sum.inr (5, [Value.int 0, Value.int 0, Value.int 0, Value.null])) : Nat × va_E) := e_ws80.at (by first | decide | (simp; done) | (simp; omega)) f_22_ws78
                            clear f_22_ws78
                            have f_22_ws85 : ws85[22]? = some ((q50, Sum.inr (5, [Value.int 0, Value.int 0, Value.int 0, Value.null])) : Nat × va_E) := by rw [e_ws85]; exact gs_ne (by decide) f_22_ws80
                            clear f_22_ws80
                            have f_22_ws87 : ws87[22]? = some ((q50, Sum.inr (5, [Value.int 0, Value.int 0, Value.int 0, Value.null])) : Nat × va_E) := by rw [e_ws87]; exact gs_app f_22_ws85
                            clear f_22_ws85
                            have f_22_ws89 : ws89[22]? = some ((q50, Sum.inr (5, [Value.int 0, Value.int 0, Value.int 0, Value.null])) : Nat × va_E) := e_ws89.at (by first | decide | (simp; done) | (simp; omega)) f_22_ws87
                            clear f_22_ws87
                            have f_22_ws94 : ws94[22]? = some ((q50, Sum.inr (5, [Value.int 0, Value.int 0, Value.int 0, Value.null])) : Nat × va_E) := by rw [e_ws94]; exact gs_ne (by decide) f_22_ws89
                            clear f_22_ws89
                            have f_22_ws96 : ws96[22]? = some ((q50, Sum.inr (5, [Value.int 0, Value.int 0, Value.int 0, Value.null])) : Nat × va_E) := by rw [e_ws96]; exact gs_app f_22_ws94
                            clear f_22_ws94
                            have f_22_ws98 : ws98[22]? = some ((q50, Sum.inr (5, [Value.int 0, Value.int 0, Value.int 0, Value.null])) : Nat × va_E) := e_ws98.at (by first | decide | (simp; done) | (simp; omega)) f_22_ws96
                            clear f_22_ws96
                            have f_22_ws103 : ws103[22]? = some ((q50, Sum.inr (5, [Value.int 0, Value.int 0, Value.int 0, Value.null])) : Nat × va_E) := by rw [e_ws103]; exact gs_ne (by decide) f_22_ws98
                            clear f_22_ws98
                            have f_22_ws104 : ws104[22]? = some ((q50, Sum.inr (5, [Value.int 0, Value.int 0, Value.int 0, Value.null])) : Nat × va_E) := by rw [e_ws104]; exact gs_ne (by decide) f_22_ws103
                            clear f_22_ws103
                            have f_22_ws105 : ws105[22]? = some ((q50, Sum.inr (5, [Value.int 0, Value.int 0, Value.int 0, Value.null])) : Nat × va_E) := by rw [e_ws105]; exact gs_ne (by decide) f_22_ws104
                            clear f_22_ws104
                            have f_22_ws106 : ws106[22]? = some ((q50, Sum.inr (5, [Value.int 0, Value.int 0, Value.int 0, Value.null])) : Nat × va_E) := by rw [e_ws106]; exact gs_ne (by decide) f_22_ws105
                            clear f_22_ws105
                            have f_23_ws59 : ws59[23]? = some ((q55, Sum.inr (5, [Value.int 0, Value.int 0, Value.int 0, Value.null])) : Nat × va_E) := by rw [e_ws59]; exact gs_ne (by decide) f_23_ws56
                            clear f_23_ws56
                            have f_23_ws61 : ws61[23]? = some ((q55, Sum.inr (5, [Value.int 0, Value.int 0, Value.int 0, Value.null])) : Nat × va_E) := by rw [e_ws61]; exact gs_app f_23_ws59
                            clear f_23_ws59
                            have f_23_ws64 : ws64[23]? = some ((q55, Sum.inr (5, [Value.int 0, Value.int 0, Value.int 0, Value.null])) : Nat × va_E) := by rw [e_ws64]; exact gs_ne (by decide) f_23_ws61
                            clear f_23_ws61
                            have f_23_ws66 : ws66[23]? = some ((q55, Sum.inr (5, [Value.int 0, Value.int 0, Value.int 0, Value.null])) : Nat × va_E) := by rw [e_ws66]; exact gs_app f_23_ws64
                            clear f_23_ws64
                            have f_23_ws67 : ws67[23]? = some ((q55, Sum.inr (5, [Value.int 0, Value.int 0, Value.int 0, Value.null])) : Nat × va_E) := by rw [e_ws67]; exact gs_ne (by decide) f_23_ws66
                            clear f_23_ws66
                            have f_23_ws69 : ws69[23]? = some ((q55, Sum.inr (5, [Value.int 0, Value.int 0, Value.int 0, Value.null])) : Nat × va_E) := by rw [e_ws69]; exact gs_app f_23_ws67
                            clear f_23_ws67
                            have f_23_ws71 : ws71[23]? = some ((q55, Sum.inr (5, [Value.int 0, Value.int 0, Value.int 0, Value.null])) : Nat × va_E) := e_ws71.at (by first | decide | (simp; done) | (simp; omega)) f_23_ws69
                            clear f_23_ws69
                            have f_23_ws76 : ws76[23]? = some ((q55, Sum.inr (5, [Value.int 0, Value.int 0, Value.int 0, Value.null])) : Nat × va_E) := by rw [e_ws76]; exact gs_ne (by decide) f_23_ws71
                            clear f_23_ws71
                            have f_23_ws78 : ws78[23]? = some ((q55, Sum.inr (5, [Value.int 0, Value.int 0, Value.int 0, Value.null])) : Nat × va_E) := by rw [e_ws78]; exact gs_app f_23_ws76
                            clear f_23_ws76
                            have f_23_ws80 : ws80[23]? = some ((q55, Sum.inr (5, [Value.int 0, Value.int 0, Value.int 0, Value.null])) : Nat × va_E) := e_ws80.at (by first | decide | (simp; done) | (simp; omega)) f_23_ws78
                            clear f_23_ws78
                            have f_23_ws85 : ws85[23]? = some ((q55, Sum.inr (5, [Value.int 0, Value.int 0, Value.int 0, Value.null])) : Nat × va_E) := by rw [e_ws85]; exact gs_ne (by decide) f_23_ws80
                            clear f_23_ws80
                            have f_23_ws87 : ws87[23]? = some ((q55, Sum.inr (5, [Value.int 0, Value.int 0, Value.int 0, Value.null])) : Nat × va_E) := by rw [e_ws87]; exact gs_app f_23_ws85
                            clear f_23_ws85
                            have f_23_ws89 : ws89[23]? = some ((q55, Sum.inr (5, [Value.int 0, Value.int 0, Value.int 0, Value.null])) : Nat × va_E) := e_ws89.at (by first | decide | (simp; done) | (simp; omega)) f_23_ws87
                            clear f_23_ws87
                            have f_23_ws94 : ws94[23]? = some ((q55, Sum.inr (5, [Value.int 0, Value.int 0, Value.int 0, Value.null])) : Nat × va_E) := by rw [e_ws94]; exact gs_ne (by decide) f_23_ws89
                            clear f_23_ws89
                            have f_23_ws96 : ws96[23]? = some ((q55, Sum.inr (5, [Value.int 0, Value.int 0, Value.int 0, Value.null])) : Nat × va_E) := by rw [e_ws96]; exact gs_app f_23_ws94
                            clear f_23_ws94
                            have f_23_ws98 : ws98[23]? = some ((q55, Sum.inr (5, [Value.int 0, Value.int 0, Value.int 0, Value.null])) : Nat × va_E) := e_ws98.at (by first | decide | (simp; done) | (simp; omega)) f_23_ws96
                            clear f_23_ws96
                            have f_23_ws103 : ws103[23]? = some ((q55, Sum.inr (5, [Value.int 0, Value.int 0, Value.int 0, Value.null])) : Nat × va_E) := by rw [e_ws103]; exact gs_ne (by decide) f_23_ws98
                            clear f_23_ws98
                            have f_23_ws104 : ws104[23]? = some ((q55, Sum.inr (5, [Value.int 0, Value.int 0, Value.int 0, Value.null])) : Nat × va_E) := by rw [e_ws104]; exact gs_ne (by decide) f_23_ws103
                            clear f_23_ws103
                            have f_23_ws105 : ws105[23]? = some ((q55, Sum.inr (5, [Value.int 0, Value.int 0, Value.int 0, Value.null])) : Nat × va_E) := by rw [e_ws105]; exact gs_ne (by decide) f_23_ws104
                            clear f_23_ws104
                            have f_23_ws106 : ws106[23]? = some ((q55, Sum.inr (5, [Value.int 0, Value.int 0, Value.int 0, Value.null])) : Nat × va_E) := by rw [e_ws106]; exact gs_ne (by decide) f_23_ws105
                            clear f_23_ws105
                            have f_24_ws64 : ws64[24]? = some ((q60, Sum.inr (5, [Value.int 0, Value.int 0, Value.int 0, Value.null])) : Nat × va_E) := by rw [e_ws64]; exact gs_ne (by decide) f_24_ws61
                            clear f_24_ws61
                            have f_24_ws66 : ws66[24]? = some ((q60, Sum.inr (5, [Value.int 0, Value.int 0, Value.int 0, Value.null])) : Nat × va_E) := by rw [e_ws66]; exact gs_app f_24_ws64
                            clear f_24_ws64
                            have f_24_ws67 : ws67[24]? = some ((q60, Sum.inr (5, [Value.int 0, Value.int 0, Value.int 0, Value.null])) : Nat × va_E) := by rw [e_ws67]; exact gs_ne (by decide) f_24_ws66
                            clear f_24_ws66
                            have f_24_ws69 : ws69[24]? = some ((q60, Sum.inr (5, [Value.int 0, Value.int 0, Value.int 0, Value.null])) : Nat × va_E) := by rw [e_ws69]; exact gs_app f_24_ws67
                            clear f_24_ws67
                            have f_24_ws71 : ws71[24]? = some ((q60, Sum.inr (5, [Value.int 0, Value.int 0, Value.int 0, Value.null])) : Nat × va_E) := e_ws71.at (by first | decide | (simp; done) | (simp; omega)) f_24_ws69
                            clear f_24_ws69
                            have f_24_ws76 : ws76[24]? = some ((q60, Sum.inr (5, [Value.int 0, Value.int 0, Value.int 0, Value.null])) : Nat × va_E) := by rw [e_ws76]; exact gs_ne (by decide) f_24_ws71
                            clear f_24_ws71
                            have f_24_ws78 : ws78[24]? = some ((q60, Sum.inr (5, [Value.int 0, Value.int 0, Value.int 0, Value.null])) : Nat × va_E) := by rw [e_ws78]; exact gs_app f_24_ws76
                            clear f_24_ws76
                            have f_24_ws80 : ws80[24]? = some ((q60, Sum.inr (5, [Value.int 0, Value.int 0, Value.int 0, Value.null])) : Nat × va_E) := e_ws80.at (by first | decide | (simp; done) | (simp; omega)) f_24_ws78
                            clear f_24_ws78
                            have f_24_ws85 : ws85[24]? = some ((q60, Sum.inr (5, [Value.int 0, Value.int 0, Value.int 0, Value.null])) : Nat × va_E) := by rw [e_ws85]; exact gs_ne (by decide) f_24_ws80
                            clear f_24_ws80
                            have f_24_ws87 : ws87[24]? = some ((q60, Sum.inr (5, [Value.int 0, Value.int 0, Value.int 0, Value.null])) : Nat × va_E) := by rw [e_ws87]; exact gs_app f_24_ws85
                            clear f_24_ws85
                            have f_24_ws89 : ws89[24]? = some ((q60, Sum.inr (5, [Value.int 0, Value.int 0, Value.int 0, Value.null])) : Nat × va_E) := e_ws89.at (by first | decide | (simp; done) | (simp; omega)) f_24_ws87
                            clear f_24_ws87
                            have f_24_ws94 : ws94[24]? = some ((q60, Sum.inr (5, [Value.int 0, Value.int 0, Value.int 0, Value.null])) : Nat × va_E) := by rw [e_ws94]; exact gs_ne (by decide) f_24_ws89
                            clear f_24_ws89
                            have f_24_ws96 : ws96[24]? = some ((q60, Sum.inr (5, [Value.int 0, Value.int 0, Value.int 0, Value.null])) : Nat × va_E) := by rw [e_ws96]; exact gs_app f_24_ws94
                            clear f_24_ws94
                            have f_24_ws98 : ws98[24]? = some ((q60, Sum.inr (5, [Value.int 0, Value.int 0, Value.int 0, Value.null])) : Nat × va_E) := e_ws98.at (by first | decide | (simp; done) | (simp; omega)) f_24_ws96
                            clear f_24_ws96
                            have f_24_ws103 : ws103[24]? = some ((q60, Sum.inr (5, [Value.int 0, Value.int 0, Value.int 0, Value.null])) : Nat × va_E) := by rw [e_ws103]; exact gs_ne (by decide) f_24_ws98
                            clear f_24_ws98
                            have f_24_ws104 : ws104[24]? = some ((q60, Sum.inr (5, [Value.int 0, Value.int 0, Value.int 0, Value.null])) : Nat × va_E) := by rw [e_ws104]; exact gs_ne (by decide) f_24_ws103
                            clear f_24_ws103
                            have f_24_ws105 : ws105[24]? = some ((q60, Sum.inr (5, [Value.int 0, Value.int 0, Value.int 0, Value.null])) : Nat × va_E) := by rw [e_ws105]; exact gs_ne (by decide) f_24_ws104
                            clear f_24_ws104
                            have f_24_ws106 : ws106[24]? = some ((q60, Sum.inr (5, [Value.int 0, Value.int 0, Value.int 0, Value.null])) : Nat × va_E) := by rw [e_ws106]; exact gs_ne (by decide) f_24_ws105
                            clear f_24_ws105
                            have f_25_ws104 : ws104[25]? = some ((q65, Sum.inl (cR, 4, Sum.inr (Sum.inr (Sum.inr (Sum.inr (va_up (va_up (va_up (va_up (fun _ => none) 0 (some q68)) 1 (some q77)) 2 (some q86)) 3 (some q95))))))) : Nat × va_E) := by rw [e_ws104]; exact gs_ne (by decide) f_25_ws103
                            clear f_25_ws103
                            have f_25_ws105 : ws105[25]? = some ((q65, Sum.inl (cR, 4, Sum.inr (Sum.inr (Sum.inr (Sum.inr (va_up (va_up (va_up (va_up (fun _ => none) 0 (some q68)) 1 (some q77)) 2 (some q86)) 3 (some q95))))))) : Nat × va_E) := by rw [e_ws105]; exact gs_ne (by decide) f_25_ws104
                            clear f_25_ws104
                            have f_25_ws106 : ws106[25]? = some ((q65, Sum.inl (cR, 4, Sum.inr (Sum.inr (Sum.inr (Sum.inr (va_up (va_up (va_up (va_up (fun _ => none) 0 (some q68)) 1 (some q77)) 2 (some q86)) 3 (some q95))))))) : Nat × va_E) := by rw [e_ws106]; exact gs_ne (by decide) f_25_ws105
                            clear f_25_ws105
                            have f_26_ws76 : ws76[26]? = some ((q68, Sum.inr (6, [Value.ref q72, Value.int 0, Value.int 0])) : Nat × va_E) := by rw [e_ws76]; exact gs_ne (by decide) f_26_ws71
                            clear f_26_ws71
                            have f_26_ws78 : ws78[26]? = some ((q68, Sum.inr (6, [Value.ref q72, Value.int 0, Value.int 0])) : Nat × va_E) := by rw [e_ws78]; exact gs_app f_26_ws76
                            clear f_26_ws76
                            have f_26_ws80 : ws80[26]? = some ((q68, Sum.inr (6, [Value.ref q72, Value.int 0, Value.int 0])) : Nat × va_E) := e_ws80.at (by first | decide | (simp; done) | (simp; omega)) f_26_ws78
                            clear f_26_ws78
                            have f_26_ws85 : ws85[26]? = some ((q68, Sum.inr (6, [Value.ref q72, Value.int 0, Value.int 0])) : Nat × va_E) := by rw [e_ws85]; exact gs_ne (by decide) f_26_ws80
                            clear f_26_ws80
                            have f_26_ws87 : ws87[26]? = some ((q68, Sum.inr (6, [Value.ref q72, Value.int 0, Value.int 0])) : Nat × va_E) := by rw [e_ws87]; exact gs_app f_26_ws85
                            clear f_26_ws85
                            have f_26_ws89 : ws89[26]? = some ((q68, Sum.inr (6, [Value.ref q72, Value.int 0, Value.int 0])) : Nat × va_E) := e_ws89.at (by first | decide | (simp; done) | (simp; omega)) f_26_ws87
                            clear f_26_ws87
                            have f_26_ws94 : ws94[26]? = some ((q68, Sum.inr (6, [Value.ref q72, Value.int 0, Value.int 0])) : Nat × va_E) := by rw [e_ws94]; exact gs_ne (by decide) f_26_ws89
                            clear f_26_ws89
                            have f_26_ws96 : ws96[26]? = some ((q68, Sum.inr (6, [Value.ref q72, Value.int 0, Value.int 0])) : Nat × va_E) := by rw [e_ws96]; exact gs_app f_26_ws94
                            clear f_26_ws94
                            have f_26_ws98 : ws98[26]? = some ((q68, Sum.inr (6, [Value.ref q72, Value.int 0, Value.int 0])) : Nat × va_E) := e_ws98.at (by first | decide | (simp; done) | (simp; omega)) f_26_ws96
                            clear f_26_ws96
                            have f_26_ws103 : ws103[26]? = some ((q68, Sum.inr (6, [Value.ref q72, Value.int 0, Value.int 0])) : Nat × va_E) := by rw [e_ws103]; exact gs_ne (by decide) f_26_ws98
                            clear f_26_ws98
                            have f_26_ws104 : ws104[26]? = some ((q68, Sum.inr (6, [Value.ref q72, Value.int 0, Value.int 0])) : Nat × va_E) := by rw [e_ws104]; exact gs_ne (by decide) f_26_ws103
                            clear f_26_ws103
                            have f_26_ws105 : ws105[26]? = some ((q68, Sum.inr (6, [Value.ref q72, Value.int 0, Value.int 0])) : Nat × va_E) := by rw [e_ws105]; exact gs_ne (by decide) f_26_ws104
                            clear f_26_ws104
                            have f_26_ws106 : ws106[26]? = some ((q68, Sum.inr (6, [Value.ref q72, Value.int 0, Value.int 0])) : Nat × va_E) := by rw [e_ws106]; exact gs_ne (by decide) f_26_ws105
                            clear f_26_ws105
                            have f_27_ws76 : ws76[27]? = some ((q72, Sum.inr (4, [Value.ref q73, Value.ref q74, Value.ref q75, Value.null, Value.int 0, Value.int 0])) : Nat × va_E) := by rw [e_ws76]; exact gs_ne (by decide) f_27_ws71
                            clear f_27_ws71
                            have f_27_ws78 : ws78[27]? = some ((q72, Sum.inr (4, [Value.ref q73, Value.ref q74, Value.ref q75, Value.null, Value.int 0, Value.int 0])) : Nat × va_E) := by rw [e_ws78]; exact gs_app f_27_ws76
                            clear f_27_ws76
                            have f_27_ws80 : ws80[27]? = some ((q72, Sum.inr (4, [Value.ref q73, Value.ref q74, Value.ref q75, Value.null, Value.int 0, Value.int 0])) : Nat × va_E) := e_ws80.at (by first | decide | (simp; done) | (simp; omega)) f_27_ws78
                            clear f_27_ws78
                            have f_27_ws85 : ws85[27]? = some ((q72, Sum.inr (4, [Value.ref q73, Value.ref q74, Value.ref q75, Value.null, Value.int 0, Value.int 0])) : Nat × va_E) := by rw [e_ws85]; exact gs_ne (by decide) f_27_ws80
                            clear f_27_ws80
                            have f_27_ws87 : ws87[27]? = some ((q72, Sum.inr (4, [Value.ref q73, Value.ref q74, Value.ref q75, Value.null, Value.int 0, Value.int 0])) : Nat × va_E) := by rw [e_ws87]; exact gs_app f_27_ws85
                            clear f_27_ws85
                            have f_27_ws89 : ws89[27]? = some ((q72, Sum.inr (4, [Value.ref q73, Value.ref q74, Value.ref q75, Value.null, Value.int 0, Value.int 0])) : Nat × va_E) := e_ws89.at (by first | decide | (simp; done) | (simp; omega)) f_27_ws87
                            clear f_27_ws87
                            have f_27_ws94 : ws94[27]? = some ((q72, Sum.inr (4, [Value.ref q73, Value.ref q74, Value.ref q75, Value.null, Value.int 0, Value.int 0])) : Nat × va_E) := by rw [e_ws94]; exact gs_ne (by decide) f_27_ws89
                            clear f_27_ws89
                            have f_27_ws96 : ws96[27]? = some ((q72, Sum.inr (4, [Value.ref q73, Value.ref q74, Value.ref q75, Value.null, Value.int 0, Value.int 0])) : Nat × va_E) := by rw [e_ws96]; exact gs_app f_27_ws94
                            clear f_27_ws94
                            have f_27_ws98 : ws98[27]? = some ((q72, Sum.inr (4, [Value.ref q73, Value.ref q74, Value.ref q75, Value.null, Value.int 0, Value.int 0])) : Nat × va_E) := e_ws98.at (by first | decide | (simp; done) | (simp; omega)) f_27_ws96
                            clear f_27_ws96
                            have f_27_ws103 : ws103[27]? = some ((q72, Sum.inr (4, [Value.ref q73, Value.ref q74, Value.ref q75, Value.null, Value.int 0, Value.int 0])) : Nat × va_E) := by rw [e_ws103]; exact gs_ne (by decide) f_27_ws98
                            clear f_27_ws98
                            have f_27_ws104 : ws104[27]? = some ((q72, Sum.inr (4, [Value.ref q73, Value.ref q74, Value.ref q75, Value.null, Value.int 0, Value.int 0])) : Nat × va_E) := by rw [e_ws104]; exact gs_ne (by decide) f_27_ws103
                            clear f_27_ws103
                            have f_27_ws105 : ws105[27]? = some ((q72, Sum.inr (4, [Value.ref q73, Value.ref q74, Value.ref q75, Value.null, Value.int 0, Value.int 0])) : Nat × va_E) := by rw [e_ws105]; exact gs_ne (by decide) f_27_ws104
                            clear f_27_ws104
                            have f_27_ws106 : ws106[27]? = some ((q72, Sum.inr (4, [Value.ref q73, Value.ref q74, Value.ref q75, Value.null, Value.int 0, Value.int 0])) : Nat × va_E) := by rw [e_ws106]; exact gs_ne (by decide) f_27_ws105
                            clear f_27_ws105
                            have f_28_ws76 : ws76[28]? = some ((q73, Sum.inl (cF, 4096, Sum.inr (Sum.inr (Sum.inr (Sum.inr (fun _ => none)))))) : Nat × va_E) := by rw [e_ws76]; exact gs_ne (by decide) f_28_ws71
                            clear f_28_ws71
                            have f_28_ws78 : ws78[28]? = some ((q73, Sum.inl (cF, 4096, Sum.inr (Sum.inr (Sum.inr (Sum.inr (fun _ => none)))))) : Nat × va_E) := by rw [e_ws78]; exact gs_app f_28_ws76
                            clear f_28_ws76
                            have f_28_ws80 : ws80[28]? = some ((q73, Sum.inl (cF, 4096, Sum.inr (Sum.inr (Sum.inr (Sum.inr (fun _ => none)))))) : Nat × va_E) := e_ws80.at (by first | decide | (simp; done) | (simp; omega)) f_28_ws78
                            clear f_28_ws78
                            have f_28_ws85 : ws85[28]? = some ((q73, Sum.inl (cF, 4096, Sum.inr (Sum.inr (Sum.inr (Sum.inr (fun _ => none)))))) : Nat × va_E) := by rw [e_ws85]; exact gs_ne (by decide) f_28_ws80
                            clear f_28_ws80
                            have f_28_ws87 : ws87[28]? = some ((q73, Sum.inl (cF, 4096, Sum.inr (Sum.inr (Sum.inr (Sum.inr (fun _ => none)))))) : Nat × va_E) := by rw [e_ws87]; exact gs_app f_28_ws85
                            clear f_28_ws85
                            have f_28_ws89 : ws89[28]? = some ((q73, Sum.inl (cF, 4096, Sum.inr (Sum.inr (Sum.inr (Sum.inr (fun _ => none)))))) : Nat × va_E) := e_ws89.at (by first | decide | (simp; done) | (simp; omega)) f_28_ws87
                            clear f_28_ws87
                            have f_28_ws94 : ws94[28]? = some ((q73, Sum.inl (cF, 4096, Sum.inr (Sum.inr (Sum.inr (Sum.inr (fun _ => none)))))) : Nat × va_E) := by rw [e_ws94]; exact gs_ne (by decide) f_28_ws89
                            clear f_28_ws89
                            have f_28_ws96 : ws96[28]? = some ((q73, Sum.inl (cF, 4096, Sum.inr (Sum.inr (Sum.inr (Sum.inr (fun _ => none)))))) : Nat × va_E) := by rw [e_ws96]; exact gs_app f_28_ws94
                            clear f_28_ws94
                            have f_28_ws98 : ws98[28]? = some ((q73, Sum.inl (cF, 4096, Sum.inr (Sum.inr (Sum.inr (Sum.inr (fun _ => none)))))) : Nat × va_E) := e_ws98.at (by first | decide | (simp; done) | (simp; omega)) f_28_ws96
                            clear f_28_ws96
                            have f_28_ws103 : ws103[28]? = some ((q73, Sum.inl (cF, 4096, Sum.inr (Sum.inr (Sum.inr (Sum.inr (fun _ => none)))))) : Nat × va_E) := by rw [e_ws103]; exact gs_ne (by decide) f_28_ws98
                            clear f_28_ws98
                            have f_28_ws104 : ws104[28]? = some ((q73, Sum.inl (cF, 4096, Sum.inr (Sum.inr (Sum.inr (Sum.inr (fun _ => none)))))) : Nat × va_E) := by rw [e_ws104]; exact gs_ne (by decide) f_28_ws103
                            clear f_28_ws103
                            have f_28_ws105 : ws105[28]? = some ((q73, Sum.inl (cF, 4096, Sum.inr (Sum.inr (Sum.inr (Sum.inr (fun _ => none)))))) : Nat × va_E) := by rw [e_ws105]; exact gs_ne (by decide) f_28_ws104
                            clear f_28_ws104
                            have f_28_ws106 : ws106[28]? = some ((q73, Sum.inl (cF, 4096, Sum.inr (Sum.inr (Sum.inr (Sum.inr (fun _ => none)))))) : Nat × va_E) := by rw [e_ws106]; exact gs_ne (by decide) f_28_ws105
                            clear f_28_ws105
                            have f_29_ws76 : ws76[29]? = some ((q74, Sum.inl (cF, 4096, Sum.inr (Sum.inr (Sum.inr (Sum.inr (fun _ => none)))))) : Nat × va_E) := by rw [e_ws76]; exact gs_ne (by decide) f_29_ws71
                            clear f_29_ws71
                            have f_29_ws78 : ws78[29]? = some ((q74, Sum.inl (cF, 4096, Sum.inr (Sum.inr (Sum.inr (Sum.inr (fun _ => none)))))) : Nat × va_E) := by rw [e_ws78]; exact gs_app f_29_ws76
                            clear f_29_ws76
                            have f_29_ws80 : ws80[29]? = some ((q74, Sum.inl (cF, 4096, Sum.inr (Sum.inr (Sum.inr (Sum.inr (fun _ => none)))))) : Nat × va_E) := e_ws80.at (by first | decide | (simp; done) | (simp; omega)) f_29_ws78
                            clear f_29_ws78
                            have f_29_ws85 : ws85[29]? = some ((q74, Sum.inl (cF, 4096, Sum.inr (Sum.inr (Sum.inr (Sum.inr (fun _ => none)))))) : Nat × va_E) := by rw [e_ws85]; exact gs_ne (by decide) f_29_ws80
                            clear f_29_ws80
                            have f_29_ws87 : ws87[29]? = some ((q74, Sum.inl (cF, 4096, Sum.inr (Sum.inr (Sum.inr (Sum.inr (fun _ => none)))))) : Nat × va_E) := by rw [e_ws87]; exact gs_app f_29_ws85
                            clear f_29_ws85
                            have f_29_ws89 : ws89[29]? = some ((q74, Sum.inl (cF, 4096, Sum.inr (Sum.inr (Sum.inr (Sum.inr (fun _ => none)))))) : Nat × va_E) := e_ws89.at (by first | decide | (simp; done) | (simp; omega)) f_29_ws87
                            clear f_29_ws87
                            have f_29_ws94 : ws94[29]? = some ((q74, Sum.inl (cF, 4096, Sum.inr (Sum.inr (Sum.inr (Sum.inr (fun _ => none)))))) : Nat × va_E) := by rw [e_ws94]; exact gs_ne (by decide) f_29_ws89
                            clear f_29_ws89
                            have f_29_ws96 : ws96[29]? = some ((q74, Sum.inl (cF, 4096, Sum.inr (Sum.inr (Sum.inr (Sum.inr (fun _ => none)))))) : Nat × va_E) := by rw [e_ws96]; exact gs_app f_29_ws94
                            clear f_29_ws94
                            have f_29_ws98 : ws98[29]? = some ((q74, Sum.inl (cF, 4096, Sum.inr (Sum.inr (Sum.inr (Sum.inr (fun _ => none)))))) : Nat × va_E) := e_ws98.at (by first | decide | (simp; done) | (simp; omega)) f_29_ws96
                            clear f_29_ws96
                            have f_29_ws103 : ws103[29]? = some ((q74, Sum.inl (cF, 4096, Sum.inr (Sum.inr (Sum.inr (Sum.inr (fun _ => none)))))) : Nat × va_E) := by rw [e_ws103]; exact gs_ne (by decide) f_29_ws98
                            clear f_29_ws98
                            have f_29_ws104 : ws104[29]? = some ((q74, Sum.inl (cF, 4096, Sum.inr (Sum.inr (Sum.inr (Sum.inr (fun _ => none)))))) : Nat × va_E) := by rw [e_ws104]; exact gs_ne (by decide) f_29_ws103
                            clear f_29_ws103
                            have f_29_ws105 : ws105[29]? = some ((q74, Sum.inl (cF, 4096, Sum.inr (Sum.inr (Sum.inr (Sum.inr (fun _ => none)))))) : Nat × va_E) := by rw [e_ws105]; exact gs_ne (by decide) f_29_ws104
                            clear f_29_ws104
                            have f_29_ws106 : ws106[29]? = some ((q74, Sum.inl (cF, 4096, Sum.inr (Sum.inr (Sum.inr (Sum.inr (fun _ => none)))))) : Nat × va_E) := by rw [e_ws106]; exact gs_ne (by decide) f_29_ws105
                            clear f_29_ws105
                            have f_30_ws76 : ws76[30]? = some ((q75, Sum.inl (cZ, 4096, Sum.inl (fun _ => 0))) : Nat × va_E) := by rw [e_ws76]; exact gs_ne (by decide) f_30_ws71
                            clear f_30_ws71
                            have f_30_ws78 : ws78[30]? = some ((q75, Sum.inl (cZ, 4096, Sum.inl (fun _ => 0))) : Nat × va_E) := by rw [e_ws78]; exact gs_app f_30_ws76
                            clear f_30_ws76
                            have f_30_ws80 : ws80[30]? = some ((q75, Sum.inl (cZ, 4096, Sum.inl (fun _ => 0))) : Nat × va_E) := e_ws80.at (by first | decide | (simp; done) | (simp; omega)) f_30_ws78
                            clear f_30_ws78
                            have f_30_ws85 : ws85[30]? = some ((q75, Sum.inl (cZ, 4096, Sum.inl (fun _ => 0))) : Nat × va_E) := by rw [e_ws85]; exact gs_ne (by decide) f_30_ws80
                            clear f_30_ws80
                            have f_30_ws87 : ws87[30]? = some ((q75, Sum.inl (cZ, 4096, Sum.inl (fun _ => 0))) : Nat × va_E) := by rw [e_ws87]; exact gs_app f_30_ws85
                            clear f_30_ws85
                            have f_30_ws89 : ws89[30]? = some ((q75, Sum.inl (cZ, 4096, Sum.inl (fun _ => 0))) : Nat × va_E) := e_ws89.at (by first | decide | (simp; done) | (simp; omega)) f_30_ws87
                            clear f_30_ws87
                            have f_30_ws94 : ws94[30]? = some ((q75, Sum.inl (cZ, 4096, Sum.inl (fun _ => 0))) : Nat × va_E) := by rw [e_ws94]; exact gs_ne (by decide) f_30_ws89
                            clear f_30_ws89
                            have f_30_ws96 : ws96[30]? = some ((q75, Sum.inl (cZ, 4096, Sum.inl (fun _ => 0))) : Nat × va_E) := by rw [e_ws96]; exact gs_app f_30_ws94
                            clear f_30_ws94
                            have f_30_ws98 : ws98[30]? = some ((q75, Sum.inl (cZ, 4096, Sum.inl (fun _ => 0))) : Nat × va_E) := e_ws98.at (by first | decide | (simp; done) | (simp; omega)) f_30_ws96
                            clear f_30_ws96
                            have f_30_ws103 : ws103[30]? = some ((q75, Sum.inl (cZ, 4096, Sum.inl (fun _ => 0))) : Nat × va_E) := by rw [e_ws103]; exact gs_ne (by decide) f_30_ws98
                            clear f_30_ws98
                            have f_30_ws104 : ws104[30]? = some ((q75, Sum.inl (cZ, 4096, Sum.inl (fun _ => 0))) : Nat × va_E) := by rw [e_ws104]; exact gs_ne (by decide) f_30_ws103
                            clear f_30_ws103
                            have f_30_ws105 : ws105[30]? = some ((q75, Sum.inl (cZ, 4096, Sum.inl (fun _ => 0))) : Nat × va_E) := by rw [e_ws105]; exact gs_ne (by decide) f_30_ws104
                            clear f_30_ws104
                            have f_30_ws106 : ws106[30]? = some ((q75, Sum.inl (cZ, 4096, Sum.inl (fun _ => 0))) : Nat × va_E) := by rw [e_ws106]; exact gs_ne (by decide) f_30_ws105
                            clear f_30_ws105
                            have f_31_ws85 : ws85[31]? = some ((q77, Sum.inr (6, [Value.ref q81, Value.int 0, Value.int 0])) : Nat × va_E) := by rw [e_ws85]; exact gs_ne (by decide) f_31_ws80
                            clear f_31_ws80
                            have f_31_ws87 : ws87[31]? = some ((q77, Sum.inr (6, [Value.ref q81, Value.int 0, Value.int 0])) : Nat × va_E) := by rw [e_ws87]; exact gs_app f_31_ws85
                            clear f_31_ws85
                            have f_31_ws89 : ws89[31]? = some ((q77, Sum.inr (6, [Value.ref q81, Value.int 0, Value.int 0])) : Nat × va_E) := e_ws89.at (by first | decide | (simp; done) | (simp; omega)) f_31_ws87
                            clear f_31_ws87
                            have f_31_ws94 : ws94[31]? = some ((q77, Sum.inr (6, [Value.ref q81, Value.int 0, Value.int 0])) : Nat × va_E) := by rw [e_ws94]; exact gs_ne (by decide) f_31_ws89
                            clear f_31_ws89
                            have f_31_ws96 : ws96[31]? = some ((q77, Sum.inr (6, [Value.ref q81, Value.int 0, Value.int 0])) : Nat × va_E) := by rw [e_ws96]; exact gs_app f_31_ws94
                            clear f_31_ws94
                            have f_31_ws98 : ws98[31]? = some ((q77, Sum.inr (6, [Value.ref q81, Value.int 0, Value.int 0])) : Nat × va_E) := e_ws98.at (by first | decide | (simp; done) | (simp; omega)) f_31_ws96
                            clear f_31_ws96
                            have f_31_ws103 : ws103[31]? = some ((q77, Sum.inr (6, [Value.ref q81, Value.int 0, Value.int 0])) : Nat × va_E) := by rw [e_ws103]; exact gs_ne (by decide) f_31_ws98
                            clear f_31_ws98
                            have f_31_ws104 : ws104[31]? = some ((q77, Sum.inr (6, [Value.ref q81, Value.int 0, Value.int 0])) : Nat × va_E) := by rw [e_ws104]; exact gs_ne (by decide) f_31_ws103
                            clear f_31_ws103
                            have f_31_ws105 : ws105[31]? = some ((q77, Sum.inr (6, [Value.ref q81, Value.int 0, Value.int 0])) : Nat × va_E) := by rw [e_ws105]; exact gs_ne (by decide) f_31_ws104
                            clear f_31_ws104
                            have f_31_ws106 : ws106[31]? = some ((q77, Sum.inr (6, [Value.ref q81, Value.int 0, Value.int 0])) : Nat × va_E) := by rw [e_ws106]; exact gs_ne (by decide) f_31_ws105
                            clear f_31_ws105
                            have f_32_ws85 : ws85[32]? = some ((q81, Sum.inr (4, [Value.ref q82, Value.ref q83, Value.ref q84, Value.null, Value.int 0, Value.int 0])) : Nat × va_E) := by rw [e_ws85]; exact gs_ne (by decide) f_32_ws80
                            clear f_32_ws80
                            have f_32_ws87 : ws87[32]? = some ((q81, Sum.inr (4, [Value.ref q82, Value.ref q83, Value.ref q84, Value.null, Value.int 0, Value.int 0])) : Nat × va_E) := by rw [e_ws87]; exact gs_app f_32_ws85
                            clear f_32_ws85
                            have f_32_ws89 : ws89[32]? = some ((q81, Sum.inr (4, [Value.ref q82, Value.ref q83, Value.ref q84, Value.null, Value.int 0, Value.int 0])) : Nat × va_E) := e_ws89.at (by first | decide | (simp; done) | (simp; omega)) f_32_ws87
                            clear f_32_ws87
                            have f_32_ws94 : ws94[32]? = some ((q81, Sum.inr (4, [Value.ref q82, Value.ref q83, Value.ref q84, Value.null, Value.int 0, Value.int 0])) : Nat × va_E) := by rw [e_ws94]; exact gs_ne (by decide) f_32_ws89
                            clear f_32_ws89
                            have f_32_ws96 : ws96[32]? = some ((q81, Sum.inr (4, [Value.ref q82, Value.ref q83, Value.ref q84, Value.null, Value.int 0, Value.int 0])) : Nat × va_E) := by rw [e_ws96]; exact gs_app f_32_ws94
                            clear f_32_ws94
                            have f_32_ws98 : ws98[32]? = some ((q81, Sum.inr (4, [Value.ref q82, Value.ref q83, Value.ref q84, Value.null, Value.int 0, Value.int 0])) : Nat × va_E) := e_ws98.at (by first | decide | (simp; done) | (simp; omega)) f_32_ws96
                            clear f_32_ws96
                            have f_32_ws103 : ws103[32]? = some ((q81, Sum.inr (4, [Value.ref q82, Value.ref q83, Value.ref q84, Value.null, Value.int 0, Value.int 0])) : Nat × va_E) := by rw [e_ws103]; exact gs_ne (by decide) f_32_ws98
                            clear f_32_ws98
                            have f_32_ws104 : ws104[32]? = some ((q81, Sum.inr (4, [Value.ref q82, Value.ref q83, Value.ref q84, Value.null, Value.int 0, Value.int 0])) : Nat × va_E) := by rw [e_ws104]; exact gs_ne (by decide) f_32_ws103
                            clear f_32_ws103
                            have f_32_ws105 : ws105[32]? = some ((q81, Sum.inr (4, [Value.ref q82, Value.ref q83, Value.ref q84, Value.null, Value.int 0, Value.int 0])) : Nat × va_E) := by rw [e_ws105]; exact gs_ne (by decide) f_32_ws104
                            clear f_32_ws104
                            have f_32_ws106 : ws106[32]? = some ((q81, Sum.inr (4, [Value.ref q82, Value.ref q83, Value.ref q84, Value.null, Value.int 0, Value.int 0])) : Nat × va_E) := by rw [e_ws106]; exact gs_ne (by decide) f_32_ws105
                            clear f_32_ws105
                            have f_33_ws85 : ws85[33]? = some ((q82, Sum.inl (cF, 4096, Sum.inr (Sum.inr (Sum.inr (Sum.inr (fun _ => none)))))) : Nat × va_E) := by rw [e_ws85]; exact gs_ne (by decide) f_33_ws80
                            clear f_33_ws80
                            have f_33_ws87 : ws87[33]? = some ((q82, Sum.inl (cF, 4096, Sum.inr (Sum.inr (Sum.inr (Sum.inr (fun _ => none)))))) : Nat × va_E) := by rw [e_ws87]; exact gs_app f_33_ws85
                            clear f_33_ws85
                            have f_33_ws89 : ws89[33]? = some ((q82, Sum.inl (cF, 4096, Sum.inr (Sum.inr (Sum.inr (Sum.inr (fun _ => none)))))) : Nat × va_E) := e_ws89.at (by first | decide | (simp; done) | (simp; omega)) f_33_ws87
                            clear f_33_ws87
                            have f_33_ws94 : ws94[33]? = some ((q82, Sum.inl (cF, 4096, Sum.inr (Sum.inr (Sum.inr (Sum.inr (fun _ => none)))))) : Nat × va_E) := by rw [e_ws94]; exact gs_ne (by decide) f_33_ws89
                            clear f_33_ws89
                            have f_33_ws96 : ws96[33]? = some ((q82, Sum.inl (cF, 4096, Sum.inr (Sum.inr (Sum.inr (Sum.inr (fun _ => none)))))) : Nat × va_E) := by rw [e_ws96]; exact gs_app f_33_ws94
                            clear f_33_ws94
                            have f_33_ws98 : ws98[33]? = some ((q82, Sum.inl (cF, 4096, Sum.inr (Sum.inr (Sum.inr (Sum.inr (fun _ => none)))))) : Nat × va_E) := e_ws98.at (by first | decide | (simp; done) | (simp; omega)) f_33_ws96
                            clear f_33_ws96
                            have f_33_ws103 : ws103[33]? = some ((q82, Sum.inl (cF, 4096, Sum.inr (Sum.inr (Sum.inr (Sum.inr (fun _ => none)))))) : Nat × va_E) := by rw [e_ws103]; exact gs_ne (by decide) f_33_ws98
                            clear f_33_ws98
                            have f_33_ws104 : ws104[33]? = some ((q82, Sum.inl (cF, 4096, Sum.inr (Sum.inr (Sum.inr (Sum.inr (fun _ => none)))))) : Nat × va_E) := by rw [e_ws104]; exact gs_ne (by decide) f_33_ws103
                            clear f_33_ws103
                            have f_33_ws105 : ws105[33]? = some ((q82, Sum.inl (cF, 4096, Sum.inr (Sum.inr (Sum.inr (Sum.inr (fun _ => none)))))) : Nat × va_E) := by rw [e_ws105]; exact gs_ne (by decide) f_33_ws104
                            clear f_33_ws104
                            have f_33_ws106 : ws106[33]? = some ((q82, Sum.inl (cF, 4096, Sum.inr (Sum.inr (Sum.inr (Sum.inr (fun _ => none)))))) : Nat × va_E) := by rw [e_ws106]; exact gs_ne (by decide) f_33_ws105
                            clear f_33_ws105
                            have f_34_ws85 : ws85[34]? = some ((q83, Sum.inl (cF, 4096, Sum.inr (Sum.inr (Sum.inr (Sum.inr (fun _ => none)))))) : Nat × va_E) := by rw [e_ws85]; exact gs_ne (by decide) f_34_ws80
                            clear f_34_ws80
                            have f_34_ws87 : ws87[34]? = some ((q83, Sum.inl (cF, 4096, Sum.inr (Sum.inr (Sum.inr (Sum.inr (fun _ => none)))))) : Nat × va_E) := by rw [e_ws87]; exact gs_app f_34_ws85
                            clear f_34_ws85
                            have f_34_ws89 : ws89[34]? = some ((q83, Sum.inl (cF, 4096, Sum.inr (Sum.inr (Sum.inr (Sum.inr (fun _ => none)))))) : Nat × va_E) := e_ws89.at (by first | decide | (simp; done) | (simp; omega)) f_34_ws87
                            clear f_34_ws87
                            have f_34_ws94 : ws94[34]? = some ((q83, Sum.inl (cF, 4096, Sum.inr (Sum.inr (Sum.inr (Sum.inr (fun _ => none)))))) : Nat × va_E) := by rw [e_ws94]; exact gs_ne (by decide) f_34_ws89
                            clear f_34_ws89
                            have f_34_ws96 : ws96[34]? = some ((q83, Sum.inl (cF, 4096, Sum.inr (Sum.inr (Sum.inr (Sum.inr (fun _ => none)))))) : Nat × va_E) := by rw [e_ws96]; exact gs_app f_34_ws94
                            clear f_34_ws94
                            have f_34_ws98 : ws98[34]? = some ((q83, Sum.inl (cF, 4096, Sum.inr (Sum.inr (Sum.inr (Sum.inr (fun _ => none)))))) : Nat × va_E) := e_ws98.at (by first | decide | (simp; done) | (simp; omega)) f_34_ws96
                            clear f_34_ws96
                            have f_34_ws103 : ws103[34]? = some ((q83, Sum.inl (cF, 4096, Sum.inr (Sum.inr (Sum.inr (Sum.inr (fun _ => none)))))) : Nat × va_E) := by rw [e_ws103]; exact gs_ne (by decide) f_34_ws98
                            clear f_34_ws98
                            have f_34_ws104 : ws104[34]? = some ((q83, Sum.inl (cF, 4096, Sum.inr (Sum.inr (Sum.inr (Sum.inr (fun _ => none)))))) : Nat × va_E) := by rw [e_ws104]; exact gs_ne (by decide) f_34_ws103
                            clear f_34_ws103
                            have f_34_ws105 : ws105[34]? = some ((q83, Sum.inl (cF, 4096, Sum.inr (Sum.inr (Sum.inr (Sum.inr (fun _ => none)))))) : Nat × va_E) := by rw [e_ws105]; exact gs_ne (by decide) f_34_ws104
                            clear f_34_ws104
                            have f_34_ws106 : ws106[34]? = some ((q83, Sum.inl (cF, 4096, Sum.inr (Sum.inr (Sum.inr (Sum.inr (fun _ => none)))))) : Nat × va_E) := by rw [e_ws106]; exact gs_ne (by decide) f_34_ws105
                            clear f_34_ws105
                            have f_35_ws85 : ws85[35]? = some ((q84, Sum.inl (cZ, 4096, Sum.inl (fun _ => 0))) : Nat × va_E) := by rw [e_ws85]; exact gs_ne (by decide) f_35_ws80
                            clear f_35_ws80
                            have f_35_ws87 : ws87[35]? = some ((q84, Sum.inl (cZ, 4096, Sum.inl (fun _ => 0))) : Nat × va_E) := by rw [e_ws87]; exact gs_app f_35_ws85
                            clear f_35_ws85
                            have f_35_ws89 : ws89[35]? = some ((q84, Sum.inl (cZ, 4096, Sum.inl (fun _ => 0))) : Nat × va_E) := e_ws89.at (by first | decide | (simp; done) | (simp; omega)) f_35_ws87
                            clear f_35_ws87
                            have f_35_ws94 : ws94[35]? = some ((q84, Sum.inl (cZ, 4096, Sum.inl (fun _ => 0))) : Nat × va_E) := by rw [e_ws94]; exact gs_ne (by decide) f_35_ws89
                            clear f_35_ws89
                            have f_35_ws96 : ws96[35]? = some ((q84, Sum.inl (cZ, 4096, Sum.inl (fun _ => 0))) : Nat × va_E) := by rw [e_ws96]; exact gs_app f_35_ws94
                            clear f_35_ws94
                            have f_35_ws98 : ws98[35]? = some ((q84, Sum.inl (cZ, 4096, Sum.inl (fun _ => 0))) : Nat × va_E) := e_ws98.at (by first | decide | (simp; done) | (simp; omega)) f_35_ws96
                            clear f_35_ws96
                            have f_35_ws103 : ws103[35]? = some ((q84, Sum.inl (cZ, 4096, Sum.inl (fun _ => 0))) : Nat × va_E) := by rw [e_ws103]; exact gs_ne (by decide) f_35_ws98
                            clear f_35_ws98
                            have f_35_ws104 : ws104[35]? = some ((q84, Sum.inl (cZ, 4096, Sum.inl (fun _ => 0))) : Nat × va_E) := by rw [e_ws104]; exact gs_ne (by decide) f_35_ws103
                            clear f_35_ws103
                            have f_35_ws105 : ws105[35]? = some ((q84, Sum.inl (cZ, 4096, Sum.inl (fun _ => 0))) : Nat × va_E) := by rw [e_ws105]; exact gs_ne (by decide) f_35_ws104
                            clear f_35_ws104
                            have f_35_ws106 : ws106[35]? = some ((q84, Sum.inl (cZ, 4096, Sum.inl (fun _ => 0))) : Nat × va_E) := by rw [e_ws106]; exact gs_ne (by decide) f_35_ws105
                            clear f_35_ws105
                            have f_36_ws94 : ws94[36]? = some ((q86, Sum.inr (6, [Value.ref q90, Value.int 0, Value.int 0])) : Nat × va_E) := by rw [e_ws94]; exact gs_ne (by decide) f_36_ws89
                            clear f_36_ws89
                            have f_36_ws96 : ws96[36]? = some ((q86, Sum.inr (6, [Value.ref q90, Value.int 0, Value.int 0])) : Nat × va_E) := by rw [e_ws96]; exact gs_app f_36_ws94
                            clear f_36_ws94
                            have f_36_ws98 : ws98[36]? = some ((q86, Sum.inr (6, [Value.ref q90, Value.int 0, Value.int 0])) : Nat × va_E) := e_ws98.at (by first | decide | (simp; done) | (simp; omega)) f_36_ws96
                            clear f_36_ws96
                            have f_36_ws103 : ws103[36]? = some ((q86, Sum.inr (6, [Value.ref q90, Value.int 0, Value.int 0])) : Nat × va_E) := by rw [e_ws103]; exact gs_ne (by decide) f_36_ws98
                            clear f_36_ws98
                            have f_36_ws104 : ws104[36]? = some ((q86, Sum.inr (6, [Value.ref q90, Value.int 0, Value.int 0])) : Nat × va_E) := by rw [e_ws104]; exact gs_ne (by decide) f_36_ws103
                            clear f_36_ws103
                            have f_36_ws105 : ws105[36]? = some ((q86, Sum.inr (6, [Value.ref q90, Value.int 0, Value.int 0])) : Nat × va_E) := by rw [e_ws105]; exact gs_ne (by decide) f_36_ws104
                            clear f_36_ws104
                            have f_36_ws106 : ws106[36]? = some ((q86, Sum.inr (6, [Value.ref q90, Value.int 0, Value.int 0])) : Nat × va_E) := by rw [e_ws106]; exact gs_ne (by decide) f_36_ws105
                            clear f_36_ws105
                            have f_37_ws94 : ws94[37]? = some ((q90, Sum.inr (4, [Value.ref q91, Value.ref q92, Value.ref q93, Value.null, Value.int 0, Value.int 0])) : Nat × va_E) := by rw [e_ws94]; exact gs_ne (by decide) f_37_ws89
                            clear f_37_ws89
                            have f_37_ws96 : ws96[37]? = some ((q90, Sum.inr (4, [Value.ref q91, Value.ref q92, Value.ref q93, Value.null, Value.int 0, Value.int 0])) : Nat × va_E) := by rw [e_ws96]; exact gs_app f_37_ws94
                            clear f_37_ws94
                            have f_37_ws98 : ws98[37]? = some ((q90, Sum.inr (4, [Value.ref q91, Value.ref q92, Value.ref q93, Value.null, Value.int 0, Value.int 0])) : Nat × va_E) := e_ws98.at (by first | decide | (simp; done) | (simp; omega)) f_37_ws96
                            clear f_37_ws96
                            have f_37_ws103 : ws103[37]? = some ((q90, Sum.inr (4, [Value.ref q91, Value.ref q92, Value.ref q93, Value.null, Value.int 0, Value.int 0])) : Nat × va_E) := by rw [e_ws103]; exact gs_ne (by decide) f_37_ws98
                            clear f_37_ws98
                            have f_37_ws104 : ws104[37]? = some ((q90, Sum.inr (4, [Value.ref q91, Value.ref q92, Value.ref q93, Value.null, Value.int 0, Value.int 0])) : Nat × va_E) := by rw [e_ws104]; exact gs_ne (by decide) f_37_ws103
                            clear f_37_ws103
                            have f_37_ws105 : ws105[37]? = some ((q90, Sum.inr (4, [Value.ref q91, Value.ref q92, Value.ref q93, Value.null, Value.int 0, Value.int 0])) : Nat × va_E) := by rw [e_ws105]; exact gs_ne (by decide) f_37_ws104
                            clear f_37_ws104
                            have f_37_ws106 : ws106[37]? = some ((q90, Sum.inr (4, [Value.ref q91, Value.ref q92, Value.ref q93, Value.null, Value.int 0, Value.int 0])) : Nat × va_E) := by rw [e_ws106]; exact gs_ne (by decide) f_37_ws105
                            clear f_37_ws105
                            have f_38_ws94 : ws94[38]? = some ((q91, Sum.inl (cF, 4096, Sum.inr (Sum.inr (Sum.inr (Sum.inr (fun _ => none)))))) : Nat × va_E) := by rw [e_ws94]; exact gs_ne (by decide) f_38_ws89
                            clear f_38_ws89
                            have f_38_ws96 : ws96[38]? = some ((q91, Sum.inl (cF, 4096, Sum.inr (Sum.inr (Sum.inr (Sum.inr (fun _ => none)))))) : Nat × va_E) := by rw [e_ws96]; exact gs_app f_38_ws94
                            clear f_38_ws94
                            have f_38_ws98 : ws98[38]? = some ((q91, Sum.inl (cF, 4096, Sum.inr (Sum.inr (Sum.inr (Sum.inr (fun _ => none)))))) : Nat × va_E) := e_ws98.at (by first | decide | (simp; done) | (simp; omega)) f_38_ws96
                            clear f_38_ws96
                            have f_38_ws103 : ws103[38]? = some ((q91, Sum.inl (cF, 4096, Sum.inr (Sum.inr (Sum.inr (Sum.inr (fun _ => none)))))) : Nat × va_E) := by rw [e_ws103]; exact gs_ne (by decide) f_38_ws98
                            clear f_38_ws98
                            have f_38_ws104 : ws104[38]? = some ((q91, Sum.inl (cF, 4096, Sum.inr (Sum.inr (Sum.inr (Sum.inr (fun _ => none)))))) : Nat × va_E) := by rw [e_ws104]; exact gs_ne (by decide) f_38_ws103
                            clear f_38_ws103
                            have f_38_ws105 : ws105[38]? = some ((q91, Sum.inl (cF, 4096, Sum.inr (Sum.inr (Sum.inr (Sum.inr (fun _ => none)))))) : Nat × va_E) := by rw [e_ws105]; exact gs_ne (by decide) f_38_ws104
                            clear f_38_ws104
                            have f_38_ws106 : ws106[38]? = some ((q91, Sum.inl (cF, 4096, Sum.inr (Sum.inr (Sum.inr (Sum.inr (fun _ => none)))))) : Nat × va_E) := by rw [e_ws106]; exact gs_ne (by decide) f_38_ws105
                            clear f_38_ws105
                            have f_39_ws94 : ws94[39]? = some ((q92, Sum.inl (cF, 4096, Sum.inr (Sum.inr (Sum.inr (Sum.inr (fun _ => none)))))) : Nat × va_E) := by rw [e_ws94]; exact gs_ne (by decide) f_39_ws89
                            clear f_39_ws89
                            have f_39_ws96 : ws96[39]? = some ((q92, Sum.inl (cF, 4096, Sum.inr (Sum.inr (Sum.inr (Sum.inr (fun _ => none)))))) : Nat × va_E) := by rw [e_ws96]; exact gs_app f_39_ws94
                            clear f_39_ws94
                            have f_39_ws98 : ws98[39]? = some ((q92, Sum.inl (cF, 4096, Sum.inr (Sum.inr (Sum.inr (Sum.inr (fun _ => none)))))) : Nat × va_E) := e_ws98.at (by first | decide | (simp; done) | (simp; omega)) f_39_ws96
                            clear f_39_ws96
                            have f_39_ws103 : ws103[39]? = some ((q92, Sum.inl (cF, 4096, Sum.inr (Sum.inr (Sum.inr (Sum.inr (fun _ => none)))))) : Nat × va_E) := by rw [e_ws103]; exact gs_ne (by decide) f_39_ws98
                            clear f_39_ws98
                            have f_39_ws104 : ws104[39]? = some ((q92, Sum.inl (cF, 4096, Sum.inr (Sum.inr (Sum.inr (Sum.inr (fun _ => none)))))) : Nat × va_E) := by rw [e_ws104]; exact gs_ne (by decide) f_39_ws103
                            clear f_39_ws103
                            have f_39_ws105 : ws105[39]? = some ((q92, Sum.inl (cF, 4096, Sum.inr (Sum.inr (Sum.inr (Sum.inr (fun _ => none)))))) : Nat × va_E) := by rw [e_ws105]; exact gs_ne (by decide) f_39_ws104
                            clear f_39_ws104
                            have f_39_ws106 : ws106[39]? = some ((q92, Sum.inl (cF, 4096, Sum.inr (Sum.inr (Sum.inr (Sum.inr (fun _ => none)))))) : Nat × va_E) := by rw [e_ws106]; exact gs_ne (by decide) f_39_ws105
                            clear f_39_ws105
                            have f_40_ws94 : ws94[40]? = some ((q93, Sum.inl (cZ, 4096, Sum.inl (fun _ => 0))) : Nat × va_E) := by rw [e_ws94]; exact gs_ne (by decide) f_40_ws89
                            clear f_40_ws89
                            have f_40_ws96 : ws96[40]? = some ((q93, Sum.inl (cZ, 4096, Sum.inl (fun _ => 0))) : Nat × va_E) := by rw [e_ws96]; exact gs_app f_40_ws94
                            clear f_40_ws94
                            have f_40_ws98 : ws98[40]? = some ((q93, Sum.inl (cZ, 4096, Sum.inl (fun _ => 0))) : Nat × va_E) := e_ws98.at (by first | decide | (simp; done) | (simp; omega)) f_40_ws96
                            clear f_40_ws96
                            have f_40_ws103 : ws103[40]? = some ((q93, Sum.inl (cZ, 4096, Sum.inl (fun _ => 0))) : Nat × va_E) := by rw [e_ws103]; exact gs_ne (by decide) f_40_ws98
                            clear f_40_ws98
                            have f_40_ws104 : ws104[40]? = some ((q93, Sum.inl (cZ, 4096, Sum.inl (fun _ => 0))) : Nat × va_E) := by rw [e_ws104]; exact gs_ne (by decide) f_40_ws103
                            clear f_40_ws103
                            have f_40_ws105 : ws105[40]? = some ((q93, Sum.inl (cZ, 4096, Sum.inl (fun _ => 0))) : Nat × va_E) := by rw [e_ws105]; exact gs_ne (by decide) f_40_ws104
                            clear f_40_ws104
                            have f_40_ws106 : ws106[40]? = some ((q93, Sum.inl (cZ, 4096, Sum.inl (fun _ => 0))) : Nat × va_E) := by rw [e_ws106]; exact gs_ne (by decide) f_40_ws105
                            clear f_40_ws105
                            have f_41_ws103 : ws103[41]? = some ((q95, Sum.inr (6, [Value.ref q99, Value.int 0, Value.int 0])) : Nat × va_E) := by rw [e_ws103]; exact gs_ne (by decide) f_41_ws98
                            clear f_41_ws98
                            have f_41_ws104 : ws104[41]? = some ((q95, Sum.inr (6, [Value.ref q99, Value.int 0, Value.int 0])) : Nat × va_E) := by rw [e_ws104]; exact gs_ne (by decide) f_41_ws103
                            clear f_41_ws103
                            have f_41_ws105 : ws105[41]? = some ((q95, Sum.inr (6, [Value.ref q99, Value.int 0, Value.int 0])) : Nat × va_E) := by rw [e_ws105]; exact gs_ne (by decide) f_41_ws104
                            clear f_41_ws104
                            have f_41_ws106 : ws106[41]? = some ((q95, Sum.inr (6, [Value.ref q99, Value.int 0, Value.int 0])) : Nat × va_E) := by rw [e_ws106]; exact gs_ne (by decide) f_41_ws105
                            clear f_41_ws105
                            have f_42_ws103 : ws103[42]? = some ((q99, Sum.inr (4, [Value.ref q100, Value.ref q101, Value.ref q102, Value.null, Value.int 0, Value.int 0])) : Nat × va_E) := by rw [e_ws103]; exact gs_ne (by decide) f_42_ws98
                            clear f_42_ws98
                            have f_42_ws104 : ws104[42]? = some ((q99, Sum.inr (4, [Value.ref q100, Value.ref q101, Value.ref q102, Value.null, Value.int 0, Value.int 0])) : Nat × va_E) := by rw [e_ws104]; exact gs_ne (by decide) f_42_ws103
                            clear f_42_ws103
                            have f_42_ws105 : ws105[42]? = some ((q99, Sum.inr (4, [Value.ref q100, Value.ref q101, Value.ref q102, Value.null, Value.int 0, Value.int 0])) : Nat × va_E) := by rw [e_ws105]; exact gs_ne (by decide) f_42_ws104
                            clear f_42_ws104
                            have f_42_ws106 : ws106[42]? = some ((q99, Sum.inr (4, [Value.ref q100, Value.ref q101, Value.ref q102, Value.null, Value.int 0, Value.int 0])) : Nat × va_E) := by rw [e_ws106]; exact gs_ne (by decide) f_42_ws105
                            clear f_42_ws105
                            have f_43_ws103 : ws103[43]? = some ((q100, Sum.inl (cF, 4096, Sum.inr (Sum.inr (Sum.inr (Sum.inr (fun _ => none)))))) : Nat × va_E) := by rw [e_ws103]; exact gs_ne (by decide) f_43_ws98
                            clear f_43_ws98
                            have f_43_ws104 : ws104[43]? = some ((q100, Sum.inl (cF, 4096, Sum.inr (Sum.inr (Sum.inr (Sum.inr (fun _ => none)))))) : Nat × va_E) := by rw [e_ws104]; exact gs_ne (by decide) f_43_ws103
                            clear f_43_ws103
                            have f_43_ws105 : ws105[43]? = some ((q100, Sum.inl (cF, 4096, Sum.inr (Sum.inr (Sum.inr (Sum.inr (fun _ => none)))))) : Nat × va_E) := by rw [e_ws105]; exact gs_ne (by decide) f_43_ws104
                            clear f_43_ws104
                            have f_43_ws106 : ws106[43]? = some ((q100, Sum.inl (cF, 4096, Sum.inr (Sum.inr (Sum.inr (Sum.inr (fun _ => none)))))) : Nat × va_E) := by rw [e_ws106]; exact gs_ne (by decide) f_43_ws105
                            clear f_43_ws105
                            have f_44_ws103 : ws103[44]? = some ((q101, Sum.inl (cF, 4096, Sum.inr (Sum.inr (Sum.inr (Sum.inr (fun _ => none)))))) : Nat × va_E) := by rw [e_ws103]; exact gs_ne (by decide) f_44_ws98
                            clear f_44_ws98
                            have f_44_ws104 : ws104[44]? = some ((q101, Sum.inl (cF, 4096, Sum.inr (Sum.inr (Sum.inr (Sum.inr (fun _ => none)))))) : Nat × va_E) := by rw [e_ws104]; exact gs_ne (by decide) f_44_ws103
                            clear f_44_ws103
                            have f_44_ws105 : ws105[44]? = some ((q101, Sum.inl (cF, 4096, Sum.inr (Sum.inr (Sum.inr (Sum.inr (fun _ => none)))))) : Nat × va_E) := by rw [e_ws105]; exact gs_ne (by decide) f_44_ws104
                            clear f_44_ws104
                            have f_44_ws106 : ws106[44]? = some ((q101, Sum.inl (cF, 4096, Sum.inr (Sum.inr (Sum.inr (Sum.inr (fun _ => none)))))) : Nat × va_E) := by rw [e_ws106]; exact gs_ne (by decide) f_44_ws105
                            clear f_44_ws105
                            have f_45_ws103 : ws103[45]? = some ((q102, Sum.inl (cZ, 4096, Sum.inl (fun _ => 0))) : Nat × va_E) := by rw [e_ws103]; exact gs_ne (by decide) f_45_ws98
                            clear f_45_ws98
                            have f_45_ws104 : ws104[45]? = some ((q102, Sum.inl (cZ, 4096, Sum.inl (fun _ => 0))) : Nat × va_E) := by rw [e_ws104]; exact gs_ne (by decide) f_45_ws103
                            clear f_45_ws103
                            have f_45_ws105 : ws105[45]? = some ((q102, Sum.inl (cZ, 4096, Sum.inl (fun _ => 0))) : Nat × va_E) := by rw [e_ws105]; exact gs_ne (by decide) f_45_ws104
                            clear f_45_ws104
                            have f_45_ws106 : ws106[45]? = some ((q102, Sum.inl (cZ, 4096, Sum.inl (fun _ => 0))) : Nat × va_E) := by rw [e_ws106]; exact gs_ne (by decide) f_45_ws105
                            clear f_45_ws105
                            obtain ⟨q, hq⟩ : ∃ q : Nat → Nat, q = fun k => ([a, q1, q5, q6, q7, q9, q13, q14, q18, q22, q23, q24, q26, q30, q31, q32, q34, q38, q39, q40, q42, q45, q50, q55, q60, q65, q68, q72, q73, q74, q75, q77, q81, q82, q83, q84, q86, q90, q91, q92, q93, q95, q99, q100, q101, q102] : List Nat).getD (k - 0) 0 := ⟨_, rfl⟩
                            have e_q0 : a = q 0 := by rw [hq]; rfl
                            have e_q1 : q1 = q 1 := by rw [hq]; rfl
                            have e_q2 : q5 = q 2 := by rw [hq]; rfl
                            have e_q3 : q6 = q 3 := by rw [hq]; rfl
                            have e_q4 : q7 = q 4 := by rw [hq]; rfl
                            have e_q5 : q9 = q 5 := by rw [hq]; rfl
                            have e_q6 : q13 = q 6 := by rw [hq]; rfl
                            have e_q7 : q14 = q 7 := by rw [hq]; rfl
                            have e_q8 : q18 = q 8 := by rw [hq]; rfl
                            have e_q9 : q22 = q 9 := by rw [hq]; rfl
                            have e_q10 : q23 = q 10 := by rw [hq]; rfl
                            have e_q11 : q24 = q 11 := by rw [hq]; rfl
                            have e_q12 : q26 = q 12 := by rw [hq]; rfl
                            have e_q13 : q30 = q 13 := by rw [hq]; rfl
                            have e_q14 : q31 = q 14 := by rw [hq]; rfl
                            have e_q15 : q32 = q 15 := by rw [hq]; rfl
                            have e_q16 : q34 = q 16 := by rw [hq]; rfl
                            have e_q17 : q38 = q 17 := by rw [hq]; rfl
                            have e_q18 : q39 = q 18 := by rw [hq]; rfl
                            have e_q19 : q40 = q 19 := by rw [hq]; rfl
                            have e_q20 : q42 = q 20 := by rw [hq]; rfl
                            have e_q21 : q45 = q 21 := by rw [hq]; rfl
                            have e_q22 : q50 = q 22 := by rw [hq]; rfl
                            have e_q23 : q55 = q 23 := by rw [hq]; rfl
                            have e_q24 : q60 = q 24 := by rw [hq]; rfl
                            have e_q25 : q65 = q 25 := by rw [hq]; rfl
                            have e_q26 : q68 = q 26 := by rw [hq]; rfl
                            have e_q27 : q72 = q 27 := by rw [hq]; rfl
                            have e_q28 : q73 = q 28 := by rw [hq]; rfl
                            have e_q29 : q74 = q 29 := by rw [hq]; rfl
                            have e_q30 : q75 = q 30 := by rw [hq]; rfl
                            have e_q31 : q77 = q 31 := by rw [hq]; rfl
                            have e_q32 : q81 = q 32 := by rw [hq]; rfl
                            have e_q33 : q82 = q 33 := by rw [hq]; rfl
                            have e_q34 : q83 = q 34 := by rw [hq]; rfl
                            have e_q35 : q84 = q 35 := by rw [hq]; rfl
                            have e_q36 : q86 = q 36 := by rw [hq]; rfl
                            have e_q37 : q90 = q 37 := by rw [hq]; rfl
                            have e_q38 : q91 = q 38 := by rw [hq]; rfl
                            have e_q39 : q92 = q 39 := by rw [hq]; rfl
                            have e_q40 : q93 = q 40 := by rw [hq]; rfl
                            have e_q41 : q95 = q 41 := by rw [hq]; rfl
                            have e_q42 : q99 = q 42 := by rw [hq]; rfl
                            have e_q43 : q100 = q 43 := by rw [hq]; rfl
                            have e_q44 : q101 = q 44 := by rw [hq]; rfl
                            have e_q45 : q102 = q 45 := by rw [hq]; rfl
                            clear hq
                            have g0 : le_G0 cI cZ cF cM cR q v15 v16 ws106 := by
                              unfold le_G0
                              rw [← e_q0, ← e_q1, ← e_q2, ← e_q3, ← e_q4, ← e_q5, ← e_q6, ← e_q7, ← e_q8, ← e_q9, ← e_q10, ← e_q11, ← e_q12, ← e_q13, ← e_q14, ← e_q15, ← e_q16, ← e_q20, ← e_q25]
                              exact ⟨f_0_ws106, f_1_ws106, f_2_ws106, f_3_ws106, f_4_ws106, f_5_ws106, f_6_ws106, f_7_ws106, f_8_ws106, f_9_ws106, f_10_ws106, f_11_ws106, f_12_ws106, f_13_ws106, f_14_ws106, f_15_ws106⟩
                            have g1 : le_G1 cI cZ cF cM cR q v15 v16 ws106 := by
                              unfold le_G1
                              rw [← e_q16, ← e_q17, ← e_q18, ← e_q19, ← e_q20, ← e_q21, ← e_q22, ← e_q23, ← e_q24, ← e_q25, ← e_q26, ← e_q27, ← e_q28, ← e_q29, ← e_q30, ← e_q31, ← e_q32, ← e_q36, ← e_q41]
                              exact ⟨f_16_ws106, f_17_ws106, f_18_ws106, f_19_ws106, f_20_ws106, f_21_ws106, f_22_ws106, f_23_ws106, f_24_ws106, f_25_ws106, f_26_ws106, f_27_ws106, f_28_ws106, f_29_ws106, f_30_ws106, f_31_ws106⟩
                            have g2 : le_G2 cI cZ cF cM cR q v15 v16 ws106 := by
                              unfold le_G2
                              rw [← e_q32, ← e_q33, ← e_q34, ← e_q35, ← e_q36, ← e_q37, ← e_q38, ← e_q39, ← e_q40, ← e_q41, ← e_q42, ← e_q43, ← e_q44, ← e_q45]
                              exact ⟨f_32_ws106, f_33_ws106, f_34_ws106, f_35_ws106, f_36_ws106, f_37_ws106, f_38_ws106, f_39_ws106, f_40_ws106, f_41_ws106, f_42_ws106, f_43_ws106, f_44_ws106, f_45_ws106⟩
                            refine W.widen (k := 45) (n := 200000) (by decide) (by decide) ?_
                            exact gx_ret (W.vret hx hb hr (gx_post hP hK hD hS (by rw [← hPQ]; exact ⟨rfl, hU, q, v15, v16, e_q0.symm, g0, g1, g2⟩)) hS.2.2 d_Le_init_143)
                          · obtain ⟨E9, ws107, ce, hp, hce, hP9, -, hD9, hS9⟩ := gx_backT h0_97 hW_97 hQ_97 hL_97 hD hS hA
                            clear hQ_97 h0_97 hL_97 hW_97 hP hD hS
                            have hP := hP9
                            have hD := hD9
                            have hS := hS9
                            clear hP9 hD9 hS9
                            rcases hp with ⟨q108, q109, q110, q111, hv9, e_ws107, f_41_ws107, f_42_ws107, f_43_ws107, f_44_ws107, f_45_ws107⟩
                            cases hv9
                        · obtain ⟨E9, ws112, ce, hp, hce, hP9, -, hD9, hS9⟩ := gx_backT h0_88 hW_88 hQ_88 hL_88 hD hS hA
                          clear hQ_88 h0_88 hL_88 hW_88 hP hD hS
                          have hP := hP9
                          have hD := hD9
                          have hS := hS9
                          clear hP9 hD9 hS9
                          rcases hp with ⟨q113, q114, q115, q116, hv9, e_ws112, f_36_ws112, f_37_ws112, f_38_ws112, f_39_ws112, f_40_ws112⟩
                          cases hv9
                      · obtain ⟨E9, ws117, ce, hp, hce, hP9, -, hD9, hS9⟩ := gx_backT h0_79 hW_79 hQ_79 hL_79 hD hS hA
                        clear hQ_79 h0_79 hL_79 hW_79 hP hD hS
                        have hP := hP9
                        have hD := hD9
                        have hS := hS9
                        clear hP9 hD9 hS9
                        rcases hp with ⟨q118, q119, q120, q121, hv9, e_ws117, f_31_ws117, f_32_ws117, f_33_ws117, f_34_ws117, f_35_ws117⟩
                        cases hv9
                    · obtain ⟨E9, ws122, ce, hp, hce, hP9, -, hD9, hS9⟩ := gx_backT h0_70 hW_70 hQ_70 hL_70 hD hS hA
                      clear hQ_70 h0_70 hL_70 hW_70 hP hD hS
                      have hP := hP9
                      have hD := hD9
                      have hS := hS9
                      clear hP9 hD9 hS9
                      rcases hp with ⟨q123, q124, q125, q126, hv9, e_ws122, f_26_ws122, f_27_ws122, f_28_ws122, f_29_ws122, f_30_ws122⟩
                      cases hv9
                  · obtain ⟨E9, ws127, ce, hp, hce, hP9, -, hD9, hS9⟩ := gx_backT h0_62 hW_62 hQ_62 hL_62 hD hS hA
                    clear hQ_62 h0_62 hL_62 hW_62 hP hD hS
                    have hP := hP9
                    have hD := hD9
                    have hS := hS9
                    clear hP9 hD9 hS9
                    rcases hp with ⟨hv9, e_ws127⟩
                    cases hv9
                · obtain ⟨E9, ws128, ce, hp, hce, hP9, -, hD9, hS9⟩ := gx_backT h0_57 hW_57 hQ_57 hL_57 hD hS hA
                  clear hQ_57 h0_57 hL_57 hW_57 hP hD hS
                  have hP := hP9
                  have hD := hD9
                  have hS := hS9
                  clear hP9 hD9 hS9
                  rcases hp with ⟨hv9, e_ws128⟩
                  cases hv9
              · obtain ⟨E9, ws129, ce, hp, hce, hP9, -, hD9, hS9⟩ := gx_backT h0_52 hW_52 hQ_52 hL_52 hD hS hA
                clear hQ_52 h0_52 hL_52 hW_52 hP hD hS
                have hP := hP9
                have hD := hD9
                have hS := hS9
                clear hP9 hD9 hS9
                rcases hp with ⟨hv9, e_ws129⟩
                cases hv9
            · obtain ⟨E9, ws130, ce, hp, hce, hP9, -, hD9, hS9⟩ := gx_backT h0_47 hW_47 hQ_47 hL_47 hD hS hA
              clear hQ_47 h0_47 hL_47 hW_47 hP hD hS
              have hP := hP9
              have hD := hD9
              have hS := hS9
              clear hP9 hD9 hS9
              rcases hp with ⟨hv9, e_ws130⟩
              cases hv9
          · obtain ⟨E9, ws131, ce, hp, hce, hP9, -, hD9, hS9⟩ := gx_backT h0_36 hW_36 hQ_36 hL_36 hD hS hA
            clear hQ_36 h0_36 hL_36 hW_36 hP hD hS
            have hP := hP9
            have hD := hD9
            have hS := hS9
            clear hP9 hD9 hS9
            rcases hp with ⟨q132, q133, q134, hv9, e_ws131, f_16_ws131, f_17_ws131, f_18_ws131, f_19_ws131⟩
            cases hv9
        · obtain ⟨E9, ws135, ce, hp, hce, hP9, -, hD9, hS9⟩ := gx_backT h0_28 hW_28 hQ_28 hL_28 hD hS hA
          clear hQ_28 h0_28 hL_28 hW_28 hP hD hS
          have hP := hP9
          have hD := hD9
          have hS := hS9
          clear hP9 hD9 hS9
          rcases hp with ⟨q136, q137, q138, hv9, e_ws135, f_12_ws135, f_13_ws135, f_14_ws135, f_15_ws135⟩
          cases hv9
      · obtain ⟨E9, ws139, ce, hp, hce, hP9, -, hD9, hS9⟩ := gx_backT h0_20 hW_20 hQ_20 hL_20 hD hS hA
        clear hQ_20 h0_20 hL_20 hW_20 hP hD hS
        have hP := hP9
        have hD := hD9
        have hS := hS9
        clear hP9 hD9 hS9
        rcases hp with ⟨q140, q141, q142, hv9, e_ws139, f_8_ws139, f_9_ws139, f_10_ws139, f_11_ws139⟩
        cases hv9
    · obtain ⟨E9, ws143, ce, hp, hce, hP9, -, hD9, hS9⟩ := gx_backT h0_11 hW_11 hQ_11 hL_11 hD hS hA
      clear hQ_11 h0_11 hL_11 hW_11 hP hD hS
      have hP := hP9
      have hD := hD9
      have hS := hS9
      clear hP9 hD9 hS9
      rcases hp with ⟨q144, q145, v146, v147, hv9, e_ws143, f_5_ws143, f_6_ws143, f_7_ws143⟩
      cases hv9
  · obtain ⟨E9, ws148, ce, hp, hce, hP9, -, hD9, hS9⟩ := gx_backT h0_3 hW_3 hQ_3 hL_3 hD hS hA
    clear hQ_3 h0_3 hL_3 hW_3 hP hD hS
    have hP := hP9
    have hD := hD9
    have hS := hS9
    clear hP9 hD9 hS9
    rcases hp with ⟨q149, q150, q151, hv9, e_ws148, f_1_ws148, f_2_ws148, f_3_ws148, f_4_ws148⟩
    cases hv9
