/-! CONTRACT of CommitLedger(), rows printed by an own text program -/
def le_G0 (D : va_G) (cI cZ cF cM cR : ClassId) (q : Nat → Nat) (ws : va_W) : Prop := ws[0]? = some (((q 0), Sum.inr (0, [Value.ref (q 1), Value.ref (q 5), Value.ref (q 8), Value.ref (q 20), Value.ref (q 25), Value.ref (q 12), Value.ref (q 16), Value.int 0, Value.int 0, Value.int 0, Value.int 16, Value.int 4, Value.int 0, Value.int 0, Value.int 0, Value.int 0, Value.int 0, Value.int (-1)])) : Nat × va_E) ∧ ws[1]? = some (((q 1), Sum.inr (1, [Value.ref (q 2), Value.ref (q 3), Value.ref (q 4), Value.int 0])) : Nat × va_E) ∧ ws[2]? = some (((q 2), Sum.inl (cI, 4096, Sum.inl (fun _ => 0))) : Nat × va_E) ∧ ws[3]? = some (((q 3), Sum.inl (cI, 4096, Sum.inl (fun _ => 0))) : Nat × va_E) ∧ ws[4]? = some (((q 4), Sum.inl (cI, 4096, Sum.inl (fun _ => 0))) : Nat × va_E) ∧ ws[5]? = some (((q 5), Sum.inr (2, [Value.ref (q 6), Value.ref (q 7), Value.int 0, Value.int 0])) : Nat × va_E) ∧ ws[6]? = some (((q 6), Sum.inr (3, [Value.ref (gx_av D), Value.int 0, Value.int 0])) : Nat × va_E) ∧ ws[7]? = some (((q 7), Sum.inr (3, [Value.ref (gx_av D), Value.int 0, Value.int 0])) : Nat × va_E) ∧ ws[8]? = some (((q 8), Sum.inr (4, [Value.ref (q 9), Value.ref (q 10), Value.ref (q 11), Value.null, Value.int 0, Value.int 0])) : Nat × va_E) ∧ ws[9]? = some (((q 9), Sum.inl (cF, 4096, Sum.inr (Sum.inr (Sum.inr (Sum.inr (fun _ => none)))))) : Nat × va_E) ∧ ws[10]? = some (((q 10), Sum.inl (cF, 4096, Sum.inr (Sum.inr (Sum.inr (Sum.inr (fun _ => none)))))) : Nat × va_E) ∧ ws[11]? = some (((q 11), Sum.inl (cZ, 4096, Sum.inl (fun _ => 0))) : Nat × va_E) ∧ ws[12]? = some (((q 12), Sum.inr (4, [Value.ref (q 13), Value.ref (q 14), Value.ref (q 15), Value.null, Value.int 0, Value.int 0])) : Nat × va_E) ∧ ws[13]? = some (((q 13), Sum.inl (cF, 4096, Sum.inr (Sum.inr (Sum.inr (Sum.inr (fun _ => none)))))) : Nat × va_E) ∧ ws[14]? = some (((q 14), Sum.inl (cF, 4096, Sum.inr (Sum.inr (Sum.inr (Sum.inr (fun _ => none)))))) : Nat × va_E) ∧ ws[15]? = some (((q 15), Sum.inl (cZ, 4096, Sum.inl (fun _ => 0))) : Nat × va_E)
theorem le_G0_mono {D : va_G} {cI cZ cF cM cR : ClassId} {q : Nat → Nat} {ws ws1 : va_W} {j : Nat} (h : gx_g ws ws1 j [46]) (g : le_G0 D cI cZ cF cM cR q ws) : le_G0 D cI cZ cF cM cR q ws1 := by
  unfold le_G0 at g ⊢
  obtain ⟨f_0, f_1, f_2, f_3, f_4, f_5, f_6, f_7, f_8, f_9, f_10, f_11, f_12, f_13, f_14, f_15⟩ := g
  exact ⟨h.at (by decide) f_0, h.at (by decide) f_1, h.at (by decide) f_2, h.at (by decide) f_3, h.at (by decide) f_4, h.at (by decide) f_5, h.at (by decide) f_6, h.at (by decide) f_7, h.at (by decide) f_8, h.at (by decide) f_9, h.at (by decide) f_10, h.at (by decide) f_11, h.at (by decide) f_12, h.at (by decide) f_13, h.at (by decide) f_14, h.at (by decide) f_15⟩
def le_G1 (D : va_G) (cI cZ cF cM cR : ClassId) (q : Nat → Nat) (ws : va_W) : Prop := ws[16]? = some (((q 16), Sum.inr (4, [Value.ref (q 17), Value.ref (q 18), Value.ref (q 19), Value.null, Value.int 0, Value.int 0])) : Nat × va_E) ∧ ws[17]? = some (((q 17), Sum.inl (cF, 4096, Sum.inr (Sum.inr (Sum.inr (Sum.inr (fun _ => none)))))) : Nat × va_E) ∧ ws[18]? = some (((q 18), Sum.inl (cF, 4096, Sum.inr (Sum.inr (Sum.inr (Sum.inr (fun _ => none)))))) : Nat × va_E) ∧ ws[19]? = some (((q 19), Sum.inl (cZ, 4096, Sum.inl (fun _ => 0))) : Nat × va_E) ∧ ws[20]? = some (((q 20), Sum.inl (cM, 4, Sum.inr (Sum.inr (Sum.inr (Sum.inr (va_up (va_up (va_up (va_up (fun _ => none) 0 (some (q 21))) 1 (some (q 22))) 2 (some (q 23))) 3 (some (q 24)))))))) : Nat × va_E) ∧ ws[21]? = some (((q 21), Sum.inr (5, [Value.int 0, Value.int 0, Value.int 0, Value.null])) : Nat × va_E) ∧ ws[22]? = some (((q 22), Sum.inr (5, [Value.int 0, Value.int 0, Value.int 0, Value.null])) : Nat × va_E) ∧ ws[23]? = some (((q 23), Sum.inr (5, [Value.int 0, Value.int 0, Value.int 0, Value.null])) : Nat × va_E) ∧ ws[24]? = some (((q 24), Sum.inr (5, [Value.int 0, Value.int 0, Value.int 0, Value.null])) : Nat × va_E) ∧ ws[25]? = some (((q 25), Sum.inl (cR, 4, Sum.inr (Sum.inr (Sum.inr (Sum.inr (va_up (va_up (va_up (va_up (fun _ => none) 0 (some (q 26))) 1 (some (q 31))) 2 (some (q 36))) 3 (some (q 41)))))))) : Nat × va_E) ∧ ws[26]? = some (((q 26), Sum.inr (6, [Value.ref (q 27), Value.int 0, Value.int 0])) : Nat × va_E) ∧ ws[27]? = some (((q 27), Sum.inr (4, [Value.ref (q 28), Value.ref (q 29), Value.ref (q 30), Value.null, Value.int 0, Value.int 0])) : Nat × va_E) ∧ ws[28]? = some (((q 28), Sum.inl (cF, 4096, Sum.inr (Sum.inr (Sum.inr (Sum.inr (fun _ => none)))))) : Nat × va_E) ∧ ws[29]? = some (((q 29), Sum.inl (cF, 4096, Sum.inr (Sum.inr (Sum.inr (Sum.inr (fun _ => none)))))) : Nat × va_E) ∧ ws[30]? = some (((q 30), Sum.inl (cZ, 4096, Sum.inl (fun _ => 0))) : Nat × va_E) ∧ ws[31]? = some (((q 31), Sum.inr (6, [Value.ref (q 32), Value.int 0, Value.int 0])) : Nat × va_E)
theorem le_G1_mono {D : va_G} {cI cZ cF cM cR : ClassId} {q : Nat → Nat} {ws ws1 : va_W} {j : Nat} (h : gx_g ws ws1 j [46]) (g : le_G1 D cI cZ cF cM cR q ws) : le_G1 D cI cZ cF cM cR q ws1 := by
  unfold le_G1 at g ⊢
  obtain ⟨f_16, f_17, f_18, f_19, f_20, f_21, f_22, f_23, f_24, f_25, f_26, f_27, f_28, f_29, f_30, f_31⟩ := g
  exact ⟨h.at (by decide) f_16, h.at (by decide) f_17, h.at (by decide) f_18, h.at (by decide) f_19, h.at (by decide) f_20, h.at (by decide) f_21, h.at (by decide) f_22, h.at (by decide) f_23, h.at (by decide) f_24, h.at (by decide) f_25, h.at (by decide) f_26, h.at (by decide) f_27, h.at (by decide) f_28, h.at (by decide) f_29, h.at (by decide) f_30, h.at (by decide) f_31⟩
def le_G2 (D : va_G) (cI cZ cF cM cR : ClassId) (q : Nat → Nat) (ws : va_W) : Prop := ws[32]? = some (((q 32), Sum.inr (4, [Value.ref (q 33), Value.ref (q 34), Value.ref (q 35), Value.null, Value.int 0, Value.int 0])) : Nat × va_E) ∧ ws[33]? = some (((q 33), Sum.inl (cF, 4096, Sum.inr (Sum.inr (Sum.inr (Sum.inr (fun _ => none)))))) : Nat × va_E) ∧ ws[34]? = some (((q 34), Sum.inl (cF, 4096, Sum.inr (Sum.inr (Sum.inr (Sum.inr (fun _ => none)))))) : Nat × va_E) ∧ ws[35]? = some (((q 35), Sum.inl (cZ, 4096, Sum.inl (fun _ => 0))) : Nat × va_E) ∧ ws[36]? = some (((q 36), Sum.inr (6, [Value.ref (q 37), Value.int 0, Value.int 0])) : Nat × va_E) ∧ ws[37]? = some (((q 37), Sum.inr (4, [Value.ref (q 38), Value.ref (q 39), Value.ref (q 40), Value.null, Value.int 0, Value.int 0])) : Nat × va_E) ∧ ws[38]? = some (((q 38), Sum.inl (cF, 4096, Sum.inr (Sum.inr (Sum.inr (Sum.inr (fun _ => none)))))) : Nat × va_E) ∧ ws[39]? = some (((q 39), Sum.inl (cF, 4096, Sum.inr (Sum.inr (Sum.inr (Sum.inr (fun _ => none)))))) : Nat × va_E) ∧ ws[40]? = some (((q 40), Sum.inl (cZ, 4096, Sum.inl (fun _ => 0))) : Nat × va_E) ∧ ws[41]? = some (((q 41), Sum.inr (6, [Value.ref (q 42), Value.int 0, Value.int 0])) : Nat × va_E) ∧ ws[42]? = some (((q 42), Sum.inr (4, [Value.ref (q 43), Value.ref (q 44), Value.ref (q 45), Value.null, Value.int 0, Value.int 0])) : Nat × va_E) ∧ ws[43]? = some (((q 43), Sum.inl (cF, 4096, Sum.inr (Sum.inr (Sum.inr (Sum.inr (fun _ => none)))))) : Nat × va_E) ∧ ws[44]? = some (((q 44), Sum.inl (cF, 4096, Sum.inr (Sum.inr (Sum.inr (Sum.inr (fun _ => none)))))) : Nat × va_E) ∧ ws[45]? = some (((q 45), Sum.inl (cZ, 4096, Sum.inl (fun _ => 0))) : Nat × va_E)
theorem le_G2_mono {D : va_G} {cI cZ cF cM cR : ClassId} {q : Nat → Nat} {ws ws1 : va_W} {j : Nat} (h : gx_g ws ws1 j [46]) (g : le_G2 D cI cZ cF cM cR q ws) : le_G2 D cI cZ cF cM cR q ws1 := by
  unfold le_G2 at g ⊢
  obtain ⟨f_32, f_33, f_34, f_35, f_36, f_37, f_38, f_39, f_40, f_41, f_42, f_43, f_44, f_45⟩ := g
  exact ⟨h.at (by decide) f_32, h.at (by decide) f_33, h.at (by decide) f_34, h.at (by decide) f_35, h.at (by decide) f_36, h.at (by decide) f_37, h.at (by decide) f_38, h.at (by decide) f_39, h.at (by decide) f_40, h.at (by decide) f_41, h.at (by decide) f_42, h.at (by decide) f_43, h.at (by decide) f_44, h.at (by decide) f_45⟩
set_option maxHeartbeats 4000000 in
set_option maxRecDepth 100000 in
theorem c_Le_init (l : Launch) (htr : l.stackTraces = false) (D : va_G) (tys : List (ClassId × FieldType)) (z sz : Nat) (ws : va_W) (cI : ClassId) (cZ : ClassId) (cF : ClassId) (cM : ClassId) (cR : ClassId) (a : Nat) (f_0 : ws[0]? = some ((a, Sum.inr (0, [Value.null, Value.null, Value.null, Value.null, Value.null, Value.null, Value.null, Value.int 0, Value.int 0, Value.int 0, Value.int 0, Value.int 0, Value.int 0, Value.int 0, Value.int 0, Value.int 0, Value.int 0, Value.int 0])) : Nat × va_E)) (ht0 : tys[0]? = some ((cI, FieldType.int) : ClassId × FieldType)) (ht1 : tys[1]? = some ((cZ, FieldType.boolean) : ClassId × FieldType)) (ht2 : tys[2]? = some ((cF, FieldType.object "CommitLedger$LedgerFile") : ClassId × FieldType)) (ht3 : tys[3]? = some ((cM, FieldType.object "CommitLedger$Merge") : ClassId × FieldType)) (ht4 : tys[4]? = some ((cR, FieldType.object "CommitLedger$Reader") : ClassId × FieldType)) (hlen : ws.length = 1) : gx_Met l y_Le_init [Cond.code y_Le_init b_Le_init 2 none] { frames := 5, cells := 45, slots := 200000, locals := 100 } (gx_P z sz D classes tys ws [Value.ref a]) (gx_Q D classes tys (va_A ws sz) (fun r ws' => r = Sum.inl none ∧ gx_g ws ws' 45 [0] ∧ ∃ (q : Nat → Nat), q 0 = a ∧ le_G0 D cI cZ cF cM cR q ws' ∧ le_G1 D cI cZ cF cM cR q ws' ∧ le_G2 D cI cZ cF cM cR q ws')) 45 200000 (va_A ws sz) := by
  refine gx_ofW (cc := b_Le_init) (maxL := 2) (ret := none) (by decide) rfl ?_
  intro p e s m args below meth c s₁ B hml hv
  obtain ⟨rfl, hsz, hz, hP, hK, hD0, hY⟩ := hv
  have hx := B.exec
  have hb := B.bytes
  have hr := B.returns
  have hts := hY.hts (#[Value.ref a] : Array Value)
  have hown : s.vm.findClass "CommitLedger" = some m.cls := findClass_of_methodNamed B.named
  have hlocks := B.notSynchronized
  have hin : meth.name = "<init>" := (name_of_methodNamed B.named B.method).1
  have hne : c.exceptionTable.isEmpty = true := B.noHandlers (atoms_spec (ws := [Cond.code y_Le_init b_Le_init 2 none]) B.pre _ List.mem_cons_self)
  subst hsz
  have hAz := gx_az hD0 hz
  have hD := hD0.self (sz := s.heap.size)
  have hN := gx_ns hP
  have hA : ∀ q : Nat, s.heap.size ≤ q → va_A ws s.heap.size q := fun q h => Or.inr h
  generalize va_A ws s.heap.size = A at hD hN hA hAz ⊢
  generalize hPQ : (fun (r : Option Value ⊕ String) (ws' : va_W) => r = Sum.inl none ∧ gx_g ws ws' 45 [0] ∧ ∃ (q : Nat → Nat), q 0 = a ∧ le_G0 D cI cZ cF cM cR q ws' ∧ le_G1 D cI cZ cF cM cR q ws' ∧ le_G2 D cI cZ cF cM cR q ws') = PQ
  have hS : va_S A s.heap s.heap [] := va_S.rf
  have hlen0 := hlen
  have hU : gx_g ws ws 0 [0] := gx_g.rf
  have hl := lv_entry ([Value.ref a]) (n := 2) (Nat.le_of_ble_eq_true rfl)
  rw [lg_entry_eq]
  generalize (lg_sl ([Value.ref a]) ++ List.replicate (2 - (lg_sl ([Value.ref a])).length) Slot.unset).toArray = ls at hl ⊢
  have hl : lv_has ls 2 [(0, Value.ref a)] := hl
  refine lv_aload_n hx hb d_Le_init_0 rfl (lv_at hl 0 rfl) ?_
  refine W.objInit hx hb hown (hts _ km_Le_1) (hts _ kI_Object_init) (hts _ kc_Object_init) rfl (by rw [hml]; exact hl.1) rfl d_Le_init_1 (Nat.le_of_ble_eq_true rfl) (Nat.le_of_ble_eq_true rfl) ?_
  refine W.eq (g2 := F0 m 4 ls []) rfl ?_
  refine lv_aload_n hx hb d_Le_init_4 rfl (lv_at hl 0 rfl) ?_
  refine va_new (ci := 1) (fs := [Value.null, Value.null, Value.null, Value.int 0]) (C := "CommitLedger$Entries") (T := F_En) (N := 4) hx hb hts i_En t_En t_En_ok hown (hts _ kk_Le_7) (hts _ kX_En) (hts _ kN_En) hK hP hD hS hA rfl (by decide) (Nat.le_of_ble_eq_true rfl) (Nat.le_of_ble_eq_true rfl) d_Le_init_5 (fun q1 H hP9 hD9 hS9 => ?_)
  obtain ⟨ws2, e_ws2⟩ : ∃ x : va_W, x = ws ++ [((q1, Sum.inr (1, [Value.null, Value.null, Value.null, Value.int 0])) : Nat × va_E)] := ⟨_, rfl⟩
  replace hP : va_P D classes ws2 H := by rw [e_ws2]; exact hP9
  replace hD : va_D A ws2 := by rw [e_ws2]; exact hD9
  replace hS := hS9
  clear hP9 hD9 hS9
  have f_1_ws2 : ws2[1]? = some ((q1, Sum.inr (1, [Value.null, Value.null, Value.null, Value.int 0])) : Nat × va_E) := by rw [e_ws2]; exact gs_last hlen
  replace hlen : ws2.length = 2 := by rw [e_ws2]; exact gs_len hlen
  replace hU : gx_g ws ws2 1 [0] := by rw [e_ws2]; exact hU.push
  refine W.widen (k := 1) (n := 4) (by decide) (by decide) ?_
  refine lv_dup hx hb d_Le_init_8 rfl ?_
  refine gx_call (ig := .invokespecial 9) (c_En_init l htr D tys z _ ws2 cI q1 1 2 f_1_ws2 ht0 hlen (by decide)) (gx_invIN (As := []) (rest := [Value.ref q1, Value.ref a]) hx hb hown hts km_Le_9 kI_En_init kc_En_init (by decide) rfl (show (parseMethodDescriptor y_En_init.desc).map (fun d => d.parameters.length) = some 0 by decide +kernel) rfl rfl d_Le_init_9) (gx_cw (z := 0) hts kc_En_init kN_En rfl rfl ⟨Nat.le_of_ble_eq_true rfl, Nat.le_of_ble_eq_true rfl⟩) hb hml gx_blind (gx_pre hz hP hK hD hY hS hAz [Value.ref q1]) rfl hl.1 (lv_room (Nat.le_of_ble_eq_true rfl)) d_Le_init_9 ⟨Nat.le_of_ble_eq_true rfl, Nat.le_of_ble_eq_true rfl⟩ (fun v3 st3 t3 L3 h0_3 hW_3 hQ_3 hL_3 => ?_) (fun v3 st3 t3 L3 h0_3 hW_3 hQ_3 hL_3 => ?_)
  · obtain ⟨ws4, hp, hP9, -, hD9, hS9⟩ := gx_back h0_3 hW_3 hQ_3 hL_3 hD hS hA
    clear hQ_3 h0_3 hL_3 hW_3 hP hD hS
    have hP := hP9
    have hD := hD9
    have hS := hS9
    clear hP9 hD9 hS9
    rcases hp with ⟨q5, q6, q7, hv9, e_ws4, f_1_ws4, f_2_ws4, f_3_ws4, f_4_ws4⟩
    cases hv9
    have f_1_ws4 : ws4[1]? = some ((q1, Sum.inr (1, [Value.ref q5, Value.ref q6, Value.ref q7, Value.int 0])) : Nat × va_E) := f_1_ws4
    have f_2_ws4 : ws4[2]? = some ((q5, Sum.inl (cI, 4096, Sum.inl (fun _ => 0))) : Nat × va_E) := f_2_ws4
    have f_3_ws4 : ws4[3]? = some ((q6, Sum.inl (cI, 4096, Sum.inl (fun _ => 0))) : Nat × va_E) := f_3_ws4
    have f_4_ws4 : ws4[4]? = some ((q7, Sum.inl (cI, 4096, Sum.inl (fun _ => 0))) : Nat × va_E) := f_4_ws4
    replace hlen : ws4.length = 5 := by rw [e_ws4.1, hlen]
    replace hU : gx_g ws ws4 4 [0] := hU.call e_ws4 (by rw [hlen0]; decide)
    refine W.eq (g2 := F0 m 12 ls [Value.ref q1, Value.ref a]) rfl ?_
    refine W.widen (k := 4) (n := 12292) (by decide) (by decide) ?_
    generalize t3.heap = H at hP hS ⊢
    generalize [] ++ L3 = locs at hS ⊢
    have f_0_ws2 : ws2[0]? = some ((a, Sum.inr (0, [Value.null, Value.null, Value.null, Value.null, Value.null, Value.null, Value.null, Value.int 0, Value.int 0, Value.int 0, Value.int 0, Value.int 0, Value.int 0, Value.int 0, Value.int 0, Value.int 0, Value.int 0, Value.int 0])) : Nat × va_E) := by rw [e_ws2]; exact gs_app f_0
    clear f_0
    have f_0_ws4 : ws4[0]? = some ((a, Sum.inr (0, [Value.null, Value.null, Value.null, Value.null, Value.null, Value.null, Value.null, Value.int 0, Value.int 0, Value.int 0, Value.int 0, Value.int 0, Value.int 0, Value.int 0, Value.int 0, Value.int 0, Value.int 0, Value.int 0])) : Nat × va_E) := e_ws4.at (by first | decide | (simp; done) | (simp; omega)) f_0_ws2
    clear f_0_ws2
    refine va_putF (D := D) (ci := 0) (v := Value.ref q1) (ty := .object "CommitLedger$Entries") (C := "CommitLedger") (T := F_Le) (N := 18) hx hb hts i_Le t_Le t_Le_ok n_Le hown hK hP hD hS 0 f_0_ws4 rfl 0 (by decide) (hts _ kf_Le_10) (fun _ h9 => h9) rfl hin rfl (by decide +kernel) rfl rfl (Nat.le_of_ble_eq_true rfl) d_Le_init_12 (fun H locs hP9 hD9 hS9 => ?_)
    obtain ⟨ws8, e_ws8⟩ : ∃ x : va_W, x = ws4.set 0 ((a, Sum.inr (0, [Value.ref q1, Value.null, Value.null, Value.null, Value.null, Value.null, Value.null, Value.int 0, Value.int 0, Value.int 0, Value.int 0, Value.int 0, Value.int 0, Value.int 0, Value.int 0, Value.int 0, Value.int 0, Value.int 0])) : Nat × va_E) := ⟨_, rfl⟩
    replace hP : va_P D classes ws8 H := by rw [e_ws8]; exact hP9
    replace hD : va_D A ws8 := by rw [e_ws8]; exact hD9
    replace hS := hS9
    clear hP9 hD9 hS9
    have f_0_ws8 : ws8[0]? = some ((a, Sum.inr (0, [Value.ref q1, Value.null, Value.null, Value.null, Value.null, Value.null, Value.null, Value.int 0, Value.int 0, Value.int 0, Value.int 0, Value.int 0, Value.int 0, Value.int 0, Value.int 0, Value.int 0, Value.int 0, Value.int 0])) : Nat × va_E) := by rw [e_ws8]; exact gs_self f_0_ws4
    replace hlen : ws8.length = 5 := by rw [e_ws8]; exact gs_lens hlen
    replace hU : gx_g ws ws8 4 [0] := by rw [e_ws8]; exact hU.put (Or.inl (by simp))
    refine lv_aload_n hx hb d_Le_init_15 rfl (lv_at hl 0 rfl) ?_
    refine va_new (ci := 2) (fs := [Value.null, Value.null, Value.int 0, Value.int 0]) (C := "CommitLedger$Directory") (T := F_Di) (N := 4) hx hb hts i_Di t_Di t_Di_ok hown (hts _ kk_Le_16) (hts _ kX_Di) (hts _ kN_Di) hK hP hD hS hA rfl (by decide) (Nat.le_of_ble_eq_true rfl) (Nat.le_of_ble_eq_true rfl) d_Le_init_16 (fun q9 H hP9 hD9 hS9 => ?_)
    obtain ⟨ws10, e_ws10⟩ : ∃ x : va_W, x = ws8 ++ [((q9, Sum.inr (2, [Value.null, Value.null, Value.int 0, Value.int 0])) : Nat × va_E)] := ⟨_, rfl⟩
    replace hP : va_P D classes ws10 H := by rw [e_ws10]; exact hP9
    replace hD : va_D A ws10 := by rw [e_ws10]; exact hD9
    replace hS := hS9
    clear hP9 hD9 hS9
    have f_5_ws10 : ws10[5]? = some ((q9, Sum.inr (2, [Value.null, Value.null, Value.int 0, Value.int 0])) : Nat × va_E) := by rw [e_ws10]; exact gs_last hlen
    replace hlen : ws10.length = 6 := by rw [e_ws10]; exact gs_len hlen
    replace hU : gx_g ws ws10 5 [0] := by rw [e_ws10]; exact hU.push
    refine W.widen (k := 5) (n := 12296) (by decide) (by decide) ?_
    refine lv_dup hx hb d_Le_init_19 rfl ?_
    refine gx_call (ig := .invokespecial 18) (c_Di_init l htr D tys z _ ws10 q9 5 6 f_5_ws10 hlen (by decide)) (gx_invIN (As := []) (rest := [Value.ref q9, Value.ref a]) hx hb hown hts km_Le_18 kI_Di_init kc_Di_init (by decide) rfl (show (parseMethodDescriptor y_Di_init.desc).map (fun d => d.parameters.length) = some 0 by decide +kernel) rfl rfl d_Le_init_20) (gx_cw (z := 0) hts kc_Di_init kN_Di rfl rfl ⟨Nat.le_of_ble_eq_true rfl, Nat.le_of_ble_eq_true rfl⟩) hb hml gx_blind (gx_pre hz hP hK hD hY hS hAz [Value.ref q9]) rfl hl.1 (lv_room (Nat.le_of_ble_eq_true rfl)) d_Le_init_20 ⟨Nat.le_of_ble_eq_true rfl, Nat.le_of_ble_eq_true rfl⟩ (fun v11 st11 t11 L11 h0_11 hW_11 hQ_11 hL_11 => ?_) (fun v11 st11 t11 L11 h0_11 hW_11 hQ_11 hL_11 => ?_)
    · obtain ⟨ws12, hp, hP9, -, hD9, hS9⟩ := gx_back h0_11 hW_11 hQ_11 hL_11 hD hS hA
      clear hQ_11 h0_11 hL_11 hW_11 hP hD hS
      have hP := hP9
      have hD := hD9
      have hS := hS9
      clear hP9 hD9 hS9
      rcases hp with ⟨q13, q14, hv9, e_ws12, f_5_ws12, f_6_ws12, f_7_ws12⟩
      cases hv9
      have f_5_ws12 : ws12[5]? = some ((q9, Sum.inr (2, [Value.ref q13, Value.ref q14, Value.int 0, Value.int 0])) : Nat × va_E) := f_5_ws12
      have f_6_ws12 : ws12[6]? = some ((q13, Sum.inr (3, [Value.ref (gx_av D), Value.int 0, Value.int 0])) : Nat × va_E) := f_6_ws12
      have f_7_ws12 : ws12[7]? = some ((q14, Sum.inr (3, [Value.ref (gx_av D), Value.int 0, Value.int 0])) : Nat × va_E) := f_7_ws12
      replace hlen : ws12.length = 8 := by rw [e_ws12.1, hlen]
      replace hU : gx_g ws ws12 7 [0] := hU.call e_ws12 (by rw [hlen0]; decide)
      refine W.eq (g2 := F0 m 23 ls [Value.ref q9, Value.ref a]) rfl ?_
      refine W.widen (k := 7) (n := 12302) (by decide) (by decide) ?_
      generalize t11.heap = H at hP hS ⊢
      generalize locs ++ L11 = locs at hS ⊢
      have f_0_ws10 : ws10[0]? = some ((a, Sum.inr (0, [Value.ref q1, Value.null, Value.null, Value.null, Value.null, Value.null, Value.null, Value.int 0, Value.int 0, Value.int 0, Value.int 0, Value.int 0, Value.int 0, Value.int 0, Value.int 0, Value.int 0, Value.int 0, Value.int 0])) : Nat × va_E) := by rw [e_ws10]; exact gs_app f_0_ws8
      clear f_0_ws8
      have f_0_ws12 : ws12[0]? = some ((a, Sum.inr (0, [Value.ref q1, Value.null, Value.null, Value.null, Value.null, Value.null, Value.null, Value.int 0, Value.int 0, Value.int 0, Value.int 0, Value.int 0, Value.int 0, Value.int 0, Value.int 0, Value.int 0, Value.int 0, Value.int 0])) : Nat × va_E) := e_ws12.at (by first | decide | (simp; done) | (simp; omega)) f_0_ws10
      clear f_0_ws10
      refine va_putF (D := D) (ci := 0) (v := Value.ref q9) (ty := .object "CommitLedger$Directory") (C := "CommitLedger") (T := F_Le) (N := 18) hx hb hts i_Le t_Le t_Le_ok n_Le hown hK hP hD hS 0 f_0_ws12 rfl 1 (by decide) (hts _ kf_Le_19) (fun _ h9 => h9) rfl hin rfl (by decide +kernel) rfl rfl (Nat.le_of_ble_eq_true rfl) d_Le_init_23 (fun H locs hP9 hD9 hS9 => ?_)
      obtain ⟨ws15, e_ws15⟩ : ∃ x : va_W, x = ws12.set 0 ((a, Sum.inr (0, [Value.ref q1, Value.ref q9, Value.null, Value.null, Value.null, Value.null, Value.null, Value.int 0, Value.int 0, Value.int 0, Value.int 0, Value.int 0, Value.int 0, Value.int 0, Value.int 0, Value.int 0, Value.int 0, Value.int 0])) : Nat × va_E) := ⟨_, rfl⟩
      replace hP : va_P D classes ws15 H := by rw [e_ws15]; exact hP9
      replace hD : va_D A ws15 := by rw [e_ws15]; exact hD9
      replace hS := hS9
      clear hP9 hD9 hS9
      have f_0_ws15 : ws15[0]? = some ((a, Sum.inr (0, [Value.ref q1, Value.ref q9, Value.null, Value.null, Value.null, Value.null, Value.null, Value.int 0, Value.int 0, Value.int 0, Value.int 0, Value.int 0, Value.int 0, Value.int 0, Value.int 0, Value.int 0, Value.int 0, Value.int 0])) : Nat × va_E) := by rw [e_ws15]; exact gs_self f_0_ws12
      replace hlen : ws15.length = 8 := by rw [e_ws15]; exact gs_lens hlen
      replace hU : gx_g ws ws15 7 [0] := by rw [e_ws15]; exact hU.put (Or.inl (by simp))
      refine lv_aload_n hx hb d_Le_init_26 rfl (lv_at hl 0 rfl) ?_
      refine va_new (ci := 4) (fs := [Value.null, Value.null, Value.null, Value.null, Value.int 0, Value.int 0]) (C := "CommitLedger$View") (T := F_Vi) (N := 6) hx hb hts i_Vi t_Vi t_Vi_ok hown (hts _ kk_Le_23) (hts _ kX_Vi) (hts _ kN_Vi) hK hP hD hS hA rfl (by decide) (Nat.le_of_ble_eq_true rfl) (Nat.le_of_ble_eq_true rfl) d_Le_init_27 (fun q16 H hP9 hD9 hS9 => ?_)
      obtain ⟨ws17, e_ws17⟩ : ∃ x : va_W, x = ws15 ++ [((q16, Sum.inr (4, [Value.null, Value.null, Value.null, Value.null, Value.int 0, Value.int 0])) : Nat × va_E)] := ⟨_, rfl⟩
      replace hP : va_P D classes ws17 H := by rw [e_ws17]; exact hP9
      replace hD : va_D A ws17 := by rw [e_ws17]; exact hD9
      replace hS := hS9
      clear hP9 hD9 hS9
      have f_8_ws17 : ws17[8]? = some ((q16, Sum.inr (4, [Value.null, Value.null, Value.null, Value.null, Value.int 0, Value.int 0])) : Nat × va_E) := by rw [e_ws17]; exact gs_last hlen
      replace hlen : ws17.length = 9 := by rw [e_ws17]; exact gs_len hlen
      replace hU : gx_g ws ws17 8 [0] := by rw [e_ws17]; exact hU.push
      refine W.widen (k := 8) (n := 12308) (by decide) (by decide) ?_
      refine lv_dup hx hb d_Le_init_30 rfl ?_
      refine gx_call (ig := .invokespecial 25) (c_Vi_init l htr D tys z _ ws17 cZ cF q16 8 9 f_8_ws17 ht1 ht2 hlen (by decide)) (gx_invIN (As := []) (rest := [Value.ref q16, Value.ref a]) hx hb hown hts km_Le_25 kI_Vi_init kc_Vi_init (by decide) rfl (show (parseMethodDescriptor y_Vi_init.desc).map (fun d => d.parameters.length) = some 0 by decide +kernel) rfl rfl d_Le_init_31) (gx_cw (z := 0) hts kc_Vi_init kN_Vi rfl rfl ⟨Nat.le_of_ble_eq_true rfl, Nat.le_of_ble_eq_true rfl⟩) hb hml gx_blind (gx_pre hz hP hK hD hY hS hAz [Value.ref q16]) rfl hl.1 (lv_room (Nat.le_of_ble_eq_true rfl)) d_Le_init_31 ⟨Nat.le_of_ble_eq_true rfl, Nat.le_of_ble_eq_true rfl⟩ (fun v18 st18 t18 L18 h0_18 hW_18 hQ_18 hL_18 => ?_) (fun v18 st18 t18 L18 h0_18 hW_18 hQ_18 hL_18 => ?_)
      · obtain ⟨ws19, hp, hP9, -, hD9, hS9⟩ := gx_back h0_18 hW_18 hQ_18 hL_18 hD hS hA
        clear hQ_18 h0_18 hL_18 hW_18 hP hD hS
        have hP := hP9
        have hD := hD9
        have hS := hS9
        clear hP9 hD9 hS9
        rcases hp with ⟨q20, q21, q22, hv9, e_ws19, f_8_ws19, f_9_ws19, f_10_ws19, f_11_ws19⟩
        cases hv9
        have f_8_ws19 : ws19[8]? = some ((q16, Sum.inr (4, [Value.ref q20, Value.ref q21, Value.ref q22, Value.null, Value.int 0, Value.int 0])) : Nat × va_E) := f_8_ws19
        have f_9_ws19 : ws19[9]? = some ((q20, Sum.inl (cF, 4096, Sum.inr (Sum.inr (Sum.inr (Sum.inr (fun _ => none)))))) : Nat × va_E) := f_9_ws19
        have f_10_ws19 : ws19[10]? = some ((q21, Sum.inl (cF, 4096, Sum.inr (Sum.inr (Sum.inr (Sum.inr (fun _ => none)))))) : Nat × va_E) := f_10_ws19
        have f_11_ws19 : ws19[11]? = some ((q22, Sum.inl (cZ, 4096, Sum.inl (fun _ => 0))) : Nat × va_E) := f_11_ws19
        replace hlen : ws19.length = 12 := by rw [e_ws19.1, hlen]
        replace hU : gx_g ws ws19 11 [0] := hU.call e_ws19 (by rw [hlen0]; decide)
        refine W.eq (g2 := F0 m 34 ls [Value.ref q16, Value.ref a]) rfl ?_
        refine W.widen (k := 11) (n := 24596) (by decide) (by decide) ?_
        generalize t18.heap = H at hP hS ⊢
        generalize locs ++ L18 = locs at hS ⊢
        have f_0_ws17 : ws17[0]? = some ((a, Sum.inr (0, [Value.ref q1, Value.ref q9, Value.null, Value.null, Value.null, Value.null, Value.null, Value.int 0, Value.int 0, Value.int 0, Value.int 0, Value.int 0, Value.int 0, Value.int 0, Value.int 0, Value.int 0, Value.int 0, Value.int 0])) : Nat × va_E) := by rw [e_ws17]; exact gs_app f_0_ws15
        clear f_0_ws15
        have f_0_ws19 : ws19[0]? = some ((a, Sum.inr (0, [Value.ref q1, Value.ref q9, Value.null, Value.null, Value.null, Value.null, Value.null, Value.int 0, Value.int 0, Value.int 0, Value.int 0, Value.int 0, Value.int 0, Value.int 0, Value.int 0, Value.int 0, Value.int 0, Value.int 0])) : Nat × va_E) := e_ws19.at (by first | decide | (simp; done) | (simp; omega)) f_0_ws17
        clear f_0_ws17
        refine va_putF (D := D) (ci := 0) (v := Value.ref q16) (ty := .object "CommitLedger$View") (C := "CommitLedger") (T := F_Le) (N := 18) hx hb hts i_Le t_Le t_Le_ok n_Le hown hK hP hD hS 0 f_0_ws19 rfl 2 (by decide) (hts _ kf_Le_26) (fun _ h9 => h9) rfl hin rfl (by decide +kernel) rfl rfl (Nat.le_of_ble_eq_true rfl) d_Le_init_34 (fun H locs hP9 hD9 hS9 => ?_)
        obtain ⟨ws23, e_ws23⟩ : ∃ x : va_W, x = ws19.set 0 ((a, Sum.inr (0, [Value.ref q1, Value.ref q9, Value.ref q16, Value.null, Value.null, Value.null, Value.null, Value.int 0, Value.int 0, Value.int 0, Value.int 0, Value.int 0, Value.int 0, Value.int 0, Value.int 0, Value.int 0, Value.int 0, Value.int 0])) : Nat × va_E) := ⟨_, rfl⟩
        replace hP : va_P D classes ws23 H := by rw [e_ws23]; exact hP9
        replace hD : va_D A ws23 := by rw [e_ws23]; exact hD9
        replace hS := hS9
        clear hP9 hD9 hS9
        have f_0_ws23 : ws23[0]? = some ((a, Sum.inr (0, [Value.ref q1, Value.ref q9, Value.ref q16, Value.null, Value.null, Value.null, Value.null, Value.int 0, Value.int 0, Value.int 0, Value.int 0, Value.int 0, Value.int 0, Value.int 0, Value.int 0, Value.int 0, Value.int 0, Value.int 0])) : Nat × va_E) := by rw [e_ws23]; exact gs_self f_0_ws19
        replace hlen : ws23.length = 12 := by rw [e_ws23]; exact gs_lens hlen
        replace hU : gx_g ws ws23 11 [0] := by rw [e_ws23]; exact hU.put (Or.inl (by simp))
        refine lv_aload_n hx hb d_Le_init_37 rfl (lv_at hl 0 rfl) ?_
        refine va_new (ci := 4) (fs := [Value.null, Value.null, Value.null, Value.null, Value.int 0, Value.int 0]) (C := "CommitLedger$View") (T := F_Vi) (N := 6) hx hb hts i_Vi t_Vi t_Vi_ok hown (hts _ kk_Le_23) (hts _ kX_Vi) (hts _ kN_Vi) hK hP hD hS hA rfl (by decide) (Nat.le_of_ble_eq_true rfl) (Nat.le_of_ble_eq_true rfl) d_Le_init_38 (fun q24 H hP9 hD9 hS9 => ?_)
        obtain ⟨ws25, e_ws25⟩ : ∃ x : va_W, x = ws23 ++ [((q24, Sum.inr (4, [Value.null, Value.null, Value.null, Value.null, Value.int 0, Value.int 0])) : Nat × va_E)] := ⟨_, rfl⟩
        replace hP : va_P D classes ws25 H := by rw [e_ws25]; exact hP9
        replace hD : va_D A ws25 := by rw [e_ws25]; exact hD9
        replace hS := hS9
        clear hP9 hD9 hS9
        have f_12_ws25 : ws25[12]? = some ((q24, Sum.inr (4, [Value.null, Value.null, Value.null, Value.null, Value.int 0, Value.int 0])) : Nat × va_E) := by rw [e_ws25]; exact gs_last hlen
        replace hlen : ws25.length = 13 := by rw [e_ws25]; exact gs_len hlen
        replace hU : gx_g ws ws25 12 [0] := by rw [e_ws25]; exact hU.push
        refine W.widen (k := 12) (n := 24602) (by decide) (by decide) ?_
        refine lv_dup hx hb d_Le_init_41 rfl ?_
        refine gx_call (ig := .invokespecial 25) (c_Vi_init l htr D tys z _ ws25 cZ cF q24 12 13 f_12_ws25 ht1 ht2 hlen (by decide)) (gx_invIN (As := []) (rest := [Value.ref q24, Value.ref a]) hx hb hown hts km_Le_25 kI_Vi_init kc_Vi_init (by decide) rfl (show (parseMethodDescriptor y_Vi_init.desc).map (fun d => d.parameters.length) = some 0 by decide +kernel) rfl rfl d_Le_init_42) (gx_cw (z := 0) hts kc_Vi_init kN_Vi rfl rfl ⟨Nat.le_of_ble_eq_true rfl, Nat.le_of_ble_eq_true rfl⟩) hb hml gx_blind (gx_pre hz hP hK hD hY hS hAz [Value.ref q24]) rfl hl.1 (lv_room (Nat.le_of_ble_eq_true rfl)) d_Le_init_42 ⟨Nat.le_of_ble_eq_true rfl, Nat.le_of_ble_eq_true rfl⟩ (fun v26 st26 t26 L26 h0_26 hW_26 hQ_26 hL_26 => ?_) (fun v26 st26 t26 L26 h0_26 hW_26 hQ_26 hL_26 => ?_)
        · obtain ⟨ws27, hp, hP9, -, hD9, hS9⟩ := gx_back h0_26 hW_26 hQ_26 hL_26 hD hS hA
          clear hQ_26 h0_26 hL_26 hW_26 hP hD hS
          have hP := hP9
          have hD := hD9
          have hS := hS9
          clear hP9 hD9 hS9
          rcases hp with ⟨q28, q29, q30, hv9, e_ws27, f_12_ws27, f_13_ws27, f_14_ws27, f_15_ws27⟩
          cases hv9
          have f_12_ws27 : ws27[12]? = some ((q24, Sum.inr (4, [Value.ref q28, Value.ref q29, Value.ref q30, Value.null, Value.int 0, Value.int 0])) : Nat × va_E) := f_12_ws27
          have f_13_ws27 : ws27[13]? = some ((q28, Sum.inl (cF, 4096, Sum.inr (Sum.inr (Sum.inr (Sum.inr (fun _ => none)))))) : Nat × va_E) := f_13_ws27
          have f_14_ws27 : ws27[14]? = some ((q29, Sum.inl (cF, 4096, Sum.inr (Sum.inr (Sum.inr (Sum.inr (fun _ => none)))))) : Nat × va_E) := f_14_ws27
          have f_15_ws27 : ws27[15]? = some ((q30, Sum.inl (cZ, 4096, Sum.inl (fun _ => 0))) : Nat × va_E) := f_15_ws27
          replace hlen : ws27.length = 16 := by rw [e_ws27.1, hlen]
          replace hU : gx_g ws ws27 15 [0] := hU.call e_ws27 (by rw [hlen0]; decide)
          refine W.eq (g2 := F0 m 45 ls [Value.ref q24, Value.ref a]) rfl ?_
          refine W.widen (k := 15) (n := 36890) (by decide) (by decide) ?_
          generalize t26.heap = H at hP hS ⊢
          generalize locs ++ L26 = locs at hS ⊢
          have f_0_ws25 : ws25[0]? = some ((a, Sum.inr (0, [Value.ref q1, Value.ref q9, Value.ref q16, Value.null, Value.null, Value.null, Value.null, Value.int 0, Value.int 0, Value.int 0, Value.int 0, Value.int 0, Value.int 0, Value.int 0, Value.int 0, Value.int 0, Value.int 0, Value.int 0])) : Nat × va_E) := by rw [e_ws25]; exact gs_app f_0_ws23
          clear f_0_ws23
          have f_0_ws27 : ws27[0]? = some ((a, Sum.inr (0, [Value.ref q1, Value.ref q9, Value.ref q16, Value.null, Value.null, Value.null, Value.null, Value.int 0, Value.int 0, Value.int 0, Value.int 0, Value.int 0, Value.int 0, Value.int 0, Value.int 0, Value.int 0, Value.int 0, Value.int 0])) : Nat × va_E) := e_ws27.at (by first | decide | (simp; done) | (simp; omega)) f_0_ws25
          clear f_0_ws25
          refine va_put (D := D) (ci := 0) (v := Value.ref q24) (ty := .object "CommitLedger$View") (C := "CommitLedger") (T := F_Le) (N := 18) hx hb hts i_Le t_Le t_Le_ok n_Le hown hK hP hD hS 0 f_0_ws27 rfl 5 (by decide) (hts _ kf_Le_30) (fun _ h9 => h9) rfl (by decide +kernel) rfl rfl (Nat.le_of_ble_eq_true rfl) d_Le_init_45 (fun H locs hP9 hD9 hS9 => ?_)
          obtain ⟨ws31, e_ws31⟩ : ∃ x : va_W, x = ws27.set 0 ((a, Sum.inr (0, [Value.ref q1, Value.ref q9, Value.ref q16, Value.null, Value.null, Value.ref q24, Value.null, Value.int 0, Value.int 0, Value.int 0, Value.int 0, Value.int 0, Value.int 0, Value.int 0, Value.int 0, Value.int 0, Value.int 0, Value.int 0])) : Nat × va_E) := ⟨_, rfl⟩
          replace hP : va_P D classes ws31 H := by rw [e_ws31]; exact hP9
          replace hD : va_D A ws31 := by rw [e_ws31]; exact hD9
          replace hS := hS9
          clear hP9 hD9 hS9
          have f_0_ws31 : ws31[0]? = some ((a, Sum.inr (0, [Value.ref q1, Value.ref q9, Value.ref q16, Value.null, Value.null, Value.ref q24, Value.null, Value.int 0, Value.int 0, Value.int 0, Value.int 0, Value.int 0, Value.int 0, Value.int 0, Value.int 0, Value.int 0, Value.int 0, Value.int 0])) : Nat × va_E) := by rw [e_ws31]; exact gs_self f_0_ws27
          replace hlen : ws31.length = 16 := by rw [e_ws31]; exact gs_lens hlen
          replace hU : gx_g ws ws31 15 [0] := by rw [e_ws31]; exact hU.put (Or.inl (by simp))
          refine lv_aload_n hx hb d_Le_init_48 rfl (lv_at hl 0 rfl) ?_
          refine va_new (ci := 4) (fs := [Value.null, Value.null, Value.null, Value.null, Value.int 0, Value.int 0]) (C := "CommitLedger$View") (T := F_Vi) (N := 6) hx hb hts i_Vi t_Vi t_Vi_ok hown (hts _ kk_Le_23) (hts _ kX_Vi) (hts _ kN_Vi) hK hP hD hS hA rfl (by decide) (Nat.le_of_ble_eq_true rfl) (Nat.le_of_ble_eq_true rfl) d_Le_init_49 (fun q32 H hP9 hD9 hS9 => ?_)
          obtain ⟨ws33, e_ws33⟩ : ∃ x : va_W, x = ws31 ++ [((q32, Sum.inr (4, [Value.null, Value.null, Value.null, Value.null, Value.int 0, Value.int 0])) : Nat × va_E)] := ⟨_, rfl⟩
          replace hP : va_P D classes ws33 H := by rw [e_ws33]; exact hP9
          replace hD : va_D A ws33 := by rw [e_ws33]; exact hD9
          replace hS := hS9
          clear hP9 hD9 hS9
          have f_16_ws33 : ws33[16]? = some ((q32, Sum.inr (4, [Value.null, Value.null, Value.null, Value.null, Value.int 0, Value.int 0])) : Nat × va_E) := by rw [e_ws33]; exact gs_last hlen
          replace hlen : ws33.length = 17 := by rw [e_ws33]; exact gs_len hlen
          replace hU : gx_g ws ws33 16 [0] := by rw [e_ws33]; exact hU.push
          refine W.widen (k := 16) (n := 36896) (by decide) (by decide) ?_
          refine lv_dup hx hb d_Le_init_52 rfl ?_
          refine gx_call (ig := .invokespecial 25) (c_Vi_init l htr D tys z _ ws33 cZ cF q32 16 17 f_16_ws33 ht1 ht2 hlen (by decide)) (gx_invIN (As := []) (rest := [Value.ref q32, Value.ref a]) hx hb hown hts km_Le_25 kI_Vi_init kc_Vi_init (by decide) rfl (show (parseMethodDescriptor y_Vi_init.desc).map (fun d => d.parameters.length) = some 0 by decide +kernel) rfl rfl d_Le_init_53) (gx_cw (z := 0) hts kc_Vi_init kN_Vi rfl rfl ⟨Nat.le_of_ble_eq_true rfl, Nat.le_of_ble_eq_true rfl⟩) hb hml gx_blind (gx_pre hz hP hK hD hY hS hAz [Value.ref q32]) rfl hl.1 (lv_room (Nat.le_of_ble_eq_true rfl)) d_Le_init_53 ⟨Nat.le_of_ble_eq_true rfl, Nat.le_of_ble_eq_true rfl⟩ (fun v34 st34 t34 L34 h0_34 hW_34 hQ_34 hL_34 => ?_) (fun v34 st34 t34 L34 h0_34 hW_34 hQ_34 hL_34 => ?_)
          · obtain ⟨ws35, hp, hP9, -, hD9, hS9⟩ := gx_back h0_34 hW_34 hQ_34 hL_34 hD hS hA
            clear hQ_34 h0_34 hL_34 hW_34 hP hD hS
            have hP := hP9
            have hD := hD9
            have hS := hS9
            clear hP9 hD9 hS9
            rcases hp with ⟨q36, q37, q38, hv9, e_ws35, f_16_ws35, f_17_ws35, f_18_ws35, f_19_ws35⟩
            cases hv9
            have f_16_ws35 : ws35[16]? = some ((q32, Sum.inr (4, [Value.ref q36, Value.ref q37, Value.ref q38, Value.null, Value.int 0, Value.int 0])) : Nat × va_E) := f_16_ws35
            have f_17_ws35 : ws35[17]? = some ((q36, Sum.inl (cF, 4096, Sum.inr (Sum.inr (Sum.inr (Sum.inr (fun _ => none)))))) : Nat × va_E) := f_17_ws35
            have f_18_ws35 : ws35[18]? = some ((q37, Sum.inl (cF, 4096, Sum.inr (Sum.inr (Sum.inr (Sum.inr (fun _ => none)))))) : Nat × va_E) := f_18_ws35
            have f_19_ws35 : ws35[19]? = some ((q38, Sum.inl (cZ, 4096, Sum.inl (fun _ => 0))) : Nat × va_E) := f_19_ws35
            replace hlen : ws35.length = 20 := by rw [e_ws35.1, hlen]
            replace hU : gx_g ws ws35 19 [0] := hU.call e_ws35 (by rw [hlen0]; decide)
            refine W.eq (g2 := F0 m 56 ls [Value.ref q32, Value.ref a]) rfl ?_
            refine W.widen (k := 19) (n := 49184) (by decide) (by decide) ?_
            generalize t34.heap = H at hP hS ⊢
            generalize locs ++ L34 = locs at hS ⊢
            have f_0_ws33 : ws33[0]? = some ((a, Sum.inr (0, [Value.ref q1, Value.ref q9, Value.ref q16, Value.null, Value.null, Value.ref q24, Value.null, Value.int 0, Value.int 0, Value.int 0, Value.int 0, Value.int 0, Value.int 0, Value.int 0, Value.int 0, Value.int 0, Value.int 0, Value.int 0])) : Nat × va_E) := by rw [e_ws33]; exact gs_app f_0_ws31
            clear f_0_ws31
            have f_0_ws35 : ws35[0]? = some ((a, Sum.inr (0, [Value.ref q1, Value.ref q9, Value.ref q16, Value.null, Value.null, Value.ref q24, Value.null, Value.int 0, Value.int 0, Value.int 0, Value.int 0, Value.int 0, Value.int 0, Value.int 0, Value.int 0, Value.int 0, Value.int 0, Value.int 0])) : Nat × va_E) := e_ws35.at (by first | decide | (simp; done) | (simp; omega)) f_0_ws33
            clear f_0_ws33
            refine va_put (D := D) (ci := 0) (v := Value.ref q32) (ty := .object "CommitLedger$View") (C := "CommitLedger") (T := F_Le) (N := 18) hx hb hts i_Le t_Le t_Le_ok n_Le hown hK hP hD hS 0 f_0_ws35 rfl 6 (by decide) (hts _ kf_Le_33) (fun _ h9 => h9) rfl (by decide +kernel) rfl rfl (Nat.le_of_ble_eq_true rfl) d_Le_init_56 (fun H locs hP9 hD9 hS9 => ?_)
            obtain ⟨ws39, e_ws39⟩ : ∃ x : va_W, x = ws35.set 0 ((a, Sum.inr (0, [Value.ref q1, Value.ref q9, Value.ref q16, Value.null, Value.null, Value.ref q24, Value.ref q32, Value.int 0, Value.int 0, Value.int 0, Value.int 0, Value.int 0, Value.int 0, Value.int 0, Value.int 0, Value.int 0, Value.int 0, Value.int 0])) : Nat × va_E) := ⟨_, rfl⟩
            replace hP : va_P D classes ws39 H := by rw [e_ws39]; exact hP9
            replace hD : va_D A ws39 := by rw [e_ws39]; exact hD9
            replace hS := hS9
            clear hP9 hD9 hS9
            have f_0_ws39 : ws39[0]? = some ((a, Sum.inr (0, [Value.ref q1, Value.ref q9, Value.ref q16, Value.null, Value.null, Value.ref q24, Value.ref q32, Value.int 0, Value.int 0, Value.int 0, Value.int 0, Value.int 0, Value.int 0, Value.int 0, Value.int 0, Value.int 0, Value.int 0, Value.int 0])) : Nat × va_E) := by rw [e_ws39]; exact gs_self f_0_ws35
            replace hlen : ws39.length = 20 := by rw [e_ws39]; exact gs_lens hlen
            replace hU : gx_g ws ws39 19 [0] := by rw [e_ws39]; exact hU.put (Or.inl (by simp))
            refine lv_aload_n hx hb d_Le_init_59 rfl (lv_at hl 0 rfl) ?_
            refine lv_iconst (v := 4) hx hb d_Le_init_60 (by decide) ?_
            refine gx_newq (C := "CommitLedger$Merge") (N' := 4) hx hb hown (hts _ kk_Le_36) (hts _ kO_Me) hK hP hD hS hA 3 ht3 (by decide) (by decide) (by decide) (Nat.le_of_ble_eq_true rfl) (Nat.le_of_ble_eq_true rfl) d_Le_init_61 (fun q40 H hP9 hD9 hS9 => ?_)
            obtain ⟨ws41, e_ws41⟩ : ∃ x : va_W, x = ws39 ++ [((q40, Sum.inl (cM, 4, Sum.inr (Sum.inr (Sum.inr (Sum.inr (fun _ => none)))))) : Nat × va_E)] := ⟨_, rfl⟩
            replace hP : va_P D classes ws41 H := by rw [e_ws41]; exact hP9
            replace hD : va_D A ws41 := by rw [e_ws41]; exact hD9
            replace hS := hS9
            clear hP9 hD9 hS9
            have f_20_ws41 : ws41[20]? = some ((q40, Sum.inl (cM, 4, Sum.inr (Sum.inr (Sum.inr (Sum.inr (fun _ => none)))))) : Nat × va_E) := by rw [e_ws41]; exact gs_last hlen
            replace hlen : ws41.length = 21 := by rw [e_ws41]; exact gs_len hlen
            replace hU : gx_g ws ws41 20 [0] := by rw [e_ws41]; exact hU.push
            refine W.widen (k := 20) (n := 49188) (by decide) (by decide) ?_
            have f_0_ws41 : ws41[0]? = some ((a, Sum.inr (0, [Value.ref q1, Value.ref q9, Value.ref q16, Value.null, Value.null, Value.ref q24, Value.ref q32, Value.int 0, Value.int 0, Value.int 0, Value.int 0, Value.int 0, Value.int 0, Value.int 0, Value.int 0, Value.int 0, Value.int 0, Value.int 0])) : Nat × va_E) := by rw [e_ws41]; exact gs_app f_0_ws39
            clear f_0_ws39
            refine va_putF (D := D) (ci := 0) (v := Value.ref q40) (ty := .array (.object "CommitLedger$Merge")) (C := "CommitLedger") (T := F_Le) (N := 18) hx hb hts i_Le t_Le t_Le_ok n_Le hown hK hP hD hS 0 f_0_ws41 rfl 3 (by decide) (hts _ kf_Le_38) (fun _ h9 => h9) rfl hin rfl (by decide +kernel) rfl rfl (Nat.le_of_ble_eq_true rfl) d_Le_init_64 (fun H locs hP9 hD9 hS9 => ?_)
            obtain ⟨ws42, e_ws42⟩ : ∃ x : va_W, x = ws41.set 0 ((a, Sum.inr (0, [Value.ref q1, Value.ref q9, Value.ref q16, Value.ref q40, Value.null, Value.ref q24, Value.ref q32, Value.int 0, Value.int 0, Value.int 0, Value.int 0, Value.int 0, Value.int 0, Value.int 0, Value.int 0, Value.int 0, Value.int 0, Value.int 0])) : Nat × va_E) := ⟨_, rfl⟩
            replace hP : va_P D classes ws42 H := by rw [e_ws42]; exact hP9
            replace hD : va_D A ws42 := by rw [e_ws42]; exact hD9
            replace hS := hS9
            clear hP9 hD9 hS9
            have f_0_ws42 : ws42[0]? = some ((a, Sum.inr (0, [Value.ref q1, Value.ref q9, Value.ref q16, Value.ref q40, Value.null, Value.ref q24, Value.ref q32, Value.int 0, Value.int 0, Value.int 0, Value.int 0, Value.int 0, Value.int 0, Value.int 0, Value.int 0, Value.int 0, Value.int 0, Value.int 0])) : Nat × va_E) := by rw [e_ws42]; exact gs_self f_0_ws41
            replace hlen : ws42.length = 21 := by rw [e_ws42]; exact gs_lens hlen
            replace hU : gx_g ws ws42 20 [0] := by rw [e_ws42]; exact hU.put (Or.inl (by simp))
            refine lv_iconst (v := 0) hx hb d_Le_init_67 (by decide) ?_
            refine lv_istore_n (lv' := [(1, Value.int 0), (0, Value.ref a)]) hx hb d_Le_init_68 rfl hl (by decide) rfl (fun ls hl => ?_)
            refine lv_iload_n hx hb d_Le_init_69 rfl (lv_at hl 0 rfl) ?_
            refine lv_iconst (v := 4) hx hb d_Le_init_70 (by decide) ?_
            refine lv_icmp_ge (tgt := 93) hx hb d_Le_init_71 (by decide) (fun c9 => absurd c9 (by decide)) (fun _ => ?_)
            refine lv_aload_n hx hb d_Le_init_74 rfl (lv_at hl 1 rfl) ?_
            refine va_get (D := D) (ci := 0) (v := Value.ref q40) (C := "CommitLedger") (T := F_Le) (N := 18) hx hb hts i_Le hown hK hP 0 f_0_ws42 rfl 3 (by decide) (hts _ kf_Le_38) (fun _ h9 => h9) rfl d_Le_init_75 ?_
            refine lv_iload_n hx hb d_Le_init_78 rfl (lv_at hl 0 rfl) ?_
            refine va_new (ci := 5) (fs := [Value.int 0, Value.int 0, Value.int 0, Value.null]) (C := "CommitLedger$Merge") (T := F_Me) (N := 4) hx hb hts i_Me t_Me t_Me_ok hown (hts _ kk_Le_36) (hts _ kX_Me) (hts _ kN_Me) hK hP hD hS hA rfl (by decide) (Nat.le_of_ble_eq_true rfl) (Nat.le_of_ble_eq_true rfl) d_Le_init_79 (fun q43 H hP9 hD9 hS9 => ?_)
            obtain ⟨ws44, e_ws44⟩ : ∃ x : va_W, x = ws42 ++ [((q43, Sum.inr (5, [Value.int 0, Value.int 0, Value.int 0, Value.null])) : Nat × va_E)] := ⟨_, rfl⟩
            replace hP : va_P D classes ws44 H := by rw [e_ws44]; exact hP9
            replace hD : va_D A ws44 := by rw [e_ws44]; exact hD9
            replace hS := hS9
            clear hP9 hD9 hS9
            have f_21_ws44 : ws44[21]? = some ((q43, Sum.inr (5, [Value.int 0, Value.int 0, Value.int 0, Value.null])) : Nat × va_E) := by rw [e_ws44]; exact gs_last hlen
            replace hlen : ws44.length = 22 := by rw [e_ws44]; exact gs_len hlen
            replace hU : gx_g ws ws44 21 [0] := by rw [e_ws44]; exact hU.push
            refine W.widen (k := 21) (n := 49192) (by decide) (by decide) ?_
            refine lv_dup hx hb d_Le_init_82 rfl ?_
            refine gx_call (ig := .invokespecial 42) (c_Me_init l htr D tys z _ ws44 q43 21 0 0 0 (Value.null) f_21_ws44) (gx_invIN (As := []) (rest := [Value.ref q43, Value.int 0, Value.ref q40]) hx hb hown hts km_Le_42 kI_Me_init kc_Me_init (by decide) rfl (show (parseMethodDescriptor y_Me_init.desc).map (fun d => d.parameters.length) = some 0 by decide +kernel) rfl rfl d_Le_init_83) (gx_cw (z := 0) hts kc_Me_init kN_Me rfl rfl ⟨Nat.le_of_ble_eq_true rfl, Nat.le_of_ble_eq_true rfl⟩) hb hml gx_blind (gx_pre hz hP hK hD hY hS hAz [Value.ref q43]) rfl hl.1 (lv_room (Nat.le_of_ble_eq_true rfl)) d_Le_init_83 ⟨Nat.le_of_ble_eq_true rfl, Nat.le_of_ble_eq_true rfl⟩ (fun v45 st45 t45 L45 h0_45 hW_45 hQ_45 hL_45 => ?_) (fun v45 st45 t45 L45 h0_45 hW_45 hQ_45 hL_45 => ?_)
            · obtain ⟨ws46, hp, hP9, -, hD9, hS9⟩ := gx_back h0_45 hW_45 hQ_45 hL_45 hD hS hA
              clear hQ_45 h0_45 hL_45 hW_45 hP hD hS
              have hP := hP9
              have hD := hD9
              have hS := hS9
              clear hP9 hD9 hS9
              rcases hp with ⟨hv9, e_ws46⟩
              cases hv9
              rw [e_ws46] at hP hD
              refine W.eq (g2 := F0 m 86 ls [Value.ref q43, Value.int 0, Value.ref q40]) rfl ?_
              generalize t45.heap = H at hP hS ⊢
              generalize locs ++ L45 = locs at hS ⊢
              have f_20_ws42 : ws42[20]? = some ((q40, Sum.inl (cM, 4, Sum.inr (Sum.inr (Sum.inr (Sum.inr (fun _ => none)))))) : Nat × va_E) := by rw [e_ws42]; exact gs_ne (by decide) f_20_ws41
              clear f_20_ws41
              have f_20_ws44 : ws44[20]? = some ((q40, Sum.inl (cM, 4, Sum.inr (Sum.inr (Sum.inr (Sum.inr (fun _ => none)))))) : Nat × va_E) := by rw [e_ws44]; exact gs_app f_20_ws42
              clear f_20_ws42
              refine gx_aast (D := D) (j := 0) hx hb hK hP hD hS 20 3 21 5 f_20_ws44 ht3 f_21_ws44 rfl (gx_inl (by decide)) (by decide) d_Le_init_86 (fun H locs hP9 hD9 hS9 => ?_)
              obtain ⟨ws47, e_ws47⟩ : ∃ x : va_W, x = ws44.set 20 ((q40, Sum.inl (cM, 4, Sum.inr (Sum.inr (Sum.inr (Sum.inr (va_up (fun _ => none) 0 (some q43))))))) : Nat × va_E) := ⟨_, rfl⟩
              replace hP : va_P D classes ws47 H := by rw [e_ws47]; exact hP9
              replace hD : va_D A ws47 := by rw [e_ws47]; exact hD9
              replace hS := hS9
              clear hP9 hD9 hS9
              have f_20_ws47 : ws47[20]? = some ((q40, Sum.inl (cM, 4, Sum.inr (Sum.inr (Sum.inr (Sum.inr (va_up (fun _ => none) 0 (some q43))))))) : Nat × va_E) := by rw [e_ws47]; exact gs_self f_20_ws44
              replace hlen : ws47.length = 22 := by rw [e_ws47]; exact gs_lens hlen
              replace hU : gx_g ws ws47 21 [0] := by rw [e_ws47]; exact hU.put (Or.inr (by rw [hlen0]; decide))
              refine lv_iinc (v := 1) (lv' := [(1, Value.int 1), (0, Value.ref a)]) hx hb d_Le_init_87 hl (k := 0) rfl (by decide) (by decide) rfl (fun ls hl => ?_)
              refine lv_goto (tgt := 69) hx hb d_Le_init_90 (by decide) ?_
              refine lv_iload_n hx hb d_Le_init_69 rfl (lv_at hl 0 rfl) ?_
              refine lv_iconst (v := 4) hx hb d_Le_init_70 (by decide) ?_
              refine lv_icmp_ge (tgt := 93) hx hb d_Le_init_71 (by decide) (fun c9 => absurd c9 (by decide)) (fun _ => ?_)
              refine lv_aload_n hx hb d_Le_init_74 rfl (lv_at hl 1 rfl) ?_
              have f_0_ws44 : ws44[0]? = some ((a, Sum.inr (0, [Value.ref q1, Value.ref q9, Value.ref q16, Value.ref q40, Value.null, Value.ref q24, Value.ref q32, Value.int 0, Value.int 0, Value.int 0, Value.int 0, Value.int 0, Value.int 0, Value.int 0, Value.int 0, Value.int 0, Value.int 0, Value.int 0])) : Nat × va_E) := by rw [e_ws44]; exact gs_app f_0_ws42
              clear f_0_ws42
              have f_0_ws47 : ws47[0]? = some ((a, Sum.inr (0, [Value.ref q1, Value.ref q9, Value.ref q16, Value.ref q40, Value.null, Value.ref q24, Value.ref q32, Value.int 0, Value.int 0, Value.int 0, Value.int 0, Value.int 0, Value.int 0, Value.int 0, Value.int 0, Value.int 0, Value.int 0, Value.int 0])) : Nat × va_E) := by rw [e_ws47]; exact gs_ne (by decide) f_0_ws44
              clear f_0_ws44
              refine va_get (D := D) (ci := 0) (v := Value.ref q40) (C := "CommitLedger") (T := F_Le) (N := 18) hx hb hts i_Le hown hK hP 0 f_0_ws47 rfl 3 (by decide) (hts _ kf_Le_38) (fun _ h9 => h9) rfl d_Le_init_75 ?_
              refine lv_iload_n hx hb d_Le_init_78 rfl (lv_at hl 0 rfl) ?_
              refine va_new (ci := 5) (fs := [Value.int 0, Value.int 0, Value.int 0, Value.null]) (C := "CommitLedger$Merge") (T := F_Me) (N := 4) hx hb hts i_Me t_Me t_Me_ok hown (hts _ kk_Le_36) (hts _ kX_Me) (hts _ kN_Me) hK hP hD hS hA rfl (by decide) (Nat.le_of_ble_eq_true rfl) (Nat.le_of_ble_eq_true rfl) d_Le_init_79 (fun q48 H hP9 hD9 hS9 => ?_)
              obtain ⟨ws49, e_ws49⟩ : ∃ x : va_W, x = ws47 ++ [((q48, Sum.inr (5, [Value.int 0, Value.int 0, Value.int 0, Value.null])) : Nat × va_E)] := ⟨_, rfl⟩
              replace hP : va_P D classes ws49 H := by rw [e_ws49]; exact hP9
              replace hD : va_D A ws49 := by rw [e_ws49]; exact hD9
              replace hS := hS9
              clear hP9 hD9 hS9
              have f_22_ws49 : ws49[22]? = some ((q48, Sum.inr (5, [Value.int 0, Value.int 0, Value.int 0, Value.null])) : Nat × va_E) := by rw [e_ws49]; exact gs_last hlen
              replace hlen : ws49.length = 23 := by rw [e_ws49]; exact gs_len hlen
              replace hU : gx_g ws ws49 22 [0] := by rw [e_ws49]; exact hU.push
              refine W.widen (k := 22) (n := 49196) (by decide) (by decide) ?_
              refine lv_dup hx hb d_Le_init_82 rfl ?_
              refine gx_call (ig := .invokespecial 42) (c_Me_init l htr D tys z _ ws49 q48 22 0 0 0 (Value.null) f_22_ws49) (gx_invIN (As := []) (rest := [Value.ref q48, Value.int 1, Value.ref q40]) hx hb hown hts km_Le_42 kI_Me_init kc_Me_init (by decide) rfl (show (parseMethodDescriptor y_Me_init.desc).map (fun d => d.parameters.length) = some 0 by decide +kernel) rfl rfl d_Le_init_83) (gx_cw (z := 0) hts kc_Me_init kN_Me rfl rfl ⟨Nat.le_of_ble_eq_true rfl, Nat.le_of_ble_eq_true rfl⟩) hb hml gx_blind (gx_pre hz hP hK hD hY hS hAz [Value.ref q48]) rfl hl.1 (lv_room (Nat.le_of_ble_eq_true rfl)) d_Le_init_83 ⟨Nat.le_of_ble_eq_true rfl, Nat.le_of_ble_eq_true rfl⟩ (fun v50 st50 t50 L50 h0_50 hW_50 hQ_50 hL_50 => ?_) (fun v50 st50 t50 L50 h0_50 hW_50 hQ_50 hL_50 => ?_)
              · obtain ⟨ws51, hp, hP9, -, hD9, hS9⟩ := gx_back h0_50 hW_50 hQ_50 hL_50 hD hS hA
                clear hQ_50 h0_50 hL_50 hW_50 hP hD hS
                have hP := hP9
                have hD := hD9
                have hS := hS9
                clear hP9 hD9 hS9
                rcases hp with ⟨hv9, e_ws51⟩
                cases hv9
                rw [e_ws51] at hP hD
                refine W.eq (g2 := F0 m 86 ls [Value.ref q48, Value.int 1, Value.ref q40]) rfl ?_
                generalize t50.heap = H at hP hS ⊢
                generalize locs ++ L50 = locs at hS ⊢
                have f_20_ws49 : ws49[20]? = some ((q40, Sum.inl (cM, 4, Sum.inr (Sum.inr (Sum.inr (Sum.inr (va_up (fun _ => none) 0 (some q43))))))) : Nat × va_E) := by rw [e_ws49]; exact gs_app f_20_ws47
                clear f_20_ws47
                refine gx_aast (D := D) (j := 1) hx hb hK hP hD hS 20 3 22 5 f_20_ws49 ht3 f_22_ws49 rfl (gx_inl (by decide)) (by decide) d_Le_init_86 (fun H locs hP9 hD9 hS9 => ?_)
                obtain ⟨ws52, e_ws52⟩ : ∃ x : va_W, x = ws49.set 20 ((q40, Sum.inl (cM, 4, Sum.inr (Sum.inr (Sum.inr (Sum.inr (va_up (va_up (fun _ => none) 0 (some q43)) 1 (some q48))))))) : Nat × va_E) := ⟨_, rfl⟩
                replace hP : va_P D classes ws52 H := by rw [e_ws52]; exact hP9
                replace hD : va_D A ws52 := by rw [e_ws52]; exact hD9
                replace hS := hS9
                clear hP9 hD9 hS9
                have f_20_ws52 : ws52[20]? = some ((q40, Sum.inl (cM, 4, Sum.inr (Sum.inr (Sum.inr (Sum.inr (va_up (va_up (fun _ => none) 0 (some q43)) 1 (some q48))))))) : Nat × va_E) := by rw [e_ws52]; exact gs_self f_20_ws49
                replace hlen : ws52.length = 23 := by rw [e_ws52]; exact gs_lens hlen
                replace hU : gx_g ws ws52 22 [0] := by rw [e_ws52]; exact hU.put (Or.inr (by rw [hlen0]; decide))
                refine lv_iinc (v := 2) (lv' := [(1, Value.int 2), (0, Value.ref a)]) hx hb d_Le_init_87 hl (k := 0) rfl (by decide) (by decide) rfl (fun ls hl => ?_)
                refine lv_goto (tgt := 69) hx hb d_Le_init_90 (by decide) ?_
                refine lv_iload_n hx hb d_Le_init_69 rfl (lv_at hl 0 rfl) ?_
                refine lv_iconst (v := 4) hx hb d_Le_init_70 (by decide) ?_
                refine lv_icmp_ge (tgt := 93) hx hb d_Le_init_71 (by decide) (fun c9 => absurd c9 (by decide)) (fun _ => ?_)
                refine lv_aload_n hx hb d_Le_init_74 rfl (lv_at hl 1 rfl) ?_
                have f_0_ws49 : ws49[0]? = some ((a, Sum.inr (0, [Value.ref q1, Value.ref q9, Value.ref q16, Value.ref q40, Value.null, Value.ref q24, Value.ref q32, Value.int 0, Value.int 0, Value.int 0, Value.int 0, Value.int 0, Value.int 0, Value.int 0, Value.int 0, Value.int 0, Value.int 0, Value.int 0])) : Nat × va_E) := by rw [e_ws49]; exact gs_app f_0_ws47
                clear f_0_ws47
                have f_0_ws52 : ws52[0]? = some ((a, Sum.inr (0, [Value.ref q1, Value.ref q9, Value.ref q16, Value.ref q40, Value.null, Value.ref q24, Value.ref q32, Value.int 0, Value.int 0, Value.int 0, Value.int 0, Value.int 0, Value.int 0, Value.int 0, Value.int 0, Value.int 0, Value.int 0, Value.int 0])) : Nat × va_E) := by rw [e_ws52]; exact gs_ne (by decide) f_0_ws49
                clear f_0_ws49
                refine va_get (D := D) (ci := 0) (v := Value.ref q40) (C := "CommitLedger") (T := F_Le) (N := 18) hx hb hts i_Le hown hK hP 0 f_0_ws52 rfl 3 (by decide) (hts _ kf_Le_38) (fun _ h9 => h9) rfl d_Le_init_75 ?_
                refine lv_iload_n hx hb d_Le_init_78 rfl (lv_at hl 0 rfl) ?_
                refine va_new (ci := 5) (fs := [Value.int 0, Value.int 0, Value.int 0, Value.null]) (C := "CommitLedger$Merge") (T := F_Me) (N := 4) hx hb hts i_Me t_Me t_Me_ok hown (hts _ kk_Le_36) (hts _ kX_Me) (hts _ kN_Me) hK hP hD hS hA rfl (by decide) (Nat.le_of_ble_eq_true rfl) (Nat.le_of_ble_eq_true rfl) d_Le_init_79 (fun q53 H hP9 hD9 hS9 => ?_)
                obtain ⟨ws54, e_ws54⟩ : ∃ x : va_W, x = ws52 ++ [((q53, Sum.inr (5, [Value.int 0, Value.int 0, Value.int 0, Value.null])) : Nat × va_E)] := ⟨_, rfl⟩
                replace hP : va_P D classes ws54 H := by rw [e_ws54]; exact hP9
                replace hD : va_D A ws54 := by rw [e_ws54]; exact hD9
                replace hS := hS9
                clear hP9 hD9 hS9
                have f_23_ws54 : ws54[23]? = some ((q53, Sum.inr (5, [Value.int 0, Value.int 0, Value.int 0, Value.null])) : Nat × va_E) := by rw [e_ws54]; exact gs_last hlen
                replace hlen : ws54.length = 24 := by rw [e_ws54]; exact gs_len hlen
                replace hU : gx_g ws ws54 23 [0] := by rw [e_ws54]; exact hU.push
                refine W.widen (k := 23) (n := 49200) (by decide) (by decide) ?_
                refine lv_dup hx hb d_Le_init_82 rfl ?_
                refine gx_call (ig := .invokespecial 42) (c_Me_init l htr D tys z _ ws54 q53 23 0 0 0 (Value.null) f_23_ws54) (gx_invIN (As := []) (rest := [Value.ref q53, Value.int 2, Value.ref q40]) hx hb hown hts km_Le_42 kI_Me_init kc_Me_init (by decide) rfl (show (parseMethodDescriptor y_Me_init.desc).map (fun d => d.parameters.length) = some 0 by decide +kernel) rfl rfl d_Le_init_83) (gx_cw (z := 0) hts kc_Me_init kN_Me rfl rfl ⟨Nat.le_of_ble_eq_true rfl, Nat.le_of_ble_eq_true rfl⟩) hb hml gx_blind (gx_pre hz hP hK hD hY hS hAz [Value.ref q53]) rfl hl.1 (lv_room (Nat.le_of_ble_eq_true rfl)) d_Le_init_83 ⟨Nat.le_of_ble_eq_true rfl, Nat.le_of_ble_eq_true rfl⟩ (fun v55 st55 t55 L55 h0_55 hW_55 hQ_55 hL_55 => ?_) (fun v55 st55 t55 L55 h0_55 hW_55 hQ_55 hL_55 => ?_)
                · obtain ⟨ws56, hp, hP9, -, hD9, hS9⟩ := gx_back h0_55 hW_55 hQ_55 hL_55 hD hS hA
                  clear hQ_55 h0_55 hL_55 hW_55 hP hD hS
                  have hP := hP9
                  have hD := hD9
                  have hS := hS9
                  clear hP9 hD9 hS9
                  rcases hp with ⟨hv9, e_ws56⟩
                  cases hv9
                  rw [e_ws56] at hP hD
                  refine W.eq (g2 := F0 m 86 ls [Value.ref q53, Value.int 2, Value.ref q40]) rfl ?_
                  generalize t55.heap = H at hP hS ⊢
                  generalize locs ++ L55 = locs at hS ⊢
                  have f_20_ws54 : ws54[20]? = some ((q40, Sum.inl (cM, 4, Sum.inr (Sum.inr (Sum.inr (Sum.inr (va_up (va_up (fun _ => none) 0 (some q43)) 1 (some q48))))))) : Nat × va_E) := by rw [e_ws54]; exact gs_app f_20_ws52
                  clear f_20_ws52
                  refine gx_aast (D := D) (j := 2) hx hb hK hP hD hS 20 3 23 5 f_20_ws54 ht3 f_23_ws54 rfl (gx_inl (by decide)) (by decide) d_Le_init_86 (fun H locs hP9 hD9 hS9 => ?_)
                  obtain ⟨ws57, e_ws57⟩ : ∃ x : va_W, x = ws54.set 20 ((q40, Sum.inl (cM, 4, Sum.inr (Sum.inr (Sum.inr (Sum.inr (va_up (va_up (va_up (fun _ => none) 0 (some q43)) 1 (some q48)) 2 (some q53))))))) : Nat × va_E) := ⟨_, rfl⟩
                  replace hP : va_P D classes ws57 H := by rw [e_ws57]; exact hP9
                  replace hD : va_D A ws57 := by rw [e_ws57]; exact hD9
                  replace hS := hS9
                  clear hP9 hD9 hS9
                  have f_20_ws57 : ws57[20]? = some ((q40, Sum.inl (cM, 4, Sum.inr (Sum.inr (Sum.inr (Sum.inr (va_up (va_up (va_up (fun _ => none) 0 (some q43)) 1 (some q48)) 2 (some q53))))))) : Nat × va_E) := by rw [e_ws57]; exact gs_self f_20_ws54
                  replace hlen : ws57.length = 24 := by rw [e_ws57]; exact gs_lens hlen
                  replace hU : gx_g ws ws57 23 [0] := by rw [e_ws57]; exact hU.put (Or.inr (by rw [hlen0]; decide))
                  refine lv_iinc (v := 3) (lv' := [(1, Value.int 3), (0, Value.ref a)]) hx hb d_Le_init_87 hl (k := 0) rfl (by decide) (by decide) rfl (fun ls hl => ?_)
                  refine lv_goto (tgt := 69) hx hb d_Le_init_90 (by decide) ?_
                  refine lv_iload_n hx hb d_Le_init_69 rfl (lv_at hl 0 rfl) ?_
                  refine lv_iconst (v := 4) hx hb d_Le_init_70 (by decide) ?_
                  refine lv_icmp_ge (tgt := 93) hx hb d_Le_init_71 (by decide) (fun c9 => absurd c9 (by decide)) (fun _ => ?_)
                  refine lv_aload_n hx hb d_Le_init_74 rfl (lv_at hl 1 rfl) ?_
                  have f_0_ws54 : ws54[0]? = some ((a, Sum.inr (0, [Value.ref q1, Value.ref q9, Value.ref q16, Value.ref q40, Value.null, Value.ref q24, Value.ref q32, Value.int 0, Value.int 0, Value.int 0, Value.int 0, Value.int 0, Value.int 0, Value.int 0, Value.int 0, Value.int 0, Value.int 0, Value.int 0])) : Nat × va_E) := by rw [e_ws54]; exact gs_app f_0_ws52
                  clear f_0_ws52
                  have f_0_ws57 : ws57[0]? = some ((a, Sum.inr (0, [Value.ref q1, Value.ref q9, Value.ref q16, Value.ref q40, Value.null, Value.ref q24, Value.ref q32, Value.int 0, Value.int 0, Value.int 0, Value.int 0, Value.int 0, Value.int 0, Value.int 0, Value.int 0, Value.int 0, Value.int 0, Value.int 0])) : Nat × va_E) := by rw [e_ws57]; exact gs_ne (by decide) f_0_ws54
                  clear f_0_ws54
                  refine va_get (D := D) (ci := 0) (v := Value.ref q40) (C := "CommitLedger") (T := F_Le) (N := 18) hx hb hts i_Le hown hK hP 0 f_0_ws57 rfl 3 (by decide) (hts _ kf_Le_38) (fun _ h9 => h9) rfl d_Le_init_75 ?_
                  refine lv_iload_n hx hb d_Le_init_78 rfl (lv_at hl 0 rfl) ?_
                  refine va_new (ci := 5) (fs := [Value.int 0, Value.int 0, Value.int 0, Value.null]) (C := "CommitLedger$Merge") (T := F_Me) (N := 4) hx hb hts i_Me t_Me t_Me_ok hown (hts _ kk_Le_36) (hts _ kX_Me) (hts _ kN_Me) hK hP hD hS hA rfl (by decide) (Nat.le_of_ble_eq_true rfl) (Nat.le_of_ble_eq_true rfl) d_Le_init_79 (fun q58 H hP9 hD9 hS9 => ?_)
                  obtain ⟨ws59, e_ws59⟩ : ∃ x : va_W, x = ws57 ++ [((q58, Sum.inr (5, [Value.int 0, Value.int 0, Value.int 0, Value.null])) : Nat × va_E)] := ⟨_, rfl⟩
                  replace hP : va_P D classes ws59 H := by rw [e_ws59]; exact hP9
                  replace hD : va_D A ws59 := by rw [e_ws59]; exact hD9
                  replace hS := hS9
                  clear hP9 hD9 hS9
                  have f_24_ws59 : ws59[24]? = some ((q58, Sum.inr (5, [Value.int 0, Value.int 0, Value.int 0, Value.null])) : Nat × va_E) := by rw [e_ws59]; exact gs_last hlen
                  replace hlen : ws59.length = 25 := by rw [e_ws59]; exact gs_len hlen
                  replace hU : gx_g ws ws59 24 [0] := by rw [e_ws59]; exact hU.push
                  refine W.widen (k := 24) (n := 49204) (by decide) (by decide) ?_
                  refine lv_dup hx hb d_Le_init_82 rfl ?_
                  refine gx_call (ig := .invokespecial 42) (c_Me_init l htr D tys z _ ws59 q58 24 0 0 0 (Value.null) f_24_ws59) (gx_invIN (As := []) (rest := [Value.ref q58, Value.int 3, Value.ref q40]) hx hb hown hts km_Le_42 kI_Me_init kc_Me_init (by decide) rfl (show (parseMethodDescriptor y_Me_init.desc).map (fun d => d.parameters.length) = some 0 by decide +kernel) rfl rfl d_Le_init_83) (gx_cw (z := 0) hts kc_Me_init kN_Me rfl rfl ⟨Nat.le_of_ble_eq_true rfl, Nat.le_of_ble_eq_true rfl⟩) hb hml gx_blind (gx_pre hz hP hK hD hY hS hAz [Value.ref q58]) rfl hl.1 (lv_room (Nat.le_of_ble_eq_true rfl)) d_Le_init_83 ⟨Nat.le_of_ble_eq_true rfl, Nat.le_of_ble_eq_true rfl⟩ (fun v60 st60 t60 L60 h0_60 hW_60 hQ_60 hL_60 => ?_) (fun v60 st60 t60 L60 h0_60 hW_60 hQ_60 hL_60 => ?_)
                  · obtain ⟨ws61, hp, hP9, -, hD9, hS9⟩ := gx_back h0_60 hW_60 hQ_60 hL_60 hD hS hA
                    clear hQ_60 h0_60 hL_60 hW_60 hP hD hS
                    have hP := hP9
                    have hD := hD9
                    have hS := hS9
                    clear hP9 hD9 hS9
                    rcases hp with ⟨hv9, e_ws61⟩
                    cases hv9
                    rw [e_ws61] at hP hD
                    refine W.eq (g2 := F0 m 86 ls [Value.ref q58, Value.int 3, Value.ref q40]) rfl ?_
                    generalize t60.heap = H at hP hS ⊢
                    generalize locs ++ L60 = locs at hS ⊢
                    have f_20_ws59 : ws59[20]? = some ((q40, Sum.inl (cM, 4, Sum.inr (Sum.inr (Sum.inr (Sum.inr (va_up (va_up (va_up (fun _ => none) 0 (some q43)) 1 (some q48)) 2 (some q53))))))) : Nat × va_E) := by rw [e_ws59]; exact gs_app f_20_ws57
                    clear f_20_ws57
                    refine gx_aast (D := D) (j := 3) hx hb hK hP hD hS 20 3 24 5 f_20_ws59 ht3 f_24_ws59 rfl (gx_inl (by decide)) (by decide) d_Le_init_86 (fun H locs hP9 hD9 hS9 => ?_)
                    obtain ⟨ws62, e_ws62⟩ : ∃ x : va_W, x = ws59.set 20 ((q40, Sum.inl (cM, 4, Sum.inr (Sum.inr (Sum.inr (Sum.inr (va_up (va_up (va_up (va_up (fun _ => none) 0 (some q43)) 1 (some q48)) 2 (some q53)) 3 (some q58))))))) : Nat × va_E) := ⟨_, rfl⟩
                    replace hP : va_P D classes ws62 H := by rw [e_ws62]; exact hP9
                    replace hD : va_D A ws62 := by rw [e_ws62]; exact hD9
                    replace hS := hS9
                    clear hP9 hD9 hS9
                    have f_20_ws62 : ws62[20]? = some ((q40, Sum.inl (cM, 4, Sum.inr (Sum.inr (Sum.inr (Sum.inr (va_up (va_up (va_up (va_up (fun _ => none) 0 (some q43)) 1 (some q48)) 2 (some q53)) 3 (some q58))))))) : Nat × va_E) := by rw [e_ws62]; exact gs_self f_20_ws59
                    replace hlen : ws62.length = 25 := by rw [e_ws62]; exact gs_lens hlen
                    replace hU : gx_g ws ws62 24 [0] := by rw [e_ws62]; exact hU.put (Or.inr (by rw [hlen0]; decide))
                    refine lv_iinc (v := 4) (lv' := [(1, Value.int 4), (0, Value.ref a)]) hx hb d_Le_init_87 hl (k := 0) rfl (by decide) (by decide) rfl (fun ls hl => ?_)
                    refine lv_goto (tgt := 69) hx hb d_Le_init_90 (by decide) ?_
                    refine lv_iload_n hx hb d_Le_init_69 rfl (lv_at hl 0 rfl) ?_
                    refine lv_iconst (v := 4) hx hb d_Le_init_70 (by decide) ?_
                    refine lv_icmp_ge (tgt := 93) hx hb d_Le_init_71 (by decide) (fun _ => ?_) (fun c9 => absurd (by decide) c9)
                    refine lv_aload_n hx hb d_Le_init_93 rfl (lv_at hl 1 rfl) ?_
                    refine lv_iconst (v := 4) hx hb d_Le_init_94 (by decide) ?_
                    refine gx_newq (C := "CommitLedger$Reader") (N' := 4) hx hb hown (hts _ kk_Le_43) (hts _ kO_Re) hK hP hD hS hA 4 ht4 (by decide) (by decide) (by decide) (Nat.le_of_ble_eq_true rfl) (Nat.le_of_ble_eq_true rfl) d_Le_init_95 (fun q63 H hP9 hD9 hS9 => ?_)
                    obtain ⟨ws64, e_ws64⟩ : ∃ x : va_W, x = ws62 ++ [((q63, Sum.inl (cR, 4, Sum.inr (Sum.inr (Sum.inr (Sum.inr (fun _ => none)))))) : Nat × va_E)] := ⟨_, rfl⟩
                    replace hP : va_P D classes ws64 H := by rw [e_ws64]; exact hP9
                    replace hD : va_D A ws64 := by rw [e_ws64]; exact hD9
                    replace hS := hS9
                    clear hP9 hD9 hS9
                    have f_25_ws64 : ws64[25]? = some ((q63, Sum.inl (cR, 4, Sum.inr (Sum.inr (Sum.inr (Sum.inr (fun _ => none)))))) : Nat × va_E) := by rw [e_ws64]; exact gs_last hlen
                    replace hlen : ws64.length = 26 := by rw [e_ws64]; exact gs_len hlen
                    replace hU : gx_g ws ws64 25 [0] := by rw [e_ws64]; exact hU.push
                    refine W.widen (k := 25) (n := 49208) (by decide) (by decide) ?_
                    have f_0_ws59 : ws59[0]? = some ((a, Sum.inr (0, [Value.ref q1, Value.ref q9, Value.ref q16, Value.ref q40, Value.null, Value.ref q24, Value.ref q32, Value.int 0, Value.int 0, Value.int 0, Value.int 0, Value.int 0, Value.int 0, Value.int 0, Value.int 0, Value.int 0, Value.int 0, Value.int 0])) : Nat × va_E) := by rw [e_ws59]; exact gs_app f_0_ws57
                    clear f_0_ws57
                    have f_0_ws62 : ws62[0]? = some ((a, Sum.inr (0, [Value.ref q1, Value.ref q9, Value.ref q16, Value.ref q40, Value.null, Value.ref q24, Value.ref q32, Value.int 0, Value.int 0, Value.int 0, Value.int 0, Value.int 0, Value.int 0, Value.int 0, Value.int 0, Value.int 0, Value.int 0, Value.int 0])) : Nat × va_E) := by rw [e_ws62]; exact gs_ne (by decide) f_0_ws59
                    clear f_0_ws59
                    have f_0_ws64 : ws64[0]? = some ((a, Sum.inr (0, [Value.ref q1, Value.ref q9, Value.ref q16, Value.ref q40, Value.null, Value.ref q24, Value.ref q32, Value.int 0, Value.int 0, Value.int 0, Value.int 0, Value.int 0, Value.int 0, Value.int 0, Value.int 0, Value.int 0, Value.int 0, Value.int 0])) : Nat × va_E) := by rw [e_ws64]; exact gs_app f_0_ws62
                    clear f_0_ws62
                    refine va_putF (D := D) (ci := 0) (v := Value.ref q63) (ty := .array (.object "CommitLedger$Reader")) (C := "CommitLedger") (T := F_Le) (N := 18) hx hb hts i_Le t_Le t_Le_ok n_Le hown hK hP hD hS 0 f_0_ws64 rfl 4 (by decide) (hts _ kf_Le_45) (fun _ h9 => h9) rfl hin rfl (by decide +kernel) rfl rfl (Nat.le_of_ble_eq_true rfl) d_Le_init_98 (fun H locs hP9 hD9 hS9 => ?_)
                    obtain ⟨ws65, e_ws65⟩ : ∃ x : va_W, x = ws64.set 0 ((a, Sum.inr (0, [Value.ref q1, Value.ref q9, Value.ref q16, Value.ref q40, Value.ref q63, Value.ref q24, Value.ref q32, Value.int 0, Value.int 0, Value.int 0, Value.int 0, Value.int 0, Value.int 0, Value.int 0, Value.int 0, Value.int 0, Value.int 0, Value.int 0])) : Nat × va_E) := ⟨_, rfl⟩
                    replace hP : va_P D classes ws65 H := by rw [e_ws65]; exact hP9
                    replace hD : va_D A ws65 := by rw [e_ws65]; exact hD9
                    replace hS := hS9
                    clear hP9 hD9 hS9
                    have f_0_ws65 : ws65[0]? = some ((a, Sum.inr (0, [Value.ref q1, Value.ref q9, Value.ref q16, Value.ref q40, Value.ref q63, Value.ref q24, Value.ref q32, Value.int 0, Value.int 0, Value.int 0, Value.int 0, Value.int 0, Value.int 0, Value.int 0, Value.int 0, Value.int 0, Value.int 0, Value.int 0])) : Nat × va_E) := by rw [e_ws65]; exact gs_self f_0_ws64
                    replace hlen : ws65.length = 26 := by rw [e_ws65]; exact gs_lens hlen
                    replace hU : gx_g ws ws65 25 [0] := by rw [e_ws65]; exact hU.put (Or.inl (by simp))
                    refine lv_iconst (v := 0) hx hb d_Le_init_101 (by decide) ?_
                    refine lv_istore_n (lv' := [(1, Value.int 0), (0, Value.ref a)]) hx hb d_Le_init_102 rfl hl (by decide) rfl (fun ls hl => ?_)
                    refine lv_iload_n hx hb d_Le_init_103 rfl (lv_at hl 0 rfl) ?_
                    refine lv_iconst (v := 4) hx hb d_Le_init_104 (by decide) ?_
                    refine lv_icmp_ge (tgt := 127) hx hb d_Le_init_105 (by decide) (fun c9 => absurd c9 (by decide)) (fun _ => ?_)
                    refine lv_aload_n hx hb d_Le_init_108 rfl (lv_at hl 1 rfl) ?_
                    refine va_get (D := D) (ci := 0) (v := Value.ref q63) (C := "CommitLedger") (T := F_Le) (N := 18) hx hb hts i_Le hown hK hP 0 f_0_ws65 rfl 4 (by decide) (hts _ kf_Le_45) (fun _ h9 => h9) rfl d_Le_init_109 ?_
                    refine lv_iload_n hx hb d_Le_init_112 rfl (lv_at hl 0 rfl) ?_
                    refine va_new (ci := 6) (fs := [Value.null, Value.int 0, Value.int 0]) (C := "CommitLedger$Reader") (T := F_Re) (N := 3) hx hb hts i_Re t_Re t_Re_ok hown (hts _ kk_Le_43) (hts _ kX_Re) (hts _ kN_Re) hK hP hD hS hA rfl (by decide) (Nat.le_of_ble_eq_true rfl) (Nat.le_of_ble_eq_true rfl) d_Le_init_113 (fun q66 H hP9 hD9 hS9 => ?_)
                    obtain ⟨ws67, e_ws67⟩ : ∃ x : va_W, x = ws65 ++ [((q66, Sum.inr (6, [Value.null, Value.int 0, Value.int 0])) : Nat × va_E)] := ⟨_, rfl⟩
                    replace hP : va_P D classes ws67 H := by rw [e_ws67]; exact hP9
                    replace hD : va_D A ws67 := by rw [e_ws67]; exact hD9
                    replace hS := hS9
                    clear hP9 hD9 hS9
                    have f_26_ws67 : ws67[26]? = some ((q66, Sum.inr (6, [Value.null, Value.int 0, Value.int 0])) : Nat × va_E) := by rw [e_ws67]; exact gs_last hlen
                    replace hlen : ws67.length = 27 := by rw [e_ws67]; exact gs_len hlen
                    replace hU : gx_g ws ws67 26 [0] := by rw [e_ws67]; exact hU.push
                    refine W.widen (k := 26) (n := 49211) (by decide) (by decide) ?_
                    refine lv_dup hx hb d_Le_init_116 rfl ?_
                    refine gx_call (ig := .invokespecial 49) (c_Re_init l htr D tys z _ ws67 cZ cF q66 26 27 f_26_ws67 ht1 ht2 hlen (by decide)) (gx_invIN (As := []) (rest := [Value.ref q66, Value.int 0, Value.ref q63]) hx hb hown hts km_Le_49 kI_Re_init kc_Re_init (by decide) rfl (show (parseMethodDescriptor y_Re_init.desc).map (fun d => d.parameters.length) = some 0 by decide +kernel) rfl rfl d_Le_init_117) (gx_cw (z := 0) hts kc_Re_init kN_Re rfl rfl ⟨Nat.le_of_ble_eq_true rfl, Nat.le_of_ble_eq_true rfl⟩) hb hml gx_blind (gx_pre hz hP hK hD hY hS hAz [Value.ref q66]) rfl hl.1 (lv_room (Nat.le_of_ble_eq_true rfl)) d_Le_init_117 ⟨Nat.le_of_ble_eq_true rfl, Nat.le_of_ble_eq_true rfl⟩ (fun v68 st68 t68 L68 h0_68 hW_68 hQ_68 hL_68 => ?_) (fun v68 st68 t68 L68 h0_68 hW_68 hQ_68 hL_68 => ?_)
                    · obtain ⟨ws69, hp, hP9, -, hD9, hS9⟩ := gx_back h0_68 hW_68 hQ_68 hL_68 hD hS hA
                      clear hQ_68 h0_68 hL_68 hW_68 hP hD hS
                      have hP := hP9
                      have hD := hD9
                      have hS := hS9
                      clear hP9 hD9 hS9
                      rcases hp with ⟨q70, q71, q72, q73, hv9, e_ws69, f_26_ws69, f_27_ws69, f_28_ws69, f_29_ws69, f_30_ws69⟩
                      cases hv9
                      have f_26_ws69 : ws69[26]? = some ((q66, Sum.inr (6, [Value.ref q70, Value.int 0, Value.int 0])) : Nat × va_E) := f_26_ws69
                      have f_27_ws69 : ws69[27]? = some ((q70, Sum.inr (4, [Value.ref q71, Value.ref q72, Value.ref q73, Value.null, Value.int 0, Value.int 0])) : Nat × va_E) := f_27_ws69
                      have f_28_ws69 : ws69[28]? = some ((q71, Sum.inl (cF, 4096, Sum.inr (Sum.inr (Sum.inr (Sum.inr (fun _ => none)))))) : Nat × va_E) := f_28_ws69
                      have f_29_ws69 : ws69[29]? = some ((q72, Sum.inl (cF, 4096, Sum.inr (Sum.inr (Sum.inr (Sum.inr (fun _ => none)))))) : Nat × va_E) := f_29_ws69
                      have f_30_ws69 : ws69[30]? = some ((q73, Sum.inl (cZ, 4096, Sum.inl (fun _ => 0))) : Nat × va_E) := f_30_ws69
                      replace hlen : ws69.length = 31 := by rw [e_ws69.1, hlen]
                      replace hU : gx_g ws ws69 30 [0] := hU.call e_ws69 (by rw [hlen0]; decide)
                      refine W.eq (g2 := F0 m 120 ls [Value.ref q66, Value.int 0, Value.ref q63]) rfl ?_
                      refine W.widen (k := 30) (n := 61505) (by decide) (by decide) ?_
                      generalize t68.heap = H at hP hS ⊢
                      generalize locs ++ L68 = locs at hS ⊢
                      have f_25_ws65 : ws65[25]? = some ((q63, Sum.inl (cR, 4, Sum.inr (Sum.inr (Sum.inr (Sum.inr (fun _ => none)))))) : Nat × va_E) := by rw [e_ws65]; exact gs_ne (by decide) f_25_ws64
                      clear f_25_ws64
                      have f_25_ws67 : ws67[25]? = some ((q63, Sum.inl (cR, 4, Sum.inr (Sum.inr (Sum.inr (Sum.inr (fun _ => none)))))) : Nat × va_E) := by rw [e_ws67]; exact gs_app f_25_ws65
                      clear f_25_ws65
                      have f_25_ws69 : ws69[25]? = some ((q63, Sum.inl (cR, 4, Sum.inr (Sum.inr (Sum.inr (Sum.inr (fun _ => none)))))) : Nat × va_E) := e_ws69.at (by first | decide | (simp; done) | (simp; omega)) f_25_ws67
                      clear f_25_ws67
                      refine gx_aast (D := D) (j := 0) hx hb hK hP hD hS 25 4 26 6 f_25_ws69 ht4 f_26_ws69 rfl (gx_inl (by decide)) (by decide) d_Le_init_120 (fun H locs hP9 hD9 hS9 => ?_)
                      obtain ⟨ws74, e_ws74⟩ : ∃ x : va_W, x = ws69.set 25 ((q63, Sum.inl (cR, 4, Sum.inr (Sum.inr (Sum.inr (Sum.inr (va_up (fun _ => none) 0 (some q66))))))) : Nat × va_E) := ⟨_, rfl⟩
                      replace hP : va_P D classes ws74 H := by rw [e_ws74]; exact hP9
                      replace hD : va_D A ws74 := by rw [e_ws74]; exact hD9
                      replace hS := hS9
                      clear hP9 hD9 hS9
                      have f_25_ws74 : ws74[25]? = some ((q63, Sum.inl (cR, 4, Sum.inr (Sum.inr (Sum.inr (Sum.inr (va_up (fun _ => none) 0 (some q66))))))) : Nat × va_E) := by rw [e_ws74]; exact gs_self f_25_ws69
                      replace hlen : ws74.length = 31 := by rw [e_ws74]; exact gs_lens hlen
                      replace hU : gx_g ws ws74 30 [0] := by rw [e_ws74]; exact hU.put (Or.inr (by rw [hlen0]; decide))
                      refine lv_iinc (v := 1) (lv' := [(1, Value.int 1), (0, Value.ref a)]) hx hb d_Le_init_121 hl (k := 0) rfl (by decide) (by decide) rfl (fun ls hl => ?_)
                      refine lv_goto (tgt := 103) hx hb d_Le_init_124 (by decide) ?_
                      refine lv_iload_n hx hb d_Le_init_103 rfl (lv_at hl 0 rfl) ?_
                      refine lv_iconst (v := 4) hx hb d_Le_init_104 (by decide) ?_
                      refine lv_icmp_ge (tgt := 127) hx hb d_Le_init_105 (by decide) (fun c9 => absurd c9 (by decide)) (fun _ => ?_)
                      refine lv_aload_n hx hb d_Le_init_108 rfl (lv_at hl 1 rfl) ?_
                      have f_0_ws67 : ws67[0]? = some ((a, Sum.inr (0, [Value.ref q1, Value.ref q9, Value.ref q16, Value.ref q40, Value.ref q63, Value.ref q24, Value.ref q32, Value.int 0, Value.int 0, Value.int 0, Value.int 0, Value.int 0, Value.int 0, Value.int 0, Value.int 0, Value.int 0, Value.int 0, Value.int 0])) : Nat × va_E) := by rw [e_ws67]; exact gs_app f_0_ws65
                      clear f_0_ws65
                      have f_0_ws69 : ws69[0]? = some ((a, Sum.inr (0, [Value.ref q1, Value.ref q9, Value.ref q16, Value.ref q40, Value.ref q63, Value.ref q24, Value.ref q32, Value.int 0, Value.int 0, Value.int 0, Value.int 0, Value.int 0, Value.int 0, Value.int 0, Value.int 0, Value.int 0, Value.int 0, Value.int 0])) : Nat × va_E) := e_ws69.at (by first | decide | (simp; done) | (simp; omega)) f_0_ws67
                      clear f_0_ws67
                      have f_0_ws74 : ws74[0]? = some ((a, Sum.inr (0, [Value.ref q1, Value.ref q9, Value.ref q16, Value.ref q40, Value.ref q63, Value.ref q24, Value.ref q32, Value.int 0, Value.int 0, Value.int 0, Value.int 0, Value.int 0, Value.int 0, Value.int 0, Value.int 0, Value.int 0, Value.int 0, Value.int 0])) : Nat × va_E) := by rw [e_ws74]; exact gs_ne (by decide) f_0_ws69
                      clear f_0_ws69
                      refine va_get (D := D) (ci := 0) (v := Value.ref q63) (C := "CommitLedger") (T := F_Le) (N := 18) hx hb hts i_Le hown hK hP 0 f_0_ws74 rfl 4 (by decide) (hts _ kf_Le_45) (fun _ h9 => h9) rfl d_Le_init_109 ?_
                      refine lv_iload_n hx hb d_Le_init_112 rfl (lv_at hl 0 rfl) ?_
                      refine va_new (ci := 6) (fs := [Value.null, Value.int 0, Value.int 0]) (C := "CommitLedger$Reader") (T := F_Re) (N := 3) hx hb hts i_Re t_Re t_Re_ok hown (hts _ kk_Le_43) (hts _ kX_Re) (hts _ kN_Re) hK hP hD hS hA rfl (by decide) (Nat.le_of_ble_eq_true rfl) (Nat.le_of_ble_eq_true rfl) d_Le_init_113 (fun q75 H hP9 hD9 hS9 => ?_)
                      obtain ⟨ws76, e_ws76⟩ : ∃ x : va_W, x = ws74 ++ [((q75, Sum.inr (6, [Value.null, Value.int 0, Value.int 0])) : Nat × va_E)] := ⟨_, rfl⟩
                      replace hP : va_P D classes ws76 H := by rw [e_ws76]; exact hP9
                      replace hD : va_D A ws76 := by rw [e_ws76]; exact hD9
                      replace hS := hS9
                      clear hP9 hD9 hS9
                      have f_31_ws76 : ws76[31]? = some ((q75, Sum.inr (6, [Value.null, Value.int 0, Value.int 0])) : Nat × va_E) := by rw [e_ws76]; exact gs_last hlen
                      replace hlen : ws76.length = 32 := by rw [e_ws76]; exact gs_len hlen
                      replace hU : gx_g ws ws76 31 [0] := by rw [e_ws76]; exact hU.push
                      refine W.widen (k := 31) (n := 61508) (by decide) (by decide) ?_
                      refine lv_dup hx hb d_Le_init_116 rfl ?_
                      refine gx_call (ig := .invokespecial 49) (c_Re_init l htr D tys z _ ws76 cZ cF q75 31 32 f_31_ws76 ht1 ht2 hlen (by decide)) (gx_invIN (As := []) (rest := [Value.ref q75, Value.int 1, Value.ref q63]) hx hb hown hts km_Le_49 kI_Re_init kc_Re_init (by decide) rfl (show (parseMethodDescriptor y_Re_init.desc).map (fun d => d.parameters.length) = some 0 by decide +kernel) rfl rfl d_Le_init_117) (gx_cw (z := 0) hts kc_Re_init kN_Re rfl rfl ⟨Nat.le_of_ble_eq_true rfl, Nat.le_of_ble_eq_true rfl⟩) hb hml gx_blind (gx_pre hz hP hK hD hY hS hAz [Value.ref q75]) rfl hl.1 (lv_room (Nat.le_of_ble_eq_true rfl)) d_Le_init_117 ⟨Nat.le_of_ble_eq_true rfl, Nat.le_of_ble_eq_true rfl⟩ (fun v77 st77 t77 L77 h0_77 hW_77 hQ_77 hL_77 => ?_) (fun v77 st77 t77 L77 h0_77 hW_77 hQ_77 hL_77 => ?_)
                      · obtain ⟨ws78, hp, hP9, -, hD9, hS9⟩ := gx_back h0_77 hW_77 hQ_77 hL_77 hD hS hA
                        clear hQ_77 h0_77 hL_77 hW_77 hP hD hS
                        have hP := hP9
                        have hD := hD9
                        have hS := hS9
                        clear hP9 hD9 hS9
                        rcases hp with ⟨q79, q80, q81, q82, hv9, e_ws78, f_31_ws78, f_32_ws78, f_33_ws78, f_34_ws78, f_35_ws78⟩
                        cases hv9
                        have f_31_ws78 : ws78[31]? = some ((q75, Sum.inr (6, [Value.ref q79, Value.int 0, Value.int 0])) : Nat × va_E) := f_31_ws78
                        have f_32_ws78 : ws78[32]? = some ((q79, Sum.inr (4, [Value.ref q80, Value.ref q81, Value.ref q82, Value.null, Value.int 0, Value.int 0])) : Nat × va_E) := f_32_ws78
                        have f_33_ws78 : ws78[33]? = some ((q80, Sum.inl (cF, 4096, Sum.inr (Sum.inr (Sum.inr (Sum.inr (fun _ => none)))))) : Nat × va_E) := f_33_ws78
                        have f_34_ws78 : ws78[34]? = some ((q81, Sum.inl (cF, 4096, Sum.inr (Sum.inr (Sum.inr (Sum.inr (fun _ => none)))))) : Nat × va_E) := f_34_ws78
                        have f_35_ws78 : ws78[35]? = some ((q82, Sum.inl (cZ, 4096, Sum.inl (fun _ => 0))) : Nat × va_E) := f_35_ws78
                        replace hlen : ws78.length = 36 := by rw [e_ws78.1, hlen]
                        replace hU : gx_g ws ws78 35 [0] := hU.call e_ws78 (by rw [hlen0]; decide)
                        refine W.eq (g2 := F0 m 120 ls [Value.ref q75, Value.int 1, Value.ref q63]) rfl ?_
                        refine W.widen (k := 35) (n := 73802) (by decide) (by decide) ?_
                        generalize t77.heap = H at hP hS ⊢
                        generalize locs ++ L77 = locs at hS ⊢
                        have f_25_ws76 : ws76[25]? = some ((q63, Sum.inl (cR, 4, Sum.inr (Sum.inr (Sum.inr (Sum.inr (va_up (fun _ => none) 0 (some q66))))))) : Nat × va_E) := by rw [e_ws76]; exact gs_app f_25_ws74
                        clear f_25_ws74
                        have f_25_ws78 : ws78[25]? = some ((q63, Sum.inl (cR, 4, Sum.inr (Sum.inr (Sum.inr (Sum.inr (va_up (fun _ => none) 0 (some q66))))))) : Nat × va_E) := e_ws78.at (by first | decide | (simp; done) | (simp; omega)) f_25_ws76
                        clear f_25_ws76
                        refine gx_aast (D := D) (j := 1) hx hb hK hP hD hS 25 4 31 6 f_25_ws78 ht4 f_31_ws78 rfl (gx_inl (by decide)) (by decide) d_Le_init_120 (fun H locs hP9 hD9 hS9 => ?_)
                        obtain ⟨ws83, e_ws83⟩ : ∃ x : va_W, x = ws78.set 25 ((q63, Sum.inl (cR, 4, Sum.inr (Sum.inr (Sum.inr (Sum.inr (va_up (va_up (fun _ => none) 0 (some q66)) 1 (some q75))))))) : Nat × va_E) := ⟨_, rfl⟩
                        replace hP : va_P D classes ws83 H := by rw [e_ws83]; exact hP9
                        replace hD : va_D A ws83 := by rw [e_ws83]; exact hD9
                        replace hS := hS9
                        clear hP9 hD9 hS9
                        have f_25_ws83 : ws83[25]? = some ((q63, Sum.inl (cR, 4, Sum.inr (Sum.inr (Sum.inr (Sum.inr (va_up (va_up (fun _ => none) 0 (some q66)) 1 (some q75))))))) : Nat × va_E) := by rw [e_ws83]; exact gs_self f_25_ws78
                        replace hlen : ws83.length = 36 := by rw [e_ws83]; exact gs_lens hlen
                        replace hU : gx_g ws ws83 35 [0] := by rw [e_ws83]; exact hU.put (Or.inr (by rw [hlen0]; decide))
                        refine lv_iinc (v := 2) (lv' := [(1, Value.int 2), (0, Value.ref a)]) hx hb d_Le_init_121 hl (k := 0) rfl (by decide) (by decide) rfl (fun ls hl => ?_)
                        refine lv_goto (tgt := 103) hx hb d_Le_init_124 (by decide) ?_
                        refine lv_iload_n hx hb d_Le_init_103 rfl (lv_at hl 0 rfl) ?_
                        refine lv_iconst (v := 4) hx hb d_Le_init_104 (by decide) ?_
                        refine lv_icmp_ge (tgt := 127) hx hb d_Le_init_105 (by decide) (fun c9 => absurd c9 (by decide)) (fun _ => ?_)
                        refine lv_aload_n hx hb d_Le_init_108 rfl (lv_at hl 1 rfl) ?_
                        have f_0_ws76 : ws76[0]? = some ((a, Sum.inr (0, [Value.ref q1, Value.ref q9, Value.ref q16, Value.ref q40, Value.ref q63, Value.ref q24, Value.ref q32, Value.int 0, Value.int 0, Value.int 0, Value.int 0, Value.int 0, Value.int 0, Value.int 0, Value.int 0, Value.int 0, Value.int 0, Value.int 0])) : Nat × va_E) := by rw [e_ws76]; exact gs_app f_0_ws74
                        clear f_0_ws74
                        have f_0_ws78 : ws78[0]? = some ((a, Sum.inr (0, [Value.ref q1, Value.ref q9, Value.ref q16, Value.ref q40, Value.ref q63, Value.ref q24, Value.ref q32, Value.int 0, Value.int 0, Value.int 0, Value.int 0, Value.int 0, Value.int 0, Value.int 0, Value.int 0, Value.int 0, Value.int 0, Value.int 0])) : Nat × va_E) := e_ws78.at (by first | decide | (simp; done) | (simp; omega)) f_0_ws76
                        clear f_0_ws76
                        have f_0_ws83 : ws83[0]? = some ((a, Sum.inr (0, [Value.ref q1, Value.ref q9, Value.ref q16, Value.ref q40, Value.ref q63, Value.ref q24, Value.ref q32, Value.int 0, Value.int 0, Value.int 0, Value.int 0, Value.int 0, Value.int 0, Value.int 0, Value.int 0, Value.int 0, Value.int 0, Value.int 0])) : Nat × va_E) := by rw [e_ws83]; exact gs_ne (by decide) f_0_ws78
                        clear f_0_ws78
                        refine va_get (D := D) (ci := 0) (v := Value.ref q63) (C := "CommitLedger") (T := F_Le) (N := 18) hx hb hts i_Le hown hK hP 0 f_0_ws83 rfl 4 (by decide) (hts _ kf_Le_45) (fun _ h9 => h9) rfl d_Le_init_109 ?_
                        refine lv_iload_n hx hb d_Le_init_112 rfl (lv_at hl 0 rfl) ?_
                        refine va_new (ci := 6) (fs := [Value.null, Value.int 0, Value.int 0]) (C := "CommitLedger$Reader") (T := F_Re) (N := 3) hx hb hts i_Re t_Re t_Re_ok hown (hts _ kk_Le_43) (hts _ kX_Re) (hts _ kN_Re) hK hP hD hS hA rfl (by decide) (Nat.le_of_ble_eq_true rfl) (Nat.le_of_ble_eq_true rfl) d_Le_init_113 (fun q84 H hP9 hD9 hS9 => ?_)
                        obtain ⟨ws85, e_ws85⟩ : ∃ x : va_W, x = ws83 ++ [((q84, Sum.inr (6, [Value.null, Value.int 0, Value.int 0])) : Nat × va_E)] := ⟨_, rfl⟩
                        replace hP : va_P D classes ws85 H := by rw [e_ws85]; exact hP9
                        replace hD : va_D A ws85 := by rw [e_ws85]; exact hD9
                        replace hS := hS9
                        clear hP9 hD9 hS9
                        have f_36_ws85 : ws85[36]? = some ((q84, Sum.inr (6, [Value.null, Value.int 0, Value.int 0])) : Nat × va_E) := by rw [e_ws85]; exact gs_last hlen
                        replace hlen : ws85.length = 37 := by rw [e_ws85]; exact gs_len hlen
                        replace hU : gx_g ws ws85 36 [0] := by rw [e_ws85]; exact hU.push
                        refine W.widen (k := 36) (n := 73805) (by decide) (by decide) ?_
                        refine lv_dup hx hb d_Le_init_116 rfl ?_
                        refine gx_call (ig := .invokespecial 49) (c_Re_init l htr D tys z _ ws85 cZ cF q84 36 37 f_36_ws85 ht1 ht2 hlen (by decide)) (gx_invIN (As := []) (rest := [Value.ref q84, Value.int 2, Value.ref q63]) hx hb hown hts km_Le_49 kI_Re_init kc_Re_init (by decide) rfl (show (parseMethodDescriptor y_Re_init.desc).map (fun d => d.parameters.length) = some 0 by decide +kernel) rfl rfl d_Le_init_117) (gx_cw (z := 0) hts kc_Re_init kN_Re rfl rfl ⟨Nat.le_of_ble_eq_true rfl, Nat.le_of_ble_eq_true rfl⟩) hb hml gx_blind (gx_pre hz hP hK hD hY hS hAz [Value.ref q84]) rfl hl.1 (lv_room (Nat.le_of_ble_eq_true rfl)) d_Le_init_117 ⟨Nat.le_of_ble_eq_true rfl, Nat.le_of_ble_eq_true rfl⟩ (fun v86 st86 t86 L86 h0_86 hW_86 hQ_86 hL_86 => ?_) (fun v86 st86 t86 L86 h0_86 hW_86 hQ_86 hL_86 => ?_)
                        · obtain ⟨ws87, hp, hP9, -, hD9, hS9⟩ := gx_back h0_86 hW_86 hQ_86 hL_86 hD hS hA
                          clear hQ_86 h0_86 hL_86 hW_86 hP hD hS
                          have hP := hP9
                          have hD := hD9
                          have hS := hS9
                          clear hP9 hD9 hS9
                          rcases hp with ⟨q88, q89, q90, q91, hv9, e_ws87, f_36_ws87, f_37_ws87, f_38_ws87, f_39_ws87, f_40_ws87⟩
                          cases hv9
                          have f_36_ws87 : ws87[36]? = some ((q84, Sum.inr (6, [Value.ref q88, Value.int 0, Value.int 0])) : Nat × va_E) := f_36_ws87
                          have f_37_ws87 : ws87[37]? = some ((q88, Sum.inr (4, [Value.ref q89, Value.ref q90, Value.ref q91, Value.null, Value.int 0, Value.int 0])) : Nat × va_E) := f_37_ws87
                          have f_38_ws87 : ws87[38]? = some ((q89, Sum.inl (cF, 4096, Sum.inr (Sum.inr (Sum.inr (Sum.inr (fun _ => none)))))) : Nat × va_E) := f_38_ws87
                          have f_39_ws87 : ws87[39]? = some ((q90, Sum.inl (cF, 4096, Sum.inr (Sum.inr (Sum.inr (Sum.inr (fun _ => none)))))) : Nat × va_E) := f_39_ws87
                          have f_40_ws87 : ws87[40]? = some ((q91, Sum.inl (cZ, 4096, Sum.inl (fun _ => 0))) : Nat × va_E) := f_40_ws87
                          replace hlen : ws87.length = 41 := by rw [e_ws87.1, hlen]
                          replace hU : gx_g ws ws87 40 [0] := hU.call e_ws87 (by rw [hlen0]; decide)
                          refine W.eq (g2 := F0 m 120 ls [Value.ref q84, Value.int 2, Value.ref q63]) rfl ?_
                          refine W.widen (k := 40) (n := 86099) (by decide) (by decide) ?_
                          generalize t86.heap = H at hP hS ⊢
                          generalize locs ++ L86 = locs at hS ⊢
                          have f_25_ws85 : ws85[25]? = some ((q63, Sum.inl (cR, 4, Sum.inr (Sum.inr (Sum.inr (Sum.inr (va_up (va_up (fun _ => none) 0 (some q66)) 1 (some q75))))))) : Nat × va_E) := by rw [e_ws85]; exact gs_app f_25_ws83
                          clear f_25_ws83
                          have f_25_ws87 : ws87[25]? = some ((q63, Sum.inl (cR, 4, Sum.inr (Sum.inr (Sum.inr (Sum.inr (va_up (va_up (fun _ => none) 0 (some q66)) 1 (some q75))))))) : Nat × va_E) := e_ws87.at (by first | decide | (simp; done) | (simp; omega)) f_25_ws85
                          clear f_25_ws85
                          refine gx_aast (D := D) (j := 2) hx hb hK hP hD hS 25 4 36 6 f_25_ws87 ht4 f_36_ws87 rfl (gx_inl (by decide)) (by decide) d_Le_init_120 (fun H locs hP9 hD9 hS9 => ?_)
                          obtain ⟨ws92, e_ws92⟩ : ∃ x : va_W, x = ws87.set 25 ((q63, Sum.inl (cR, 4, Sum.inr (Sum.inr (Sum.inr (Sum.inr (va_up (va_up (va_up (fun _ => none) 0 (some q66)) 1 (some q75)) 2 (some q84))))))) : Nat × va_E) := ⟨_, rfl⟩
                          replace hP : va_P D classes ws92 H := by rw [e_ws92]; exact hP9
                          replace hD : va_D A ws92 := by rw [e_ws92]; exact hD9
                          replace hS := hS9
                          clear hP9 hD9 hS9
                          have f_25_ws92 : ws92[25]? = some ((q63, Sum.inl (cR, 4, Sum.inr (Sum.inr (Sum.inr (Sum.inr (va_up (va_up (va_up (fun _ => none) 0 (some q66)) 1 (some q75)) 2 (some q84))))))) : Nat × va_E) := by rw [e_ws92]; exact gs_self f_25_ws87
                          replace hlen : ws92.length = 41 := by rw [e_ws92]; exact gs_lens hlen
                          replace hU : gx_g ws ws92 40 [0] := by rw [e_ws92]; exact hU.put (Or.inr (by rw [hlen0]; decide))
                          refine lv_iinc (v := 3) (lv' := [(1, Value.int 3), (0, Value.ref a)]) hx hb d_Le_init_121 hl (k := 0) rfl (by decide) (by decide) rfl (fun ls hl => ?_)
                          refine lv_goto (tgt := 103) hx hb d_Le_init_124 (by decide) ?_
                          refine lv_iload_n hx hb d_Le_init_103 rfl (lv_at hl 0 rfl) ?_
                          refine lv_iconst (v := 4) hx hb d_Le_init_104 (by decide) ?_
                          refine lv_icmp_ge (tgt := 127) hx hb d_Le_init_105 (by decide) (fun c9 => absurd c9 (by decide)) (fun _ => ?_)
                          refine lv_aload_n hx hb d_Le_init_108 rfl (lv_at hl 1 rfl) ?_
                          have f_0_ws85 : ws85[0]? = some ((a, Sum.inr (0, [Value.ref q1, Value.ref q9, Value.ref q16, Value.ref q40, Value.ref q63, Value.ref q24, Value.ref q32, Value.int 0, Value.int 0, Value.int 0, Value.int 0, Value.int 0, Value.int 0, Value.int 0, Value.int 0, Value.int 0, Value.int 0, Value.int 0])) : Nat × va_E) := by rw [e_ws85]; exact gs_app f_0_ws83
                          clear f_0_ws83
                          have f_0_ws87 : ws87[0]? = some ((a, Sum.inr (0, [Value.ref q1, Value.ref q9, Value.ref q16, Value.ref q40, Value.ref q63, Value.ref q24, Value.ref q32, Value.int 0, Value.int 0, Value.int 0, Value.int 0, Value.int 0, Value.int 0, Value.int 0, Value.int 0, Value.int 0, Value.int 0, Value.int 0])) : Nat × va_E) := e_ws87.at (by first | decide | (simp; done) | (simp; omega)) f_0_ws85
                          clear f_0_ws85
                          have f_0_ws92 : ws92[0]? = some ((a, Sum.inr (0, [Value.ref q1, Value.ref q9, Value.ref q16, Value.ref q40, Value.ref q63, Value.ref q24, Value.ref q32, Value.int 0, Value.int 0, Value.int 0, Value.int 0, Value.int 0, Value.int 0, Value.int 0, Value.int 0, Value.int 0, Value.int 0, Value.int 0])) : Nat × va_E) := by rw [e_ws92]; exact gs_ne (by decide) f_0_ws87
                          clear f_0_ws87
                          refine va_get (D := D) (ci := 0) (v := Value.ref q63) (C := "CommitLedger") (T := F_Le) (N := 18) hx hb hts i_Le hown hK hP 0 f_0_ws92 rfl 4 (by decide) (hts _ kf_Le_45) (fun _ h9 => h9) rfl d_Le_init_109 ?_
                          refine lv_iload_n hx hb d_Le_init_112 rfl (lv_at hl 0 rfl) ?_
                          refine va_new (ci := 6) (fs := [Value.null, Value.int 0, Value.int 0]) (C := "CommitLedger$Reader") (T := F_Re) (N := 3) hx hb hts i_Re t_Re t_Re_ok hown (hts _ kk_Le_43) (hts _ kX_Re) (hts _ kN_Re) hK hP hD hS hA rfl (by decide) (Nat.le_of_ble_eq_true rfl) (Nat.le_of_ble_eq_true rfl) d_Le_init_113 (fun q93 H hP9 hD9 hS9 => ?_)
                          obtain ⟨ws94, e_ws94⟩ : ∃ x : va_W, x = ws92 ++ [((q93, Sum.inr (6, [Value.null, Value.int 0, Value.int 0])) : Nat × va_E)] := ⟨_, rfl⟩
                          replace hP : va_P D classes ws94 H := by rw [e_ws94]; exact hP9
                          replace hD : va_D A ws94 := by rw [e_ws94]; exact hD9
                          replace hS := hS9
                          clear hP9 hD9 hS9
                          have f_41_ws94 : ws94[41]? = some ((q93, Sum.inr (6, [Value.null, Value.int 0, Value.int 0])) : Nat × va_E) := by rw [e_ws94]; exact gs_last hlen
                          replace hlen : ws94.length = 42 := by rw [e_ws94]; exact gs_len hlen
                          replace hU : gx_g ws ws94 41 [0] := by rw [e_ws94]; exact hU.push
                          refine W.widen (k := 41) (n := 86102) (by decide) (by decide) ?_
                          refine lv_dup hx hb d_Le_init_116 rfl ?_
                          refine gx_call (ig := .invokespecial 49) (c_Re_init l htr D tys z _ ws94 cZ cF q93 41 42 f_41_ws94 ht1 ht2 hlen (by decide)) (gx_invIN (As := []) (rest := [Value.ref q93, Value.int 3, Value.ref q63]) hx hb hown hts km_Le_49 kI_Re_init kc_Re_init (by decide) rfl (show (parseMethodDescriptor y_Re_init.desc).map (fun d => d.parameters.length) = some 0 by decide +kernel) rfl rfl d_Le_init_117) (gx_cw (z := 0) hts kc_Re_init kN_Re rfl rfl ⟨Nat.le_of_ble_eq_true rfl, Nat.le_of_ble_eq_true rfl⟩) hb hml gx_blind (gx_pre hz hP hK hD hY hS hAz [Value.ref q93]) rfl hl.1 (lv_room (Nat.le_of_ble_eq_true rfl)) d_Le_init_117 ⟨Nat.le_of_ble_eq_true rfl, Nat.le_of_ble_eq_true rfl⟩ (fun v95 st95 t95 L95 h0_95 hW_95 hQ_95 hL_95 => ?_) (fun v95 st95 t95 L95 h0_95 hW_95 hQ_95 hL_95 => ?_)
                          · obtain ⟨ws96, hp, hP9, -, hD9, hS9⟩ := gx_back h0_95 hW_95 hQ_95 hL_95 hD hS hA
                            clear hQ_95 h0_95 hL_95 hW_95 hP hD hS
                            have hP := hP9
                            have hD := hD9
                            have hS := hS9
                            clear hP9 hD9 hS9
                            rcases hp with ⟨q97, q98, q99, q100, hv9, e_ws96, f_41_ws96, f_42_ws96, f_43_ws96, f_44_ws96, f_45_ws96⟩
                            cases hv9
                            have f_41_ws96 : ws96[41]? = some ((q93, Sum.inr (6, [Value.ref q97, Value.int 0, Value.int 0])) : Nat × va_E) := f_41_ws96
                            have f_42_ws96 : ws96[42]? = some ((q97, Sum.inr (4, [Value.ref q98, Value.ref q99, Value.ref q100, Value.null, Value.int 0, Value.int 0])) : Nat × va_E) := f_42_ws96
                            have f_43_ws96 : ws96[43]? = some ((q98, Sum.inl (cF, 4096, Sum.inr (Sum.inr (Sum.inr (Sum.inr (fun _ => none)))))) : Nat × va_E) := f_43_ws96
                            have f_44_ws96 : ws96[44]? = some ((q99, Sum.inl (cF, 4096, Sum.inr (Sum.inr (Sum.inr (Sum.inr (fun _ => none)))))) : Nat × va_E) := f_44_ws96
                            have f_45_ws96 : ws96[45]? = some ((q100, Sum.inl (cZ, 4096, Sum.inl (fun _ => 0))) : Nat × va_E) := f_45_ws96
                            replace hlen : ws96.length = 46 := by rw [e_ws96.1, hlen]
                            replace hU : gx_g ws ws96 45 [0] := hU.call e_ws96 (by rw [hlen0]; decide)
                            refine W.eq (g2 := F0 m 120 ls [Value.ref q93, Value.int 3, Value.ref q63]) rfl ?_
                            refine W.widen (k := 45) (n := 98396) (by decide) (by decide) ?_
                            generalize t95.heap = H at hP hS ⊢
                            generalize locs ++ L95 = locs at hS ⊢
                            have f_25_ws94 : ws94[25]? = some ((q63, Sum.inl (cR, 4, Sum.inr (Sum.inr (Sum.inr (Sum.inr (va_up (va_up (va_up (fun _ => none) 0 (some q66)) 1 (some q75)) 2 (some q84))))))) : Nat × va_E) := by rw [e_ws94]; exact gs_app f_25_ws92
                            clear f_25_ws92
                            have f_25_ws96 : ws96[25]? = some ((q63, Sum.inl (cR, 4, Sum.inr (Sum.inr (Sum.inr (Sum.inr (va_up (va_up (va_up (fun _ => none) 0 (some q66)) 1 (some q75)) 2 (some q84))))))) : Nat × va_E) := e_ws96.at (by first | decide | (simp; done) | (simp; omega)) f_25_ws94
                            clear f_25_ws94
                            refine gx_aast (D := D) (j := 3) hx hb hK hP hD hS 25 4 41 6 f_25_ws96 ht4 f_41_ws96 rfl (gx_inl (by decide)) (by decide) d_Le_init_120 (fun H locs hP9 hD9 hS9 => ?_)
                            obtain ⟨ws101, e_ws101⟩ : ∃ x : va_W, x = ws96.set 25 ((q63, Sum.inl (cR, 4, Sum.inr (Sum.inr (Sum.inr (Sum.inr (va_up (va_up (va_up (va_up (fun _ => none) 0 (some q66)) 1 (some q75)) 2 (some q84)) 3 (some q93))))))) : Nat × va_E) := ⟨_, rfl⟩
                            replace hP : va_P D classes ws101 H := by rw [e_ws101]; exact hP9
                            replace hD : va_D A ws101 := by rw [e_ws101]; exact hD9
                            replace hS := hS9
                            clear hP9 hD9 hS9
                            have f_25_ws101 : ws101[25]? = some ((q63, Sum.inl (cR, 4, Sum.inr (Sum.inr (Sum.inr (Sum.inr (va_up (va_up (va_up (va_up (fun _ => none) 0 (some q66)) 1 (some q75)) 2 (some q84)) 3 (some q93))))))) : Nat × va_E) := by rw [e_ws101]; exact gs_self f_25_ws96
                            replace hlen : ws101.length = 46 := by rw [e_ws101]; exact gs_lens hlen
                            replace hU : gx_g ws ws101 45 [0] := by rw [e_ws101]; exact hU.put (Or.inr (by rw [hlen0]; decide))
                            refine lv_iinc (v := 4) (lv' := [(1, Value.int 4), (0, Value.ref a)]) hx hb d_Le_init_121 hl (k := 0) rfl (by decide) (by decide) rfl (fun ls hl => ?_)
                            refine lv_goto (tgt := 103) hx hb d_Le_init_124 (by decide) ?_
                            refine lv_iload_n hx hb d_Le_init_103 rfl (lv_at hl 0 rfl) ?_
                            refine lv_iconst (v := 4) hx hb d_Le_init_104 (by decide) ?_
                            refine lv_icmp_ge (tgt := 127) hx hb d_Le_init_105 (by decide) (fun _ => ?_) (fun c9 => absurd (by decide) c9)
                            refine lv_aload_n hx hb d_Le_init_127 rfl (lv_at hl 1 rfl) ?_
                            refine lv_bipush (v := 16) hx hb d_Le_init_128 (by decide) ?_
                            have f_0_ws94 : ws94[0]? = some ((a, Sum.inr (0, [Value.ref q1, Value.ref q9, Value.ref q16, Value.ref q40, Value.ref q63, Value.ref q24, Value.ref q32, Value.int 0, Value.int 0, Value.int 0, Value.int 0, Value.int 0, Value.int 0, Value.int 0, Value.int 0, Value.int 0, Value.int 0, Value.int 0])) : Nat × va_E) := by rw [e_ws94]; exact gs_app f_0_ws92
                            clear f_0_ws92
                            have f_0_ws96 : ws96[0]? = some ((a, Sum.inr (0, [Value.ref q1, Value.ref q9, Value.ref q16, Value.ref q40, Value.ref q63, Value.ref q24, Value.ref q32, Value.int 0, Value.int 0, Value.int 0, Value.int 0, Value.int 0, Value.int 0, Value.int 0, Value.int 0, Value.int 0, Value.int 0, Value.int 0])) : Nat × va_E) := e_ws96.at (by first | decide | (simp; done) | (simp; omega)) f_0_ws94
                            clear f_0_ws94
                            have f_0_ws101 : ws101[0]? = some ((a, Sum.inr (0, [Value.ref q1, Value.ref q9, Value.ref q16, Value.ref q40, Value.ref q63, Value.ref q24, Value.ref q32, Value.int 0, Value.int 0, Value.int 0, Value.int 0, Value.int 0, Value.int 0, Value.int 0, Value.int 0, Value.int 0, Value.int 0, Value.int 0])) : Nat × va_E) := by rw [e_ws101]; exact gs_ne (by decide) f_0_ws96
                            clear f_0_ws96
                            refine va_put (D := D) (ci := 0) (v := Value.int 16) (ty := .int) (C := "CommitLedger") (T := F_Le) (N := 18) hx hb hts i_Le t_Le t_Le_ok n_Le hown hK hP hD hS 0 f_0_ws101 rfl 10 (by decide) (hts _ kf_Le_50) (fun _ h9 => h9) rfl (by decide +kernel) rfl rfl (Nat.le_of_ble_eq_true rfl) d_Le_init_130 (fun H locs hP9 hD9 hS9 => ?_)
                            obtain ⟨ws102, e_ws102⟩ : ∃ x : va_W, x = ws101.set 0 ((a, Sum.inr (0, [Value.ref q1, Value.ref q9, Value.ref q16, Value.ref q40, Value.ref q63, Value.ref q24, Value.ref q32, Value.int 0, Value.int 0, Value.int 0, Value.int 16, Value.int 0, Value.int 0, Value.int 0, Value.int 0, Value.int 0, Value.int 0, Value.int 0])) : Nat × va_E) := ⟨_, rfl⟩
                            replace hP : va_P D classes ws102 H := by rw [e_ws102]; exact hP9
                            replace hD : va_D A ws102 := by rw [e_ws102]; exact hD9
                            replace hS := hS9
                            clear hP9 hD9 hS9
                            have f_0_ws102 : ws102[0]? = some ((a, Sum.inr (0, [Value.ref q1, Value.ref q9, Value.ref q16, Value.ref q40, Value.ref q63, Value.ref q24, Value.ref q32, Value.int 0, Value.int 0, Value.int 0, Value.int 16, Value.int 0, Value.int 0, Value.int 0, Value.int 0, Value.int 0, Value.int 0, Value.int 0])) : Nat × va_E) := by rw [e_ws102]; exact gs_self f_0_ws101
                            replace hlen : ws102.length = 46 := by rw [e_ws102]; exact gs_lens hlen
                            replace hU : gx_g ws ws102 45 [0] := by rw [e_ws102]; exact hU.put (Or.inl (by simp))
                            refine lv_aload_n hx hb d_Le_init_133 rfl (lv_at hl 1 rfl) ?_
                            refine lv_iconst (v := 4) hx hb d_Le_init_134 (by decide) ?_
                            refine va_put (D := D) (ci := 0) (v := Value.int 4) (ty := .int) (C := "CommitLedger") (T := F_Le) (N := 18) hx hb hts i_Le t_Le t_Le_ok n_Le hown hK hP hD hS 0 f_0_ws102 rfl 11 (by decide) (hts _ kf_Le_54) (fun _ h9 => h9) rfl (by decide +kernel) rfl rfl (Nat.le_of_ble_eq_true rfl) d_Le_init_135 (fun H locs hP9 hD9 hS9 => ?_)
                            obtain ⟨ws103, e_ws103⟩ : ∃ x : va_W, x = ws102.set 0 ((a, Sum.inr (0, [Value.ref q1, Value.ref q9, Value.ref q16, Value.ref q40, Value.ref q63, Value.ref q24, Value.ref q32, Value.int 0, Value.int 0, Value.int 0, Value.int 16, Value.int 4, Value.int 0, Value.int 0, Value.int 0, Value.int 0, Value.int 0, Value.int 0])) : Nat × va_E) := ⟨_, rfl⟩
                            replace hP : va_P D classes ws103 H := by rw [e_ws103]; exact hP9
                            replace hD : va_D A ws103 := by rw [e_ws103]; exact hD9
                            replace hS := hS9
                            clear hP9 hD9 hS9
                            have f_0_ws103 : ws103[0]? = some ((a, Sum.inr (0, [Value.ref q1, Value.ref q9, Value.ref q16, Value.ref q40, Value.ref q63, Value.ref q24, Value.ref q32, Value.int 0, Value.int 0, Value.int 0, Value.int 16, Value.int 4, Value.int 0, Value.int 0, Value.int 0, Value.int 0, Value.int 0, Value.int 0])) : Nat × va_E) := by rw [e_ws103]; exact gs_self f_0_ws102
                            replace hlen : ws103.length = 46 := by rw [e_ws103]; exact gs_lens hlen
                            replace hU : gx_g ws ws103 45 [0] := by rw [e_ws103]; exact hU.put (Or.inl (by simp))
                            refine lv_aload_n hx hb d_Le_init_138 rfl (lv_at hl 1 rfl) ?_
                            refine lv_iconst (v := (-1)) hx hb d_Le_init_139 (by decide) ?_
                            refine va_put (D := D) (ci := 0) (v := Value.int (-1)) (ty := .int) (C := "CommitLedger") (T := F_Le) (N := 18) hx hb hts i_Le t_Le t_Le_ok n_Le hown hK hP hD hS 0 f_0_ws103 rfl 17 (by decide) (hts _ kf_Le_57) (fun _ h9 => h9) rfl (by decide +kernel) rfl rfl (Nat.le_of_ble_eq_true rfl) d_Le_init_140 (fun H locs hP9 hD9 hS9 => ?_)
                            obtain ⟨ws104, e_ws104⟩ : ∃ x : va_W, x = ws103.set 0 ((a, Sum.inr (0, [Value.ref q1, Value.ref q9, Value.ref q16, Value.ref q40, Value.ref q63, Value.ref q24, Value.ref q32, Value.int 0, Value.int 0, Value.int 0, Value.int 16, Value.int 4, Value.int 0, Value.int 0, Value.int 0, Value.int 0, Value.int 0, Value.int (-1)])) : Nat × va_E) := ⟨_, rfl⟩
                            replace hP : va_P D classes ws104 H := by rw [e_ws104]; exact hP9
                            replace hD : va_D A ws104 := by rw [e_ws104]; exact hD9
                            replace hS := hS9
                            clear hP9 hD9 hS9
                            have f_0_ws104 : ws104[0]? = some ((a, Sum.inr (0, [Value.ref q1, Value.ref q9, Value.ref q16, Value.ref q40, Value.ref q63, Value.ref q24, Value.ref q32, Value.int 0, Value.int 0, Value.int 0, Value.int 16, Value.int 4, Value.int 0, Value.int 0, Value.int 0, Value.int 0, Value.int 0, Value.int (-1)])) : Nat × va_E) := by rw [e_ws104]; exact gs_self f_0_ws103
                            replace hlen : ws104.length = 46 := by rw [e_ws104]; exact gs_lens hlen
                            replace hU : gx_g ws ws104 45 [0] := by rw [e_ws104]; exact hU.put (Or.inl (by simp))
                            have f_1_ws8 : ws8[1]? = some ((q1, Sum.inr (1, [Value.ref q5, Value.ref q6, Value.ref q7, Value.int 0])) : Nat × va_E) := by rw [e_ws8]; exact gs_ne (by decide) f_1_ws4
                            clear f_1_ws4
                            have f_1_ws10 : ws10[1]? = some ((q1, Sum.inr (1, [Value.ref q5, Value.ref q6, Value.ref q7, Value.int 0])) : Nat × va_E) := by rw [e_ws10]; exact gs_app f_1_ws8
                            clear f_1_ws8
                            have f_1_ws12 : ws12[1]? = some ((q1, Sum.inr (1, [Value.ref q5, Value.ref q6, Value.ref q7, Value.int 0])) : Nat × va_E) := e_ws12.at (by first | decide | (simp; done) | (simp; omega)) f_1_ws10
                            clear f_1_ws10
                            have f_1_ws15 : ws15[1]? = some ((q1, Sum.inr (1, [Value.ref q5, Value.ref q6, Value.ref q7, Value.int 0])) : Nat × va_E) := by rw [e_ws15]; exact gs_ne (by decide) f_1_ws12
                            clear f_1_ws12
                            have f_1_ws17 : ws17[1]? = some ((q1, Sum.inr (1, [Value.ref q5, Value.ref q6, Value.ref q7, Value.int 0])) : Nat × va_E) := by rw [e_ws17]; exact gs_app f_1_ws15
                            clear f_1_ws15
                            have f_1_ws19 : ws19[1]? = some ((q1, Sum.inr (1, [Value.ref q5, Value.ref q6, Value.ref q7, Value.int 0])) : Nat × va_E) := e_ws19.at (by first | decide | (simp; done) | (simp; omega)) f_1_ws17
                            clear f_1_ws17
                            have f_1_ws23 : ws23[1]? = some ((q1, Sum.inr (1, [Value.ref q5, Value.ref q6, Value.ref q7, Value.int 0])) : Nat × va_E) := by rw [e_ws23]; exact gs_ne (by decide) f_1_ws19
                            clear f_1_ws19
                            have f_1_ws25 : ws25[1]? = some ((q1, Sum.inr (1, [Value.ref q5, Value.ref q6, Value.ref q7, Value.int 0])) : Nat × va_E) := by rw [e_ws25]; exact gs_app f_1_ws23
                            clear f_1_ws23
                            have f_1_ws27 : ws27[1]? = some ((q1, Sum.inr (1, [Value.ref q5, Value.ref q6, Value.ref q7, Value.int 0])) : Nat × va_E) := e_ws27.at (by first | decide | (simp; done) | (simp; omega)) f_1_ws25
                            clear f_1_ws25
                            have f_1_ws31 : ws31[1]? = some ((q1, Sum.inr (1, [Value.ref q5, Value.ref q6, Value.ref q7, Value.int 0])) : Nat × va_E) := by rw [e_ws31]; exact gs_ne (by decide) f_1_ws27
                            clear f_1_ws27
                            have f_1_ws33 : ws33[1]? = some ((q1, Sum.inr (1, [Value.ref q5, Value.ref q6, Value.ref q7, Value.int 0])) : Nat × va_E) := by rw [e_ws33]; exact gs_app f_1_ws31
                            clear f_1_ws31
                            have f_1_ws35 : ws35[1]? = some ((q1, Sum.inr (1, [Value.ref q5, Value.ref q6, Value.ref q7, Value.int 0])) : Nat × va_E) := e_ws35.at (by first | decide | (simp; done) | (simp; omega)) f_1_ws33
                            clear f_1_ws33
                            have f_1_ws39 : ws39[1]? = some ((q1, Sum.inr (1, [Value.ref q5, Value.ref q6, Value.ref q7, Value.int 0])) : Nat × va_E) := by rw [e_ws39]; exact gs_ne (by decide) f_1_ws35
                            clear f_1_ws35
                            have f_1_ws41 : ws41[1]? = some ((q1, Sum.inr (1, [Value.ref q5, Value.ref q6, Value.ref q7, Value.int 0])) : Nat × va_E) := by rw [e_ws41]; exact gs_app f_1_ws39
                            clear f_1_ws39
                            have f_1_ws42 : ws42[1]? = some ((q1, Sum.inr (1, [Value.ref q5, Value.ref q6, Value.ref q7, Value.int 0])) : Nat × va_E) := by rw [e_ws42]; exact gs_ne (by decide) f_1_ws41
                            clear f_1_ws41
                            have f_1_ws44 : ws44[1]? = some ((q1, Sum.inr (1, [Value.ref q5, Value.ref q6, Value.ref q7, Value.int 0])) : Nat × va_E) := by rw [e_ws44]; exact gs_app f_1_ws42
                            clear f_1_ws42
                            have f_1_ws47 : ws47[1]? = some ((q1, Sum.inr (1, [Value.ref q5, Value.ref q6, Value.ref q7, Value.int 0])) : Nat × va_E) := by rw [e_ws47]; exact gs_ne (by decide) f_1_ws44
                            clear f_1_ws44
                            have f_1_ws49 : ws49[1]? = some ((q1, Sum.inr (1, [Value.ref q5, Value.ref q6, Value.ref q7, Value.int 0])) : Nat × va_E) := by rw [e_ws49]; exact gs_app f_1_ws47
                            clear f_1_ws47
                            have f_1_ws52 : ws52[1]? = some ((q1, Sum.inr (1, [Value.ref q5, Value.ref q6, Value.ref q7, Value.int 0])) : Nat × va_E) := by rw [e_ws52]; exact gs_ne (by decide) f_1_ws49
                            clear f_1_ws49
                            have f_1_ws54 : ws54[1]? = some ((q1, Sum.inr (1, [Value.ref q5, Value.ref q6, Value.ref q7, Value.int 0])) : Nat × va_E) := by rw [e_ws54]; exact gs_app f_1_ws52
                            clear f_1_ws52
                            have f_1_ws57 : ws57[1]? = some ((q1, Sum.inr (1, [Value.ref q5, Value.ref q6, Value.ref q7, Value.int 0])) : Nat × va_E) := by rw [e_ws57]; exact gs_ne (by decide) f_1_ws54
                            clear f_1_ws54
                            have f_1_ws59 : ws59[1]? = some ((q1, Sum.inr (1, [Value.ref q5, Value.ref q6, Value.ref q7, Value.int 0])) : Nat × va_E) := by rw [e_ws59]; exact gs_app f_1_ws57
                            clear f_1_ws57
                            have f_1_ws62 : ws62[1]? = some ((q1, Sum.inr (1, [Value.ref q5, Value.ref q6, Value.ref q7, Value.int 0])) : Nat × va_E) := by rw [e_ws62]; exact gs_ne (by decide) f_1_ws59
                            clear f_1_ws59
                            have f_1_ws64 : ws64[1]? = some ((q1, Sum.inr (1, [Value.ref q5, Value.ref q6, Value.ref q7, Value.int 0])) : Nat × va_E) := by rw [e_ws64]; exact gs_app f_1_ws62
                            clear f_1_ws62
                            have f_1_ws65 : ws65[1]? = some ((q1, Sum.inr (1, [Value.ref q5, Value.ref q6, Value.ref q7, Value.int 0])) : Nat × va_E) := by rw [e_ws65]; exact gs_ne (by decide) f_1_ws64
                            clear f_1_ws64
                            have f_1_ws67 : ws67[1]? = some ((q1, Sum.inr (1, [Value.ref q5, Value.ref q6, Value.ref q7, Value.int 0])) : Nat × va_E) := by rw [e_ws67]; exact gs_app f_1_ws65
                            clear f_1_ws65
                            have f_1_ws69 : ws69[1]? = some ((q1, Sum.inr (1, [Value.ref q5, Value.ref q6, Value.ref q7, Value.int 0])) : Nat × va_E) := e_ws69.at (by first | decide | (simp; done) | (simp; omega)) f_1_ws67
                            clear f_1_ws67
                            have f_1_ws74 : ws74[1]? = some ((q1, Sum.inr (1, [Value.ref q5, Value.ref q6, Value.ref q7, Value.int 0])) : Nat × va_E) := by rw [e_ws74]; exact gs_ne (by decide) f_1_ws69
                            clear f_1_ws69
                            have f_1_ws76 : ws76[1]? = some ((q1, Sum.inr (1, [Value.ref q5, Value.ref q6, Value.ref q7, Value.int 0])) : Nat × va_E) := by rw [e_ws76]; exact gs_app f_1_ws74
                            clear f_1_ws74
                            have f_1_ws78 : ws78[1]? = some ((q1, Sum.inr (1, [Value.ref q5, Value.ref q6, Value.ref q7, Value.int 0])) : Nat × va_E) := e_ws78.at (by first | decide | (simp; done) | (simp; omega)) f_1_ws76
                            clear f_1_ws76
                            have f_1_ws83 : ws83[1]? = some ((q1, Sum.inr (1, [Value.ref q5, Value.ref q6, Value.ref q7, Value.int 0])) : Nat × va_E) := by rw [e_ws83]; exact gs_ne (by decide) f_1_ws78
                            clear f_1_ws78
                            have f_1_ws85 : ws85[1]? = some ((q1, Sum.inr (1, [Value.ref q5, Value.ref q6, Value.ref q7, Value.int 0])) : Nat × va_E) := by rw [e_ws85]; exact gs_app f_1_ws83
                            clear f_1_ws83
                            have f_1_ws87 : ws87[1]? = some ((q1, Sum.inr (1, [Value.ref q5, Value.ref q6, Value.ref q7, Value.int 0])) : Nat × va_E) := e_ws87.at (by first | decide | (simp; done) | (simp; omega)) f_1_ws85
                            clear f_1_ws85
                            have f_1_ws92 : ws92[1]? = some ((q1, Sum.inr (1, [Value.ref q5, Value.ref q6, Value.ref q7, Value.int 0])) : Nat × va_E) := by rw [e_ws92]; exact gs_ne (by decide) f_1_ws87
                            clear f_1_ws87
                            have f_1_ws94 : ws94[1]? = some ((q1, Sum.inr (1, [Value.ref q5, Value.ref q6, Value.ref q7, Value.int 0])) : Nat × va_E) := by rw [e_ws94]; exact gs_app f_1_ws92
                            clear f_1_ws92
                            have f_1_ws96 : ws96[1]? = some ((q1, Sum.inr (1, [Value.ref q5, Value.ref q6, Value.ref q7, Value.int 0])) : Nat × va_E) := e_ws96.at (by first | decide | (simp; done) | (simp; omega)) f_1_ws94
                            clear f_1_ws94
                            have f_1_ws101 : ws101[1]? = some ((q1, Sum.inr (1, [Value.ref q5, Value.ref q6, Value.ref q7, Value.int 0])) : Nat × va_E) := by rw [e_ws101]; exact gs_ne (by decide) f_1_ws96
                            clear f_1_ws96
                            have f_1_ws102 : ws102[1]? = some ((q1, Sum.inr (1, [Value.ref q5, Value.ref q6, Value.ref q7, Value.int 0])) : Nat × va_E) := by rw [e_ws102]; exact gs_ne (by decide) f_1_ws101
                            clear f_1_ws101
                            have f_1_ws103 : ws103[1]? = some ((q1, Sum.inr (1, [Value.ref q5, Value.ref q6, Value.ref q7, Value.int 0])) : Nat × va_E) := by rw [e_ws103]; exact gs_ne (by decide) f_1_ws102
                            clear f_1_ws102
                            have f_1_ws104 : ws104[1]? = some ((q1, Sum.inr (1, [Value.ref q5, Value.ref q6, Value.ref q7, Value.int 0])) : Nat × va_E) := by rw [e_ws104]; exact gs_ne (by decide) f_1_ws103
                            clear f_1_ws103
                            have f_2_ws8 : ws8[2]? = some ((q5, Sum.inl (cI, 4096, Sum.inl (fun _ => 0))) : Nat × va_E) := by rw [e_ws8]; exact gs_ne (by decide) f_2_ws4
                            clear f_2_ws4
                            have f_2_ws10 : ws10[2]? = some ((q5, Sum.inl (cI, 4096, Sum.inl (fun _ => 0))) : Nat × va_E) := by rw [e_ws10]; exact gs_app f_2_ws8
                            clear f_2_ws8
                            have f_2_ws12 : ws12[2]? = some ((q5, Sum.inl (cI, 4096, Sum.inl (fun _ => 0))) : Nat × va_E) := e_ws12.at (by first | decide | (simp; done) | (simp; omega)) f_2_ws10
                            clear f_2_ws10
                            have f_2_ws15 : ws15[2]? = some ((q5, Sum.inl (cI, 4096, Sum.inl (fun _ => 0))) : Nat × va_E) := by rw [e_ws15]; exact gs_ne (by decide) f_2_ws12
                            clear f_2_ws12
                            have f_2_ws17 : ws17[2]? = some ((q5, Sum.inl (cI, 4096, Sum.inl (fun _ => 0))) : Nat × va_E) := by rw [e_ws17]; exact gs_app f_2_ws15
                            clear f_2_ws15
                            have f_2_ws19 : ws19[2]? = some ((q5, Sum.inl (cI, 4096, Sum.inl (fun _ => 0))) : Nat × va_E) := e_ws19.at (by first | decide | (simp; done) | (simp; omega)) f_2_ws17
                            clear f_2_ws17
                            have f_2_ws23 : ws23[2]? = some ((q5, Sum.inl (cI, 4096, Sum.inl (fun _ => 0))) : Nat × va_E) := by rw [e_ws23]; exact gs_ne (by decide) f_2_ws19
                            clear f_2_ws19
                            have f_2_ws25 : ws25[2]? = some ((q5, Sum.inl (cI, 4096, Sum.inl (fun _ => 0))) : Nat × va_E) := by rw [e_ws25]; exact gs_app f_2_ws23
                            clear f_2_ws23
                            have f_2_ws27 : ws27[2]? = some ((q5, Sum.inl (cI, 4096, Sum.inl (fun _ => 0))) : Nat × va_E) := e_ws27.at (by first | decide | (simp; done) | (simp; omega)) f_2_ws25
                            clear f_2_ws25
                            have f_2_ws31 : ws31[2]? = some ((q5, Sum.inl (cI, 4096, Sum.inl (fun _ => 0))) : Nat × va_E) := by rw [e_ws31]; exact gs_ne (by decide) f_2_ws27
                            clear f_2_ws27
                            have f_2_ws33 : ws33[2]? = some ((q5, Sum.inl (cI, 4096, Sum.inl (fun _ => 0))) : Nat × va_E) := by rw [e_ws33]; exact gs_app f_2_ws31
                            clear f_2_ws31
                            have f_2_ws35 : ws35[2]? = some ((q5, Sum.inl (cI, 4096, Sum.inl (fun _ => 0))) : Nat × va_E) := e_ws35.at (by first | decide | (simp; done) | (simp; omega)) f_2_ws33
                            clear f_2_ws33
                            have f_2_ws39 : ws39[2]? = some ((q5, Sum.inl (cI, 4096, Sum.inl (fun _ => 0))) : Nat × va_E) := by rw [e_ws39]; exact gs_ne (by decide) f_2_ws35
                            clear f_2_ws35
                            have f_2_ws41 : ws41[2]? = some ((q5, Sum.inl (cI, 4096, Sum.inl (fun _ => 0))) : Nat × va_E) := by rw [e_ws41]; exact gs_app f_2_ws39
                            clear f_2_ws39
                            have f_2_ws42 : ws42[2]? = some ((q5, Sum.inl (cI, 4096, Sum.inl (fun _ => 0))) : Nat × va_E) := by rw [e_ws42]; exact gs_ne (by decide) f_2_ws41
                            clear f_2_ws41
                            have f_2_ws44 : ws44[2]? = some ((q5, Sum.inl (cI, 4096, Sum.inl (fun _ => 0))) : Nat × va_E) := by rw [e_ws44]; exact gs_app f_2_ws42
                            clear f_2_ws42
                            have f_2_ws47 : ws47[2]? = some ((q5, Sum.inl (cI, 4096, Sum.inl (fun _ => 0))) : Nat × va_E) := by rw [e_ws47]; exact gs_ne (by decide) f_2_ws44
                            clear f_2_ws44
                            have f_2_ws49 : ws49[2]? = some ((q5, Sum.inl (cI, 4096, Sum.inl (fun _ => 0))) : Nat × va_E) := by rw [e_ws49]; exact gs_app f_2_ws47
                            clear f_2_ws47
                            have f_2_ws52 : ws52[2]? = some ((q5, Sum.inl (cI, 4096, Sum.inl (fun _ => 0))) : Nat × va_E) := by rw [e_ws52]; exact gs_ne (by decide) f_2_ws49
                            clear f_2_ws49
                            have f_2_ws54 : ws54[2]? = some ((q5, Sum.inl (cI, 4096, Sum.inl (fun _ => 0))) : Nat × va_E) := by rw [e_ws54]; exact gs_app f_2_ws52
                            clear f_2_ws52
                            have f_2_ws57 : ws57[2]? = some ((q5, Sum.inl (cI, 4096, Sum.inl (fun _ => 0))) : Nat × va_E) := by rw [e_ws57]; exact gs_ne (by decide) f_2_ws54
                            clear f_2_ws54
                            have f_2_ws59 : ws59[2]? = some ((q5, Sum.inl (cI, 4096, Sum.inl (fun _ => 0))) : Nat × va_E) := by rw [e_ws59]; exact gs_app f_2_ws57
                            clear f_2_ws57
                            have f_2_ws62 : ws62[2]? = some ((q5, Sum.inl (cI, 4096, Sum.inl (fun _ => 0))) : Nat × va_E) := by rw [e_ws62]; exact gs_ne (by decide) f_2_ws59
                            clear f_2_ws59
                            have f_2_ws64 : ws64[2]? = some ((q5, Sum.inl (cI, 4096, Sum.inl (fun _ => 0))) : Nat × va_E) := by rw [e_ws64]; exact gs_app f_2_ws62
                            clear f_2_ws62
                            have f_2_ws65 : ws65[2]? = some ((q5, Sum.inl (cI, 4096, Sum.inl (fun _ => 0))) : Nat × va_E) := by rw [e_ws65]; exact gs_ne (by decide) f_2_ws64
                            clear f_2_ws64
                            have f_2_ws67 : ws67[2]? = some ((q5, Sum.inl (cI, 4096, Sum.inl (fun _ => 0))) : Nat × va_E) := by rw [e_ws67]; exact gs_app f_2_ws65
                            clear f_2_ws65
                            have f_2_ws69 : ws69[2]? = some ((q5, Sum.inl (cI, 4096, Sum.inl (fun _ => 0))) : Nat × va_E) := e_ws69.at (by first | decide | (simp; done) | (simp; omega)) f_2_ws67
                            clear f_2_ws67
                            have f_2_ws74 : ws74[2]? = some ((q5, Sum.inl (cI, 4096, Sum.inl (fun _ => 0))) : Nat × va_E) := by rw [e_ws74]; exact gs_ne (by decide) f_2_ws69
                            clear f_2_ws69
                            have f_2_ws76 : ws76[2]? = some ((q5, Sum.inl (cI, 4096, Sum.inl (fun _ => 0))) : Nat × va_E) := by rw [e_ws76]; exact gs_app f_2_ws74
                            clear f_2_ws74
                            have f_2_ws78 : ws78[2]? = some ((q5, Sum.inl (cI, 4096, Sum.inl (fun _ => 0))) : Nat × va_E) := e_ws78.at (by first | decide | (simp; done) | (simp; omega)) f_2_ws76
                            clear f_2_ws76
                            have f_2_ws83 : ws83[2]? = some ((q5, Sum.inl (cI, 4096, Sum.inl (fun _ => 0))) : Nat × va_E) := by rw [e_ws83]; exact gs_ne (by decide) f_2_ws78
                            clear f_2_ws78
                            have f_2_ws85 : ws85[2]? = some ((q5, Sum.inl (cI, 4096, Sum.inl (fun _ => 0))) : Nat × va_E) := by rw [e_ws85]; exact gs_app f_2_ws83
                            clear f_2_ws83
                            have f_2_ws87 : ws87[2]? = some ((q5, Sum.inl (cI, 4096, Sum.inl (fun _ => 0))) : Nat × va_E) := e_ws87.at (by first | decide | (simp; done) | (simp; omega)) f_2_ws85
                            clear f_2_ws85
                            have f_2_ws92 : ws92[2]? = some ((q5, Sum.inl (cI, 4096, Sum.inl (fun _ => 0))) : Nat × va_E) := by rw [e_ws92]; exact gs_ne (by decide) f_2_ws87
                            clear f_2_ws87
                            have f_2_ws94 : ws94[2]? = some ((q5, Sum.inl (cI, 4096, Sum.inl (fun _ => 0))) : Nat × va_E) := by rw [e_ws94]; exact gs_app f_2_ws92
                            clear f_2_ws92
                            have f_2_ws96 : ws96[2]? = some ((q5, Sum.inl (cI, 4096, Sum.inl (fun _ => 0))) : Nat × va_E) := e_ws96.at (by first | decide | (simp; done) | (simp; omega)) f_2_ws94
                            clear f_2_ws94
                            have f_2_ws101 : ws101[2]? = some ((q5, Sum.inl (cI, 4096, Sum.inl (fun _ => 0))) : Nat × va_E) := by rw [e_ws101]; exact gs_ne (by decide) f_2_ws96
                            clear f_2_ws96
                            have f_2_ws102 : ws102[2]? = some ((q5, Sum.inl (cI, 4096, Sum.inl (fun _ => 0))) : Nat × va_E) := by rw [e_ws102]; exact gs_ne (by decide) f_2_ws101
                            clear f_2_ws101
                            have f_2_ws103 : ws103[2]? = some ((q5, Sum.inl (cI, 4096, Sum.inl (fun _ => 0))) : Nat × va_E) := by rw [e_ws103]; exact gs_ne (by decide) f_2_ws102
                            clear f_2_ws102
                            have f_2_ws104 : ws104[2]? = some ((q5, Sum.inl (cI, 4096, Sum.inl (fun _ => 0))) : Nat × va_E) := by rw [e_ws104]; exact gs_ne (by decide) f_2_ws103
                            clear f_2_ws103
                            have f_3_ws8 : ws8[3]? = some ((q6, Sum.inl (cI, 4096, Sum.inl (fun _ => 0))) : Nat × va_E) := by rw [e_ws8]; exact gs_ne (by decide) f_3_ws4
                            clear f_3_ws4
                            have f_3_ws10 : ws10[3]? = some ((q6, Sum.inl (cI, 4096, Sum.inl (fun _ => 0))) : Nat × va_E) := by rw [e_ws10]; exact gs_app f_3_ws8
                            clear f_3_ws8
                            have f_3_ws12 : ws12[3]? = some ((q6, Sum.inl (cI, 4096, Sum.inl (fun _ => 0))) : Nat × va_E) := e_ws12.at (by first | decide | (simp; done) | (simp; omega)) f_3_ws10
                            clear f_3_ws10
                            have f_3_ws15 : ws15[3]? = some ((q6, Sum.inl (cI, 4096, Sum.inl (fun _ => 0))) : Nat × va_E) := by rw [e_ws15]; exact gs_ne (by decide) f_3_ws12
                            clear f_3_ws12
                            have f_3_ws17 : ws17[3]? = some ((q6, Sum.inl (cI, 4096, Sum.inl (fun _ => 0))) : Nat × va_E) := by rw [e_ws17]; exact gs_app f_3_ws15
                            clear f_3_ws15
                            have f_3_ws19 : ws19[3]? = some ((q6, Sum.inl (cI, 4096, Sum.inl (fun _ => 0))) : Nat × va_E) := e_ws19.at (by first | decide | (simp; done) | (simp; omega)) f_3_ws17
                            clear f_3_ws17
                            have f_3_ws23 : ws23[3]? = some ((q6, Sum.inl (cI, 4096, Sum.inl (fun _ => 0))) : Nat × va_E) := by rw [e_ws23]; exact gs_ne (by decide) f_3_ws19
                            clear f_3_ws19
                            have f_3_ws25 : ws25[3]? = some ((q6, Sum.inl (cI, 4096, Sum.inl (fun _ => 0))) : Nat × va_E) := by rw [e_ws25]; exact gs_app f_3_ws23
                            clear f_3_ws23
                            have f_3_ws27 : ws27[3]? = some ((q6, Sum.inl (cI, 4096, Sum.inl (fun _ => 0))) : Nat × va_E) := e_ws27.at (by first | decide | (simp; done) | (simp; omega)) f_3_ws25
                            clear f_3_ws25
                            have f_3_ws31 : ws31[3]? = some ((q6, Sum.inl (cI, 4096, Sum.inl (fun _ => 0))) : Nat × va_E) := by rw [e_ws31]; exact gs_ne (by decide) f_3_ws27
                            clear f_3_ws27
                            have f_3_ws33 : ws33[3]? = some ((q6, Sum.inl (cI, 4096, Sum.inl (fun _ => 0))) : Nat × va_E) := by rw [e_ws33]; exact gs_app f_3_ws31
                            clear f_3_ws31
                            have f_3_ws35 : ws35[3]? = some ((q6, Sum.inl (cI, 4096, Sum.inl (fun _ => 0))) : Nat × va_E) := e_ws35.at (by first | decide | (simp; done) | (simp; omega)) f_3_ws33
                            clear f_3_ws33
                            have f_3_ws39 : ws39[3]? = some ((q6, Sum.inl (cI, 4096, Sum.inl (fun _ => 0))) : Nat × va_E) := by rw [e_ws39]; exact gs_ne (by decide) f_3_ws35
                            clear f_3_ws35
                            have f_3_ws41 : ws41[3]? = some ((q6, Sum.inl (cI, 4096, Sum.inl (fun _ => 0))) : Nat × va_E) := by rw [e_ws41]; exact gs_app f_3_ws39
                            clear f_3_ws39
                            have f_3_ws42 : ws42[3]? = some ((q6, Sum.inl (cI, 4096, Sum.inl (fun _ => 0))) : Nat × va_E) := by rw [e_ws42]; exact gs_ne (by decide) f_3_ws41
                            clear f_3_ws41
                            have f_3_ws44 : ws44[3]? = some ((q6, Sum.inl (cI, 4096, Sum.inl (fun _ => 0))) : Nat × va_E) := by rw [e_ws44]; exact gs_app f_3_ws42
                            clear f_3_ws42
                            have f_3_ws47 : ws47[3]? = some ((q6, Sum.inl (cI, 4096, Sum.inl (fun _ => 0))) : Nat × va_E) := by rw [e_ws47]; exact gs_ne (by decide) f_3_ws44
                            clear f_3_ws44
                            have f_3_ws49 : ws49[3]? = some ((q6, Sum.inl (cI, 4096, Sum.inl (fun _ => 0))) : Nat × va_E) := by rw [e_ws49]; exact gs_app f_3_ws47
                            clear f_3_ws47
                            have f_3_ws52 : ws52[3]? = some ((q6, Sum.inl (cI, 4096, Sum.inl (fun _ => 0))) : Nat × va_E) := by rw [e_ws52]; exact gs_ne (by decide) f_3_ws49
                            clear f_3_ws49
                            have f_3_ws54 : ws54[3]? = some ((q6, Sum.inl (cI, 4096, Sum.inl (fun _ => 0))) : Nat × va_E) := by rw [e_ws54]; exact gs_app f_3_ws52
                            clear f_3_ws52
                            have f_3_ws57 : ws57[3]? = some ((q6, Sum.inl (cI, 4096, Sum.inl (fun _ => 0))) : Nat × va_E) := by rw [e_ws57]; exact gs_ne (by decide) f_3_ws54
                            clear f_3_ws54
                            have f_3_ws59 : ws59[3]? = some ((q6, Sum.inl (cI, 4096, Sum.inl (fun _ => 0))) : Nat × va_E) := by rw [e_ws59]; exact gs_app f_3_ws57
                            clear f_3_ws57
                            have f_3_ws62 : ws62[3]? = some ((q6, Sum.inl (cI, 4096, Sum.inl (fun _ => 0))) : Nat × va_E) := by rw [e_ws62]; exact gs_ne (by decide) f_3_ws59
                            clear f_3_ws59
                            have f_3_ws64 : ws64[3]? = some ((q6, Sum.inl (cI, 4096, Sum.inl (fun _ => 0))) : Nat × va_E) := by rw [e_ws64]; exact gs_app f_3_ws62
                            clear f_3_ws62
                            have f_3_ws65 : ws65[3]? = some ((q6, Sum.inl (cI, 4096, Sum.inl (fun _ => 0))) : Nat × va_E) := by rw [e_ws65]; exact gs_ne (by decide) f_3_ws64
                            clear f_3_ws64
                            have f_3_ws67 : ws67[3]? = some ((q6, Sum.inl (cI, 4096, Sum.inl (fun _ => 0))) : Nat × va_E) := by rw [e_ws67]; exact gs_app f_3_ws65
                            clear f_3_ws65
                            have f_3_ws69 : ws69[3]? = some ((q6, Sum.inl (cI, 4096, Sum.inl (fun _ => 0))) : Nat × va_E) := e_ws69.at (by first | decide | (simp; done) | (simp; omega)) f_3_ws67
                            clear f_3_ws67
                            have f_3_ws74 : ws74[3]? = some ((q6, Sum.inl (cI, 4096, Sum.inl (fun _ => 0))) : Nat × va_E) := by rw [e_ws74]; exact gs_ne (by decide) f_3_ws69
                            clear f_3_ws69
                            have f_3_ws76 : ws76[3]? = some ((q6, Sum.inl (cI, 4096, Sum.inl (fun _ => 0))) : Nat × va_E) := by rw [e_ws76]; exact gs_app f_3_ws74
                            clear f_3_ws74
                            have f_3_ws78 : ws78[3]? = some ((q6, Sum.inl (cI, 4096, Sum.inl (fun _ => 0))) : Nat × va_E) := e_ws78.at (by first | decide | (simp; done) | (simp; omega)) f_3_ws76
                            clear f_3_ws76
                            have f_3_ws83 : ws83[3]? = some ((q6, Sum.inl (cI, 4096, Sum.inl (fun _ => 0))) : Nat × va_E) := by rw [e_ws83]; exact gs_ne (by decide) f_3_ws78
                            clear f_3_ws78
                            have f_3_ws85 : ws85[3]? = some ((q6, Sum.inl (cI, 4096, Sum.inl (fun _ => 0))) : Nat × va_E) := by rw [e_ws85]; exact gs_app f_3_ws83
                            clear f_3_ws83
                            have f_3_ws87 : ws87[3]? = some ((q6, Sum.inl (cI, 4096, Sum.inl (fun _ => 0))) : Nat × va_E) := e_ws87.at (by first | decide | (simp; done) | (simp; omega)) f_3_ws85
                            clear f_3_ws85
                            have f_3_ws92 : ws92[3]? = some ((q6, Sum.inl (cI, 4096, Sum.inl (fun _ => 0))) : Nat × va_E) := by rw [e_ws92]; exact gs_ne (by decide) f_3_ws87
                            clear f_3_ws87
                            have f_3_ws94 : ws94[3]? = some ((q6, Sum.inl (cI, 4096, Sum.inl (fun _ => 0))) : Nat × va_E) := by rw [e_ws94]; exact gs_app f_3_ws92
                            clear f_3_ws92
                            have f_3_ws96 : ws96[3]? = some ((q6, Sum.inl (cI, 4096, Sum.inl (fun _ => 0))) : Nat × va_E) := e_ws96.at (by first | decide | (simp; done) | (simp; omega)) f_3_ws94
                            clear f_3_ws94
                            have f_3_ws101 : ws101[3]? = some ((q6, Sum.inl (cI, 4096, Sum.inl (fun _ => 0))) : Nat × va_E) := by rw [e_ws101]; exact gs_ne (by decide) f_3_ws96
                            clear f_3_ws96
                            have f_3_ws102 : ws102[3]? = some ((q6, Sum.inl (cI, 4096, Sum.inl (fun _ => 0))) : Nat × va_E) := by rw [e_ws102]; exact gs_ne (by decide) f_3_ws101
                            clear f_3_ws101
                            have f_3_ws103 : ws103[3]? = some ((q6, Sum.inl (cI, 4096, Sum.inl (fun _ => 0))) : Nat × va_E) := by rw [e_ws103]; exact gs_ne (by decide) f_3_ws102
                            clear f_3_ws102
                            have f_3_ws104 : ws104[3]? = some ((q6, Sum.inl (cI, 4096, Sum.inl (fun _ => 0))) : Nat × va_E) := by rw [e_ws104]; exact gs_ne (by decide) f_3_ws103
                            clear f_3_ws103
                            have f_4_ws8 : ws8[4]? = some ((q7, Sum.inl (cI, 4096, Sum.inl (fun _ => 0))) : Nat × va_E) := by rw [e_ws8]; exact gs_ne (by decide) f_4_ws4
                            clear f_4_ws4
                            have f_4_ws10 : ws10[4]? = some ((q7, Sum.inl (cI, 4096, Sum.inl (fun _ => 0))) : Nat × va_E) := by rw [e_ws10]; exact gs_app f_4_ws8
                            clear f_4_ws8
                            have f_4_ws12 : ws12[4]? = some ((q7, Sum.inl (cI, 4096, Sum.inl (fun _ => 0))) : Nat × va_E) := e_ws12.at (by first | decide | (simp; done) | (simp; omega)) f_4_ws10
                            clear f_4_ws10
                            have f_4_ws15 : ws15[4]? = some ((q7, Sum.inl (cI, 4096, Sum.inl (fun _ => 0))) : Nat × va_E) := by rw [e_ws15]; exact gs_ne (by decide) f_4_ws12
                            clear f_4_ws12
                            have f_4_ws17 : ws17[4]? = some ((q7, Sum.inl (cI, 4096, Sum.inl (fun _ => 0))) : Nat × va_E) := by rw [e_ws17]; exact gs_app f_4_ws15
                            clear f_4_ws15
                            have f_4_ws19 : ws19[4]? = some ((q7, Sum.inl (cI, 4096, Sum.inl (fun _ => 0))) : Nat × va_E) := e_ws19.at (by first | decide | (simp; done) | (simp; omega)) f_4_ws17
                            clear f_4_ws17
                            have f_4_ws23 : ws23[4]? = some ((q7, Sum.inl (cI, 4096, Sum.inl (fun _ => 0))) : Nat × va_E) := by rw [e_ws23]; exact gs_ne (by decide) f_4_ws19
                            clear f_4_ws19
                            have f_4_ws25 : ws25[4]? = some ((q7, Sum.inl (cI, 4096, Sum.inl (fun _ => 0))) : Nat × va_E) := by rw [e_ws25]; exact gs_app f_4_ws23
                            clear f_4_ws23
                            have f_4_ws27 : ws27[4]? = some ((q7, Sum.inl (cI, 4096, Sum.inl (fun _ => 0))) : Nat × va_E) := e_ws27.at (by first | decide | (simp; done) | (simp; omega)) f_4_ws25
                            clear f_4_ws25
                            have f_4_ws31 : ws31[4]? = some ((q7, Sum.inl (cI, 4096, Sum.inl (fun _ => 0))) : Nat × va_E) := by rw [e_ws31]; exact gs_ne (by decide) f_4_ws27
                            clear f_4_ws27
                            have f_4_ws33 : ws33[4]? = some ((q7, Sum.inl (cI, 4096, Sum.inl (fun _ => 0))) : Nat × va_E) := by rw [e_ws33]; exact gs_app f_4_ws31
                            clear f_4_ws31
                            have f_4_ws35 : ws35[4]? = some ((q7, Sum.inl (cI, 4096, Sum.inl (fun _ => 0))) : Nat × va_E) := e_ws35.at (by first | decide | (simp; done) | (simp; omega)) f_4_ws33
                            clear f_4_ws33
                            have f_4_ws39 : ws39[4]? = some ((q7, Sum.inl (cI, 4096, Sum.inl (fun _ => 0))) : Nat × va_E) := by rw [e_ws39]; exact gs_ne (by decide) f_4_ws35
                            clear f_4_ws35
                            have f_4_ws41 : ws41[4]? = some ((q7, Sum.inl (cI, 4096, Sum.inl (fun _ => 0))) : Nat × va_E) := by rw [e_ws41]; exact gs_app f_4_ws39
                            clear f_4_ws39
                            have f_4_ws42 : ws42[4]? = some ((q7, Sum.inl (cI, 4096, Sum.inl (fun _ => 0))) : Nat × va_E) := by rw [e_ws42]; exact gs_ne (by decide) f_4_ws41
                            clear f_4_ws41
                            have f_4_ws44 : ws44[4]? = some ((q7, Sum.inl (cI, 4096, Sum.inl (fun _ => 0))) : Nat × va_E) := by rw [e_ws44]; exact gs_app f_4_ws42
                            clear f_4_ws42
                            have f_4_ws47 : ws47[4]? = some ((q7, Sum.inl (cI, 4096, Sum.inl (fun _ => 0))) : Nat × va_E) := by rw [e_ws47]; exact gs_ne (by decide) f_4_ws44
                            clear f_4_ws44
                            have f_4_ws49 : ws49[4]? = some ((q7, Sum.inl (cI, 4096, Sum.inl (fun _ => 0))) : Nat × va_E) := by rw [e_ws49]; exact gs_app f_4_ws47
                            clear f_4_ws47
                            have f_4_ws52 : ws52[4]? = some ((q7, Sum.inl (cI, 4096, Sum.inl (fun _ => 0))) : Nat × va_E) := by rw [e_ws52]; exact gs_ne (by decide) f_4_ws49
                            clear f_4_ws49
                            have f_4_ws54 : ws54[4]? = some ((q7, Sum.inl (cI, 4096, Sum.inl (fun _ => 0))) : Nat × va_E) := by rw [e_ws54]; exact gs_app f_4_ws52
                            clear f_4_ws52
                            have f_4_ws57 : ws57[4]? = some ((q7, Sum.inl (cI, 4096, Sum.inl (fun _ => 0))) : Nat × va_E) := by rw [e_ws57]; exact gs_ne (by decide) f_4_ws54
                            clear f_4_ws54
                            have f_4_ws59 : ws59[4]? = some ((q7, Sum.inl (cI, 4096, Sum.inl (fun _ => 0))) : Nat × va_E) := by rw [e_ws59]; exact gs_app f_4_ws57
                            clear f_4_ws57
                            have f_4_ws62 : ws62[4]? = some ((q7, Sum.inl (cI, 4096, Sum.inl (fun _ => 0))) : Nat × va_E) := by rw [e_ws62]; exact gs_ne (by decide) f_4_ws59
                            clear f_4_ws59
                            have f_4_ws64 : ws64[4]? = some ((q7, Sum.inl (cI, 4096, Sum.inl (fun _ => 0))) : Nat × va_E) := by rw [e_ws64]; exact gs_app f_4_ws62
                            clear f_4_ws62
                            have f_4_ws65 : ws65[4]? = some ((q7, Sum.inl (cI, 4096, Sum.inl (fun _ => 0))) : Nat × va_E) := by rw [e_ws65]; exact gs_ne (by decide) f_4_ws64
                            clear f_4_ws64
                            have f_4_ws67 : ws67[4]? = some ((q7, Sum.inl (cI, 4096, Sum.inl (fun _ => 0))) : Nat × va_E) := by rw [e_ws67]; exact gs_app f_4_ws65
                            clear f_4_ws65
                            have f_4_ws69 : ws69[4]? = some ((q7, Sum.inl (cI, 4096, Sum.inl (fun _ => 0))) : Nat × va_E) := e_ws69.at (by first | decide | (simp; done) | (simp; omega)) f_4_ws67
                            clear f_4_ws67
                            have f_4_ws74 : ws74[4]? = some ((q7, Sum.inl (cI, 4096, Sum.inl (fun _ => 0))) : Nat × va_E) := by rw [e_ws74]; exact gs_ne (by decide) f_4_ws69
                            clear f_4_ws69
                            have f_4_ws76 : ws76[4]? = some ((q7, Sum.inl (cI, 4096, Sum.inl (fun _ => 0))) : Nat × va_E) := by rw [e_ws76]; exact gs_app f_4_ws74
                            clear f_4_ws74
                            have f_4_ws78 : ws78[4]? = some ((q7, Sum.inl (cI, 4096, Sum.inl (fun _ => 0))) : Nat × va_E) := e_ws78.at (by first | decide | (simp; done) | (simp; omega)) f_4_ws76
                            clear f_4_ws76
                            have f_4_ws83 : ws83[4]? = some ((q7, Sum.inl (cI, 4096, Sum.inl (fun _ => 0))) : Nat × va_E) := by rw [e_ws83]; exact gs_ne (by decide) f_4_ws78
                            clear f_4_ws78
                            have f_4_ws85 : ws85[4]? = some ((q7, Sum.inl (cI, 4096, Sum.inl (fun _ => 0))) : Nat × va_E) := by rw [e_ws85]; exact gs_app f_4_ws83
                            clear f_4_ws83
                            have f_4_ws87 : ws87[4]? = some ((q7, Sum.inl (cI, 4096, Sum.inl (fun _ => 0))) : Nat × va_E) := e_ws87.at (by first | decide | (simp; done) | (simp; omega)) f_4_ws85
                            clear f_4_ws85
                            have f_4_ws92 : ws92[4]? = some ((q7, Sum.inl (cI, 4096, Sum.inl (fun _ => 0))) : Nat × va_E) := by rw [e_ws92]; exact gs_ne (by decide) f_4_ws87
                            clear f_4_ws87
                            have f_4_ws94 : ws94[4]? = some ((q7, Sum.inl (cI, 4096, Sum.inl (fun _ => 0))) : Nat × va_E) := by rw [e_ws94]; exact gs_app f_4_ws92
                            clear f_4_ws92
                            have f_4_ws96 : ws96[4]? = some ((q7, Sum.inl (cI, 4096, Sum.inl (fun _ => 0))) : Nat × va_E) := e_ws96.at (by first | decide | (simp; done) | (simp; omega)) f_4_ws94
                            clear f_4_ws94
                            have f_4_ws101 : ws101[4]? = some ((q7, Sum.inl (cI, 4096, Sum.inl (fun _ => 0))) : Nat × va_E) := by rw [e_ws101]; exact gs_ne (by decide) f_4_ws96
                            clear f_4_ws96
                            have f_4_ws102 : ws102[4]? = some ((q7, Sum.inl (cI, 4096, Sum.inl (fun _ => 0))) : Nat × va_E) := by rw [e_ws102]; exact gs_ne (by decide) f_4_ws101
                            clear f_4_ws101
                            have f_4_ws103 : ws103[4]? = some ((q7, Sum.inl (cI, 4096, Sum.inl (fun _ => 0))) : Nat × va_E) := by rw [e_ws103]; exact gs_ne (by decide) f_4_ws102
                            clear f_4_ws102
                            have f_4_ws104 : ws104[4]? = some ((q7, Sum.inl (cI, 4096, Sum.inl (fun _ => 0))) : Nat × va_E) := by rw [e_ws104]; exact gs_ne (by decide) f_4_ws103
                            clear f_4_ws103
                            have f_5_ws15 : ws15[5]? = some ((q9, Sum.inr (2, [Value.ref q13, Value.ref q14, Value.int 0, Value.int 0])) : Nat × va_E) := by rw [e_ws15]; exact gs_ne (by decide) f_5_ws12
                            clear f_5_ws12
                            have f_5_ws17 : ws17[5]? = some ((q9, Sum.inr (2, [Value.ref q13, Value.ref q14, Value.int 0, Value.int 0])) : Nat × va_E) := by rw [e_ws17]; exact gs_app f_5_ws15
                            clear f_5_ws15
                            have f_5_ws19 : ws19[5]? = some ((q9, Sum.inr (2, [Value.ref q13, Value.ref q14, Value.int 0, Value.int 0])) : Nat × va_E) := e_ws19.at (by first | decide | (simp; done) | (simp; omega)) f_5_ws17
                            clear f_5_ws17
                            have f_5_ws23 : ws23[5]? = some ((q9, Sum.inr (2, [Value.ref q13, Value.ref q14, Value.int 0, Value.int 0])) : Nat × va_E) := by rw [e_ws23]; exact gs_ne (by decide) f_5_ws19
                            clear f_5_ws19
                            have f_5_ws25 : ws25[5]? = some ((q9, Sum.inr (2, [Value.ref q13, Value.ref q14, Value.int 0, Value.int 0])) : Nat × va_E) := by rw [e_ws25]; exact gs_app f_5_ws23
                            clear f_5_ws23
                            have f_5_ws27 : ws27[5]? = some ((q9, Sum.inr (2, [Value.ref q13, Value.ref q14, Value.int 0, Value.int 0])) : Nat × va_E) := e_ws27.at (by first | decide | (simp; done) | (simp; omega)) f_5_ws25
                            clear f_5_ws25
                            have f_5_ws31 : ws31[5]? = some ((q9, Sum.inr (2, [Value.ref q13, Value.ref q14, Value.int 0, Value.int 0])) : Nat × va_E) := by rw [e_ws31]; exact gs_ne (by decide) f_5_ws27
                            clear f_5_ws27
                            have f_5_ws33 : ws33[5]? = some ((q9, Sum.inr (2, [Value.ref q13, Value.ref q14, Value.int 0, Value.int 0])) : Nat × va_E) := by rw [e_ws33]; exact gs_app f_5_ws31
                            clear f_5_ws31
                            have f_5_ws35 : ws35[5]? = some ((q9, Sum.inr (2, [Value.ref q13, Value.ref q14, Value.int 0, Value.int 0])) : Nat × va_E) := e_ws35.at (by first | decide | (simp; done) | (simp; omega)) f_5_ws33
                            clear f_5_ws33
                            have f_5_ws39 : ws39[5]? = some ((q9, Sum.inr (2, [Value.ref q13, Value.ref q14, Value.int 0, Value.int 0])) : Nat × va_E) := by rw [e_ws39]; exact gs_ne (by decide) f_5_ws35
                            clear f_5_ws35
                            have f_5_ws41 : ws41[5]? = some ((q9, Sum.inr (2, [Value.ref q13, Value.ref q14, Value.int 0, Value.int 0])) : Nat × va_E) := by rw [e_ws41]; exact gs_app f_5_ws39
                            clear f_5_ws39
                            have f_5_ws42 : ws42[5]? = some ((q9, Sum.inr (2, [Value.ref q13, Value.ref q14, Value.int 0, Value.int 0])) : Nat × va_E) := by rw [e_ws42]; exact gs_ne (by decide) f_5_ws41
                            clear f_5_ws41
                            have f_5_ws44 : ws44[5]? = some ((q9, Sum.inr (2, [Value.ref q13, Value.ref q14, Value.int 0, Value.int 0])) : Nat × va_E) := by rw [e_ws44]; exact gs_app f_5_ws42
                            clear f_5_ws42
                            have f_5_ws47 : ws47[5]? = some ((q9, Sum.inr (2, [Value.ref q13, Value.ref q14, Value.int 0, Value.int 0])) : Nat × va_E) := by rw [e_ws47]; exact gs_ne (by decide) f_5_ws44
                            clear f_5_ws44
                            have f_5_ws49 : ws49[5]? = some ((q9, Sum.inr (2, [Value.ref q13, Value.ref q14, Value.int 0, Value.int 0])) : Nat × va_E) := by rw [e_ws49]; exact gs_app f_5_ws47
                            clear f_5_ws47
                            have f_5_ws52 : ws52[5]? = some ((q9, Sum.inr (2, [Value.ref q13, Value.ref q14, Value.int 0, Value.int 0])) : Nat × va_E) := by rw [e_ws52]; exact gs_ne (by decide) f_5_ws49
                            clear f_5_ws49
                            have f_5_ws54 : ws54[5]? = some ((q9, Sum.inr (2, [Value.ref q13, Value.ref q14, Value.int 0, Value.int 0])) : Nat × va_E) := by rw [e_ws54]; exact gs_app f_5_ws52
                            clear f_5_ws52
                            have f_5_ws57 : ws57[5]? = some ((q9, Sum.inr (2, [Value.ref q13, Value.ref q14, Value.int 0, Value.int 0])) : Nat × va_E) := by rw [e_ws57]; exact gs_ne (by decide) f_5_ws54
                            clear f_5_ws54
                            have f_5_ws59 : ws59[5]? = some ((q9, Sum.inr (2, [Value.ref q13, Value.ref q14, Value.int 0, Value.int 0])) : Nat × va_E) := by rw [e_ws59]; exact gs_app f_5_ws57
                            clear f_5_ws57
                            have f_5_ws62 : ws62[5]? = some ((q9, Sum.inr (2, [Value.ref q13, Value.ref q14, Value.int 0, Value.int 0])) : Nat × va_E) := by rw [e_ws62]; exact gs_ne (by decide) f_5_ws59
                            clear f_5_ws59
                            have f_5_ws64 : ws64[5]? = some ((q9, Sum.inr (2, [Value.ref q13, Value.ref q14, Value.int 0, Value.int 0])) : Nat × va_E) := by rw [e_ws64]; exact gs_app f_5_ws62
                            clear f_5_ws62
                            have f_5_ws65 : ws65[5]? = some ((q9, Sum.inr (2, [Value.ref q13, Value.ref q14, Value.int 0, Value.int 0])) : Nat × va_E) := by rw [e_ws65]; exact gs_ne (by decide) f_5_ws64
                            clear f_5_ws64
                            have f_5_ws67 : ws67[5]? = some ((q9, Sum.inr (2, [Value.ref q13, Value.ref q14, Value.int 0, Value.int 0])) : Nat × va_E) := by rw [e_ws67]; exact gs_app f_5_ws65
                            clear f_5_ws65
                            have f_5_ws69 : ws69[5]? = some ((q9, Sum.inr (2, [Value.ref q13, Value.ref q14, Value.int 0, Value.int 0])) : Nat × va_E) := e_ws69.at (by first | decide | (simp; done) | (simp; omega)) f_5_ws67
                            clear f_5_ws67
                            have f_5_ws74 : ws74[5]? = some ((q9, Sum.inr (2, [Value.ref q13, Value.ref q14, Value.int 0, Value.int 0])) : Nat × va_E) := by rw [e_ws74]; exact gs_ne (by decide) f_5_ws69
                            clear f_5_ws69
                            have f_5_ws76 : ws76[5]? = some ((q9, Sum.inr (2, [Value.ref q13, Value.ref q14, Value.int 0, Value.int 0])) : Nat × va_E) := by rw [e_ws76]; exact gs_app f_5_ws74
                            clear f_5_ws74
                            have f_5_ws78 : ws78[5]? = some ((q9, Sum.inr (2, [Value.ref q13, Value.ref q14, Value.int 0, Value.int 0])) : Nat × va_E) := e_ws78.at (by first | decide | (simp; done) | (simp; omega)) f_5_ws76
                            clear f_5_ws76
                            have f_5_ws83 : ws83[5]? = some ((q9, Sum.inr (2, [Value.ref q13, Value.ref q14, Value.int 0, Value.int 0])) : Nat × va_E) := by rw [e_ws83]; exact gs_ne (by decide) f_5_ws78
                            clear f_5_ws78
                            have f_5_ws85 : ws85[5]? = some ((q9, Sum.inr (2, [Value.ref q13, Value.ref q14, Value.int 0, Value.int 0])) : Nat × va_E) := by rw [e_ws85]; exact gs_app f_5_ws83
                            clear f_5_ws83
                            have f_5_ws87 : ws87[5]? = some ((q9, Sum.inr (2, [Value.ref q13, Value.ref q14, Value.int 0, Value.int 0])) : Nat × va_E) := e_ws87.at (by first | decide | (simp; done) | (simp; omega)) f_5_ws85
                            clear f_5_ws85
                            have f_5_ws92 : ws92[5]? = some ((q9, Sum.inr (2, [Value.ref q13, Value.ref q14, Value.int 0, Value.int 0])) : Nat × va_E) := by rw [e_ws92]; exact gs_ne (by decide) f_5_ws87
                            clear f_5_ws87
                            have f_5_ws94 : ws94[5]? = some ((q9, Sum.inr (2, [Value.ref q13, Value.ref q14, Value.int 0, Value.int 0])) : Nat × va_E) := by rw [e_ws94]; exact gs_app f_5_ws92
                            clear f_5_ws92
                            have f_5_ws96 : ws96[5]? = some ((q9, Sum.inr (2, [Value.ref q13, Value.ref q14, Value.int 0, Value.int 0])) : Nat × va_E) := e_ws96.at (by first | decide | (simp; done) | (simp; omega)) f_5_ws94
                            clear f_5_ws94
                            have f_5_ws101 : ws101[5]? = some ((q9, Sum.inr (2, [Value.ref q13, Value.ref q14, Value.int 0, Value.int 0])) : Nat × va_E) := by rw [e_ws101]; exact gs_ne (by decide) f_5_ws96
                            clear f_5_ws96
                            have f_5_ws102 : ws102[5]? = some ((q9, Sum.inr (2, [Value.ref q13, Value.ref q14, Value.int 0, Value.int 0])) : Nat × va_E) := by rw [e_ws102]; exact gs_ne (by decide) f_5_ws101
                            clear f_5_ws101
                            have f_5_ws103 : ws103[5]? = some ((q9, Sum.inr (2, [Value.ref q13, Value.ref q14, Value.int 0, Value.int 0])) : Nat × va_E) := by rw [e_ws103]; exact gs_ne (by decide) f_5_ws102
                            clear f_5_ws102
                            have f_5_ws104 : ws104[5]? = some ((q9, Sum.inr (2, [Value.ref q13, Value.ref q14, Value.int 0, Value.int 0])) : Nat × va_E) := by rw [e_ws104]; exact gs_ne (by decide) f_5_ws103
                            clear f_5_ws103
                            have f_6_ws15 : ws15[6]? = some ((q13, Sum.inr (3, [Value.ref (gx_av D), Value.int 0, Value.int 0])) : Nat × va_E) := by rw [e_ws15]; exact gs_ne (by decide) f_6_ws12
                            clear f_6_ws12
                            have f_6_ws17 : ws17[6]? = some ((q13, Sum.inr (3, [Value.ref (gx_av D), Value.int 0, Value.int 0])) : Nat × va_E) := by rw [e_ws17]; exact gs_app f_6_ws15
                            clear f_6_ws15
                            have f_6_ws19 : ws19[6]? = some ((q13, Sum.inr (3, [Value.ref (gx_av D), Value.int 0, Value.int 0])) : Nat × va_E) := e_ws19.at (by first | decide | (simp; done) | (simp; omega)) f_6_ws17
                            clear f_6_ws17
                            have f_6_ws23 : ws23[6]? = some ((q13, Sum.inr (3, [Value.ref (gx_av D), Value.int 0, Value.int 0])) : Nat × va_E) := by rw [e_ws23]; exact gs_ne (by decide) f_6_ws19
                            clear f_6_ws19
                            have f_6_ws25 : ws25[6]? = some ((q13, Sum.inr (3, [Value.ref (gx_av D), Value.int 0, Value.int 0])) : Nat × va_E) := by rw [e_ws25]; exact gs_app f_6_ws23
                            clear f_6_ws23
                            have f_6_ws27 : ws27[6]? = some ((q13, Sum.inr (3, [Value.ref (gx_av D), Value.int 0, Value.int 0])) : Nat × va_E) := e_ws27.at (by first | decide | (simp; done) | (simp; omega)) f_6_ws25
                            clear f_6_ws25
                            have f_6_ws31 : ws31[6]? = some ((q13, Sum.inr (3, [Value.ref (gx_av D), Value.int 0, Value.int 0])) : Nat × va_E) := by rw [e_ws31]; exact gs_ne (by decide) f_6_ws27
                            clear f_6_ws27
                            have f_6_ws33 : ws33[6]? = some ((q13, Sum.inr (3, [Value.ref (gx_av D), Value.int 0, Value.int 0])) : Nat × va_E) := by rw [e_ws33]; exact gs_app f_6_ws31
                            clear f_6_ws31
                            have f_6_ws35 : ws35[6]? = some ((q13, Sum.inr (3, [Value.ref (gx_av D), Value.int 0, Value.int 0])) : Nat × va_E) := e_ws35.at (by first | decide | (simp; done) | (simp; omega)) f_6_ws33
                            clear f_6_ws33
                            have f_6_ws39 : ws39[6]? = some ((q13, Sum.inr (3, [Value.ref (gx_av D), Value.int 0, Value.int 0])) : Nat × va_E) := by rw [e_ws39]; exact gs_ne (by decide) f_6_ws35
                            clear f_6_ws35
                            have f_6_ws41 : ws41[6]? = some ((q13, Sum.inr (3, [Value.ref (gx_av D), Value.int 0, Value.int 0])) : Nat × va_E) := by rw [e_ws41]; exact gs_app f_6_ws39
                            clear f_6_ws39
                            have f_6_ws42 : ws42[6]? = some ((q13, Sum.inr (3, [Value.ref (gx_av D), Value.int 0, Value.int 0])) : Nat × va_E) := by rw [e_ws42]; exact gs_ne (by decide) f_6_ws41
                            clear f_6_ws41
                            have f_6_ws44 : ws44[6]? = some ((q13, Sum.inr (3, [Value.ref (gx_av D), Value.int 0, Value.int 0])) : Nat × va_E) := by rw [e_ws44]; exact gs_app f_6_ws42
                            clear f_6_ws42
                            have f_6_ws47 : ws47[6]? = some ((q13, Sum.inr (3, [Value.ref (gx_av D), Value.int 0, Value.int 0])) : Nat × va_E) := by rw [e_ws47]; exact gs_ne (by decide) f_6_ws44
                            clear f_6_ws44
                            have f_6_ws49 : ws49[6]? = some ((q13, Sum.inr (3, [Value.ref (gx_av D), Value.int 0, Value.int 0])) : Nat × va_E) := by rw [e_ws49]; exact gs_app f_6_ws47
                            clear f_6_ws47
                            have f_6_ws52 : ws52[6]? = some ((q13, Sum.inr (3, [Value.ref (gx_av D), Value.int 0, Value.int 0])) : Nat × va_E) := by rw [e_ws52]; exact gs_ne (by decide) f_6_ws49
                            clear f_6_ws49
                            have f_6_ws54 : ws54[6]? = some ((q13, Sum.inr (3, [Value.ref (gx_av D), Value.int 0, Value.int 0])) : Nat × va_E) := by rw [e_ws54]; exact gs_app f_6_ws52
                            clear f_6_ws52
                            have f_6_ws57 : ws57[6]? = some ((q13, Sum.inr (3, [Value.ref (gx_av D), Value.int 0, Value.int 0])) : Nat × va_E) := by rw [e_ws57]; exact gs_ne (by decide) f_6_ws54
                            clear f_6_ws54
                            have f_6_ws59 : ws59[6]? = some ((q13, Sum.inr (3, [Value.ref (gx_av D), Value.int 0, Value.int 0])) : Nat × va_E) := by rw [e_ws59]; exact gs_app f_6_ws57
                            clear f_6_ws57
                            have f_6_ws62 : ws62[6]? = some ((q13, Sum.inr (3, [Value.ref (gx_av D), Value.int 0, Value.int 0])) : Nat × va_E) := by rw [e_ws62]; exact gs_ne (by decide) f_6_ws59
                            clear f_6_ws59
                            have f_6_ws64 : ws64[6]? = some ((q13, Sum.inr (3, [Value.ref (gx_av D), Value.int 0, Value.int 0])) : Nat × va_E) := by rw [e_ws64]; exact gs_app f_6_ws62
                            clear f_6_ws62
                            have f_6_ws65 : ws65[6]? = some ((q13, Sum.inr (3, [Value.ref (gx_av D), Value.int 0, Value.int 0])) : Nat × va_E) := by rw [e_ws65]; exact gs_ne (by decide) f_6_ws64
                            clear f_6_ws64
                            have f_6_ws67 : ws67[6]? = some ((q13, Sum.inr (3, [Value.ref (gx_av D), Value.int 0, Value.int 0])) : Nat × va_E) := by rw [e_ws67]; exact gs_app f_6_ws65
                            clear f_6_ws65
                            have f_6_ws69 : ws69[6]? = some ((q13, Sum.inr (3, [Value.ref (gx_av D), Value.int 0, Value.int 0])) : Nat × va_E) := e_ws69.at (by first | decide | (simp; done) | (simp; omega)) f_6_ws67
                            clear f_6_ws67
                            have f_6_ws74 : ws74[6]? = some ((q13, Sum.inr (3, [Value.ref (gx_av D), Value.int 0, Value.int 0])) : Nat × va_E) := by rw [e_ws74]; exact gs_ne (by decide) f_6_ws69
                            clear f_6_ws69
                            have f_6_ws76 : ws76[6]? = some ((q13, Sum.inr (3, [Value.ref (gx_av D), Value.int 0, Value.int 0])) : Nat × va_E) := by rw [e_ws76]; exact gs_app f_6_ws74
                            clear f_6_ws74
                            have f_6_ws78 : ws78[6]? = some ((q13, Sum.inr (3, [Value.ref (gx_av D), Value.int 0, Value.int 0])) : Nat × va_E) := e_ws78.at (by first | decide | (simp; done) | (simp; omega)) f_6_ws76
                            clear f_6_ws76
                            have f_6_ws83 : ws83[6]? = some ((q13, Sum.inr (3, [Value.ref (gx_av D), Value.int 0, Value.int 0])) : Nat × va_E) := by rw [e_ws83]; exact gs_ne (by decide) f_6_ws78
                            clear f_6_ws78
                            have f_6_ws85 : ws85[6]? = some ((q13, Sum.inr (3, [Value.ref (gx_av D), Value.int 0, Value.int 0])) : Nat × va_E) := by rw [e_ws85]; exact gs_app f_6_ws83
                            clear f_6_ws83
                            have f_6_ws87 : ws87[6]? = some ((q13, Sum.inr (3, [Value.ref (gx_av D), Value.int 0, Value.int 0])) : Nat × va_E) := e_ws87.at (by first | decide | (simp; done) | (simp; omega)) f_6_ws85
                            clear f_6_ws85
                            have f_6_ws92 : ws92[6]? = some ((q13, Sum.inr (3, [Value.ref (gx_av D), Value.int 0, Value.int 0])) : Nat × va_E) := by rw [e_ws92]; exact gs_ne (by decide) f_6_ws87
                            clear f_6_ws87
                            have f_6_ws94 : ws94[6]? = some ((q13, Sum.inr (3, [Value.ref (gx_av D), Value.int 0, Value.int 0])) : Nat × va_E) := by rw [e_ws94]; exact gs_app f_6_ws92
                            clear f_6_ws92
                            have f_6_ws96 : ws96[6]? = some ((q13, Sum.inr (3, [Value.ref (gx_av D), Value.int 0, Value.int 0])) : Nat × va_E) := e_ws96.at (by first | decide | (simp; done) | (simp; omega)) f_6_ws94
                            clear f_6_ws94
                            have f_6_ws101 : ws101[6]? = some ((q13, Sum.inr (3, [Value.ref (gx_av D), Value.int 0, Value.int 0])) : Nat × va_E) := by rw [e_ws101]; exact gs_ne (by decide) f_6_ws96
                            clear f_6_ws96
                            have f_6_ws102 : ws102[6]? = some ((q13, Sum.inr (3, [Value.ref (gx_av D), Value.int 0, Value.int 0])) : Nat × va_E) := by rw [e_ws102]; exact gs_ne (by decide) f_6_ws101
                            clear f_6_ws101
                            have f_6_ws103 : ws103[6]? = some ((q13, Sum.inr (3, [Value.ref (gx_av D), Value.int 0, Value.int 0])) : Nat × va_E) := by rw [e_ws103]; exact gs_ne (by decide) f_6_ws102
                            clear f_6_ws102
                            have f_6_ws104 : ws104[6]? = some ((q13, Sum.inr (3, [Value.ref (gx_av D), Value.int 0, Value.int 0])) : Nat × va_E) := by rw [e_ws104]; exact gs_ne (by decide) f_6_ws103
                            clear f_6_ws103
                            have f_7_ws15 : ws15[7]? = some ((q14, Sum.inr (3, [Value.ref (gx_av D), Value.int 0, Value.int 0])) : Nat × va_E) := by rw [e_ws15]; exact gs_ne (by decide) f_7_ws12
                            clear f_7_ws12
                            have f_7_ws17 : ws17[7]? = some ((q14, Sum.inr (3, [Value.ref (gx_av D), Value.int 0, Value.int 0])) : Nat × va_E) := by rw [e_ws17]; exact gs_app f_7_ws15
                            clear f_7_ws15
                            have f_7_ws19 : ws19[7]? = some ((q14, Sum.inr (3, [Value.ref (gx_av D), Value.int 0, Value.int 0])) : Nat × va_E) := e_ws19.at (by first | decide | (simp; done) | (simp; omega)) f_7_ws17
                            clear f_7_ws17
                            have f_7_ws23 : ws23[7]? = some ((q14, Sum.inr (3, [Value.ref (gx_av D), Value.int 0, Value.int 0])) : Nat × va_E) := by rw [e_ws23]; exact gs_ne (by decide) f_7_ws19
                            clear f_7_ws19
                            have f_7_ws25 : ws25[7]? = some ((q14, Sum.inr (3, [Value.ref (gx_av D), Value.int 0, Value.int 0])) : Nat × va_E) := by rw [e_ws25]; exact gs_app f_7_ws23
                            clear f_7_ws23
                            have f_7_ws27 : ws27[7]? = some ((q14, Sum.inr (3, [Value.ref (gx_av D), Value.int 0, Value.int 0])) : Nat × va_E) := e_ws27.at (by first | decide | (simp; done) | (simp; omega)) f_7_ws25
                            clear f_7_ws25
                            have f_7_ws31 : ws31[7]? = some ((q14, Sum.inr (3, [Value.ref (gx_av D), Value.int 0, Value.int 0])) : Nat × va_E) := by rw [e_ws31]; exact gs_ne (by decide) f_7_ws27
                            clear f_7_ws27
                            have f_7_ws33 : ws33[7]? = some ((q14, Sum.inr (3, [Value.ref (gx_av D), Value.int 0, Value.int 0])) : Nat × va_E) := by rw [e_ws33]; exact gs_app f_7_ws31
                            clear f_7_ws31
                            have f_7_ws35 : ws35[7]? = some ((q14, Sum.inr (3, [Value.ref (gx_av D), Value.int 0, Value.int 0])) : Nat × va_E) := e_ws35.at (by first | decide | (simp; done) | (simp; omega)) f_7_ws33
                            clear f_7_ws33
                            have f_7_ws39 : ws39[7]? = some ((q14, Sum.inr (3, [Value.ref (gx_av D), Value.int 0, Value.int 0])) : Nat × va_E) := by rw [e_ws39]; exact gs_ne (by decide) f_7_ws35
                            clear f_7_ws35
                            have f_7_ws41 : ws41[7]? = some ((q14, Sum.inr (3, [Value.ref (gx_av D), Value.int 0, Value.int 0])) : Nat × va_E) := by rw [e_ws41]; exact gs_app f_7_ws39
                            clear f_7_ws39
                            have f_7_ws42 : ws42[7]? = some ((q14, Sum.inr (3, [Value.ref (gx_av D), Value.int 0, Value.int 0])) : Nat × va_E) := by rw [e_ws42]; exact gs_ne (by decide) f_7_ws41
                            clear f_7_ws41
                            have f_7_ws44 : ws44[7]? = some ((q14, Sum.inr (3, [Value.ref (gx_av D), Value.int 0, Value.int 0])) : Nat × va_E) := by rw [e_ws44]; exact gs_app f_7_ws42
                            clear f_7_ws42
                            have f_7_ws47 : ws47[7]? = some ((q14, Sum.inr (3, [Value.ref (gx_av D), Value.int 0, Value.int 0])) : Nat × va_E) := by rw [e_ws47]; exact gs_ne (by decide) f_7_ws44
                            clear f_7_ws44
                            have f_7_ws49 : ws49[7]? = some ((q14, Sum.inr (3, [Value.ref (gx_av D), Value.int 0, Value.int 0])) : Nat × va_E) := by rw [e_ws49]; exact gs_app f_7_ws47
                            clear f_7_ws47
                            have f_7_ws52 : ws52[7]? = some ((q14, Sum.inr (3, [Value.ref (gx_av D), Value.int 0, Value.int 0])) : Nat × va_E) := by rw [e_ws52]; exact gs_ne (by decide) f_7_ws49
                            clear f_7_ws49
                            have f_7_ws54 : ws54[7]? = some ((q14, Sum.inr (3, [Value.ref (gx_av D), Value.int 0, Value.int 0])) : Nat × va_E) := by rw [e_ws54]; exact gs_app f_7_ws52
                            clear f_7_ws52
                            have f_7_ws57 : ws57[7]? = some ((q14, Sum.inr (3, [Value.ref (gx_av D), Value.int 0, Value.int 0])) : Nat × va_E) := by rw [e_ws57]; exact gs_ne (by decide) f_7_ws54
                            clear f_7_ws54
                            have f_7_ws59 : ws59[7]? = some ((q14, Sum.inr (3, [Value.ref (gx_av D), Value.int 0, Value.int 0])) : Nat × va_E) := by rw [e_ws59]; exact gs_app f_7_ws57
                            clear f_7_ws57
                            have f_7_ws62 : ws62[7]? = some ((q14, Sum.inr (3, [Value.ref (gx_av D), Value.int 0, Value.int 0])) : Nat × va_E) := by rw [e_ws62]; exact gs_ne (by decide) f_7_ws59
                            clear f_7_ws59
                            have f_7_ws64 : ws64[7]? = some ((q14, Sum.inr (3, [Value.ref (gx_av D), Value.int 0, Value.int 0])) : Nat × va_E) := by rw [e_ws64]; exact gs_app f_7_ws62
                            clear f_7_ws62
                            have f_7_ws65 : ws65[7]? = some ((q14, Sum.inr (3, [Value.ref (gx_av D), Value.int 0, Value.int 0])) : Nat × va_E) := by rw [e_ws65]; exact gs_ne (by decide) f_7_ws64
                            clear f_7_ws64
                            have f_7_ws67 : ws67[7]? = some ((q14, Sum.inr (3, [Value.ref (gx_av D), Value.int 0, Value.int 0])) : Nat × va_E) := by rw [e_ws67]; exact gs_app f_7_ws65
                            clear f_7_ws65
                            have f_7_ws69 : ws69[7]? = some ((q14, Sum.inr (3, [Value.ref (gx_av D), Value.int 0, Value.int 0])) : Nat × va_E) := e_ws69.at (by first | decide | (simp; done) | (simp; omega)) f_7_ws67
                            clear f_7_ws67
                            have f_7_ws74 : ws74[7]? = some ((q14, Sum.inr (3, [Value.ref (gx_av D), Value.int 0, Value.int 0])) : Nat × va_E) := by rw [e_ws74]; exact gs_ne (by decide) f_7_ws69
                            clear f_7_ws69
                            have f_7_ws76 : ws76[7]? = some ((q14, Sum.inr (3, [Value.ref (gx_av D), Value.int 0, Value.int 0])) : Nat × va_E) := by rw [e_ws76]; exact gs_app f_7_ws74
                            clear f_7_ws74
                            have f_7_ws78 : ws78[7]? = some ((q14, Sum.inr (3, [Value.ref (gx_av D), Value.int 0, Value.int 0])) : Nat × va_E) := e_ws78.at (by first | decide | (simp; done) | (simp; omega)) f_7_ws76
                            clear f_7_ws76
                            have f_7_ws83 : ws83[7]? = some ((q14, Sum.inr (3, [Value.ref (gx_av D), Value.int 0, Value.int 0])) : Nat × va_E) := by rw [e_ws83]; exact gs_ne (by decide) f_7_ws78
                            clear f_7_ws78
                            have f_7_ws85 : ws85[7]? = some ((q14, Sum.inr (3, [Value.ref (gx_av D), Value.int 0, Value.int 0])) : Nat × va_E) := by rw [e_ws85]; exact gs_app f_7_ws83
                            clear f_7_ws83
                            have f_7_ws87 : ws87[7]? = some ((q14, Sum.inr (3, [Value.ref (gx_av D), Value.int 0, Value.int 0])) : Nat × va_E) := e_ws87.at (by first | decide | (simp; done) | (simp; omega)) f_7_ws85
                            clear f_7_ws85
                            have f_7_ws92 : ws92[7]? = some ((q14, Sum.inr (3, [Value.ref (gx_av D), Value.int 0, Value.int 0])) : Nat × va_E) := by rw [e_ws92]; exact gs_ne (by decide) f_7_ws87
                            clear f_7_ws87
                            have f_7_ws94 : ws94[7]? = some ((q14, Sum.inr (3, [Value.ref (gx_av D), Value.int 0, Value.int 0])) : Nat × va_E) := by rw [e_ws94]; exact gs_app f_7_ws92
                            clear f_7_ws92
                            have f_7_ws96 : ws96[7]? = some ((q14, Sum.inr (3, [Value.ref (gx_av D), Value.int 0, Value.int 0])) : Nat × va_E) := e_ws96.at (by first | decide | (simp; done) | (simp; omega)) f_7_ws94
                            clear f_7_ws94
                            have f_7_ws101 : ws101[7]? = some ((q14, Sum.inr (3, [Value.ref (gx_av D), Value.int 0, Value.int 0])) : Nat × va_E) := by rw [e_ws101]; exact gs_ne (by decide) f_7_ws96
                            clear f_7_ws96
                            have f_7_ws102 : ws102[7]? = some ((q14, Sum.inr (3, [Value.ref (gx_av D), Value.int 0, Value.int 0])) : Nat × va_E) := by rw [e_ws102]; exact gs_ne (by decide) f_7_ws101
                            clear f_7_ws101
                            have f_7_ws103 : ws103[7]? = some ((q14, Sum.inr (3, [Value.ref (gx_av D), Value.int 0, Value.int 0])) : Nat × va_E) := by rw [e_ws103]; exact gs_ne (by decide) f_7_ws102
                            clear f_7_ws102
                            have f_7_ws104 : ws104[7]? = some ((q14, Sum.inr (3, [Value.ref (gx_av D), Value.int 0, Value.int 0])) : Nat × va_E) := by rw [e_ws104]; exact gs_ne (by decide) f_7_ws103
                            clear f_7_ws103
                            have f_8_ws23 : ws23[8]? = some ((q16, Sum.inr (4, [Value.ref q20, Value.ref q21, Value.ref q22, Value.null, Value.int 0, Value.int 0])) : Nat × va_E) := by rw [e_ws23]; exact gs_ne (by decide) f_8_ws19
                            clear f_8_ws19
                            have f_8_ws25 : ws25[8]? = some ((q16, Sum.inr (4, [Value.ref q20, Value.ref q21, Value.ref q22, Value.null, Value.int 0, Value.int 0])) : Nat × va_E) := by rw [e_ws25]; exact gs_app f_8_ws23
                            clear f_8_ws23
                            have f_8_ws27 : ws27[8]? = some ((q16, Sum.inr (4, [Value.ref q20, Value.ref q21, Value.ref q22, Value.null, Value.int 0, Value.int 0])) : Nat × va_E) := e_ws27.at (by first | decide | (simp; done) | (simp; omega)) f_8_ws25
                            clear f_8_ws25
                            have f_8_ws31 : ws31[8]? = some ((q16, Sum.inr (4, [Value.ref q20, Value.ref q21, Value.ref q22, Value.null, Value.int 0, Value.int 0])) : Nat × va_E) := by rw [e_ws31]; exact gs_ne (by decide) f_8_ws27
                            clear f_8_ws27
                            have f_8_ws33 : ws33[8]? = some ((q16, Sum.inr (4, [Value.ref q20, Value.ref q21, Value.ref q22, Value.null, Value.int 0, Value.int 0])) : Nat × va_E) := by rw [e_ws33]; exact gs_app f_8_ws31
                            clear f_8_ws31
                            have f_8_ws35 : ws35[8]? = some ((q16, Sum.inr (4, [Value.ref q20, Value.ref q21, Value.ref q22, Value.null, Value.int 0, Value.int 0])) : Nat × va_E) := e_ws35.at (by first | decide | (simp; done) | (simp; omega)) f_8_ws33
                            clear f_8_ws33
                            have f_8_ws39 : ws39[8]? = some ((q16, Sum.inr (4, [Value.ref q20, Value.ref q21, Value.ref q22, Value.null, Value.int 0, Value.int 0])) : Nat × va_E) := by rw [e_ws39]; exact gs_ne (by decide) f_8_ws35
                            clear f_8_ws35
                            have f_8_ws41 : ws41[8]? = some ((q16, Sum.inr (4, [Value.ref q20, Value.ref q21, Value.ref q22, Value.null, Value.int 0, Value.int 0])) : Nat × va_E) := by rw [e_ws41]; exact gs_app f_8_ws39
                            clear f_8_ws39
                            have f_8_ws42 : ws42[8]? = some ((q16, Sum.inr (4, [Value.ref q20, Value.ref q21, Value.ref q22, Value.null, Value.int 0, Value.int 0])) : Nat × va_E) := by rw [e_ws42]; exact gs_ne (by decide) f_8_ws41
                            clear f_8_ws41
                            have f_8_ws44 : ws44[8]? = some ((q16, Sum.inr (4, [Value.ref q20, Value.ref q21, Value.ref q22, Value.null, Value.int 0, Value.int 0])) : Nat × va_E) := by rw [e_ws44]; exact gs_app f_8_ws42
                            clear f_8_ws42
                            have f_8_ws47 : ws47[8]? = some ((q16, Sum.inr (4, [Value.ref q20, Value.ref q21, Value.ref q22, Value.null, Value.int 0, Value.int 0])) : Nat × va_E) := by rw [e_ws47]; exact gs_ne (by decide) f_8_ws44
                            clear f_8_ws44
                            have f_8_ws49 : ws49[8]? = some ((q16, Sum.inr (4, [Value.ref q20, Value.ref q21, Value.ref q22, Value.null, Value.int 0, Value.int 0])) : Nat × va_E) := by rw [e_ws49]; exact gs_app f_8_ws47
                            clear f_8_ws47
                            have f_8_ws52 : ws52[8]? = some ((q16, Sum.inr (4, [Value.ref q20, Value.ref q21, Value.ref q22, Value.null, Value.int 0, Value.int 0])) : Nat × va_E) := by rw [e_ws52]; exact gs_ne (by decide) f_8_ws49
                            clear f_8_ws49
                            have f_8_ws54 : ws54[8]? = some ((q16, Sum.inr (4, [Value.ref q20, Value.ref q21, Value.ref q22, Value.null, Value.int 0, Value.int 0])) : Nat × va_E) := by rw [e_ws54]; exact gs_app f_8_ws52
                            clear f_8_ws52
                            have f_8_ws57 : ws57[8]? = some ((q16, Sum.inr (4, [Value.ref q20, Value.ref q21, Value.ref q22, Value.null, Value.int 0, Value.int 0])) : Nat × va_E) := by rw [e_ws57]; exact gs_ne (by decide) f_8_ws54
                            clear f_8_ws54
                            have f_8_ws59 : ws59[8]? = some ((q16, Sum.inr (4, [Value.ref q20, Value.ref q21, Value.ref q22, Value.null, Value.int 0, Value.int 0])) : Nat × va_E) := by rw [e_ws59]; exact gs_app f_8_ws57
                            clear f_8_ws57
                            have f_8_ws62 : ws62[8]? = some ((q16, Sum.inr (4, [Value.ref q20, Value.ref q21, Value.ref q22, Value.null, Value.int 0, Value.int 0])) : Nat × va_E) := by rw [e_ws62]; exact gs_ne (by decide) f_8_ws59
                            clear f_8_ws59
                            have f_8_ws64 : ws64[8]? = some ((q16, Sum.inr (4, [Value.ref q20, Value.ref q21, Value.ref q22, Value.null, Value.int 0, Value.int 0])) : Nat × va_E) := by rw [e_ws64]; exact gs_app f_8_ws62
                            clear f_8_ws62
                            have f_8_ws65 : ws65[8]? = some ((q16, Sum.inr (4, [Value.ref q20, Value.ref q21, Value.ref q22, Value.null, Value.int 0, Value.int 0])) : Nat × va_E) := by rw [e_ws65]; exact gs_ne (by decide) f_8_ws64
                            clear f_8_ws64
                            have f_8_ws67 : ws67[8]? = some ((q16, Sum.inr (4, [Value.ref q20, Value.ref q21, Value.ref q22, Value.null, Value.int 0, Value.int 0])) : Nat × va_E) := by rw [e_ws67]; exact gs_app f_8_ws65
                            clear f_8_ws65
                            have f_8_ws69 : ws69[8]? = some ((q16, Sum.inr (4, [Value.ref q20, Value.ref q21, Value.ref q22, Value.null, Value.int 0, Value.int 0])) : Nat × va_E) := e_ws69.at (by first | decide | (simp; done) | (simp; omega)) f_8_ws67
                            clear f_8_ws67
                            have f_8_ws74 : ws74[8]? = some ((q16, Sum.inr (4, [Value.ref q20, Value.ref q21, Value.ref q22, Value.null, Value.int 0, Value.int 0])) : Nat × va_E) := by rw [e_ws74]; exact gs_ne (by decide) f_8_ws69
                            clear f_8_ws69
                            have f_8_ws76 : ws76[8]? = some ((q16, Sum.inr (4, [Value.ref q20, Value.ref q21, Value.ref q22, Value.null, Value.int 0, Value.int 0])) : Nat × va_E) := by rw [e_ws76]; exact gs_app f_8_ws74
                            clear f_8_ws74
                            have f_8_ws78 : ws78[8]? = some ((q16, Sum.inr (4, [Value.ref q20, Value.ref q21, Value.ref q22, Value.null, Value.int 0, Value.int 0])) : Nat × va_E) := e_ws78.at (by first | decide | (simp; done) | (simp; omega)) f_8_ws76
                            clear f_8_ws76
                            have f_8_ws83 : ws83[8]? = some ((q16, Sum.inr (4, [Value.ref q20, Value.ref q21, Value.ref q22, Value.null, Value.int 0, Value.int 0])) : Nat × va_E) := by rw [e_ws83]; exact gs_ne (by decide) f_8_ws78
                            clear f_8_ws78
                            have f_8_ws85 : ws85[8]? = some ((q16, Sum.inr (4, [Value.ref q20, Value.ref q21, Value.ref q22, Value.null, Value.int 0, Value.int 0])) : Nat × va_E) := by rw [e_ws85]; exact gs_app f_8_ws83
                            clear f_8_ws83
                            have f_8_ws87 : ws87[8]? = some ((q16, Sum.inr (4, [Value.ref q20, Value.ref q21, Value.ref q22, Value.null, Value.int 0, Value.int 0])) : Nat × va_E) := e_ws87.at (by first | decide | (simp; done) | (simp; omega)) f_8_ws85
                            clear f_8_ws85
                            have f_8_ws92 : ws92[8]? = some ((q16, Sum.inr (4, [Value.ref q20, Value.ref q21, Value.ref q22, Value.null, Value.int 0, Value.int 0])) : Nat × va_E) := by rw [e_ws92]; exact gs_ne (by decide) f_8_ws87
                            clear f_8_ws87
                            have f_8_ws94 : ws94[8]? = some ((q16, Sum.inr (4, [Value.ref q20, Value.ref q21, Value.ref q22, Value.null, Value.int 0, Value.int 0])) : Nat × va_E) := by rw [e_ws94]; exact gs_app f_8_ws92
                            clear f_8_ws92
                            have f_8_ws96 : ws96[8]? = some ((q16, Sum.inr (4, [Value.ref q20, Value.ref q21, Value.ref q22, Value.null, Value.int 0, Value.int 0])) : Nat × va_E) := e_ws96.at (by first | decide | (simp; done) | (simp; omega)) f_8_ws94
                            clear f_8_ws94
                            have f_8_ws101 : ws101[8]? = some ((q16, Sum.inr (4, [Value.ref q20, Value.ref q21, Value.ref q22, Value.null, Value.int 0, Value.int 0])) : Nat × va_E) := by rw [e_ws101]; exact gs_ne (by decide) f_8_ws96
                            clear f_8_ws96
                            have f_8_ws102 : ws102[8]? = some ((q16, Sum.inr (4, [Value.ref q20, Value.ref q21, Value.ref q22, Value.null, Value.int 0, Value.int 0])) : Nat × va_E) := by rw [e_ws102]; exact gs_ne (by decide) f_8_ws101
                            clear f_8_ws101
                            have f_8_ws103 : ws103[8]? = some ((q16, Sum.inr (4, [Value.ref q20, Value.ref q21, Value.ref q22, Value.null, Value.int 0, Value.int 0])) : Nat × va_E) := by rw [e_ws103]; exact gs_ne (by decide) f_8_ws102
                            clear f_8_ws102
                            have f_8_ws104 : ws104[8]? = some ((q16, Sum.inr (4, [Value.ref q20, Value.ref q21, Value.ref q22, Value.null, Value.int 0, Value.int 0])) : Nat × va_E) := by rw [e_ws104]; exact gs_ne (by decide) f_8_ws103
                            clear f_8_ws103
                            have f_9_ws23 : ws23[9]? = some ((q20, Sum.inl (cF, 4096, Sum.inr (Sum.inr (Sum.inr (Sum.inr (fun _ => none)))))) : Nat × va_E) := by rw [e_ws23]; exact gs_ne (by decide) f_9_ws19
                            clear f_9_ws19
                            have f_9_ws25 : ws25[9]? = some ((q20, Sum.inl (cF, 4096, Sum.inr (Sum.inr (Sum.inr (Sum.inr (fun _ => none)))))) : Nat × va_E) := by rw [e_ws25]; exact gs_app f_9_ws23
                            clear f_9_ws23
                            have f_9_ws27 : ws27[9]? = some ((q20, Sum.inl (cF, 4096, Sum.inr (Sum.inr (Sum.inr (Sum.inr (fun _ => none)))))) : Nat × va_E) := e_ws27.at (by first | decide | (simp; done) | (simp; omega)) f_9_ws25
                            clear f_9_ws25
                            have f_9_ws31 : ws31[9]? = some ((q20, Sum.inl (cF, 4096, Sum.inr (Sum.inr (Sum.inr (Sum.inr (fun _ => none)))))) : Nat × va_E) := by rw [e_ws31]; exact gs_ne (by decide) f_9_ws27
                            clear f_9_ws27
                            have f_9_ws33 : ws33[9]? = some ((q20, Sum.inl (cF, 4096, Sum.inr (Sum.inr (Sum.inr (Sum.inr (fun _ => none)))))) : Nat × va_E) := by rw [e_ws33]; exact gs_app f_9_ws31
                            clear f_9_ws31
                            have f_9_ws35 : ws35[9]? = some ((q20, Sum.inl (cF, 4096, Sum.inr (Sum.inr (Sum.inr (Sum.inr (fun _ => none)))))) : Nat × va_E) := e_ws35.at (by first | decide | (simp; done) | (simp; omega)) f_9_ws33
                            clear f_9_ws33
                            have f_9_ws39 : ws39[9]? = some ((q20, Sum.inl (cF, 4096, Sum.inr (Sum.inr (Sum.inr (Sum.inr (fun _ => none)))))) : Nat × va_E) := by rw [e_ws39]; exact gs_ne (by decide) f_9_ws35
                            clear f_9_ws35
                            have f_9_ws41 : ws41[9]? = some ((q20, Sum.inl (cF, 4096, Sum.inr (Sum.inr (Sum.inr (Sum.inr (fun _ => none)))))) : Nat × va_E) := by rw [e_ws41]; exact gs_app f_9_ws39
                            clear f_9_ws39
                            have f_9_ws42 : ws42[9]? = some ((q20, Sum.inl (cF, 4096, Sum.inr (Sum.inr (Sum.inr (Sum.inr (fun _ => none)))))) : Nat × va_E) := by rw [e_ws42]; exact gs_ne (by decide) f_9_ws41
                            clear f_9_ws41
                            have f_9_ws44 : ws44[9]? = some ((q20, Sum.inl (cF, 4096, Sum.inr (Sum.inr (Sum.inr (Sum.inr (fun _ => none)))))) : Nat × va_E) := by rw [e_ws44]; exact gs_app f_9_ws42
                            clear f_9_ws42
                            have f_9_ws47 : ws47[9]? = some ((q20, Sum.inl (cF, 4096, Sum.inr (Sum.inr (Sum.inr (Sum.inr (fun _ => none)))))) : Nat × va_E) := by rw [e_ws47]; exact gs_ne (by decide) f_9_ws44
                            clear f_9_ws44
                            have f_9_ws49 : ws49[9]? = some ((q20, Sum.inl (cF, 4096, Sum.inr (Sum.inr (Sum.inr (Sum.inr (fun _ => none)))))) : Nat × va_E) := by rw [e_ws49]; exact gs_app f_9_ws47
                            clear f_9_ws47
                            have f_9_ws52 : ws52[9]? = some ((q20, Sum.inl (cF, 4096, Sum.inr (Sum.inr (Sum.inr (Sum.inr (fun _ => none)))))) : Nat × va_E) := by rw [e_ws52]; exact gs_ne (by decide) f_9_ws49
                            clear f_9_ws49
                            have f_9_ws54 : ws54[9]? = some ((q20, Sum.inl (cF, 4096, Sum.inr (Sum.inr (Sum.inr (Sum.inr (fun _ => none)))))) : Nat × va_E) := by rw [e_ws54]; exact gs_app f_9_ws52
                            clear f_9_ws52
                            have f_9_ws57 : ws57[9]? = some ((q20, Sum.inl (cF, 4096, Sum.inr (Sum.inr (Sum.inr (Sum.inr (fun _ => none)))))) : Nat × va_E) := by rw [e_ws57]; exact gs_ne (by decide) f_9_ws54
                            clear f_9_ws54
                            have f_9_ws59 : ws59[9]? = some ((q20, Sum.inl (cF, 4096, Sum.inr (Sum.inr (Sum.inr (Sum.inr (fun _ => none)))))) : Nat × va_E) := by rw [e_ws59]; exact gs_app f_9_ws57
                            clear f_9_ws57
                            have f_9_ws62 : ws62[9]? = some ((q20, Sum.inl (cF, 4096, Sum.inr (Sum.inr (Sum.inr (Sum.inr (fun _ => none)))))) : Nat × va_E) := by rw [e_ws62]; exact gs_ne (by decide) f_9_ws59
                            clear f_9_ws59
                            have f_9_ws64 : ws64[9]? = some ((q20, Sum.inl (cF, 4096, Sum.inr (Sum.inr (Sum.inr (Sum.inr (fun _ => none)))))) : Nat × va_E) := by rw [e_ws64]; exact gs_app f_9_ws62
                            clear f_9_ws62
                            have f_9_ws65 : ws65[9]? = some ((q20, Sum.inl (cF, 4096, Sum.inr (Sum.inr (Sum.inr (Sum.inr (fun _ => none)))))) : Nat × va_E) := by rw [e_ws65]; exact gs_ne (by decide) f_9_ws64
                            clear f_9_ws64
                            have f_9_ws67 : ws67[9]? = some ((q20, Sum.inl (cF, 4096, Sum.inr (Sum.inr (Sum.inr (Sum.inr (fun _ => none)))))) : Nat × va_E) := by rw [e_ws67]; exact gs_app f_9_ws65
                            clear f_9_ws65
                            have f_9_ws69 : ws69[9]? = some ((q20, Sum.inl (cF, 4096, Sum.inr (Sum.inr (Sum.inr (Sum.inr (fun _ => none)))))) : Nat × va_E) := e_ws69.at (by first | decide | (simp; done) | (simp; omega)) f_9_ws67
                            clear f_9_ws67
                            have f_9_ws74 : ws74[9]? = some ((q20, Sum.inl (cF, 4096, Sum.inr (Sum.inr (Sum.inr (Sum.inr (fun _ => none)))))) : Nat × va_E) := by rw [e_ws74]; exact gs_ne (by decide) f_9_ws69
                            clear f_9_ws69
                            have f_9_ws76 : ws76[9]? = some ((q20, Sum.inl (cF, 4096, Sum.inr (Sum.inr (Sum.inr (Sum.inr (fun _ => none)))))) : Nat × va_E) := by rw [e_ws76]; exact gs_app f_9_ws74
                            clear f_9_ws74
                            have f_9_ws78 : ws78[9]? = some ((q20, Sum.inl (cF, 4096, Sum.inr (Sum.inr (Sum.inr (Sum.inr (fun _ => none)))))) : Nat × va_E) := e_ws78.at (by first | decide | (simp; done) | (simp; omega)) f_9_ws76
                            clear f_9_ws76
                            have f_9_ws83 : ws83[9]? = some ((q20, Sum.inl (cF, 4096, Sum.inr (Sum.inr (Sum.inr (Sum.inr (fun _ => none)))))) : Nat × va_E) := by rw [e_ws83]; exact gs_ne (by decide) f_9_ws78
                            clear f_9_ws78
                            have f_9_ws85 : ws85[9]? = some ((q20, Sum.inl (cF, 4096, Sum.inr (Sum.inr (Sum.inr (Sum.inr (fun _ => none)))))) : Nat × va_E) := by rw [e_ws85]; exact gs_app f_9_ws83
                            clear f_9_ws83
                            have f_9_ws87 : ws87[9]? = some ((q20, Sum.inl (cF, 4096, Sum.inr (Sum.inr (Sum.inr (Sum.inr (fun _ => none)))))) : Nat × va_E) := e_ws87.at (by first | decide | (simp; done) | (simp; omega)) f_9_ws85
                            clear f_9_ws85
                            have f_9_ws92 : ws92[9]? = some ((q20, Sum.inl (cF, 4096, Sum.inr (Sum.inr (Sum.inr (Sum.inr (fun _ => none)))))) : Nat × va_E) := by rw [e_ws92]; exact gs_ne (by decide) f_9_ws87
                            clear f_9_ws87
                            have f_9_ws94 : ws94[9]? = some ((q20, Sum.inl (cF, 4096, Sum.inr (Sum.inr (Sum.inr (Sum.inr (fun _ => none)))))) : Nat × va_E) := by rw [e_ws94]; exact gs_app f_9_ws92
                            clear f_9_ws92
                            have f_9_ws96 : ws96[9]? = some ((q20, Sum.inl (cF, 4096, Sum.inr (Sum.inr (Sum.inr (Sum.inr (fun _ => none)))))) : Nat × va_E) := e_ws96.at (by first | decide | (simp; done) | (simp; omega)) f_9_ws94
                            clear f_9_ws94
                            have f_9_ws101 : ws101[9]? = some ((q20, Sum.inl (cF, 4096, Sum.inr (Sum.inr (Sum.inr (Sum.inr (fun _ => none)))))) : Nat × va_E) := by rw [e_ws101]; exact gs_ne (by decide) f_9_ws96
                            clear f_9_ws96
                            have f_9_ws102 : ws102[9]? = some ((q20, Sum.inl (cF, 4096, Sum.inr (Sum.inr (Sum.inr (Sum.inr (fun _ => none)))))) : Nat × va_E) := by rw [e_ws102]; exact gs_ne (by decide) f_9_ws101
                            clear f_9_ws101
                            have f_9_ws103 : ws103[9]? = some ((q20, Sum.inl (cF, 4096, Sum.inr (Sum.inr (Sum.inr (Sum.inr (fun _ => none)))))) : Nat × va_E) := by rw [e_ws103]; exact gs_ne (by decide) f_9_ws102
                            clear f_9_ws102
                            have f_9_ws104 : ws104[9]? = some ((q20, Sum.inl (cF, 4096, Sum.inr (Sum.inr (Sum.inr (Sum.inr (fun _ => none)))))) : Nat × va_E) := by rw [e_ws104]; exact gs_ne (by decide) f_9_ws103
                            clear f_9_ws103
                            have f_10_ws23 : ws23[10]? = some ((q21, Sum.inl (cF, 4096, Sum.inr (Sum.inr (Sum.inr (Sum.inr (fun _ => none)))))) : Nat × va_E) := by rw [e_ws23]; exact gs_ne (by decide) f_10_ws19
                            clear f_10_ws19
                            have f_10_ws25 : ws25[10]? = some ((q21, Sum.inl (cF, 4096, Sum.inr (Sum.inr (Sum.inr (Sum.inr (fun _ => none)))))) : Nat × va_E) := by rw [e_ws25]; exact gs_app f_10_ws23
                            clear f_10_ws23
                            have f_10_ws27 : ws27[10]? = some ((q21, Sum.inl (cF, 4096, Sum.inr (Sum.inr (Sum.inr (Sum.inr (fun _ => none)))))) : Nat × va_E) := e_ws27.at (by first | decide | (simp; done) | (simp; omega)) f_10_ws25
                            clear f_10_ws25
                            have f_10_ws31 : ws31[10]? = some ((q21, Sum.inl (cF, 4096, Sum.inr (Sum.inr (Sum.inr (Sum.inr (fun _ => none)))))) : Nat × va_E) := by rw [e_ws31]; exact gs_ne (by decide) f_10_ws27
                            clear f_10_ws27
                            have f_10_ws33 : ws33[10]? = some ((q21, Sum.inl (cF, 4096, Sum.inr (Sum.inr (Sum.inr (Sum.inr (fun _ => none)))))) : Nat × va_E) := by rw [e_ws33]; exact gs_app f_10_ws31
                            clear f_10_ws31
                            have f_10_ws35 : ws35[10]? = some ((q21, Sum.inl (cF, 4096, Sum.inr (Sum.inr (Sum.inr (Sum.inr (fun _ => none)))))) : Nat × va_E) := e_ws35.at (by first | decide | (simp; done) | (simp; omega)) f_10_ws33
                            clear f_10_ws33
                            have f_10_ws39 : ws39[10]? = some ((q21, Sum.inl (cF, 4096, Sum.inr (Sum.inr (Sum.inr (Sum.inr (fun _ => none)))))) : Nat × va_E) := by rw [e_ws39]; exact gs_ne (by decide) f_10_ws35
                            clear f_10_ws35
                            have f_10_ws41 : ws41[10]? = some ((q21, Sum.inl (cF, 4096, Sum.inr (Sum.inr (Sum.inr (Sum.inr (fun _ => none)))))) : Nat × va_E) := by rw [e_ws41]; exact gs_app f_10_ws39
                            clear f_10_ws39
                            have f_10_ws42 : ws42[10]? = some ((q21, Sum.inl (cF, 4096, Sum.inr (Sum.inr (Sum.inr (Sum.inr (fun _ => none)))))) : Nat × va_E) := by rw [e_ws42]; exact gs_ne (by decide) f_10_ws41
                            clear f_10_ws41
                            have f_10_ws44 : ws44[10]? = some ((q21, Sum.inl (cF, 4096, Sum.inr (Sum.inr (Sum.inr (Sum.inr (fun _ => none)))))) : Nat × va_E) := by rw [e_ws44]; exact gs_app f_10_ws42
                            clear f_10_ws42
                            have f_10_ws47 : ws47[10]? = some ((q21, Sum.inl (cF, 4096, Sum.inr (Sum.inr (Sum.inr (Sum.inr (fun _ => none)))))) : Nat × va_E) := by rw [e_ws47]; exact gs_ne (by decide) f_10_ws44
                            clear f_10_ws44
                            have f_10_ws49 : ws49[10]? = some ((q21, Sum.inl (cF, 4096, Sum.inr (Sum.inr (Sum.inr (Sum.inr (fun _ => none)))))) : Nat × va_E) := by rw [e_ws49]; exact gs_app f_10_ws47
                            clear f_10_ws47
                            have f_10_ws52 : ws52[10]? = some ((q21, Sum.inl (cF, 4096, Sum.inr (Sum.inr (Sum.inr (Sum.inr (fun _ => none)))))) : Nat × va_E) := by rw [e_ws52]; exact gs_ne (by decide) f_10_ws49
                            clear f_10_ws49
                            have f_10_ws54 : ws54[10]? = some ((q21, Sum.inl (cF, 4096, Sum.inr (Sum.inr (Sum.inr (Sum.inr (fun _ => none)))))) : Nat × va_E) := by rw [e_ws54]; exact gs_app f_10_ws52
                            clear f_10_ws52
                            have f_10_ws57 : ws57[10]? = some ((q21, Sum.inl (cF, 4096, Sum.inr (Sum.inr (Sum.inr (Sum.inr (fun _ => none)))))) : Nat × va_E) := by rw [e_ws57]; exact gs_ne (by decide) f_10_ws54
                            clear f_10_ws54
                            have f_10_ws59 : ws59[10]? = some ((q21, Sum.inl (cF, 4096, Sum.inr (Sum.inr (Sum.inr (Sum.inr (fun _ => none)))))) : Nat × va_E) := by rw [e_ws59]; exact gs_app f_10_ws57
                            clear f_10_ws57
                            have f_10_ws62 : ws62[10]? = some ((q21, Sum.inl (cF, 4096, Sum.inr (Sum.inr (Sum.inr (Sum.inr (fun _ => none)))))) : Nat × va_E) := by rw [e_ws62]; exact gs_ne (by decide) f_10_ws59
                            clear f_10_ws59
                            have f_10_ws64 : ws64[10]? = some ((q21, Sum.inl (cF, 4096, Sum.inr (Sum.inr (Sum.inr (Sum.inr (fun _ => none)))))) : Nat × va_E) := by rw [e_ws64]; exact gs_app f_10_ws62
                            clear f_10_ws62
                            have f_10_ws65 : ws65[10]? = some ((q21, Sum.inl (cF, 4096, Sum.inr (Sum.inr (Sum.inr (Sum.inr (fun _ => none)))))) : Nat × va_E) := by rw [e_ws65]; exact gs_ne (by decide) f_10_ws64
                            clear f_10_ws64
                            have f_10_ws67 : ws67[10]? = some ((q21, Sum.inl (cF, 4096, Sum.inr (Sum.inr (Sum.inr (Sum.inr (fun _ => none)))))) : Nat × va_E) := by rw [e_ws67]; exact gs_app f_10_ws65
                            clear f_10_ws65
                            have f_10_ws69 : ws69[10]? = some ((q21, Sum.inl (cF, 4096, Sum.inr (Sum.inr (Sum.inr (Sum.inr (fun _ => none)))))) : Nat × va_E) := e_ws69.at (by first | decide | (simp; done) | (simp; omega)) f_10_ws67
                            clear f_10_ws67
                            have f_10_ws74 : ws74[10]? = some ((q21, Sum.inl (cF, 4096, Sum.inr (Sum.inr (Sum.inr (Sum.inr (fun _ => none)))))) : Nat × va_E) := by rw [e_ws74]; exact gs_ne (by decide) f_10_ws69
                            clear f_10_ws69
                            have f_10_ws76 : ws76[10]? = some ((q21, Sum.inl (cF, 4096, Sum.inr (Sum.inr (Sum.inr (Sum.inr (fun _ => none)))))) : Nat × va_E) := by rw [e_ws76]; exact gs_app f_10_ws74
                            clear f_10_ws74
                            have f_10_ws78 : ws78[10]? = some ((q21, Sum.inl (cF, 4096, Sum.inr (Sum.inr (Sum.inr (Sum.inr (fun _ => none)))))) : Nat × va_E) := e_ws78.at (by first | decide | (simp; done) | (simp; omega)) f_10_ws76
                            clear f_10_ws76
                            have f_10_ws83 : ws83[10]? = some ((q21, Sum.inl (cF, 4096, Sum.inr (Sum.inr (Sum.inr (Sum.inr (fun _ => none)))))) : Nat × va_E) := by rw [e_ws83]; exact gs_ne (by decide) f_10_ws78
                            clear f_10_ws78
                            have f_10_ws85 : ws85[10]? = some ((q21, Sum.inl (cF, 4096, Sum.inr (Sum.inr (Sum.inr (Sum.inr (fun _ => none)))))) : Nat × va_E) := by rw [e_ws85]; exact gs_app f_10_ws83
                            clear f_10_ws83
                            have f_10_ws87 : ws87[10]? = some ((q21, Sum.inl (cF, 4096, Sum.inr (Sum.inr (Sum.inr (Sum.inr (fun _ => none)))))) : Nat × va_E) := e_ws87.at (by first | decide | (simp; done) | (simp; omega)) f_10_ws85
                            clear f_10_ws85
                            have f_10_ws92 : ws92[10]? = some ((q21, Sum.inl (cF, 4096, Sum.inr (Sum.inr (Sum.inr (Sum.inr (fun _ => none)))))) : Nat × va_E) := by rw [e_ws92]; exact gs_ne (by decide) f_10_ws87
                            clear f_10_ws87
                            have f_10_ws94 : ws94[10]? = some ((q21, Sum.inl (cF, 4096, Sum.inr (Sum.inr (Sum.inr (Sum.inr (fun _ => none)))))) : Nat × va_E) := by rw [e_ws94]; exact gs_app f_10_ws92
                            clear f_10_ws92
                            have f_10_ws96 : ws96[10]? = some ((q21, Sum.inl (cF, 4096, Sum.inr (Sum.inr (Sum.inr (Sum.inr (fun _ => none)))))) : Nat × va_E) := e_ws96.at (by first | decide | (simp; done) | (simp; omega)) f_10_ws94
                            clear f_10_ws94
                            have f_10_ws101 : ws101[10]? = some ((q21, Sum.inl (cF, 4096, Sum.inr (Sum.inr (Sum.inr (Sum.inr (fun _ => none)))))) : Nat × va_E) := by rw [e_ws101]; exact gs_ne (by decide) f_10_ws96
                            clear f_10_ws96
                            have f_10_ws102 : ws102[10]? = some ((q21, Sum.inl (cF, 4096, Sum.inr (Sum.inr (Sum.inr (Sum.inr (fun _ => none)))))) : Nat × va_E) := by rw [e_ws102]; exact gs_ne (by decide) f_10_ws101
                            clear f_10_ws101
                            have f_10_ws103 : ws103[10]? = some ((q21, Sum.inl (cF, 4096, Sum.inr (Sum.inr (Sum.inr (Sum.inr (fun _ => none)))))) : Nat × va_E) := by rw [e_ws103]; exact gs_ne (by decide) f_10_ws102
                            clear f_10_ws102
                            have f_10_ws104 : ws104[10]? = some ((q21, Sum.inl (cF, 4096, Sum.inr (Sum.inr (Sum.inr (Sum.inr (fun _ => none)))))) : Nat × va_E) := by rw [e_ws104]; exact gs_ne (by decide) f_10_ws103
                            clear f_10_ws103
                            have f_11_ws23 : ws23[11]? = some ((q22, Sum.inl (cZ, 4096, Sum.inl (fun _ => 0))) : Nat × va_E) := by rw [e_ws23]; exact gs_ne (by decide) f_11_ws19
                            clear f_11_ws19
                            have f_11_ws25 : ws25[11]? = some ((q22, Sum.inl (cZ, 4096, Sum.inl (fun _ => 0))) : Nat × va_E) := by rw [e_ws25]; exact gs_app f_11_ws23
                            clear f_11_ws23
                            have f_11_ws27 : ws27[11]? = some ((q22, Sum.inl (cZ, 4096, Sum.inl (fun _ => 0))) : Nat × va_E) := e_ws27.at (by first | decide | (simp; done) | (simp; omega)) f_11_ws25
                            clear f_11_ws25
                            have f_11_ws31 : ws31[11]? = some ((q22, Sum.inl (cZ, 4096, Sum.inl (fun _ => 0))) : Nat × va_E) := by rw [e_ws31]; exact gs_ne (by decide) f_11_ws27
                            clear f_11_ws27
                            have f_11_ws33 : ws33[11]? = some ((q22, Sum.inl (cZ, 4096, Sum.inl (fun _ => 0))) : Nat × va_E) := by rw [e_ws33]; exact gs_app f_11_ws31
                            clear f_11_ws31
                            have f_11_ws35 : ws35[11]? = some ((q22, Sum.inl (cZ, 4096, Sum.inl (fun _ => 0))) : Nat × va_E) := e_ws35.at (by first | decide | (simp; done) | (simp; omega)) f_11_ws33
                            clear f_11_ws33
                            have f_11_ws39 : ws39[11]? = some ((q22, Sum.inl (cZ, 4096, Sum.inl (fun _ => 0))) : Nat × va_E) := by rw [e_ws39]; exact gs_ne (by decide) f_11_ws35
                            clear f_11_ws35
                            have f_11_ws41 : ws41[11]? = some ((q22, Sum.inl (cZ, 4096, Sum.inl (fun _ => 0))) : Nat × va_E) := by rw [e_ws41]; exact gs_app f_11_ws39
                            clear f_11_ws39
                            have f_11_ws42 : ws42[11]? = some ((q22, Sum.inl (cZ, 4096, Sum.inl (fun _ => 0))) : Nat × va_E) := by rw [e_ws42]; exact gs_ne (by decide) f_11_ws41
                            clear f_11_ws41
                            have f_11_ws44 : ws44[11]? = some ((q22, Sum.inl (cZ, 4096, Sum.inl (fun _ => 0))) : Nat × va_E) := by rw [e_ws44]; exact gs_app f_11_ws42
                            clear f_11_ws42
                            have f_11_ws47 : ws47[11]? = some ((q22, Sum.inl (cZ, 4096, Sum.inl (fun _ => 0))) : Nat × va_E) := by rw [e_ws47]; exact gs_ne (by decide) f_11_ws44
                            clear f_11_ws44
                            have f_11_ws49 : ws49[11]? = some ((q22, Sum.inl (cZ, 4096, Sum.inl (fun _ => 0))) : Nat × va_E) := by rw [e_ws49]; exact gs_app f_11_ws47
                            clear f_11_ws47
                            have f_11_ws52 : ws52[11]? = some ((q22, Sum.inl (cZ, 4096, Sum.inl (fun _ => 0))) : Nat × va_E) := by rw [e_ws52]; exact gs_ne (by decide) f_11_ws49
                            clear f_11_ws49
                            have f_11_ws54 : ws54[11]? = some ((q22, Sum.inl (cZ, 4096, Sum.inl (fun _ => 0))) : Nat × va_E) := by rw [e_ws54]; exact gs_app f_11_ws52
                            clear f_11_ws52
                            have f_11_ws57 : ws57[11]? = some ((q22, Sum.inl (cZ, 4096, Sum.inl (fun _ => 0))) : Nat × va_E) := by rw [e_ws57]; exact gs_ne (by decide) f_11_ws54
                            clear f_11_ws54
                            have f_11_ws59 : ws59[11]? = some ((q22, Sum.inl (cZ, 4096, Sum.inl (fun _ => 0))) : Nat × va_E) := by rw [e_ws59]; exact gs_app f_11_ws57
                            clear f_11_ws57
                            have f_11_ws62 : ws62[11]? = some ((q22, Sum.inl (cZ, 4096, Sum.inl (fun _ => 0))) : Nat × va_E) := by rw [e_ws62]; exact gs_ne (by decide) f_11_ws59
                            clear f_11_ws59
                            have f_11_ws64 : ws64[11]? = some ((q22, Sum.inl (cZ, 4096, Sum.inl (fun _ => 0))) : Nat × va_E) := by rw [e_ws64]; exact gs_app f_11_ws62
                            clear f_11_ws62
                            have f_11_ws65 : ws65[11]? = some ((q22, Sum.inl (cZ, 4096, Sum.inl (fun _ => 0))) : Nat × va_E) := by rw [e_ws65]; exact gs_ne (by decide) f_11_ws64
                            clear f_11_ws64
                            have f_11_ws67 : ws67[11]? = some ((q22, Sum.inl (cZ, 4096, Sum.inl (fun _ => 0))) : Nat × va_E) := by rw [e_ws67]; exact gs_app f_11_ws65
                            clear f_11_ws65
                            have f_11_ws69 : ws69[11]? = some ((q22, Sum.inl (cZ, 4096, Sum.inl (fun _ => 0))) : Nat × va_E) := e_ws69.at (by first | decide | (simp; done) | (simp; omega)) f_11_ws67
                            clear f_11_ws67
                            have f_11_ws74 : ws74[11]? = some ((q22, Sum.inl (cZ, 4096, Sum.inl (fun _ => 0))) : Nat × va_E) := by rw [e_ws74]; exact gs_ne (by decide) f_11_ws69
                            clear f_11_ws69
                            have f_11_ws76 : ws76[11]? = some ((q22, Sum.inl (cZ, 4096, Sum.inl (fun _ => 0))) : Nat × va_E) := by rw [e_ws76]; exact gs_app f_11_ws74
                            clear f_11_ws74
                            have f_11_ws78 : ws78[11]? = some ((q22, Sum.inl (cZ, 4096, Sum.inl (fun _ => 0))) : Nat × va_E) := e_ws78.at (by first | decide | (simp; done) | (simp; omega)) f_11_ws76
                            clear f_11_ws76
                            have f_11_ws83 : ws83[11]? = some ((q22, Sum.inl (cZ, 4096, Sum.inl (fun _ => 0))) : Nat × va_E) := by rw [e_ws83]; exact gs_ne (by decide) f_11_ws78
                            clear f_11_ws78
                            have f_11_ws85 : ws85[11]? = some ((q22, Sum.inl (cZ, 4096, Sum.inl (fun _ => 0))) : Nat × va_E) := by rw [e_ws85]; exact gs_app f_11_ws83
                            clear f_11_ws83
                            have f_11_ws87 : ws87[11]? = some ((q22, Sum.inl (cZ, 4096, Sum.inl (fun _ => 0))) : Nat × va_E) := e_ws87.at (by first | decide | (simp; done) | (simp; omega)) f_11_ws85
                            clear f_11_ws85
                            have f_11_ws92 : ws92[11]? = some ((q22, Sum.inl (cZ, 4096, Sum.inl (fun _ => 0))) : Nat × va_E) := by rw [e_ws92]; exact gs_ne (by decide) f_11_ws87
                            clear f_11_ws87
                            have f_11_ws94 : ws94[11]? = some ((q22, Sum.inl (cZ, 4096, Sum.inl (fun _ => 0))) : Nat × va_E) := by rw [e_ws94]; exact gs_app f_11_ws92
                            clear f_11_ws92
                            have f_11_ws96 : ws96[11]? = some ((q22, Sum.inl (cZ, 4096, Sum.inl (fun _ => 0))) : Nat × va_E) := e_ws96.at (by first | decide | (simp; done) | (simp; omega)) f_11_ws94
                            clear f_11_ws94
                            have f_11_ws101 : ws101[11]? = some ((q22, Sum.inl (cZ, 4096, Sum.inl (fun _ => 0))) : Nat × va_E) := by rw [e_ws101]; exact gs_ne (by decide) f_11_ws96
                            clear f_11_ws96
                            have f_11_ws102 : ws102[11]? = some ((q22, Sum.inl (cZ, 4096, Sum.inl (fun _ => 0))) : Nat × va_E) := by rw [e_ws102]; exact gs_ne (by decide) f_11_ws101
                            clear f_11_ws101
                            have f_11_ws103 : ws103[11]? = some ((q22, Sum.inl (cZ, 4096, Sum.inl (fun _ => 0))) : Nat × va_E) := by rw [e_ws103]; exact gs_ne (by decide) f_11_ws102
                            clear f_11_ws102
                            have f_11_ws104 : ws104[11]? = some ((q22, Sum.inl (cZ, 4096, Sum.inl (fun _ => 0))) : Nat × va_E) := by rw [e_ws104]; exact gs_ne (by decide) f_11_ws103
                            clear f_11_ws103
                            have f_12_ws31 : ws31[12]? = some ((q24, Sum.inr (4, [Value.ref q28, Value.ref q29, Value.ref q30, Value.null, Value.int 0, Value.int 0])) : Nat × va_E) := by rw [e_ws31]; exact gs_ne (by decide) f_12_ws27
                            clear f_12_ws27
                            have f_12_ws33 : ws33[12]? = some ((q24, Sum.inr (4, [Value.ref q28, Value.ref q29, Value.ref q30, Value.null, Value.int 0, Value.int 0])) : Nat × va_E) := by rw [e_ws33]; exact gs_app f_12_ws31
                            clear f_12_ws31
                            have f_12_ws35 : ws35[12]? = some ((q24, Sum.inr (4, [Value.ref q28, Value.ref q29, Value.ref q30, Value.null, Value.int 0, Value.int 0])) : Nat × va_E) := e_ws35.at (by first | decide | (simp; done) | (simp; omega)) f_12_ws33
                            clear f_12_ws33
                            have f_12_ws39 : ws39[12]? = some ((q24, Sum.inr (4, [Value.ref q28, Value.ref q29, Value.ref q30, Value.null, Value.int 0, Value.int 0])) : Nat × va_E) := by rw [e_ws39]; exact gs_ne (by decide) f_12_ws35
                            clear f_12_ws35
                            have f_12_ws41 : ws41[12]? = some ((q24, Sum.inr (4, [Value.ref q28, Value.ref q29, Value.ref q30, Value.null, Value.int 0, Value.int 0])) : Nat × va_E) := by rw [e_ws41]; exact gs_app f_12_ws39
                            clear f_12_ws39
                            have f_12_ws42 : ws42[12]? = some ((q24, Sum.inr (4, [Value.ref q28, Value.ref q29, Value.ref q30, Value.null, Value.int 0, Value.int 0])) : Nat × va_E) := by rw [e_ws42]; exact gs_ne (by decide) f_12_ws41
                            clear f_12_ws41
                            have f_12_ws44 : ws44[12]? = some ((q24, Sum.inr (4, [Value.ref q28, Value.ref q29, Value.ref q30, Value.null, Value.int 0, Value.int 0])) : Nat × va_E) := by rw [e_ws44]; exact gs_app f_12_ws42
                            clear f_12_ws42
                            have f_12_ws47 : ws47[12]? = some ((q24, Sum.inr (4, [Value.ref q28, Value.ref q29, Value.ref q30, Value.null, Value.int 0, Value.int 0])) : Nat × va_E) := by rw [e_ws47]; exact gs_ne (by decide) f_12_ws44
                            clear f_12_ws44
                            have f_12_ws49 : ws49[12]? = some ((q24, Sum.inr (4, [Value.ref q28, Value.ref q29, Value.ref q30, Value.null, Value.int 0, Value.int 0])) : Nat × va_E) := by rw [e_ws49]; exact gs_app f_12_ws47
                            clear f_12_ws47
                            have f_12_ws52 : ws52[12]? = some ((q24, Sum.inr (4, [Value.ref q28, Value.ref q29, Value.ref q30, Value.null, Value.int 0, Value.int 0])) : Nat × va_E) := by rw [e_ws52]; exact gs_ne (by decide) f_12_ws49
                            clear f_12_ws49
                            have f_12_ws54 : ws54[12]? = some ((q24, Sum.inr (4, [Value.ref q28, Value.ref q29, Value.ref q30, Value.null, Value.int 0, Value.int 0])) : Nat × va_E) := by rw [e_ws54]; exact gs_app f_12_ws52
                            clear f_12_ws52
                            have f_12_ws57 : ws57[12]? = some ((q24, Sum.inr (4, [Value.ref q28, Value.ref q29, Value.ref q30, Value.null, Value.int 0, Value.int 0])) : Nat × va_E) := by rw [e_ws57]; exact gs_ne (by decide) f_12_ws54
                            clear f_12_ws54
                            have f_12_ws59 : ws59[12]? = some ((q24, Sum.inr (4, [Value.ref q28, Value.ref q29, Value.ref q30, Value.null, Value.int 0, Value.int 0])) : Nat × va_E) := by rw [e_ws59]; exact gs_app f_12_ws57
                            clear f_12_ws57
                            have f_12_ws62 : ws62[12]? = some ((q24, Sum.inr (4, [Value.ref q28, Value.ref q29, Value.ref q30, Value.null, Value.int 0, Value.int 0])) : Nat × va_E) := by rw [e_ws62]; exact gs_ne (by decide) f_12_ws59
                            clear f_12_ws59
                            have f_12_ws64 : ws64[12]? = some ((q24, Sum.inr (4, [Value.ref q28, Value.ref q29, Value.ref q30, Value.null, Value.int 0, Value.int 0])) : Nat × va_E) := by rw [e_ws64]; exact gs_app f_12_ws62
                            clear f_12_ws62
                            have f_12_ws65 : ws65[12]? = some ((q24, Sum.inr (4, [Value.ref q28, Value.ref q29, Value.ref q30, Value.null, Value.int 0, Value.int 0])) : Nat × va_E) := by rw [e_ws65]; exact gs_ne (by decide) f_12_ws64
                            clear f_12_ws64
                            have f_12_ws67 : ws67[12]? = some ((q24, Sum.inr (4, [Value.ref q28, Value.ref q29, Value.ref q30, Value.null, Value.int 0, Value.int 0])) : Nat × va_E) := by rw [e_ws67]; exact gs_app f_12_ws65
                            clear f_12_ws65
                            have f_12_ws69 : ws69[12]? = some ((q24, Sum.inr (4, [Value.ref q28, Value.ref q29, Value.ref q30, Value.null, Value.int 0, Value.int 0])) : Nat × va_E) := e_ws69.at (by first | decide | (simp; done) | (simp; omega)) f_12_ws67
                            clear f_12_ws67
                            have f_12_ws74 : ws74[12]? = some ((q24, Sum.inr (4, [Value.ref q28, Value.ref q29, Value.ref q30, Value.null, Value.int 0, Value.int 0])) : Nat × va_E) := by rw [e_ws74]; exact gs_ne (by decide) f_12_ws69
                            clear f_12_ws69
                            have f_12_ws76 : ws76[12]? = some ((q24, Sum.inr (4, [Value.ref q28, Value.ref q29, Value.ref q30, Value.null, Value.int 0, Value.int 0])) : Nat × va_E) := by rw [e_ws76]; exact gs_app f_12_ws74
                            clear f_12_ws74
                            have f_12_ws78 : ws78[12]? = some ((q24, Sum.inr (4, [Value.ref q28, Value.ref q29, Value.ref q30, Value.null, Value.int 0, Value.int 0])) : Nat × va_E) := e_ws78.at (by first | decide | (simp; done) | (simp; omega)) f_12_ws76
                            clear f_12_ws76
                            have f_12_ws83 : ws83[12]? = some ((q24, Sum.inr (4, [Value.ref q28, Value.ref q29, Value.ref q30, Value.null, Value.int 0, Value.int 0])) : Nat × va_E) := by rw [e_ws83]; exact gs_ne (by decide) f_12_ws78
                            clear f_12_ws78
                            have f_12_ws85 : ws85[12]? = some ((q24, Sum.inr (4, [Value.ref q28, Value.ref q29, Value.ref q30, Value.null, Value.int 0, Value.int 0])) : Nat × va_E) := by rw [e_ws85]; exact gs_app f_12_ws83
                            clear f_12_ws83
                            have f_12_ws87 : ws87[12]? = some ((q24, Sum.inr (4, [Value.ref q28, Value.ref q29, Value.ref q30, Value.null, Value.int 0, Value.int 0])) : Nat × va_E) := e_ws87.at (by first | decide | (simp; done) | (simp; omega)) f_12_ws85
                            clear f_12_ws85
                            have f_12_ws92 : ws92[12]? = some ((q24, Sum.inr (4, [Value.ref q28, Value.ref q29, Value.ref q30, Value.null, Value.int 0, Value.int 0])) : Nat × va_E) := by rw [e_ws92]; exact gs_ne (by decide) f_12_ws87
                            clear f_12_ws87
                            have f_12_ws94 : ws94[12]? = some ((q24, Sum.inr (4, [Value.ref q28, Value.ref q29, Value.ref q30, Value.null, Value.int 0, Value.int 0])) : Nat × va_E) := by rw [e_ws94]; exact gs_app f_12_ws92
                            clear f_12_ws92
                            have f_12_ws96 : ws96[12]? = some ((q24, Sum.inr (4, [Value.ref q28, Value.ref q29, Value.ref q30, Value.null, Value.int 0, Value.int 0])) : Nat × va_E) := e_ws96.at (by first | decide | (simp; done) | (simp; omega)) f_12_ws94
                            clear f_12_ws94
                            have f_12_ws101 : ws101[12]? = some ((q24, Sum.inr (4, [Value.ref q28, Value.ref q29, Value.ref q30, Value.null, Value.int 0, Value.int 0])) : Nat × va_E) := by rw [e_ws101]; exact gs_ne (by decide) f_12_ws96
                            clear f_12_ws96
                            have f_12_ws102 : ws102[12]? = some ((q24, Sum.inr (4, [Value.ref q28, Value.ref q29, Value.ref q30, Value.null, Value.int 0, Value.int 0])) : Nat × va_E) := by rw [e_ws102]; exact gs_ne (by decide) f_12_ws101
                            clear f_12_ws101
                            have f_12_ws103 : ws103[12]? = some ((q24, Sum.inr (4, [Value.ref q28, Value.ref q29, Value.ref q30, Value.null, Value.int 0, Value.int 0])) : Nat × va_E) := by rw [e_ws103]; exact gs_ne (by decide) f_12_ws102
                            clear f_12_ws102
                            have f_12_ws104 : ws104[12]? = some ((q24, Sum.inr (4, [Value.ref q28, Value.ref q29, Value.ref q30, Value.null, Value.int 0, Value.int 0])) : Nat × va_E) := by rw [e_ws104]; exact gs_ne (by decide) f_12_ws103
                            clear f_12_ws103
                            have f_13_ws31 : ws31[13]? = some ((q28, Sum.inl (cF, 4096, Sum.inr (Sum.inr (Sum.inr (Sum.inr (fun _ => none)))))) : Nat × va_E) := by rw [e_ws31]; exact gs_ne (by decide) f_13_ws27
                            clear f_13_ws27
                            have f_13_ws33 : ws33[13]? = some ((q28, Sum.inl (cF, 4096, Sum.inr (Sum.inr (Sum.inr (Sum.inr (fun _ => none)))))) : Nat × va_E) := by rw [e_ws33]; exact gs_app f_13_ws31
                            clear f_13_ws31
                            have f_13_ws35 : ws35[13]? = some ((q28, Sum.inl (cF, 4096, Sum.inr (Sum.inr (Sum.inr (Sum.inr (fun _ => none)))))) : Nat × va_E) := e_ws35.at (by first | decide | (simp; done) | (simp; omega)) f_13_ws33
                            clear f_13_ws33
                            have f_13_ws39 : ws39[13]? = some ((q28, Sum.inl (cF, 4096, Sum.inr (Sum.inr (Sum.inr (Sum.inr (fun _ => none)))))) : Nat × va_E) := by rw [e_ws39]; exact gs_ne (by decide) f_13_ws35
                            clear f_13_ws35
                            have f_13_ws41 : ws41[13]? = some ((q28, Sum.inl (cF, 4096, Sum.inr (Sum.inr (Sum.inr (Sum.inr (fun _ => none)))))) : Nat × va_E) := by rw [e_ws41]; exact gs_app f_13_ws39
                            clear f_13_ws39
                            have f_13_ws42 : ws42[13]? = some ((q28, Sum.inl (cF, 4096, Sum.inr (Sum.inr (Sum.inr (Sum.inr (fun _ => none)))))) : Nat × va_E) := by rw [e_ws42]; exact gs_ne (by decide) f_13_ws41
                            clear f_13_ws41
                            have f_13_ws44 : ws44[13]? = some ((q28, Sum.inl (cF, 4096, Sum.inr (Sum.inr (Sum.inr (Sum.inr (fun _ => none)))))) : Nat × va_E) := by rw [e_ws44]; exact gs_app f_13_ws42
                            clear f_13_ws42
                            have f_13_ws47 : ws47[13]? = some ((q28, Sum.inl (cF, 4096, Sum.inr (Sum.inr (Sum.inr (Sum.inr (fun _ => none)))))) : Nat × va_E) := by rw [e_ws47]; exact gs_ne (by decide) f_13_ws44
                            clear f_13_ws44
                            have f_13_ws49 : ws49[13]? = some ((q28, Sum.inl (cF, 4096, Sum.inr (Sum.inr (Sum.inr (Sum.inr (fun _ => none)))))) : Nat × va_E) := by rw [e_ws49]; exact gs_app f_13_ws47
                            clear f_13_ws47
                            have f_13_ws52 : ws52[13]? = some ((q28, Sum.inl (cF, 4096, Sum.inr (Sum.inr (Sum.inr (Sum.inr (fun _ => none)))))) : Nat × va_E) := by rw [e_ws52]; exact gs_ne (by decide) f_13_ws49
                            clear f_13_ws49
                            have f_13_ws54 : ws54[13]? = some ((q28, Sum.inl (cF, 4096, Sum.inr (Sum.inr (Sum.inr (Sum.inr (fun _ => none)))))) : Nat × va_E) := by rw [e_ws54]; exact gs_app f_13_ws52
                            clear f_13_ws52
                            have f_13_ws57 : ws57[13]? = some ((q28, Sum.inl (cF, 4096, Sum.inr (Sum.inr (Sum.inr (Sum.inr (fun _ => none)))))) : Nat × va_E) := by rw [e_ws57]; exact gs_ne (by decide) f_13_ws54
                            clear f_13_ws54
                            have f_13_ws59 : ws59[13]? = some ((q28, Sum.inl (cF, 4096, Sum.inr (Sum.inr (Sum.inr (Sum.inr (fun _ => none)))))) : Nat × va_E) := by rw [e_ws59]; exact gs_app f_13_ws57
                            clear f_13_ws57
                            have f_13_ws62 : ws62[13]? = some ((q28, Sum.inl (cF, 4096, Sum.inr (Sum.inr (Sum.inr (Sum.inr (fun _ => none)))))) : Nat × va_E) := by rw [e_ws62]; exact gs_ne (by decide) f_13_ws59
                            clear f_13_ws59
                            have f_13_ws64 : ws64[13]? = some ((q28, Sum.inl (cF, 4096, Sum.inr (Sum.inr (Sum.inr (Sum.inr (fun _ => none)))))) : Nat × va_E) := by rw [e_ws64]; exact gs_app f_13_ws62
                            clear f_13_ws62
                            have f_13_ws65 : ws65[13]? = some ((q28, Sum.inl (cF, 4096, Sum.inr (Sum.inr (Sum.inr (Sum.inr (fun _ => none)))))) : Nat × va_E) := by rw [e_ws65]; exact gs_ne (by decide) f_13_ws64
                            clear f_13_ws64
                            have f_13_ws67 : ws67[13]? = some ((q28, Sum.inl (cF, 4096, Sum.inr (Sum.inr (Sum.inr (Sum.inr (fun _ => none)))))) : Nat × va_E) := by rw [e_ws67]; exact gs_app f_13_ws65
                            clear f_13_ws65
                            have f_13_ws69 : ws69[13]? = some ((q28, Sum.inl (cF, 4096, Sum.inr (Sum.inr (Sum.inr (Sum.inr (fun _ => none)))))) : Nat × va_E) := e_ws69.at (by first | decide | (simp; done) | (simp; omega)) f_13_ws67
                            clear f_13_ws67
                            have f_13_ws74 : ws74[13]? = some ((q28, Sum.inl (cF, 4096, Sum.inr (Sum.inr (Sum.inr (Sum.inr (fun _ => none)))))) : Nat × va_E) := by rw [e_ws74]; exact gs_ne (by decide) f_13_ws69
                            clear f_13_ws69
                            have f_13_ws76 : ws76[13]? = some ((q28, Sum.inl (cF, 4096, Sum.inr (Sum.inr (Sum.inr (Sum.inr (fun _ => none)))))) : Nat × va_E) := by rw [e_ws76]; exact gs_app f_13_ws74
                            clear f_13_ws74
                            have f_13_ws78 : ws78[13]? = some ((q28, Sum.inl (cF, 4096, Sum.inr (Sum.inr (Sum.inr (Sum.inr (fun _ => none)))))) : Nat × va_E) := e_ws78.at (by first | decide | (simp; done) | (simp; omega)) f_13_ws76
                            clear f_13_ws76
                            have f_13_ws83 : ws83[13]? = some ((q28, Sum.inl (cF, 4096, Sum.inr (Sum.inr (Sum.inr (Sum.inr (fun _ => none)))))) : Nat × va_E) := by rw [e_ws83]; exact gs_ne (by decide) f_13_ws78
                            clear f_13_ws78
                            have f_13_ws85 : ws85[13]? = some ((q28, Sum.inl (cF, 4096, Sum.inr (Sum.inr (Sum.inr (Sum.inr (fun _ => none)))))) : Nat × va_E) := by rw [e_ws85]; exact gs_app f_13_ws83
                            clear f_13_ws83
                            have f_13_ws87 : ws87[13]? = some ((q28, Sum.inl (cF, 4096, Sum.inr (Sum.inr (Sum.inr (Sum.inr (fun _ => none)))))) : Nat × va_E) := e_ws87.at (by first | decide | (simp; done) | (simp; omega)) f_13_ws85
                            clear f_13_ws85
                            have f_13_ws92 : ws92[13]? = some ((q28, Sum.inl (cF, 4096, Sum.inr (Sum.inr (Sum.inr (Sum.inr (fun _ => none)))))) : Nat × va_E) := by rw [e_ws92]; exact gs_ne (by decide) f_13_ws87
                            clear f_13_ws87
                            have f_13_ws94 : ws94[13]? = some ((q28, Sum.inl (cF, 4096, Sum.inr (Sum.inr (Sum.inr (Sum.inr (fun _ => none)))))) : Nat × va_E) := by rw [e_ws94]; exact gs_app f_13_ws92
                            clear f_13_ws92
                            have f_13_ws96 : ws96[13]? = some ((q28, Sum.inl (cF, 4096, Sum.inr (Sum.inr (Sum.inr (Sum.inr (fun _ => none)))))) : Nat × va_E) := e_ws96.at (by first | decide | (simp; done) | (simp; omega)) f_13_ws94
                            clear f_13_ws94
                            have f_13_ws101 : ws101[13]? = some ((q28, Sum.inl (cF, 4096, Sum.inr (Sum.inr (Sum.inr (Sum.inr (fun _ => none)))))) : Nat × va_E) := by rw [e_ws101]; exact gs_ne (by decide) f_13_ws96
                            clear f_13_ws96
                            have f_13_ws102 : ws102[13]? = some ((q28, Sum.inl (cF, 4096, Sum.inr (Sum.inr (Sum.inr (Sum.inr (fun _ => none)))))) : Nat × va_E) := by rw [e_ws102]; exact gs_ne (by decide) f_13_ws101
                            clear f_13_ws101
                            have f_13_ws103 : ws103[13]? = some ((q28, Sum.inl (cF, 4096, Sum.inr (Sum.inr (Sum.inr (Sum.inr (fun _ => none)))))) : Nat × va_E) := by rw [e_ws103]; exact gs_ne (by decide) f_13_ws102
                            clear f_13_ws102
                            have f_13_ws104 : ws104[13]? = some ((q28, Sum.inl (cF, 4096, Sum.inr (Sum.inr (Sum.inr (Sum.inr (fun _ => none)))))) : Nat × va_E) := by rw [e_ws104]; exact gs_ne (by decide) f_13_ws103
                            clear f_13_ws103
                            have f_14_ws31 : ws31[14]? = some ((q29, Sum.inl (cF, 4096, Sum.inr (Sum.inr (Sum.inr (Sum.inr (fun _ => none)))))) : Nat × va_E) := by rw [e_ws31]; exact gs_ne (by decide) f_14_ws27
                            clear f_14_ws27
                            have f_14_ws33 : ws33[14]? = some ((q29, Sum.inl (cF, 4096, Sum.inr (Sum.inr (Sum.inr (Sum.inr (fun _ => none)))))) : Nat × va_E) := by rw [e_ws33]; exact gs_app f_14_ws31
                            clear f_14_ws31
                            have f_14_ws35 : ws35[14]? = some ((q29, Sum.inl (cF, 4096, Sum.inr (Sum.inr (Sum.inr (Sum.inr (fun _ => none)))))) : Nat × va_E) := e_ws35.at (by first | decide | (simp; done) | (simp; omega)) f_14_ws33
                            clear f_14_ws33
                            have f_14_ws39 : ws39[14]? = some ((q29, Sum.inl (cF, 4096, Sum.inr (Sum.inr (Sum.inr (Sum.inr (fun _ => none)))))) : Nat × va_E) := by rw [e_ws39]; exact gs_ne (by decide) f_14_ws35
                            clear f_14_ws35
                            have f_14_ws41 : ws41[14]? = some ((q29, Sum.inl (cF, 4096, Sum.inr (Sum.inr (Sum.inr (Sum.inr (fun _ => none)))))) : Nat × va_E) := by rw [e_ws41]; exact gs_app f_14_ws39
                            clear f_14_ws39
                            have f_14_ws42 : ws42[14]? = some ((q29, Sum.inl (cF, 4096, Sum.inr (Sum.inr (Sum.inr (Sum.inr (fun _ => none)))))) : Nat × va_E) := by rw [e_ws42]; exact gs_ne (by decide) f_14_ws41
                            clear f_14_ws41
                            have f_14_ws44 : ws44[14]? = some ((q29, Sum.inl (cF, 4096, Sum.inr (Sum.inr (Sum.inr (Sum.inr (fun _ => none)))))) : Nat × va_E) := by rw [e_ws44]; exact gs_app f_14_ws42
                            clear f_14_ws42
                            have f_14_ws47 : ws47[14]? = some ((q29, Sum.inl (cF, 4096, Sum.inr (Sum.inr (Sum.inr (Sum.inr (fun _ => none)))))) : Nat × va_E) := by rw [e_ws47]; exact gs_ne (by decide) f_14_ws44
                            clear f_14_ws44
                            have f_14_ws49 : ws49[14]? = some ((q29, Sum.inl (cF, 4096, Sum.inr (Sum.inr (Sum.inr (Sum.inr (fun _ => none)))))) : Nat × va_E) := by rw [e_ws49]; exact gs_app f_14_ws47
                            clear f_14_ws47
                            have f_14_ws52 : ws52[14]? = some ((q29, Sum.inl (cF, 4096, Sum.inr (Sum.inr (Sum.inr (Sum.inr (fun _ => none)))))) : Nat × va_E) := by rw [e_ws52]; exact gs_ne (by decide) f_14_ws49
                            clear f_14_ws49
                            have f_14_ws54 : ws54[14]? = some ((q29, Sum.inl (cF, 4096, Sum.inr (Sum.inr (Sum.inr (Sum.inr (fun _ => none)))))) : Nat × va_E) := by rw [e_ws54]; exact gs_app f_14_ws52
                            clear f_14_ws52
                            have f_14_ws57 : ws57[14]? = some ((q29, Sum.inl (cF, 4096, Sum.inr (Sum.inr (Sum.inr (Sum.inr (fun _ => none)))))) : Nat × va_E) := by rw [e_ws57]; exact gs_ne (by decide) f_14_ws54
                            clear f_14_ws54
                            have f_14_ws59 : ws59[14]? = some ((q29, Sum.inl (cF, 4096, Sum.inr (Sum.inr (Sum.inr (Sum.inr (fun _ => none)))))) : Nat × va_E) := by rw [e_ws59]; exact gs_app f_14_ws57
                            clear f_14_ws57
                            have f_14_ws62 : ws62[14]? = some ((q29, Sum.inl (cF, 4096, Sum.inr (Sum.inr (Sum.inr (Sum.inr (fun _ => none)))))) : Nat × va_E) := by rw [e_ws62]; exact gs_ne (by decide) f_14_ws59
                            clear f_14_ws59
                            have f_14_ws64 : ws64[14]? = some ((q29, Sum.inl (cF, 4096, Sum.inr (Sum.inr (Sum.inr (Sum.inr (fun _ => none)))))) : Nat × va_E) := by rw [e_ws64]; exact gs_app f_14_ws62
                            clear f_14_ws62
                            have f_14_ws65 : ws65[14]? = some ((q29, Sum.inl (cF, 4096, Sum.inr (Sum.inr (Sum.inr (Sum.inr (fun _ => none)))))) : Nat × va_E) := by rw [e_ws65]; exact gs_ne (by decide) f_14_ws64
                            clear f_14_ws64
                            have f_14_ws67 : ws67[14]? = some ((q29, Sum.inl (cF, 4096, Sum.inr (Sum.inr (Sum.inr (Sum.inr (fun _ => none)))))) : Nat × va_E) := by rw [e_ws67]; exact gs_app f_14_ws65
                            clear f_14_ws65
                            have f_14_ws69 : ws69[14]? = some ((q29, Sum.inl (cF, 4096, Sum.inr (Sum.inr (Sum.inr (Sum.inr (fun _ => none)))))) : Nat × va_E) := e_ws69.at (by first | decide | (simp; done) | (simp; omega)) f_14_ws67
                            clear f_14_ws67
                            have f_14_ws74 : ws74[14]? = some ((q29, Sum.inl (cF, 4096, Sum.inr (Sum.inr (Sum.inr (Sum.inr (fun _ => none)))))) : Nat × va_E) := by rw [e_ws74]; exact gs_ne (by decide) f_14_ws69
                            clear f_14_ws69
                            have f_14_ws76 : ws76[14]? = some ((q29, Sum.inl (cF, 4096, Sum.inr (Sum.inr (Sum.inr (Sum.inr (fun _ => none)))))) : Nat × va_E) := by rw [e_ws76]; exact gs_app f_14_ws74
                            clear f_14_ws74
                            have f_14_ws78 : ws78[14]? = some ((q29, Sum.inl (cF, 4096, Sum.inr (Sum.inr (Sum.inr (Sum.inr (fun _ => none)))))) : Nat × va_E) := e_ws78.at (by first | decide | (simp; done) | (simp; omega)) f_14_ws76
                            clear f_14_ws76
                            have f_14_ws83 : ws83[14]? = some ((q29, Sum.inl (cF, 4096, Sum.inr (Sum.inr (Sum.inr (Sum.inr (fun _ => none)))))) : Nat × va_E) := by rw [e_ws83]; exact gs_ne (by decide) f_14_ws78
                            clear f_14_ws78
                            have f_14_ws85 : ws85[14]? = some ((q29, Sum.inl (cF, 4096, Sum.inr (Sum.inr (Sum.inr (Sum.inr (fun _ => none)))))) : Nat × va_E) := by rw [e_ws85]; exact gs_app f_14_ws83
                            clear f_14_ws83
                            have f_14_ws87 : ws87[14]? = some ((q29, Sum.inl (cF, 4096, Sum.inr (Sum.inr (Sum.inr (Sum.inr (fun _ => none)))))) : Nat × va_E) := e_ws87.at (by first | decide | (simp; done) | (simp; omega)) f_14_ws85
                            clear f_14_ws85
                            have f_14_ws92 : ws92[14]? = some ((q29, Sum.inl (cF, 4096, Sum.inr (Sum.inr (Sum.inr (Sum.inr (fun _ => none)))))) : Nat × va_E) := by rw [e_ws92]; exact gs_ne (by decide) f_14_ws87
                            clear f_14_ws87
                            have f_14_ws94 : ws94[14]? = some ((q29, Sum.inl (cF, 4096, Sum.inr (Sum.inr (Sum.inr (Sum.inr (fun _ => none)))))) : Nat × va_E) := by rw [e_ws94]; exact gs_app f_14_ws92
                            clear f_14_ws92
                            have f_14_ws96 : ws96[14]? = some ((q29, Sum.inl (cF, 4096, Sum.inr (Sum.inr (Sum.inr (Sum.inr (fun _ => none)))))) : Nat × va_E) := e_ws96.at (by first | decide | (simp; done) | (simp; omega)) f_14_ws94
                            clear f_14_ws94
                            have f_14_ws101 : ws101[14]? = some ((q29, Sum.inl (cF, 4096, Sum.inr (Sum.inr (Sum.inr (Sum.inr (fun _ => none)))))) : Nat × va_E) := by rw [e_ws101]; exact gs_ne (by decide) f_14_ws96
                            clear f_14_ws96
                            have f_14_ws102 : ws102[14]? = some ((q29, Sum.inl (cF, 4096, Sum.inr (Sum.inr (Sum.inr (Sum.inr (fun _ => none)))))) : Nat × va_E) := by rw [e_ws102]; exact gs_ne (by decide) f_14_ws101
                            clear f_14_ws101
                            have f_14_ws103 : ws103[14]? = some ((q29, Sum.inl (cF, 4096, Sum.inr (Sum.inr (Sum.inr (Sum.inr (fun _ => none)))))) : Nat × va_E) := by rw [e_ws103]; exact gs_ne (by decide) f_14_ws102
                            clear f_14_ws102
                            have f_14_ws104 : ws104[14]? = some ((q29, Sum.inl (cF, 4096, Sum.inr (Sum.inr (Sum.inr (Sum.inr (fun _ => none)))))) : Nat × va_E) := by rw [e_ws104]; exact gs_ne (by decide) f_14_ws103
                            clear f_14_ws103
                            have f_15_ws31 : ws31[15]? = some ((q30, Sum.inl (cZ, 4096, Sum.inl (fun _ => 0))) : Nat × va_E) := by rw [e_ws31]; exact gs_ne (by decide) f_15_ws27
                            clear f_15_ws27
                            have f_15_ws33 : ws33[15]? = some ((q30, Sum.inl (cZ, 4096, Sum.inl (fun _ => 0))) : Nat × va_E) := by rw [e_ws33]; exact gs_app f_15_ws31
                            clear f_15_ws31
                            have f_15_ws35 : ws35[15]? = some ((q30, Sum.inl (cZ, 4096, Sum.inl (fun _ => 0))) : Nat × va_E) := e_ws35.at (by first | decide | (simp; done) | (simp; omega)) f_15_ws33
                            clear f_15_ws33
                            have f_15_ws39 : ws39[15]? = some ((q30, Sum.inl (cZ, 4096, Sum.inl (fun _ => 0))) : Nat × va_E) := by rw [e_ws39]; exact gs_ne (by decide) f_15_ws35
                            clear f_15_ws35
                            have f_15_ws41 : ws41[15]? = some ((q30, Sum.inl (cZ, 4096, Sum.inl (fun _ => 0))) : Nat × va_E) := by rw [e_ws41]; exact gs_app f_15_ws39
                            clear f_15_ws39
                            have f_15_ws42 : ws42[15]? = some ((q30, Sum.inl (cZ, 4096, Sum.inl (fun _ => 0))) : Nat × va_E) := by rw [e_ws42]; exact gs_ne (by decide) f_15_ws41
                            clear f_15_ws41
                            have f_15_ws44 : ws44[15]? = some ((q30, Sum.inl (cZ, 4096, Sum.inl (fun _ => 0))) : Nat × va_E) := by rw [e_ws44]; exact gs_app f_15_ws42
                            clear f_15_ws42
                            have f_15_ws47 : ws47[15]? = some ((q30, Sum.inl (cZ, 4096, Sum.inl (fun _ => 0))) : Nat × va_E) := by rw [e_ws47]; exact gs_ne (by decide) f_15_ws44
                            clear f_15_ws44
                            have f_15_ws49 : ws49[15]? = some ((q30, Sum.inl (cZ, 4096, Sum.inl (fun _ => 0))) : Nat × va_E) := by rw [e_ws49]; exact gs_app f_15_ws47
                            clear f_15_ws47
                            have f_15_ws52 : ws52[15]? = some ((q30, Sum.inl (cZ, 4096, Sum.inl (fun _ => 0))) : Nat × va_E) := by rw [e_ws52]; exact gs_ne (by decide) f_15_ws49
                            clear f_15_ws49
                            have f_15_ws54 : ws54[15]? = some ((q30, Sum.inl (cZ, 4096, Sum.inl (fun _ => 0))) : Nat × va_E) := by rw [e_ws54]; exact gs_app f_15_ws52
                            clear f_15_ws52
                            have f_15_ws57 : ws57[15]? = some ((q30, Sum.inl (cZ, 4096, Sum.inl (fun _ => 0))) : Nat × va_E) := by rw [e_ws57]; exact gs_ne (by decide) f_15_ws54
                            clear f_15_ws54
                            have f_15_ws59 : ws59[15]? = some ((q30, Sum.inl (cZ, 4096, Sum.inl (fun _ => 0))) : Nat × va_E) := by rw [e_ws59]; exact gs_app f_15_ws57
                            clear f_15_ws57
                            have f_15_ws62 : ws62[15]? = some ((q30, Sum.inl (cZ, 4096, Sum.inl (fun _ => 0))) : Nat × va_E) := by rw [e_ws62]; exact gs_ne (by decide) f_15_ws59
                            clear f_15_ws59
                            have f_15_ws64 : ws64[15]? = some ((q30, Sum.inl (cZ, 4096, Sum.inl (fun _ => 0))) : Nat × va_E) := by rw [e_ws64]; exact gs_app f_15_ws62
                            clear f_15_ws62
                            have f_15_ws65 : ws65[15]? = some ((q30, Sum.inl (cZ, 4096, Sum.inl (fun _ => 0))) : Nat × va_E) := by rw [e_ws65]; exact gs_ne (by decide) f_15_ws64
                            clear f_15_ws64
                            have f_15_ws67 : ws67[15]? = some ((q30, Sum.inl (cZ, 4096, Sum.inl (fun _ => 0))) : Nat × va_E) := by rw [e_ws67]; exact gs_app f_15_ws65
                            clear f_15_ws65
                            have f_15_ws69 : ws69[15]? = some ((q30, Sum.inl (cZ, 4096, Sum.inl (fun _ => 0))) : Nat × va_E) := e_ws69.at (by first | decide | (simp; done) | (simp; omega)) f_15_ws67
                            clear f_15_ws67
                            have f_15_ws74 : ws74[15]? = some ((q30, Sum.inl (cZ, 4096, Sum.inl (fun _ => 0))) : Nat × va_E) := by rw [e_ws74]; exact gs_ne (by decide) f_15_ws69
                            clear f_15_ws69
                            have f_15_ws76 : ws76[15]? = some ((q30, Sum.inl (cZ, 4096, Sum.inl (fun _ => 0))) : Nat × va_E) := by rw [e_ws76]; exact gs_app f_15_ws74
                            clear f_15_ws74
                            have f_15_ws78 : ws78[15]? = some ((q30, Sum.inl (cZ, 4096, Sum.inl (fun _ => 0))) : Nat × va_E) := e_ws78.at (by first | decide | (simp; done) | (simp; omega)) f_15_ws76
                            clear f_15_ws76
                            have f_15_ws83 : ws83[15]? = some ((q30, Sum.inl (cZ, 4096, Sum.inl (fun _ => 0))) : Nat × va_E) := by rw [e_ws83]; exact gs_ne (by decide) f_15_ws78
                            clear f_15_ws78
                            have f_15_ws85 : ws85[15]? = some ((q30, Sum.inl (cZ, 4096, Sum.inl (fun _ => 0))) : Nat × va_E) := by rw [e_ws85]; exact gs_app f_15_ws83
                            clear f_15_ws83
                            have f_15_ws87 : ws87[15]? = some ((q30, Sum.inl (cZ, 4096, Sum.inl (fun _ => 0))) : Nat × va_E) := e_ws87.at (by first | decide | (simp; done) | (simp; omega)) f_15_ws85
                            clear f_15_ws85
                            have f_15_ws92 : ws92[15]? = some ((q30, Sum.inl (cZ, 4096, Sum.inl (fun _ => 0))) : Nat × va_E) := by rw [e_ws92]; exact gs_ne (by decide) f_15_ws87
                            clear f_15_ws87
                            have f_15_ws94 : ws94[15]? = some ((q30, Sum.inl (cZ, 4096, Sum.inl (fun _ => 0))) : Nat × va_E) := by rw [e_ws94]; exact gs_app f_15_ws92
                            clear f_15_ws92
                            have f_15_ws96 : ws96[15]? = some ((q30, Sum.inl (cZ, 4096, Sum.inl (fun _ => 0))) : Nat × va_E) := e_ws96.at (by first | decide | (simp; done) | (simp; omega)) f_15_ws94
                            clear f_15_ws94
                            have f_15_ws101 : ws101[15]? = some ((q30, Sum.inl (cZ, 4096, Sum.inl (fun _ => 0))) : Nat × va_E) := by rw [e_ws101]; exact gs_ne (by decide) f_15_ws96
                            clear f_15_ws96
                            have f_15_ws102 : ws102[15]? = some ((q30, Sum.inl (cZ, 4096, Sum.inl (fun _ => 0))) : Nat × va_E) := by rw [e_ws102]; exact gs_ne (by decide) f_15_ws101
                            clear f_15_ws101
                            have f_15_ws103 : ws103[15]? = some ((q30, Sum.inl (cZ, 4096, Sum.inl (fun _ => 0))) : Nat × va_E) := by rw [e_ws103]; exact gs_ne (by decide) f_15_ws102
                            clear f_15_ws102
                            have f_15_ws104 : ws104[15]? = some ((q30, Sum.inl (cZ, 4096, Sum.inl (fun _ => 0))) : Nat × va_E) := by rw [e_ws104]; exact gs_ne (by decide) f_15_ws103
                            clear f_15_ws103
                            have f_16_ws39 : ws39[16]? = some ((q32, Sum.inr (4, [Value.ref q36, Value.ref q37, Value.ref q38, Value.null, Value.int 0, Value.int 0])) : Nat × va_E) := by rw [e_ws39]; exact gs_ne (by decide) f_16_ws35
                            clear f_16_ws35
                            have f_16_ws41 : ws41[16]? = some ((q32, Sum.inr (4, [Value.ref q36, Value.ref q37, Value.ref q38, Value.null, Value.int 0, Value.int 0])) : Nat × va_E) := by rw [e_ws41]; exact gs_app f_16_ws39
                            clear f_16_ws39
                            have f_16_ws42 : ws42[16]? = some ((q32, Sum.inr (4, [Value.ref q36, Value.ref q37, Value.ref q38, Value.null, Value.int 0, Value.int 0])) : Nat × va_E) := by rw [e_ws42]; exact gs_ne (by decide) f_16_ws41
                            clear f_16_ws41
                            have f_16_ws44 : ws44[16]? = some ((q32, Sum.inr (4, [Value.ref q36, Value.ref q37, Value.ref q38, Value.null, Value.int 0, Value.int 0])) : Nat × va_E) := by rw [e_ws44]; exact gs_app f_16_ws42
                            clear f_16_ws42
                            have f_16_ws47 : ws47[16]? = some ((q32, Sum.inr (4, [Value.ref q36, Value.ref q37, Value.ref q38, Value.null, Value.int 0, Value.int 0])) : Nat × va_E) := by rw [e_ws47]; exact gs_ne (by decide) f_16_ws44
                            clear f_16_ws44
                            have f_16_ws49 : ws49[16]? = some ((q32, Sum.inr (4, [Value.ref q36, Value.ref q37, Value.ref q38, Value.null, Value.int 0, Value.int 0])) : Nat × va_E) := by rw [e_ws49]; exact gs_app f_16_ws47
                            clear f_16_ws47
                            have f_16_ws52 : ws52[16]? = some ((q32, Sum.inr (4, [Value.ref q36, Value.ref q37, Value.ref q38, Value.null, Value.int 0, Value.int 0])) : Nat × va_E) := by rw [e_ws52]; exact gs_ne (by decide) f_16_ws49
                            clear f_16_ws49
                            have f_16_ws54 : ws54[16]? = some ((q32, Sum.inr (4, [Value.ref q36, Value.ref q37, Value.ref q38, Value.null, Value.int 0, Value.int 0])) : Nat × va_E) := by rw [e_ws54]; exact gs_app f_16_ws52
                            clear f_16_ws52
                            have f_16_ws57 : ws57[16]? = some ((q32, Sum.inr (4, [Value.ref q36, Value.ref q37, Value.ref q38, Value.null, Value.int 0, Value.int 0])) : Nat × va_E) := by rw [e_ws57]; exact gs_ne (by decide) f_16_ws54
                            clear f_16_ws54
                            have f_16_ws59 : ws59[16]? = some ((q32, Sum.inr (4, [Value.ref q36, Value.ref q37, Value.ref q38, Value.null, Value.int 0, Value.int 0])) : Nat × va_E) := by rw [e_ws59]; exact gs_app f_16_ws57
                            clear f_16_ws57
                            have f_16_ws62 : ws62[16]? = some ((q32, Sum.inr (4, [Value.ref q36, Value.ref q37, Value.ref q38, Value.null, Value.int 0, Value.int 0])) : Nat × va_E) := by rw [e_ws62]; exact gs_ne (by decide) f_16_ws59
                            clear f_16_ws59
                            have f_16_ws64 : ws64[16]? = some ((q32, Sum.inr (4, [Value.ref q36, Value.ref q37, Value.ref q38, Value.null, Value.int 0, Value.int 0])) : Nat × va_E) := by rw [e_ws64]; exact gs_app f_16_ws62
                            clear f_16_ws62
                            have f_16_ws65 : ws65[16]? = some ((q32, Sum.inr (4, [Value.ref q36, Value.ref q37, Value.ref q38, Value.null, Value.int 0, Value.int 0])) : Nat × va_E) := by rw [e_ws65]; exact gs_ne (by decide) f_16_ws64
                            clear f_16_ws64
                            have f_16_ws67 : ws67[16]? = some ((q32, Sum.inr (4, [Value.ref q36, Value.ref q37, Value.ref q38, Value.null, Value.int 0, Value.int 0])) : Nat × va_E) := by rw [e_ws67]; exact gs_app f_16_ws65
                            clear f_16_ws65
                            have f_16_ws69 : ws69[16]? = some ((q32, Sum.inr (4, [Value.ref q36, Value.ref q37, Value.ref q38, Value.null, Value.int 0, Value.int 0])) : Nat × va_E) := e_ws69.at (by first | decide | (simp; done) | (simp; omega)) f_16_ws67
                            clear f_16_ws67
                            have f_16_ws74 : ws74[16]? = some ((q32, Sum.inr (4, [Value.ref q36, Value.ref q37, Value.ref q38, Value.null, Value.int 0, Value.int 0])) : Nat × va_E) := by rw [e_ws74]; exact gs_ne (by decide) f_16_ws69
                            clear f_16_ws69
                            have f_16_ws76 : ws76[16]? = some ((q32, Sum.inr (4, [Value.ref q36, Value.ref q37, Value.ref q38, Value.null, Value.int 0, Value.int 0])) : Nat × va_E) := by rw [e_ws76]; exact gs_app f_16_ws74
                            clear f_16_ws74
                            have f_16_ws78 : ws78[16]? = some ((q32, Sum.inr (4, [Value.ref q36, Value.ref q37, Value.ref q38, Value.null, Value.int 0, Value.int 0])) : Nat × va_E) := e_ws78.at (by first | decide | (simp; done) | (simp; omega)) f_16_ws76
                            clear f_16_ws76
                            have f_16_ws83 : ws83[16]? = some ((q32, Sum.inr (4, [Value.ref q36, Value.ref q37, Value.ref q38, Value.null, Value.int 0, Value.int 0])) : Nat × va_E) := by rw [e_ws83]; exact gs_ne (by decide) f_16_ws78
                            clear f_16_ws78
                            have f_16_ws85 : ws85[16]? = some ((q32, Sum.inr (4, [Value.ref q36, Value.ref q37, Value.ref q38, Value.null, Value.int 0, Value.int 0])) : Nat × va_E) := by rw [e_ws85]; exact gs_app f_16_ws83
                            clear f_16_ws83
                            have f_16_ws87 : ws87[16]? = some ((q32, Sum.inr (4, [Value.ref q36, Value.ref q37, Value.ref q38, Value.null, Value.int 0, Value.int 0])) : Nat × va_E) := e_ws87.at (by first | decide | (simp; done) | (simp; omega)) f_16_ws85
                            clear f_16_ws85
                            have f_16_ws92 : ws92[16]? = some ((q32, Sum.inr (4, [Value.ref q36, Value.ref q37, Value.ref q38, Value.null, Value.int 0, Value.int 0])) : Nat × va_E) := by rw [e_ws92]; exact gs_ne (by decide) f_16_ws87
                            clear f_16_ws87
                            have f_16_ws94 : ws94[16]? = some ((q32, Sum.inr (4, [Value.ref q36, Value.ref q37, Value.ref q38, Value.null, Value.int 0, Value.int 0])) : Nat × va_E) := by rw [e_ws94]; exact gs_app f_16_ws92
                            clear f_16_ws92
                            have f_16_ws96 : ws96[16]? = some ((q32, Sum.inr (4, [Value.ref q36, Value.ref q37, Value.ref q38, Value.null, Value.int 0, Value.int 0])) : Nat × va_E) := e_ws96.at (by first | decide | (simp; done) | (simp; omega)) f_16_ws94
                            clear f_16_ws94
                            have f_16_ws101 : ws101[16]? = some ((q32, Sum.inr (4, [Value.ref q36, Value.ref q37, Value.ref q38, Value.null, Value.int 0, Value.int 0])) : Nat × va_E) := by rw [e_ws101]; exact gs_ne (by decide) f_16_ws96
                            clear f_16_ws96
                            have f_16_ws102 : ws102[16]? = some ((q32, Sum.inr (4, [Value.ref q36, Value.ref q37, Value.ref q38, Value.null, Value.int 0, Value.int 0])) : Nat × va_E) := by rw [e_ws102]; exact gs_ne (by decide) f_16_ws101
                            clear f_16_ws101
                            have f_16_ws103 : ws103[16]? = some ((q32, Sum.inr (4, [Value.ref q36, Value.ref q37, Value.ref q38, Value.null, Value.int 0, Value.int 0])) : Nat × va_E) := by rw [e_ws103]; exact gs_ne (by decide) f_16_ws102
                            clear f_16_ws102
                            have f_16_ws104 : ws104[16]? = some ((q32, Sum.inr (4, [Value.ref q36, Value.ref q37, Value.ref q38, Value.null, Value.int 0, Value.int 0])) : Nat × va_E) := by rw [e_ws104]; exact gs_ne (by decide) f_16_ws103
                            clear f_16_ws103
                            have f_17_ws39 : ws39[17]? = some ((q36, Sum.inl (cF, 4096, Sum.inr (Sum.inr (Sum.inr (Sum.inr (fun _ => none)))))) : Nat × va_E) := by rw [e_ws39]; exact gs_ne (by decide) f_17_ws35
                            clear f_17_ws35
                            have f_17_ws41 : ws41[17]? = some ((q36, Sum.inl (cF, 4096, Sum.inr (Sum.inr (Sum.inr (Sum.inr (fun _ => none)))))) : Nat × va_E) := by rw [e_ws41]; exact gs_app f_17_ws39
                            clear f_17_ws39
                            have f_17_ws42 : ws42[17]? = some ((q36, Sum.inl (cF, 4096, Sum.inr (Sum.inr (Sum.inr (Sum.inr (fun _ => none)))))) : Nat × va_E) := by rw [e_ws42]; exact gs_ne (by decide) f_17_ws41
                            clear f_17_ws41
                            have f_17_ws44 : ws44[17]? = some ((q36, Sum.inl (cF, 4096, Sum.inr (Sum.inr (Sum.inr (Sum.inr (fun _ => none)))))) : Nat × va_E) := by rw [e_ws44]; exact gs_app f_17_ws42
                            clear f_17_ws42
                            have f_17_ws47 : ws47[17]? = some ((q36, Sum.inl (cF, 4096, Sum.inr (Sum.inr (Sum.inr (Sum.inr (fun _ => none)))))) : Nat × va_E) := by rw [e_ws47]; exact gs_ne (by decide) f_17_ws44
                            clear f_17_ws44
                            have f_17_ws49 : ws49[17]? = some ((q36, Sum.inl (cF, 4096, Sum.inr (Sum.inr (Sum.inr (Sum.inr (fun _ => none)))))) : Nat × va_E) := by rw [e_ws49]; exact gs_app f_17_ws47
                            clear f_17_ws47
                            have f_17_ws52 : ws52[17]? = some ((q36, Sum.inl (cF, 4096, Sum.inr (Sum.inr (Sum.inr (Sum.inr (fun _ => none)))))) : Nat × va_E) := by rw [e_ws52]; exact gs_ne (by decide) f_17_ws49
                            clear f_17_ws49
                            have f_17_ws54 : ws54[17]? = some ((q36, Sum.inl (cF, 4096, Sum.inr (Sum.inr (Sum.inr (Sum.inr (fun _ => none)))))) : Nat × va_E) := by rw [e_ws54]; exact gs_app f_17_ws52
                            clear f_17_ws52
                            have f_17_ws57 : ws57[17]? = some ((q36, Sum.inl (cF, 4096, Sum.inr (Sum.inr (Sum.inr (Sum.inr (fun _ => none)))))) : Nat × va_E) := by rw [e_ws57]; exact gs_ne (by decide) f_17_ws54
                            clear f_17_ws54
                            have f_17_ws59 : ws59[17]? = some ((q36, Sum.inl (cF, 4096, Sum.inr (Sum.inr (Sum.inr (Sum.inr (fun _ => none)))))) : Nat × va_E) := by rw [e_ws59]; exact gs_app f_17_ws57
                            clear f_17_ws57
                            have f_17_ws62 : ws62[17]? = some ((q36, Sum.inl (cF, 4096, Sum.inr (Sum.inr (Sum.inr (Sum.inr (fun _ => none)))))) : Nat × va_E) := by rw [e_ws62]; exact gs_ne (by decide) f_17_ws59
                            clear f_17_ws59
                            have f_17_ws64 : ws64[17]? = some ((q36, Sum.inl (cF, 4096, Sum.inr (Sum.inr (Sum.inr (Sum.inr (fun _ => none)))))) : Nat × va_E) := by rw [e_ws64]; exact gs_app f_17_ws62
                            clear f_17_ws62
                            have f_17_ws65 : ws65[17]? = some ((q36, Sum.inl (cF, 4096, Sum.inr (Sum.inr (Sum.inr (Sum.inr (fun _ => none)))))) : Nat × va_E) := by rw [e_ws65]; exact gs_ne (by decide) f_17_ws64
                            clear f_17_ws64
                            have f_17_ws67 : ws67[17]? = some ((q36, Sum.inl (cF, 4096, Sum.inr (Sum.inr (Sum.inr (Sum.inr (fun _ => none)))))) : Nat × va_E) := by rw [e_ws67]; exact gs_app f_17_ws65
                            clear f_17_ws65
                            have f_17_ws69 : ws69[17]? = some ((q36, Sum.inl (cF, 4096, Sum.inr (Sum.inr (Sum.inr (Sum.inr (fun _ => none)))))) : Nat × va_E) := e_ws69.at (by first | decide | (simp; done) | (simp; omega)) f_17_ws67
                            clear f_17_ws67
                            have f_17_ws74 : ws74[17]? = some ((q36, Sum.inl (cF, 4096, Sum.inr (Sum.inr (Sum.inr (Sum.inr (fun _ => none)))))) : Nat × va_E) := by rw [e_ws74]; exact gs_ne (by decide) f_17_ws69
                            clear f_17_ws69
                            have f_17_ws76 : ws76[17]? = some ((q36, Sum.inl (cF, 4096, Sum.inr (Sum.inr (Sum.inr (Sum.inr (fun _ => none)))))) : Nat × va_E) := by rw [e_ws76]; exact gs_app f_17_ws74
                            clear f_17_ws74
                            have f_17_ws78 : ws78[17]? = some ((q36, Sum.inl (cF, 4096, Sum.inr (Sum.inr (Sum.inr (Sum.inr (fun _ => none)))))) : Nat × va_E) := e_ws78.at (by first | decide | (simp; done) | (simp; omega)) f_17_ws76
                            clear f_17_ws76
                            have f_17_ws83 : ws83[17]? = some ((q36, Sum.inl (cF, 4096, Sum.inr (Sum.inr (Sum.inr (Sum.inr (fun _ => none)))))) : Nat × va_E) := by rw [e_ws83]; exact gs_ne (by decide) f_17_ws78
                            clear f_17_ws78
                            have f_17_ws85 : ws85[17]? = some ((q36, Sum.inl (cF, 4096, Sum.inr (Sum.inr (Sum.inr (Sum.inr (fun _ => none)))))) : Nat × va_E) := by rw [e_ws85]; exact gs_app f_17_ws83
                            clear f_17_ws83
                            have f_17_ws87 : ws87[17]? = some ((q36, Sum.inl (cF, 4096, Sum.inr (Sum.inr (Sum.inr (Sum.inr (fun _ => none)))))) : Nat × va_E) := e_ws87.at (by first | decide | (simp; done) | (simp; omega)) f_17_ws85
                            clear f_17_ws85
                            have f_17_ws92 : ws92[17]? = some ((q36, Sum.inl (cF, 4096, Sum.inr (Sum.inr (Sum.inr (Sum.inr (fun _ => none)))))) : Nat × va_E) := by rw [e_ws92]; exact gs_ne (by decide) f_17_ws87
                            clear f_17_ws87
                            have f_17_ws94 : ws94[17]? = some ((q36, Sum.inl (cF, 4096, Sum.inr (Sum.inr (Sum.inr (Sum.inr (fun _ => none)))))) : Nat × va_E) := by rw [e_ws94]; exact gs_app f_17_ws92
                            clear f_17_ws92
                            have f_17_ws96 : ws96[17]? = some ((q36, Sum.inl (cF, 4096, Sum.inr (Sum.inr (Sum.inr (Sum.inr (fun _ => none)))))) : Nat × va_E) := e_ws96.at (by first | decide | (simp; done) | (simp; omega)) f_17_ws94
                            clear f_17_ws94
                            have f_17_ws101 : ws101[17]? = some ((q36, Sum.inl (cF, 4096, Sum.inr (Sum.inr (Sum.inr (Sum.inr (fun _ => none)))))) : Nat × va_E) := by rw [e_ws101]; exact gs_ne (by decide) f_17_ws96
                            clear f_17_ws96
                            have f_17_ws102 : ws102[17]? = some ((q36, Sum.inl (cF, 4096, Sum.inr (Sum.inr (Sum.inr (Sum.inr (fun _ => none)))))) : Nat × va_E) := by rw [e_ws102]; exact gs_ne (by decide) f_17_ws101
                            clear f_17_ws101
                            have f_17_ws103 : ws103[17]? = some ((q36, Sum.inl (cF, 4096, Sum.inr (Sum.inr (Sum.inr (Sum.inr (fun _ => none)))))) : Nat × va_E) := by rw [e_ws103]; exact gs_ne (by decide) f_17_ws102
                            clear f_17_ws102
                            have f_17_ws104 : ws104[17]? = some ((q36, Sum.inl (cF, 4096, Sum.inr (Sum.inr (Sum.inr (Sum.inr (fun _ => none)))))) : Nat × va_E) := by rw [e_ws104]; exact gs_ne (by decide) f_17_ws103
                            clear f_17_ws103
                            have f_18_ws39 : ws39[18]? = some ((q37, Sum.inl (cF, 4096, Sum.inr (Sum.inr (Sum.inr (Sum.inr (fun _ => none)))))) : Nat × va_E) := by rw [e_ws39]; exact gs_ne (by decide) f_18_ws35
                            clear f_18_ws35
                            have f_18_ws41 : ws41[18]? = some ((q37, Sum.inl (cF, 4096, Sum.inr (Sum.inr (Sum.inr (Sum.inr (fun _ => none)))))) : Nat × va_E) := by rw [e_ws41]; exact gs_app f_18_ws39
                            clear f_18_ws39
                            have f_18_ws42 : ws42[18]? = some ((q37, Sum.inl (cF, 4096, Sum.inr (Sum.inr (Sum.inr (Sum.inr (fun _ => none)))))) : Nat × va_E) := by rw [e_ws42]; exact gs_ne (by decide) f_18_ws41
                            clear f_18_ws41
                            have f_18_ws44 : ws44[18]? = some ((q37, Sum.inl (cF, 4096, Sum.inr (Sum.inr (Sum.inr (Sum.inr (fun _ => none)))))) : Nat × va_E) := by rw [e_ws44]; exact gs_app f_18_ws42
                            clear f_18_ws42
                            have f_18_ws47 : ws47[18]? = some ((q37, Sum.inl (cF, 4096, Sum.inr (Sum.inr (Sum.inr (Sum.inr (fun _ => none)))))) : Nat × va_E) := by rw [e_ws47]; exact gs_ne (by decide) f_18_ws44
                            clear f_18_ws44
                            have f_18_ws49 : ws49[18]? = some ((q37, Sum.inl (cF, 4096, Sum.inr (Sum.inr (Sum.inr (Sum.inr (fun _ => none)))))) : Nat × va_E) := by rw [e_ws49]; exact gs_app f_18_ws47
                            clear f_18_ws47
                            have f_18_ws52 : ws52[18]? = some ((q37, Sum.inl (cF, 4096, Sum.inr (Sum.inr (Sum.inr (Sum.inr (fun _ => none)))))) : Nat × va_E) := by rw [e_ws52]; exact gs_ne (by decide) f_18_ws49
                            clear f_18_ws49
                            have f_18_ws54 : ws54[18]? = some ((q37, Sum.inl (cF, 4096, Sum.inr (Sum.inr (Sum.inr (Sum.inr (fun _ => none)))))) : Nat × va_E) := by rw [e_ws54]; exact gs_app f_18_ws52
                            clear f_18_ws52
                            have f_18_ws57 : ws57[18]? = some ((q37, Sum.inl (cF, 4096, Sum.inr (Sum.inr (Sum.inr (Sum.inr (fun _ => none)))))) : Nat × va_E) := by rw [e_ws57]; exact gs_ne (by decide) f_18_ws54
                            clear f_18_ws54
                            have f_18_ws59 : ws59[18]? = some ((q37, Sum.inl (cF, 4096, Sum.inr (Sum.inr (Sum.inr (Sum.inr (fun _ => none)))))) : Nat × va_E) := by rw [e_ws59]; exact gs_app f_18_ws57
                            clear f_18_ws57
                            have f_18_ws62 : ws62[18]? = some ((q37, Sum.inl (cF, 4096, Sum.inr (Sum.inr (Sum.inr (Sum.inr (fun _ => none)))))) : Nat × va_E) := by rw [e_ws62]; exact gs_ne (by decide) f_18_ws59
                            clear f_18_ws59
                            have f_18_ws64 : ws64[18]? = some ((q37, Sum.inl (cF, 4096, Sum.inr (Sum.inr (Sum.inr (Sum.inr (fun _ => none)))))) : Nat × va_E) := by rw [e_ws64]; exact gs_app f_18_ws62
                            clear f_18_ws62
                            have f_18_ws65 : ws65[18]? = some ((q37, Sum.inl (cF, 4096, Sum.inr (Sum.inr (Sum.inr (Sum.inr (fun _ => none)))))) : Nat × va_E) := by rw [e_ws65]; exact gs_ne (by decide) f_18_ws64
                            clear f_18_ws64
                            have f_18_ws67 : ws67[18]? = some ((q37, Sum.inl (cF, 4096, Sum.inr (Sum.inr (Sum.inr (Sum.inr (fun _ => none)))))) : Nat × va_E) := by rw [e_ws67]; exact gs_app f_18_ws65
                            clear f_18_ws65
                            have f_18_ws69 : ws69[18]? = some ((q37, Sum.inl (cF, 4096, Sum.inr (Sum.inr (Sum.inr (Sum.inr (fun _ => none)))))) : Nat × va_E) := e_ws69.at (by first | decide | (simp; done) | (simp; omega)) f_18_ws67
                            clear f_18_ws67
                            have f_18_ws74 : ws74[18]? = some ((q37, Sum.inl (cF, 4096, Sum.inr (Sum.inr (Sum.inr (Sum.inr (fun _ => none)))))) : Nat × va_E) := by rw [e_ws74]; exact gs_ne (by decide) f_18_ws69
                            clear f_18_ws69
                            have f_18_ws76 : ws76[18]? = some ((q37, Sum.inl (cF, 4096, Sum.inr (Sum.inr (Sum.inr (Sum.inr (fun _ => none)))))) : Nat × va_E) := by rw [e_ws76]; exact gs_app f_18_ws74
                            clear f_18_ws74
                            have f_18_ws78 : ws78[18]? = some ((q37, Sum.inl (cF, 4096, Sum.inr (Sum.inr (Sum.inr (Sum.inr (fun _ => none)))))) : Nat × va_E) := e_ws78.at (by first | decide | (simp; done) | (simp; omega)) f_18_ws76
                            clear f_18_ws76
                            have f_18_ws83 : ws83[18]? = some ((q37, Sum.inl (cF, 4096, Sum.inr (Sum.inr (Sum.inr (Sum.inr (fun _ => none)))))) : Nat × va_E) := by rw [e_ws83]; exact gs_ne (by decide) f_18_ws78
                            clear f_18_ws78
                            have f_18_ws85 : ws85[18]? = some ((q37, Sum.inl (cF, 4096, Sum.inr (Sum.inr (Sum.inr (Sum.inr (fun _ => none)))))) : Nat × va_E) := by rw [e_ws85]; exact gs_app f_18_ws83
                            clear f_18_ws83
                            have f_18_ws87 : ws87[18]? = some ((q37, Sum.inl (cF, 4096, Sum.inr (Sum.inr (Sum.inr (Sum.inr (fun _ => none)))))) : Nat × va_E) := e_ws87.at (by first | decide | (simp; done) | (simp; omega)) f_18_ws85
                            clear f_18_ws85
                            have f_18_ws92 : ws92[18]? = some ((q37, Sum.inl (cF, 4096, Sum.inr (Sum.inr (Sum.inr (Sum.inr (fun _ => none)))))) : Nat × va_E) := by rw [e_ws92]; exact gs_ne (by decide) f_18_ws87
                            clear f_18_ws87
                            have f_18_ws94 : ws94[18]? = some ((q37, Sum.inl (cF, 4096, Sum.inr (Sum.inr (Sum.inr (Sum.inr (fun _ => none)))))) : Nat × va_E) := by rw [e_ws94]; exact gs_app f_18_ws92
                            clear f_18_ws92
                            have f_18_ws96 : ws96[18]? = some ((q37, Sum.inl (cF, 4096, Sum.inr (Sum.inr (Sum.inr (Sum.inr (fun _ => none)))))) : Nat × va_E) := e_ws96.at (by first | decide | (simp; done) | (simp; omega)) f_18_ws94
                            clear f_18_ws94
                            have f_18_ws101 : ws101[18]? = some ((q37, Sum.inl (cF, 4096, Sum.inr (Sum.inr (Sum.inr (Sum.inr (fun _ => none)))))) : Nat × va_E) := by rw [e_ws101]; exact gs_ne (by decide) f_18_ws96
                            clear f_18_ws96
                            have f_18_ws102 : ws102[18]? = some ((q37, Sum.inl (cF, 4096, Sum.inr (Sum.inr (Sum.inr (Sum.inr (fun _ => none)))))) : Nat × va_E) := by rw [e_ws102]; exact gs_ne (by decide) f_18_ws101
                            clear f_18_ws101
                            have f_18_ws103 : ws103[18]? = some ((q37, Sum.inl (cF, 4096, Sum.inr (Sum.inr (Sum.inr (Sum.inr (fun _ => none)))))) : Nat × va_E) := by rw [e_ws103]; exact gs_ne (by decide) f_18_ws102
                            clear f_18_ws102
                            have f_18_ws104 : ws104[18]? = some ((q37, Sum.inl (cF, 4096, Sum.inr (Sum.inr (Sum.inr (Sum.inr (fun _ => none)))))) : Nat × va_E) := by rw [e_ws104]; exact gs_ne (by decide) f_18_ws103
                            clear f_18_ws103
                            have f_19_ws39 : ws39[19]? = some ((q38, Sum.inl (cZ, 4096, Sum.inl (fun _ => 0))) : Nat × va_E) := by rw [e_ws39]; exact gs_ne (by decide) f_19_ws35
                            clear f_19_ws35
                            have f_19_ws41 : ws41[19]? = some ((q38, Sum.inl (cZ, 4096, Sum.inl (fun _ => 0))) : Nat × va_E) := by rw [e_ws41]; exact gs_app f_19_ws39
                            clear f_19_ws39
                            have f_19_ws42 : ws42[19]? = some ((q38, Sum.inl (cZ, 4096, Sum.inl (fun _ => 0))) : Nat × va_E) := by rw [e_ws42]; exact gs_ne (by decide) f_19_ws41
                            clear f_19_ws41
                            have f_19_ws44 : ws44[19]? = some ((q38, Sum.inl (cZ, 4096, Sum.inl (fun _ => 0))) : Nat × va_E) := by rw [e_ws44]; exact gs_app f_19_ws42
                            clear f_19_ws42
                            have f_19_ws47 : ws47[19]? = some ((q38, Sum.inl (cZ, 4096, Sum.inl (fun _ => 0))) : Nat × va_E) := by rw [e_ws47]; exact gs_ne (by decide) f_19_ws44
                            clear f_19_ws44
                            have f_19_ws49 : ws49[19]? = some ((q38, Sum.inl (cZ, 4096, Sum.inl (fun _ => 0))) : Nat × va_E) := by rw [e_ws49]; exact gs_app f_19_ws47
                            clear f_19_ws47
                            have f_19_ws52 : ws52[19]? = some ((q38, Sum.inl (cZ, 4096, Sum.inl (fun _ => 0))) : Nat × va_E) := by rw [e_ws52]; exact gs_ne (by decide) f_19_ws49
                            clear f_19_ws49
                            have f_19_ws54 : ws54[19]? = some ((q38, Sum.inl (cZ, 4096, Sum.inl (fun _ => 0))) : Nat × va_E) := by rw [e_ws54]; exact gs_app f_19_ws52
                            clear f_19_ws52
                            have f_19_ws57 : ws57[19]? = some ((q38, Sum.inl (cZ, 4096, Sum.inl (fun _ => 0))) : Nat × va_E) := by rw [e_ws57]; exact gs_ne (by decide) f_19_ws54
                            clear f_19_ws54
                            have f_19_ws59 : ws59[19]? = some ((q38, Sum.inl (cZ, 4096, Sum.inl (fun _ => 0))) : Nat × va_E) := by rw [e_ws59]; exact gs_app f_19_ws57
                            clear f_19_ws57
                            have f_19_ws62 : ws62[19]? = some ((q38, Sum.inl (cZ, 4096, Sum.inl (fun _ => 0))) : Nat × va_E) := by rw [e_ws62]; exact gs_ne (by decide) f_19_ws59
                            clear f_19_ws59
                            have f_19_ws64 : ws64[19]? = some ((q38, Sum.inl (cZ, 4096, Sum.inl (fun _ => 0))) : Nat × va_E) := by rw [e_ws64]; exact gs_app f_19_ws62
                            clear f_19_ws62
                            have f_19_ws65 : ws65[19]? = some ((q38, Sum.inl (cZ, 4096, Sum.inl (fun _ => 0))) : Nat × va_E) := by rw [e_ws65]; exact gs_ne (by decide) f_19_ws64
                            clear f_19_ws64
                            have f_19_ws67 : ws67[19]? = some ((q38, Sum.inl (cZ, 4096, Sum.inl (fun _ => 0))) : Nat × va_E) := by rw [e_ws67]; exact gs_app f_19_ws65
                            clear f_19_ws65
                            have f_19_ws69 : ws69[19]? = some ((q38, Sum.inl (cZ, 4096, Sum.inl (fun _ => 0))) : Nat × va_E) := e_ws69.at (by first | decide | (simp; done) | (simp; omega)) f_19_ws67
                            clear f_19_ws67
                            have f_19_ws74 : ws74[19]? = some ((q38, Sum.inl (cZ, 4096, Sum.inl (fun _ => 0))) : Nat × va_E) := by rw [e_ws74]; exact gs_ne (by decide) f_19_ws69
                            clear f_19_ws69
                            have f_19_ws76 : ws76[19]? = some ((q38, Sum.inl (cZ, 4096, Sum.inl (fun _ => 0))) : Nat × va_E) := by rw [e_ws76]; exact gs_app f_19_ws74
                            clear f_19_ws74
                            have f_19_ws78 : ws78[19]? = some ((q38, Sum.inl (cZ, 4096, Sum.inl (fun _ => 0))) : Nat × va_E) := e_ws78.at (by first | decide | (simp; done) | (simp; omega)) f_19_ws76
                            clear f_19_ws76
                            have f_19_ws83 : ws83[19]? = some ((q38, Sum.inl (cZ, 4096, Sum.inl (fun _ => 0))) : Nat × va_E) := by rw [e_ws83]; exact gs_ne (by decide) f_19_ws78
                            clear f_19_ws78
                            have f_19_ws85 : ws85[19]? = some ((q38, Sum.inl (cZ, 4096, Sum.inl (fun _ => 0))) : Nat × va_E) := by rw [e_ws85]; exact gs_app f_19_ws83
                            clear f_19_ws83
                            have f_19_ws87 : ws87[19]? = some ((q38, Sum.inl (cZ, 4096, Sum.inl (fun _ => 0))) : Nat × va_E) := e_ws87.at (by first | decide | (simp; done) | (simp; omega)) f_19_ws85
                            clear f_19_ws85
                            have f_19_ws92 : ws92[19]? = some ((q38, Sum.inl (cZ, 4096, Sum.inl (fun _ => 0))) : Nat × va_E) := by rw [e_ws92]; exact gs_ne (by decide) f_19_ws87
                            clear f_19_ws87
                            have f_19_ws94 : ws94[19]? = some ((q38, Sum.inl (cZ, 4096, Sum.inl (fun _ => 0))) : Nat × va_E) := by rw [e_ws94]; exact gs_app f_19_ws92
                            clear f_19_ws92
                            have f_19_ws96 : ws96[19]? = some ((q38, Sum.inl (cZ, 4096, Sum.inl (fun _ => 0))) : Nat × va_E) := e_ws96.at (by first | decide | (simp; done) | (simp; omega)) f_19_ws94
                            clear f_19_ws94
                            have f_19_ws101 : ws101[19]? = some ((q38, Sum.inl (cZ, 4096, Sum.inl (fun _ => 0))) : Nat × va_E) := by rw [e_ws101]; exact gs_ne (by decide) f_19_ws96
                            clear f_19_ws96
                            have f_19_ws102 : ws102[19]? = some ((q38, Sum.inl (cZ, 4096, Sum.inl (fun _ => 0))) : Nat × va_E) := by rw [e_ws102]; exact gs_ne (by decide) f_19_ws101
                            clear f_19_ws101
                            have f_19_ws103 : ws103[19]? = some ((q38, Sum.inl (cZ, 4096, Sum.inl (fun _ => 0))) : Nat × va_E) := by rw [e_ws103]; exact gs_ne (by decide) f_19_ws102
                            clear f_19_ws102
                            have f_19_ws104 : ws104[19]? = some ((q38, Sum.inl (cZ, 4096, Sum.inl (fun _ => 0))) : Nat × va_E) := by rw [e_ws104]; exact gs_ne (by decide) f_19_ws103
                            clear f_19_ws103
                            have f_20_ws64 : ws64[20]? = some ((q40, Sum.inl (cM, 4, Sum.inr (Sum.inr (Sum.inr (Sum.inr (va_up (va_up (va_up (va_up (fun _ => none) 0 (some q43)) 1 (some q48)) 2 (some q53)) 3 (some q58))))))) : Nat × va_E) := by rw [e_ws64]; exact gs_app f_20_ws62
                            clear f_20_ws62
                            have f_20_ws65 : ws65[20]? = some ((q40, Sum.inl (cM, 4, Sum.inr (Sum.inr (Sum.inr (Sum.inr (va_up (va_up (va_up (va_up (fun _ => none) 0 (some q43)) 1 (some q48)) 2 (some q53)) 3 (some q58))))))) : Nat × va_E) := by rw [e_ws65]; exact gs_ne (by decide) f_20_ws64
                            clear f_20_ws64
                            have f_20_ws67 : ws67[20]? = some ((q40, Sum.inl (cM, 4, Sum.inr (Sum.inr (Sum.inr (Sum.inr (va_up (va_up (va_up (va_up (fun _ => none) 0 (some q43)) 1 (some q48)) 2 (some q53)) 3 (some q58))))))) : Nat × va_E) := by rw [e_ws67]; exact gs_app f_20_ws65
                            clear f_20_ws65
                            have f_20_ws69 : ws69[20]? = some ((q40, Sum.inl (cM, 4, Sum.inr (Sum.inr (Sum.inr (Sum.inr (va_up (va_up (va_up (va_up (fun _ => none) 0 (some q43)) 1 (some q48)) 2 (some q53)) 3 (some q58))))))) : Nat × va_E) := e_ws69.at (by first | decide | (simp; done) | (simp; omega)) f_20_ws67
                            clear f_20_ws67
                            have f_20_ws74 : ws74[20]? = some ((q40, Sum.inl (cM, 4, Sum.inr (Sum.inr (Sum.inr (Sum.inr (va_up (va_up (va_up (va_up (fun _ => none) 0 (some q43)) 1 (some q48)) 2 (some q53)) 3 (some q58))))))) : Nat × va_E) := by rw [e_ws74]; exact gs_ne (by decide) f_20_ws69
                            clear f_20_ws69
                            have f_20_ws76 : ws76[20]? = some ((q40, Sum.inl (cM, 4, Sum.inr (Sum.inr (Sum.inr (Sum.inr (va_up (va_up (va_up (va_up (fun _ => none) 0 (some q43)) 1 (some q48)) 2 (some q53)) 3 (some q58))))))) : Nat × va_E) := by rw [e_ws76]; exact gs_app f_20_ws74
                            clear f_20_ws74
                            have f_20_ws78 : ws78[20]? = some ((q40, Sum.inl (cM, 4, Sum.inr (Sum.inr (Sum.inr (Sum.inr (va_up (va_up (va_up (va_up (fun _ => none) 0 (some q43)) 1 (some q48)) 2 (some q53)) 3 (some q58))))))) : Nat × va_E) := e_ws78.at (by first | decide | (simp; done) | (simp; omega)) f_20_ws76
                            clear f_20_ws76
                            have f_20_ws83 : ws83[20]? = some ((q40, Sum.inl (cM, 4, Sum.inr (Sum.inr (Sum.inr (Sum.inr (va_up (va_up (va_up (va_up (fun _ => none) 0 (some q43)) 1 (some q48)) 2 (some q53)) 3 (some q58))))))) : Nat × va_E) := by rw [e_ws83]; exact gs_ne (by decide) f_20_ws78
                            clear f_20_ws78
                            have f_20_ws85 : ws85[20]? = some ((q40, Sum.inl (cM, 4, Sum.inr (Sum.inr (Sum.inr (Sum.inr (va_up (va_up (va_up (va_up (fun _ => none) 0 (some q43)) 1 (some q48)) 2 (some q53)) 3 (some q58))))))) : Nat × va_E) := by rw [e_ws85]; exact gs_app f_20_ws83
                            clear f_20_ws83
                            have f_20_ws87 : ws87[20]? = some ((q40, Sum.inl (cM, 4, Sum.inr (Sum.inr (Sum.inr (Sum.inr (va_up (va_up (va_up (va_up (fun _ => none) 0 (some q43)) 1 (some q48)) 2 (some q53)) 3 (some q58))))))) : Nat × va_E) := e_ws87.at (by first | decide | (simp; done) | (simp; omega)) f_20_ws85
                            clear f_20_ws85
                            have f_20_ws92 : ws92[20]? = some ((q40, Sum.inl (cM, 4, Sum.inr (Sum.inr (Sum.inr (Sum.inr (va_up (va_up (va_up (va_up (fun _ => none) 0 (some q43)) 1 (some q48)) 2 (some q53)) 3 (some q58))))))) : Nat × va_E) := by rw [e_ws92]; exact gs_ne (by decide) f_20_ws87
                            clear f_20_ws87
                            have f_20_ws94 : ws94[20]? = some ((q40, Sum.inl (cM, 4, Sum.inr (Sum.inr (Sum.inr (Sum.inr (va_up (va_up (va_up (va_up (fun _ => none) 0 (some q43)) 1 (some q48)) 2 (some q53)) 3 (some q58))))))) : Nat × va_E) := by rw [e_ws94]; exact gs_app f_20_ws92
                            clear f_20_ws92
                            have f_20_ws96 : ws96[20]? = some ((q40, Sum.inl (cM, 4, Sum.inr (Sum.inr (Sum.inr (Sum.inr (va_up (va_up (va_up (va_up (fun _ => none) 0 (some q43)) 1 (some q48)) 2 (some q53)) 3 (some q58))))))) : Nat × va_E) := e_ws96.at (by first | decide | (simp; done) | (simp; omega)) f_20_ws94
                            clear f_20_ws94
                            have f_20_ws101 : ws101[20]? = some ((q40, Sum.inl (cM, 4, Sum.inr (Sum.inr (Sum.inr (Sum.inr (va_up (va_up (va_up (va_up (fun _ => none) 0 (some q43)) 1 (some q48)) 2 (some q53)) 3 (some q58))))))) : Nat × va_E) := by rw [e_ws101]; exact gs_ne (by decide) f_20_ws96
                            clear f_20_ws96
                            have f_20_ws102 : ws102[20]? = some ((q40, Sum.inl (cM, 4, Sum.inr (Sum.inr (Sum.inr (Sum.inr (va_up (va_up (va_up (va_up (fun _ => none) 0 (some q43)) 1 (some q48)) 2 (some q53)) 3 (some q58))))))) : Nat × va_E) := by rw [e_ws102]; exact gs_ne (by decide) f_20_ws101
                            clear f_20_ws101
                            have f_20_ws103 : ws103[20]? = some ((q40, Sum.inl (cM, 4, Sum.inr (Sum.inr (Sum.inr (Sum.inr (va_up (va_up (va_up (va_up (fun _ => none) 0 (some q43)) 1 (some q48)) 2 (some q53)) 3 (some q58))))))) : Nat × va_E) := by rw [e_ws103]; exact gs_ne (by decide) f_20_ws102
                            clear f_20_ws102
                            have f_20_ws104 : ws104[20]? = some ((q40, Sum.inl (cM, 4, Sum.inr (Sum.inr (Sum.inr (Sum.inr (va_up (va_up (va_up (va_up (fun _ => none) 0 (some q43)) 1 (some q48)) 2 (some q53)) 3 (some q58))))))) : Nat × va_E) := by rw [e_ws104]; exact gs_ne (by decide) f_20_ws103
                            clear f_20_ws103
                            have f_21_ws47 : ws47[21]? = some ((q43, Sum.inr (5, [Value.int 0, Value.int 0, Value.int 0, Value.null])) : Nat × va_E) := by rw [e_ws47]; exact gs_ne (by decide) f_21_ws44
                            clear f_21_ws44
                            have f_21_ws49 : ws49[21]? = some ((q43, Sum.inr (5, [Value.int 0, Value.int 0, Value.int 0, Value.null])) : Nat × va_E) := by rw [e_ws49]; exact gs_app f_21_ws47
                            clear f_21_ws47
                            have f_21_ws52 : ws52[21]? = some ((q43, Sum.inr (5, [Value.int 0, Value.int 0, Value.int 0, Value.null])) : Nat × va_E) := by rw [e_ws52]; exact gs_ne (by decide) f_21_ws49
                            clear f_21_ws49
                            have f_21_ws54 : ws54[21]? = some ((q43, Sum.inr (5, [Value.int 0, Value.int 0, Value.int 0, Value.null])) : Nat × va_E) := by rw [e_ws54]; exact gs_app f_21_ws52
                            clear f_21_ws52
                            have f_21_ws57 : ws57[21]? = some ((q43, Sum.inr (5, [Value.int 0, Value.int 0, Value.int 0, Value.null])) : Nat × va_E) := by rw [e_ws57]; exact gs_ne (by decide) f_21_ws54
                            clear f_21_ws54
                            have f_21_ws59 : ws59[21]? = some ((q43, Sum.inr (5, [Value.int 0, Value.int 0, Value.int 0, Value.null])) : Nat × va_E) := by rw [e_ws59]; exact gs_app f_21_ws57
                            clear f_21_ws57
                            have f_21_ws62 : ws62[21]? = some ((q43, Sum.inr (5, [Value.int 0, Value.int 0, Value.int 0, Value.null])) : Nat × va_E) := by rw [e_ws62]; exact gs_ne (by decide) f_21_ws59
                            clear f_21_ws59
                            have f_21_ws64 : ws64[21]? = some ((q43, Sum.inr (5, [Value.int 0, Value.int 0, Value.int 0, Value.null])) : Nat × va_E) := by rw [e_ws64]; exact gs_app f_21_ws62
                            clear f_21_ws62
                            have f_21_ws65 : ws65[21]? = some ((q43, Sum.inr (5, [Value.int 0, Value.int 0, Value.int 0, Value.null])) : Nat × va_E) := by rw [e_ws65]; exact gs_ne (by decide) f_21_ws64
                            clear f_21_ws64
                            have f_21_ws67 : ws67[21]? = some ((q43, Sum.inr (5, [Value.int 0, Value.int 0, Value.int 0, Value.null])) : Nat × va_E) := by rw [e_ws67]; exact gs_app f_21_ws65
                            clear f_21_ws65
                            have f_21_ws69 : ws69[21]? = some ((q43, Sum.inr (5, [Value.int 0, Value.int 0, Value.int 0, Value.null])) : Nat × va_E) := e_ws69.at (by first | decide | (simp; done) | (simp; omega)) f_21_ws67
                            clear f_21_ws67
                            have f_21_ws74 : ws74[21]? = some ((q43, Sum.inr (5, [Value.int 0, Value.int 0, Value.int 0, Value.null])) : Nat × va_E) := by rw [e_ws74]; exact gs_ne (by decide) f_21_ws69
                            clear f_21_ws69
                            have f_21_ws76 : ws76[21]? = some ((q43, Sum.inr (5, [Value.int 0, Value.int 0, Value.int 0, Value.null])) : Nat × va_E) := by rw [e_ws76]; exact gs_app f_21_ws74
                            clear f_21_ws74
                            have f_21_ws78 : ws78[21]? = some ((q43, Sum.inr (5, [Value.int 0, Value.int 0, Value.int 0, Value.null])) : Nat × va_E) := e_ws78.at (by first | decide | (simp; done) | (simp; omega)) f_21_ws76
                            clear f_21_ws76
                            have f_21_ws83 : ws83[21]? = some ((q43, Sum.inr (5, [Value.int 0, Value.int 0, Value.int 0, Value.null])) : Nat × va_E) := by rw [e_ws83]; exact gs_ne (by decide) f_21_ws78
                            clear f_21_ws78
                            have f_21_ws85 : ws85[21]? = some ((q43, Sum.inr (5, [Value.int 0, Value.int 0, Value.int 0, Value.null])) : Nat × va_E) := by rw [e_ws85]; exact gs_app f_21_ws83
                            clear f_21_ws83
                            have f_21_ws87 : ws87[21]? = some ((q43, Sum.inr (5, [Value.int 0, Value.int 0, Value.int 0, Value.null])) : Nat × va_E) := e_ws87.at (by first | decide | (simp; done) | (simp; omega)) f_21_ws85
                            clear f_21_ws85
                            have f_21_ws92 : ws92[21]? = some ((q43, Sum.inr (5, [Value.int 0, Value.int 0, Value.int 0, Value.null])) : Nat × va_E) := by rw [e_ws92]; exact gs_ne (by decide) f_21_ws87
                            clear f_21_ws87
                            have f_21_ws94 : ws94[21]? = some ((q43, Sum.inr (5, [Value.int 0, Value.int 0, Value.int 0, Value.null])) : Nat × va_E) := by rw [e_ws94]; exact gs_app f_21_ws92
                            clear f_21_ws92
                            have f_21_ws96 : ws96[21]? = some ((q43, Sum.inr (5, [Value.int 0, Value.int 0, Value.int 0, Value.null])) : Nat × va_E) := e_ws96.at (by first | decide | (simp; done) | (simp; omega)) f_21_ws94
                            clear f_21_ws94
                            have f_21_ws101 : ws101[21]? = some ((q43, Sum.inr (5, [Value.int 0, Value.int 0, Value.int 0, Value.null])) : Nat × va_E) := by rw [e_ws101]; exact gs_ne (by decide) f_21_ws96
                            clear f_21_ws96
                            have f_21_ws102 : ws102[21]? = some ((q43, Sum.inr (5, [Value.int 0, Value.int 0, Value.int 0, Value.null])) : Nat × va_E) := by rw [e_ws102]; exact gs_ne (by decide) f_21_ws101
                            clear f_21_ws101
                            have f_21_ws103 : ws103[21]? = some ((q43, Sum.inr (5, [Value.int 0, Value.int 0, Value.int 0, Value.null])) : Nat × va_E) := by rw [e_ws103]; exact gs_ne (by decide) f_21_ws102
                            clear f_21_ws102
                            have f_21_ws104 : ws104[21]? = some ((q43, Sum.inr (5, [Value.int 0, Value.int 0, Value.int 0, Value.null])) : Nat × va_E) := by rw [e_ws104]; exact gs_ne (by decide) f_21_ws103
                            clear f_21_ws103
                            have f_22_ws52 : ws52[22]? = some ((q48, Sum.inr (5, [Value.int 0, Value.int 0, Value.int 0, Value.null])) : Nat × va_E) := by rw [e_ws52]; exact gs_ne (by decide) f_22_ws49
                            clear f_22_ws49
                            have f_22_ws54 : ws54[22]? = some ((q48, Sum.inr (5, [Value.int 0, Value.int 0, Value.int 0, Value.null])) : Nat × va_E) := by rw [e_ws54]; exact gs_app f_22_ws52
                            clear f_22_ws52
                            have f_22_ws57 : ws57[22]? = some ((q48, Sum.inr (5, [Value.int 0, Value.int 0, Value.int 0, Value.null])) : Nat × va_E) := by rw [e_ws57]; exact gs_ne (by decide) f_22_ws54
                            clear f_22_ws54
                            have f_22_ws59 : ws59[22]? = some ((q48, Sum.inr (5, [Value.int 0, Value.int 0, Value.int 0, Value.null])) : Nat × va_E) := by rw [e_ws59]; exact gs_app f_22_ws57
                            clear f_22_ws57
                            have f_22_ws62 : ws62[22]? = some ((q48, Sum.inr (5, [Value.int 0, Value.int 0, Value.int 0, Value.null])) : Nat × va_E) := by rw [e_ws62]; exact gs_ne (by decide) f_22_ws59
                            clear f_22_ws59
                            have f_22_ws64 : ws64[22]? = some ((q48, Sum.inr (5, [Value.int 0, Value.int 0, Value.int 0, Value.null])) : Nat × va_E) := by rw [e_ws64]; exact gs_app f_22_ws62
                            clear f_22_ws62
                            have f_22_ws65 : ws65[22]? = some ((q48, Sum.inr (5, [Value.int 0, Value.int 0, Value.int 0, Value.null])) : Nat × va_E) := by rw [e_ws65]; exact gs_ne (by decide) f_22_ws64
                            clear f_22_ws64
                            have f_22_ws67 : ws67[22]? = some ((q48, Sum.inr (5, [Value.int 0, Value.int 0, Value.int 0, Value.null])) : Nat × va_E) := by rw [e_ws67]; exact gs_app f_22_ws65
                            clear f_22_ws65
                            have f_22_ws69 : ws69[22]? = some ((q48, Sum.inr (5, [Value.int 0, Value.int 0, Value.int 0, Value.null])) : Nat × va_E) := e_ws69.at (by first | decide | (simp; done) | (simp; omega)) f_22_ws67
                            clear f_22_ws67
                            have f_22_ws74 : ws74[22]? = some ((q48, Sum.inr (5, [Value.int 0, Value.int 0, Value.int 0, Value.null])) : Nat × va_E) := by rw [e_ws74]; exact gs_ne (by decide) f_22_ws69
                            clear f_22_ws69
                            have f_22_ws76 : ws76[22]? = some ((q48, Sum.inr (5, [Value.int 0, Value.int 0, Value.int 0, Value.null])) : Nat × va_E) := by rw [e_ws76]; exact gs_app f_22_ws74
                            clear f_22_ws74
                            have f_22_ws78 : ws78[22]? = some ((q48, Sum.inr (5, [Value.int 0, Value.int 0, Value.int 0, Value.null])) : Nat × va_E) := e_ws78.at (by first | decide | (simp; done) | (simp; omega)) f_22_ws76
                            clear f_22_ws76
                            have f_22_ws83 : ws83[22]? = some ((q48, Sum.inr (5, [Value.int 0, Value.int 0, Value.int 0, Value.null])) : Nat × va_E) := by rw [e_ws83]; exact gs_ne (by decide) f_22_ws78
                            clear f_22_ws78
                            have f_22_ws85 : ws85[22]? = some ((q48, Sum.inr (5, [Value.int 0, Value.int 0, Value.int 0, Value.null])) : Nat × va_E) := by rw [e_ws85]; exact gs_app f_22_ws83
                            clear f_22_ws83
                            have f_22_ws87 : ws87[22]? = some ((q48, Sum.inr (5, [Value.int 0, Value.int 0, Value.int 0, Value.null])) : Nat × va_E) := e_ws87.at (by first | decide | (simp; done) | (simp; omega)) f_22_ws85
                            clear f_22_ws85
                            have f_22_ws92 : ws92[22]? = some ((q48, Sum.inr (5, [Value.int 0, Value.int 0, Value.int 0, Value.null])) : Nat × va_E) := by rw [e_ws92]; exact gs_ne (by decide) f_22_ws87
                            clear f_22_ws87
                            have f_22_ws94 : ws94[22]? = some ((q48, Sum.inr (5, [Value.int 0, Value.int 0, Value.int 0, Value.null])) : Nat × va_E) := by rw [e_ws94]; exact gs_app f_22_ws92
                            clear f_22_ws92
                            have f_22_ws96 : ws96[22]? = some ((q48, Sum.inr (5, [Value.int 0, Value.int 0, Value.int 0, Value.null])) : Nat × va_E) := e_ws96.at (by first | decide | (simp; done) | (simp; omega)) f_22_ws94
                            clear f_22_ws94
                            have f_22_ws101 : ws101[22]? = some ((q48, Sum.inr (5, [Value.int 0, Value.int 0, Value.int 0, Value.null])) : Nat × va_E) := by rw [e_ws101]; exact gs_ne (by decide) f_22_ws96
                            clear f_22_ws96
                            have f_22_ws102 : ws102[22]? = some ((q48, Sum.inr (5, [Value.int 0, Value.int 0, Value.int 0, Value.null])) : Nat × va_E) := by rw [e_ws102]; exact gs_ne (by decide) f_22_ws101
                            clear f_22_ws101
                            have f_22_ws103 : ws103[22]? = some ((q48, Sum.inr (5, [Value.int 0, Value.int 0, Value.int 0, Value.null])) : Nat × va_E) := by rw [e_ws103]; exact gs_ne (by decide) f_22_ws102
                            clear f_22_ws102
                            have f_22_ws104 : ws104[22]? = some ((q48, Sum.inr (5, [Value.int 0, Value.int 0, Value.int 0, Value.null])) : Nat × va_E) := by rw [e_ws104]; exact gs_ne (by decide) f_22_ws103
                            clear f_22_ws103
                            have f_23_ws57 : ws57[23]? = some ((q53, Sum.inr (5, [Value.int 0, Value.int 0, Value.int 0, Value.null])) : Nat × va_E) := by rw [e_ws57]; exact gs_ne (by decide) f_23_ws54
                            clear f_23_ws54
                            have f_23_ws59 : ws59[23]? = some ((q53, Sum.inr (5, [Value.int 0, Value.int 0, Value.int 0, Value.null])) : Nat × va_E) := by rw [e_ws59]; exact gs_app f_23_ws57
                            clear f_23_ws57
                            have f_23_ws62 : ws62[23]? = some ((q53, Sum.inr (5, [Value.int 0, Value.int 0, Value.int 0, Value.null])) : Nat × va_E) := by rw [e_ws62]; exact gs_ne (by decide) f_23_ws59
                            clear f_23_ws59
                            have f_23_ws64 : ws64[23]? = some ((q53, Sum.inr (5, [Value.int 0, Value.int 0, Value.int 0, Value.null])) : Nat × va_E) := by rw [e_ws64]; exact gs_app f_23_ws62
                            clear f_23_ws62
                            have f_23_ws65 : ws65[23]? = some ((q53, Sum.inr (5, [Value.int 0, Value.int 0, Value.int 0, Value.null])) : Nat × va_E) := by rw [e_ws65]; exact gs_ne (by decide) f_23_ws64
                            clear f_23_ws64
                            have f_23_ws67 : ws67[23]? = some ((q53, Sum.inr (5, [Value.int 0, Value.int 0, Value.int 0, Value.null])) : Nat × va_E) := by rw [e_ws67]; exact gs_app f_23_ws65
                            clear f_23_ws65
                            have f_23_ws69 : ws69[23]? = some ((q53, Sum.inr (5, [Value.int 0, Value.int 0, Value.int 0, Value.null])) : Nat × va_E) := e_ws69.at (by first | decide | (simp; done) | (simp; omega)) f_23_ws67
                            clear f_23_ws67
                            have f_23_ws74 : ws74[23]? = some ((q53, Sum.inr (5, [Value.int 0, Value.int 0, Value.int 0, Value.null])) : Nat × va_E) := by rw [e_ws74]; exact gs_ne (by decide) f_23_ws69
                            clear f_23_ws69
                            have f_23_ws76 : ws76[23]? = some ((q53, Sum.inr (5, [Value.int 0, Value.int 0, Value.int 0, Value.null])) : Nat × va_E) := by rw [e_ws76]; exact gs_app f_23_ws74
                            clear f_23_ws74
                            have f_23_ws78 : ws78[23]? = some ((q53, Sum.inr (5, [Value.int 0, Value.int 0, Value.int 0, Value.null])) : Nat × va_E) := e_ws78.at (by first | decide | (simp; done) | (simp; omega)) f_23_ws76
                            clear f_23_ws76
                            have f_23_ws83 : ws83[23]? = some ((q53, Sum.inr (5, [Value.int 0, Value.int 0, Value.int 0, Value.null])) : Nat × va_E) := by rw [e_ws83]; exact gs_ne (by decide) f_23_ws78
                            clear f_23_ws78
                            have f_23_ws85 : ws85[23]? = some ((q53, Sum.inr (5, [Value.int 0, Value.int 0, Value.int 0, Value.null])) : Nat × va_E) := by rw [e_ws85]; exact gs_app f_23_ws83
                            clear f_23_ws83
                            have f_23_ws87 : ws87[23]? = some ((q53, Sum.inr (5, [Value.int 0, Value.int 0, Value.int 0, Value.null])) : Nat × va_E) := e_ws87.at (by first | decide | (simp; done) | (simp; omega)) f_23_ws85
                            clear f_23_ws85
                            have f_23_ws92 : ws92[23]? = some ((q53, Sum.inr (5, [Value.int 0, Value.int 0, Value.int 0, Value.null])) : Nat × va_E) := by rw [e_ws92]; exact gs_ne (by decide) f_23_ws87
                            clear f_23_ws87
                            have f_23_ws94 : ws94[23]? = some ((q53, Sum.inr (5, [Value.int 0, Value.int 0, Value.int 0, Value.null])) : Nat × va_E) := by rw [e_ws94]; exact gs_app f_23_ws92
                            clear f_23_ws92
                            have f_23_ws96 : ws96[23]? = some ((q53, Sum.inr (5, [Value.int 0, Value.int 0, Value.int 0, Value.null])) : Nat × va_E) := e_ws96.at (by first | decide | (simp; done) | (simp; omega)) f_23_ws94
                            clear f_23_ws94
                            have f_23_ws101 : ws101[23]? = some ((q53, Sum.inr (5, [Value.int 0, Value.int 0, Value.int 0, Value.null])) : Nat × va_E) := by rw [e_ws101]; exact gs_ne (by decide) f_23_ws96
                            clear f_23_ws96
                            have f_23_ws102 : ws102[23]? = some ((q53, Sum.inr (5, [Value.int 0, Value.int 0, Value.int 0, Value.null])) : Nat × va_E) := by rw [e_ws102]; exact gs_ne (by decide) f_23_ws101
                            clear f_23_ws101
                            have f_23_ws103 : ws103[23]? = some ((q53, Sum.inr (5, [Value.int 0, Value.int 0, Value.int 0, Value.null])) : Nat × va_E) := by rw [e_ws103]; exact gs_ne (by decide) f_23_ws102
                            clear f_23_ws102
                            have f_23_ws104 : ws104[23]? = some ((q53, Sum.inr (5, [Value.int 0, Value.int 0, Value.int 0, Value.null])) : Nat × va_E) := by rw [e_ws104]; exact gs_ne (by decide) f_23_ws103
                            clear f_23_ws103
                            have f_24_ws62 : ws62[24]? = some ((q58, Sum.inr (5, [Value.int 0, Value.int 0, Value.int 0, Value.null])) : Nat × va_E) := by rw [e_ws62]; exact gs_ne (by decide) f_24_ws59
                            clear f_24_ws59
                            have f_24_ws64 : ws64[24]? = some ((q58, Sum.inr (5, [Value.int 0, Value.int 0, Value.int 0, Value.null])) : Nat × va_E) := by rw [e_ws64]; exact gs_app f_24_ws62
                            clear f_24_ws62
                            have f_24_ws65 : ws65[24]? = some ((q58, Sum.inr (5, [Value.int 0, Value.int 0, Value.int 0, Value.null])) : Nat × va_E) := by rw [e_ws65]; exact gs_ne (by decide) f_24_ws64
                            clear f_24_ws64
                            have f_24_ws67 : ws67[24]? = some ((q58, Sum.inr (5, [Value.int 0, Value.int 0, Value.int 0, Value.null])) : Nat × va_E) := by rw [e_ws67]; exact gs_app f_24_ws65
                            clear f_24_ws65
                            have f_24_ws69 : ws69[24]? = some ((q58, Sum.inr (5, [Value.int 0, Value.int 0, Value.int 0, Value.null])) : Nat × va_E) := e_ws69.at (by first | decide | (simp; done) | (simp; omega)) f_24_ws67
                            clear f_24_ws67
                            have f_24_ws74 : ws74[24]? = some ((q58, Sum.inr (5, [Value.int 0, Value.int 0, Value.int 0, Value.null])) : Nat × va_E) := by rw [e_ws74]; exact gs_ne (by decide) f_24_ws69
                            clear f_24_ws69
                            have f_24_ws76 : ws76[24]? = some ((q58, Sum.inr (5, [Value.int 0, Value.int 0, Value.int 0, Value.null])) : Nat × va_E) := by rw [e_ws76]; exact gs_app f_24_ws74
                            clear f_24_ws74
                            have f_24_ws78 : ws78[24]? = some ((q58, Sum.inr (5, [Value.int 0, Value.int 0, Value.int 0, Value.null])) : Nat × va_E) := e_ws78.at (by first | decide | (simp; done) | (simp; omega)) f_24_ws76
                            clear f_24_ws76
                            have f_24_ws83 : ws83[24]? = some ((q58, Sum.inr (5, [Value.int 0, Value.int 0, Value.int 0, Value.null])) : Nat × va_E) := by rw [e_ws83]; exact gs_ne (by decide) f_24_ws78
                            clear f_24_ws78
                            have f_24_ws85 : ws85[24]? = some ((q58, Sum.inr (5, [Value.int 0, Value.int 0, Value.int 0, Value.null])) : Nat × va_E) := by rw [e_ws85]; exact gs_app f_24_ws83
                            clear f_24_ws83
                            have f_24_ws87 : ws87[24]? = some ((q58, Sum.inr (5, [Value.int 0, Value.int 0, Value.int 0, Value.null])) : Nat × va_E) := e_ws87.at (by first | decide | (simp; done) | (simp; omega)) f_24_ws85
                            clear f_24_ws85
                            have f_24_ws92 : ws92[24]? = some ((q58, Sum.inr (5, [Value.int 0, Value.int 0, Value.int 0, Value.null])) : Nat × va_E) := by rw [e_ws92]; exact gs_ne (by decide) f_24_ws87
                            clear f_24_ws87
                            have f_24_ws94 : ws94[24]? = some ((q58, Sum.inr (5, [Value.int 0, Value.int 0, Value.int 0, Value.null])) : Nat × va_E) := by rw [e_ws94]; exact gs_app f_24_ws92
                            clear f_24_ws92
                            have f_24_ws96 : ws96[24]? = some ((q58, Sum.inr (5, [Value.int 0, Value.int 0, Value.int 0, Value.null])) : Nat × va_E) := e_ws96.at (by first | decide | (simp; done) | (simp; omega)) f_24_ws94
                            clear f_24_ws94
                            have f_24_ws101 : ws101[24]? = some ((q58, Sum.inr (5, [Value.int 0, Value.int 0, Value.int 0, Value.null])) : Nat × va_E) := by rw [e_ws101]; exact gs_ne (by decide) f_24_ws96
                            clear f_24_ws96
                            have f_24_ws102 : ws102[24]? = some ((q58, Sum.inr (5, [Value.int 0, Value.int 0, Value.int 0, Value.null])) : Nat × va_E) := by rw [e_ws102]; exact gs_ne (by decide) f_24_ws101
                            clear f_24_ws101
                            have f_24_ws103 : ws103[24]? = some ((q58, Sum.inr (5, [Value.int 0, Value.int 0, Value.int 0, Value.null])) : Nat × va_E) := by rw [e_ws103]; exact gs_ne (by decide) f_24_ws102
                            clear f_24_ws102
                            have f_24_ws104 : ws104[24]? = some ((q58, Sum.inr (5, [Value.int 0, Value.int 0, Value.int 0, Value.null])) : Nat × va_E) := by rw [e_ws104]; exact gs_ne (by decide) f_24_ws103
                            clear f_24_ws103
                            have f_25_ws102 : ws102[25]? = some ((q63, Sum.inl (cR, 4, Sum.inr (Sum.inr (Sum.inr (Sum.inr (va_up (va_up (va_up (va_up (fun _ => none) 0 (some q66)) 1 (some q75)) 2 (some q84)) 3 (some q93))))))) : Nat × va_E) := by rw [e_ws102]; exact gs_ne (by decide) f_25_ws101
                            clear f_25_ws101
                            have f_25_ws103 : ws103[25]? = some ((q63, Sum.inl (cR, 4, Sum.inr (Sum.inr (Sum.inr (Sum.inr (va_up (va_up (va_up (va_up (fun _ => none) 0 (some q66)) 1 (some q75)) 2 (some q84)) 3 (some q93))))))) : Nat × va_E) := by rw [e_ws103]; exact gs_ne (by decide) f_25_ws102
                            clear f_25_ws102
                            have f_25_ws104 : ws104[25]? = some ((q63, Sum.inl (cR, 4, Sum.inr (Sum.inr (Sum.inr (Sum.inr (va_up (va_up (va_up (va_up (fun _ => none) 0 (some q66)) 1 (some q75)) 2 (some q84)) 3 (some q93))))))) : Nat × va_E) := by rw [e_ws104]; exact gs_ne (by decide) f_25_ws103
                            clear f_25_ws103
                            have f_26_ws74 : ws74[26]? = some ((q66, Sum.inr (6, [Value.ref q70, Value.int 0, Value.int 0])) : Nat × va_E) := by rw [e_ws74]; exact gs_ne (by decide) f_26_ws69
                            clear f_26_ws69
                            have f_26_ws76 : ws76[26]? = some ((q66, Sum.inr (6, [Value.ref q70, Value.int 0, Value.int 0])) : Nat × va_E) := by rw [e_ws76]; exact gs_app f_26_ws74
                            clear f_26_ws74
                            have f_26_ws78 : ws78[26]? = some ((q66, Sum.inr (6, [Value.ref q70, Value.int 0, Value.int 0])) : Nat × va_E) := e_ws78.at (by first | decide | (simp; done) | (simp; omega)) f_26_ws76
                            clear f_26_ws76
                            have f_26_ws83 : ws83[26]? = some ((q66, Sum.inr (6, [Value.ref q70, Value.int 0, Value.int 0])) : Nat × va_E) := by rw [e_ws83]; exact gs_ne (by decide) f_26_ws78
                            clear f_26_ws78
                            have f_26_ws85 : ws85[26]? = some ((q66, Sum.inr (6, [Value.ref q70, Value.int 0, Value.int 0])) : Nat × va_E) := by rw [e_ws85]; exact gs_app f_26_ws83
                            clear f_26_ws83
                            have f_26_ws87 : ws87[26]? = some ((q66, Sum.inr (6, [Value.ref q70, Value.int 0, Value.int 0])) : Nat × va_E) := e_ws87.at (by first | decide | (simp; done) | (simp; omega)) f_26_ws85
                            clear f_26_ws85
                            have f_26_ws92 : ws92[26]? = some ((q66, Sum.inr (6, [Value.ref q70, Value.int 0, Value.int 0])) : Nat × va_E) := by rw [e_ws92]; exact gs_ne (by decide) f_26_ws87
                            clear f_26_ws87
                            have f_26_ws94 : ws94[26]? = some ((q66, Sum.inr (6, [Value.ref q70, Value.int 0, Value.int 0])) : Nat × va_E) := by rw [e_ws94]; exact gs_app f_26_ws92
                            clear f_26_ws92
                            have f_26_ws96 : ws96[26]? = some ((q66, Sum.inr (6, [Value.ref q70, Value.int 0, Value.int 0])) : Nat × va_E) := e_ws96.at (by first | decide | (simp; done) | (simp; omega)) f_26_ws94
                            clear f_26_ws94
                            have f_26_ws101 : ws101[26]? = some ((q66, Sum.inr (6, [Value.ref q70, Value.int 0, Value.int 0])) : Nat × va_E) := by rw [e_ws101]; exact gs_ne (by decide) f_26_ws96
                            clear f_26_ws96
                            have f_26_ws102 : ws102[26]? = some ((q66, Sum.inr (6, [Value.ref q70, Value.int 0, Value.int 0])) : Nat × va_E) := by rw [e_ws102]; exact gs_ne (by decide) f_26_ws101
                            clear f_26_ws101
                            have f_26_ws103 : ws103[26]? = some ((q66, Sum.inr (6, [Value.ref q70, Value.int 0, Value.int 0])) : Nat × va_E) := by rw [e_ws103]; exact gs_ne (by decide) f_26_ws102
                            clear f_26_ws102
                            have f_26_ws104 : ws104[26]? = some ((q66, Sum.inr (6, [Value.ref q70, Value.int 0, Value.int 0])) : Nat × va_E) := by rw [e_ws104]; exact gs_ne (by decide) f_26_ws103
                            clear f_26_ws103
                            have f_27_ws74 : ws74[27]? = some ((q70, Sum.inr (4, [Value.ref q71, Value.ref q72, Value.ref q73, Value.null, Value.int 0, Value.int 0])) : Nat × va_E) := by rw [e_ws74]; exact gs_ne (by decide) f_27_ws69
                            clear f_27_ws69
                            have f_27_ws76 : ws76[27]? = some ((q70, Sum.inr (4, [Value.ref q71, Value.ref q72, Value.ref q73, Value.null, Value.int 0, Value.int 0])) : Nat × va_E) := by rw [e_ws76]; exact gs_app f_27_ws74
                            clear f_27_ws74
                            have f_27_ws78 : ws78[27]? = some ((q70, Sum.inr (4, [Value.ref q71, Value.ref q72, Value.ref q73, Value.null, Value.int 0, Value.int 0])) : Nat × va_E) := e_ws78.at (by first | decide | (simp; done) | (simp; omega)) f_27_ws76
                            clear f_27_ws76
                            have f_27_ws83 : ws83[27]? = some ((q70, Sum.inr (4, [Value.ref q71, Value.ref q72, Value.ref q73, Value.null, Value.int 0, Value.int 0])) : Nat × va_E) := by rw [e_ws83]; exact gs_ne (by decide) f_27_ws78
                            clear f_27_ws78
                            have f_27_ws85 : ws85[27]? = some ((q70, Sum.inr (4, [Value.ref q71, Value.ref q72, Value.ref q73, Value.null, Value.int 0, Value.int 0])) : Nat × va_E) := by rw [e_ws85]; exact gs_app f_27_ws83
                            clear f_27_ws83
                            have f_27_ws87 : ws87[27]? = some ((q70, Sum.inr (4, [Value.ref q71, Value.ref q72, Value.ref q73, Value.null, Value.int 0, Value.int 0])) : Nat × va_E) := e_ws87.at (by first | decide | (simp; done) | (simp; omega)) f_27_ws85
                            clear f_27_ws85
                            have f_27_ws92 : ws92[27]? = some ((q70, Sum.inr (4, [Value.ref q71, Value.ref q72, Value.ref q73, Value.null, Value.int 0, Value.int 0])) : Nat × va_E) := by rw [e_ws92]; exact gs_ne (by decide) f_27_ws87
                            clear f_27_ws87
                            have f_27_ws94 : ws94[27]? = some ((q70, Sum.inr (4, [Value.ref q71, Value.ref q72, Value.ref q73, Value.null, Value.int 0, Value.int 0])) : Nat × va_E) := by rw [e_ws94]; exact gs_app f_27_ws92
                            clear f_27_ws92
                            have f_27_ws96 : ws96[27]? = some ((q70, Sum.inr (4, [Value.ref q71, Value.ref q72, Value.ref q73, Value.null, Value.int 0, Value.int 0])) : Nat × va_E) := e_ws96.at (by first | decide | (simp; done) | (simp; omega)) f_27_ws94
                            clear f_27_ws94
                            have f_27_ws101 : ws101[27]? = some ((q70, Sum.inr (4, [Value.ref q71, Value.ref q72, Value.ref q73, Value.null, Value.int 0, Value.int 0])) : Nat × va_E) := by rw [e_ws101]; exact gs_ne (by decide) f_27_ws96
                            clear f_27_ws96
                            have f_27_ws102 : ws102[27]? = some ((q70, Sum.inr (4, [Value.ref q71, Value.ref q72, Value.ref q73, Value.null, Value.int 0, Value.int 0])) : Nat × va_E) := by rw [e_ws102]; exact gs_ne (by decide) f_27_ws101
                            clear f_27_ws101
                            have f_27_ws103 : ws103[27]? = some ((q70, Sum.inr (4, [Value.ref q71, Value.ref q72, Value.ref q73, Value.null, Value.int 0, Value.int 0])) : Nat × va_E) := by rw [e_ws103]; exact gs_ne (by decide) f_27_ws102
                            clear f_27_ws102
                            have f_27_ws104 : ws104[27]? = some ((q70, Sum.inr (4, [Value.ref q71, Value.ref q72, Value.ref q73, Value.null, Value.int 0, Value.int 0])) : Nat × va_E) := by rw [e_ws104]; exact gs_ne (by decide) f_27_ws103
                            clear f_27_ws103
                            have f_28_ws74 : ws74[28]? = some ((q71, Sum.inl (cF, 4096, Sum.inr (Sum.inr (Sum.inr (Sum.inr (fun _ => none)))))) : Nat × va_E) := by rw [e_ws74]; exact gs_ne (by decide) f_28_ws69
                            clear f_28_ws69
                            have f_28_ws76 : ws76[28]? = some ((q71, Sum.inl (cF, 4096, Sum.inr (Sum.inr (Sum.inr (Sum.inr (fun _ => none)))))) : Nat × va_E) := by rw [e_ws76]; exact gs_app f_28_ws74
                            clear f_28_ws74
                            have f_28_ws78 : ws78[28]? = some ((q71, Sum.inl (cF, 4096, Sum.inr (Sum.inr (Sum.inr (Sum.inr (fun _ => none)))))) : Nat × va_E) := e_ws78.at (by first | decide | (simp; done) | (simp; omega)) f_28_ws76
                            clear f_28_ws76
                            have f_28_ws83 : ws83[28]? = some ((q71, Sum.inl (cF, 4096, Sum.inr (Sum.inr (Sum.inr (Sum.inr (fun _ => none)))))) : Nat × va_E) := by rw [e_ws83]; exact gs_ne (by decide) f_28_ws78
                            clear f_28_ws78
                            have f_28_ws85 : ws85[28]? = some ((q71, Sum.inl (cF, 4096, Sum.inr (Sum.inr (Sum.inr (Sum.inr (fun _ => none)))))) : Nat × va_E) := by rw [e_ws85]; exact gs_app f_28_ws83
                            clear f_28_ws83
                            have f_28_ws87 : ws87[28]? = some ((q71, Sum.inl (cF, 4096, Sum.inr (Sum.inr (Sum.inr (Sum.inr (fun _ => none)))))) : Nat × va_E) := e_ws87.at (by first | decide | (simp; done) | (simp; omega)) f_28_ws85
                            clear f_28_ws85
                            have f_28_ws92 : ws92[28]? = some ((q71, Sum.inl (cF, 4096, Sum.inr (Sum.inr (Sum.inr (Sum.inr (fun _ => none)))))) : Nat × va_E) := by rw [e_ws92]; exact gs_ne (by decide) f_28_ws87
                            clear f_28_ws87
                            have f_28_ws94 : ws94[28]? = some ((q71, Sum.inl (cF, 4096, Sum.inr (Sum.inr (Sum.inr (Sum.inr (fun _ => none)))))) : Nat × va_E) := by rw [e_ws94]; exact gs_app f_28_ws92
                            clear f_28_ws92
                            have f_28_ws96 : ws96[28]? = some ((q71, Sum.inl (cF, 4096, Sum.inr (Sum.inr (Sum.inr (Sum.inr (fun _ => none)))))) : Nat × va_E) := e_ws96.at (by first | decide | (simp; done) | (simp; omega)) f_28_ws94
                            clear f_28_ws94
                            have f_28_ws101 : ws101[28]? = some ((q71, Sum.inl (cF, 4096, Sum.inr (Sum.inr (Sum.inr (Sum.inr (fun _ => none)))))) : Nat × va_E) := by rw [e_ws101]; exact gs_ne (by decide) f_28_ws96
                            clear f_28_ws96
                            have f_28_ws102 : ws102[28]? = some ((q71, Sum.inl (cF, 4096, Sum.inr (Sum.inr (Sum.inr (Sum.inr (fun _ => none)))))) : Nat × va_E) := by rw [e_ws102]; exact gs_ne (by decide) f_28_ws101
                            clear f_28_ws101
                            have f_28_ws103 : ws103[28]? = some ((q71, Sum.inl (cF, 4096, Sum.inr (Sum.inr (Sum.inr (Sum.inr (fun _ => none)))))) : Nat × va_E) := by rw [e_ws103]; exact gs_ne (by decide) f_28_ws102
                            clear f_28_ws102
                            have f_28_ws104 : ws104[28]? = some ((q71, Sum.inl (cF, 4096, Sum.inr (Sum.inr (Sum.inr (Sum.inr (fun _ => none)))))) : Nat × va_E) := by rw [e_ws104]; exact gs_ne (by decide) f_28_ws103
                            clear f_28_ws103
                            have f_29_ws74 : ws74[29]? = some ((q72, Sum.inl (cF, 4096, Sum.inr (Sum.inr (Sum.inr (Sum.inr (fun _ => none)))))) : Nat × va_E) := by rw [e_ws74]; exact gs_ne (by decide) f_29_ws69
                            clear f_29_ws69
                            have f_29_ws76 : ws76[29]? = some ((q72, Sum.inl (cF, 4096, Sum.inr (Sum.inr (Sum.inr (Sum.inr (fun _ => none)))))) : Nat × va_E) := by rw [e_ws76]; exact gs_app f_29_ws74
                            clear f_29_ws74
                            have f_29_ws78 : ws78[29]? = some ((q72, Sum.inl (cF, 4096, Sum.inr (Sum.inr (Sum.inr (Sum.inr (fun _ => none)))))) : Nat × va_E) := e_ws78.at (by first | decide | (simp; done) | (simp; omega)) f_29_ws76
                            clear f_29_ws76
                            have f_29_ws83 : ws83[29]? = some ((q72, Sum.inl (cF, 4096, Sum.inr (Sum.inr (Sum.inr (Sum.inr (fun _ => none)))))) : Nat × va_E) := by rw [e_ws83]; exact gs_ne (by decide) f_29_ws78
                            clear f_29_ws78
                            have f_29_ws85 : ws85[29]? = some ((q72, Sum.inl (cF, 4096, Sum.inr (Sum.inr (Sum.inr (Sum.inr (fun _ => none)))))) : Nat × va_E) := by rw [e_ws85]; exact gs_app f_29_ws83
                            clear f_29_ws83
                            have f_29_ws87 : ws87[29]? = some ((q72, Sum.inl (cF, 4096, Sum.inr (Sum.inr (Sum.inr (Sum.inr (fun _ => none)))))) : Nat × va_E) := e_ws87.at (by first | decide | (simp; done) | (simp; omega)) f_29_ws85
                            clear f_29_ws85
                            have f_29_ws92 : ws92[29]? = some ((q72, Sum.inl (cF, 4096, Sum.inr (Sum.inr (Sum.inr (Sum.inr (fun _ => none)))))) : Nat × va_E) := by rw [e_ws92]; exact gs_ne (by decide) f_29_ws87
                            clear f_29_ws87
                            have f_29_ws94 : ws94[29]? = some ((q72, Sum.inl (cF, 4096, Sum.inr (Sum.inr (Sum.inr (Sum.inr (fun _ => none)))))) : Nat × va_E) := by rw [e_ws94]; exact gs_app f_29_ws92
                            clear f_29_ws92
                            have f_29_ws96 : ws96[29]? = some ((q72, Sum.inl (cF, 4096, Sum.inr (Sum.inr (Sum.inr (Sum.inr (fun _ => none)))))) : Nat × va_E) := e_ws96.at (by first | decide | (simp; done) | (simp; omega)) f_29_ws94
                            clear f_29_ws94
                            have f_29_ws101 : ws101[29]? = some ((q72, Sum.inl (cF, 4096, Sum.inr (Sum.inr (Sum.inr (Sum.inr (fun _ => none)))))) : Nat × va_E) := by rw [e_ws101]; exact gs_ne (by decide) f_29_ws96
                            clear f_29_ws96
                            have f_29_ws102 : ws102[29]? = some ((q72, Sum.inl (cF, 4096, Sum.inr (Sum.inr (Sum.inr (Sum.inr (fun _ => none)))))) : Nat × va_E) := by rw [e_ws102]; exact gs_ne (by decide) f_29_ws101
                            clear f_29_ws101
                            have f_29_ws103 : ws103[29]? = some ((q72, Sum.inl (cF, 4096, Sum.inr (Sum.inr (Sum.inr (Sum.inr (fun _ => none)))))) : Nat × va_E) := by rw [e_ws103]; exact gs_ne (by decide) f_29_ws102
                            clear f_29_ws102
                            have f_29_ws104 : ws104[29]? = some ((q72, Sum.inl (cF, 4096, Sum.inr (Sum.inr (Sum.inr (Sum.inr (fun _ => none)))))) : Nat × va_E) := by rw [e_ws104]; exact gs_ne (by decide) f_29_ws103
                            clear f_29_ws103
                            have f_30_ws74 : ws74[30]? = some ((q73, Sum.inl (cZ, 4096, Sum.inl (fun _ => 0))) : Nat × va_E) := by rw [e_ws74]; exact gs_ne (by decide) f_30_ws69
                            clear f_30_ws69
                            have f_30_ws76 : ws76[30]? = some ((q73, Sum.inl (cZ, 4096, Sum.inl (fun _ => 0))) : Nat × va_E) := by rw [e_ws76]; exact gs_app f_30_ws74
                            clear f_30_ws74
                            have f_30_ws78 : ws78[30]? = some ((q73, Sum.inl (cZ, 4096, Sum.inl (fun _ => 0))) : Nat × va_E) := e_ws78.at (by first | decide | (simp; done) | (simp; omega)) f_30_ws76
                            clear f_30_ws76
                            have f_30_ws83 : ws83[30]? = some ((q73, Sum.inl (cZ, 4096, Sum.inl (fun _ => 0))) : Nat × va_E) := by rw [e_ws83]; exact gs_ne (by decide) f_30_ws78
                            clear f_30_ws78
                            have f_30_ws85 : ws85[30]? = some ((q73, Sum.inl (cZ, 4096, Sum.inl (fun _ => 0))) : Nat × va_E) := by rw [e_ws85]; exact gs_app f_30_ws83
                            clear f_30_ws83
                            have f_30_ws87 : ws87[30]? = some ((q73, Sum.inl (cZ, 4096, Sum.inl (fun _ => 0))) : Nat × va_E) := e_ws87.at (by first | decide | (simp; done) | (simp; omega)) f_30_ws85
                            clear f_30_ws85
                            have f_30_ws92 : ws92[30]? = some ((q73, Sum.inl (cZ, 4096, Sum.inl (fun _ => 0))) : Nat × va_E) := by rw [e_ws92]; exact gs_ne (by decide) f_30_ws87
                            clear f_30_ws87
                            have f_30_ws94 : ws94[30]? = some ((q73, Sum.inl (cZ, 4096, Sum.inl (fun _ => 0))) : Nat × va_E) := by rw [e_ws94]; exact gs_app f_30_ws92
                            clear f_30_ws92
                            have f_30_ws96 : ws96[30]? = some ((q73, Sum.inl (cZ, 4096, Sum.inl (fun _ => 0))) : Nat × va_E) := e_ws96.at (by first | decide | (simp; done) | (simp; omega)) f_30_ws94
                            clear f_30_ws94
                            have f_30_ws101 : ws101[30]? = some ((q73, Sum.inl (cZ, 4096, Sum.inl (fun _ => 0))) : Nat × va_E) := by rw [e_ws101]; exact gs_ne (by decide) f_30_ws96
                            clear f_30_ws96
                            have f_30_ws102 : ws102[30]? = some ((q73, Sum.inl (cZ, 4096, Sum.inl (fun _ => 0))) : Nat × va_E) := by rw [e_ws102]; exact gs_ne (by decide) f_30_ws101
                            clear f_30_ws101
                            have f_30_ws103 : ws103[30]? = some ((q73, Sum.inl (cZ, 4096, Sum.inl (fun _ => 0))) : Nat × va_E) := by rw [e_ws103]; exact gs_ne (by decide) f_30_ws102
                            clear f_30_ws102
                            have f_30_ws104 : ws104[30]? = some ((q73, Sum.inl (cZ, 4096, Sum.inl (fun _ => 0))) : Nat × va_E) := by rw [e_ws104]; exact gs_ne (by decide) f_30_ws103
                            clear f_30_ws103
                            have f_31_ws83 : ws83[31]? = some ((q75, Sum.inr (6, [Value.ref q79, Value.int 0, Value.int 0])) : Nat × va_E) := by rw [e_ws83]; exact gs_ne (by decide) f_31_ws78
                            clear f_31_ws78
                            have f_31_ws85 : ws85[31]? = some ((q75, Sum.inr (6, [Value.ref q79, Value.int 0, Value.int 0])) : Nat × va_E) := by rw [e_ws85]; exact gs_app f_31_ws83
                            clear f_31_ws83
                            have f_31_ws87 : ws87[31]? = some ((q75, Sum.inr (6, [Value.ref q79, Value.int 0, Value.int 0])) : Nat × va_E) := e_ws87.at (by first | decide | (simp; done) | (simp; omega)) f_31_ws85
                            clear f_31_ws85
                            have f_31_ws92 : ws92[31]? = some ((q75, Sum.inr (6, [Value.ref q79, Value.int 0, Value.int 0])) : Nat × va_E) := by rw [e_ws92]; exact gs_ne (by decide) f_31_ws87
                            clear f_31_ws87
                            have f_31_ws94 : ws94[31]? = some ((q75, Sum.inr (6, [Value.ref q79, Value.int 0, Value.int 0])) : Nat × va_E) := by rw [e_ws94]; exact gs_app f_31_ws92
                            clear f_31_ws92
                            have f_31_ws96 : ws96[31]? = some ((q75, Sum.inr (6, [Value.ref q79, Value.int 0, Value.int 0])) : Nat × va_E) := e_ws96.at (by first | decide | (simp; done) | (simp; omega)) f_31_ws94
                            clear f_31_ws94
                            have f_31_ws101 : ws101[31]? = some ((q75, Sum.inr (6, [Value.ref q79, Value.int 0, Value.int 0])) : Nat × va_E) := by rw [e_ws101]; exact gs_ne (by decide) f_31_ws96
                            clear f_31_ws96
                            have f_31_ws102 : ws102[31]? = some ((q75, Sum.inr (6, [Value.ref q79, Value.int 0, Value.int 0])) : Nat × va_E) := by rw [e_ws102]; exact gs_ne (by decide) f_31_ws101
                            clear f_31_ws101
                            have f_31_ws103 : ws103[31]? = some ((q75, Sum.inr (6, [Value.ref q79, Value.int 0, Value.int 0])) : Nat × va_E) := by rw [e_ws103]; exact gs_ne (by decide) f_31_ws102
                            clear f_31_ws102
                            have f_31_ws104 : ws104[31]? = some ((q75, Sum.inr (6, [Value.ref q79, Value.int 0, Value.int 0])) : Nat × va_E) := by rw [e_ws104]; exact gs_ne (by decide) f_31_ws103
                            clear f_31_ws103
                            have f_32_ws83 : ws83[32]? = some ((q79, Sum.inr (4, [Value.ref q80, Value.ref q81, Value.ref q82, Value.null, Value.int 0, Value.int 0])) : Nat × va_E) := by rw [e_ws83]; exact gs_ne (by decide) f_32_ws78
                            clear f_32_ws78
                            have f_32_ws85 : ws85[32]? = some ((q79, Sum.inr (4, [Value.ref q80, Value.ref q81, Value.ref q82, Value.null, Value.int 0, Value.int 0])) : Nat × va_E) := by rw [e_ws85]; exact gs_app f_32_ws83
                            clear f_32_ws83
                            have f_32_ws87 : ws87[32]? = some ((q79, Sum.inr (4, [Value.ref q80, Value.ref q81, Value.ref q82, Value.null, Value.int 0, Value.int 0])) : Nat × va_E) := e_ws87.at (by first | decide | (simp; done) | (simp; omega)) f_32_ws85
                            clear f_32_ws85
                            have f_32_ws92 : ws92[32]? = some ((q79, Sum.inr (4, [Value.ref q80, Value.ref q81, Value.ref q82, Value.null, Value.int 0, Value.int 0])) : Nat × va_E) := by rw [e_ws92]; exact gs_ne (by decide) f_32_ws87
                            clear f_32_ws87
                            have f_32_ws94 : ws94[32]? = some ((q79, Sum.inr (4, [Value.ref q80, Value.ref q81, Value.ref q82, Value.null, Value.int 0, Value.int 0])) : Nat × va_E) := by rw [e_ws94]; exact gs_app f_32_ws92
                            clear f_32_ws92
                            have f_32_ws96 : ws96[32]? = some ((q79, Sum.inr (4, [Value.ref q80, Value.ref q81, Value.ref q82, Value.null, Value.int 0, Value.int 0])) : Nat × va_E) := e_ws96.at (by first | decide | (simp; done) | (simp; omega)) f_32_ws94
                            clear f_32_ws94
                            have f_32_ws101 : ws101[32]? = some ((q79, Sum.inr (4, [Value.ref q80, Value.ref q81, Value.ref q82, Value.null, Value.int 0, Value.int 0])) : Nat × va_E) := by rw [e_ws101]; exact gs_ne (by decide) f_32_ws96
                            clear f_32_ws96
                            have f_32_ws102 : ws102[32]? = some ((q79, Sum.inr (4, [Value.ref q80, Value.ref q81, Value.ref q82, Value.null, Value.int 0, Value.int 0])) : Nat × va_E) := by rw [e_ws102]; exact gs_ne (by decide) f_32_ws101
                            clear f_32_ws101
                            have f_32_ws103 : ws103[32]? = some ((q79, Sum.inr (4, [Value.ref q80, Value.ref q81, Value.ref q82, Value.null, Value.int 0, Value.int 0])) : Nat × va_E) := by rw [e_ws103]; exact gs_ne (by decide) f_32_ws102
                            clear f_32_ws102
                            have f_32_ws104 : ws104[32]? = some ((q79, Sum.inr (4, [Value.ref q80, Value.ref q81, Value.ref q82, Value.null, Value.int 0, Value.int 0])) : Nat × va_E) := by rw [e_ws104]; exact gs_ne (by decide) f_32_ws103
                            clear f_32_ws103
                            have f_33_ws83 : ws83[33]? = some ((q80, Sum.inl (cF, 4096, Sum.inr (Sum.inr (Sum.inr (Sum.inr (fun _ => none)))))) : Nat × va_E) := by rw [e_ws83]; exact gs_ne (by decide) f_33_ws78
                            clear f_33_ws78
                            have f_33_ws85 : ws85[33]? = some ((q80, Sum.inl (cF, 4096, Sum.inr (Sum.inr (Sum.inr (Sum.inr (fun _ => none)))))) : Nat × va_E) := by rw [e_ws85]; exact gs_app f_33_ws83
                            clear f_33_ws83
                            have f_33_ws87 : ws87[33]? = some ((q80, Sum.inl (cF, 4096, Sum.inr (Sum.inr (Sum.inr (Sum.inr (fun _ => none)))))) : Nat × va_E) := e_ws87.at (by first | decide | (simp; done) | (simp; omega)) f_33_ws85
                            clear f_33_ws85
                            have f_33_ws92 : ws92[33]? = some ((q80, Sum.inl (cF, 4096, Sum.inr (Sum.inr (Sum.inr (Sum.inr (fun _ => none)))))) : Nat × va_E) := by rw [e_ws92]; exact gs_ne (by decide) f_33_ws87
                            clear f_33_ws87
                            have f_33_ws94 : ws94[33]? = some ((q80, Sum.inl (cF, 4096, Sum.inr (Sum.inr (Sum.inr (Sum.inr (fun _ => none)))))) : Nat × va_E) := by rw [e_ws94]; exact gs_app f_33_ws92
                            clear f_33_ws92
                            have f_33_ws96 : ws96[33]? = some ((q80, Sum.inl (cF, 4096, Sum.inr (Sum.inr (Sum.inr (Sum.inr (fun _ => none)))))) : Nat × va_E) := e_ws96.at (by first | decide | (simp; done) | (simp; omega)) f_33_ws94
                            clear f_33_ws94
                            have f_33_ws101 : ws101[33]? = some ((q80, Sum.inl (cF, 4096, Sum.inr (Sum.inr (Sum.inr (Sum.inr (fun _ => none)))))) : Nat × va_E) := by rw [e_ws101]; exact gs_ne (by decide) f_33_ws96
                            clear f_33_ws96
                            have f_33_ws102 : ws102[33]? = some ((q80, Sum.inl (cF, 4096, Sum.inr (Sum.inr (Sum.inr (Sum.inr (fun _ => none)))))) : Nat × va_E) := by rw [e_ws102]; exact gs_ne (by decide) f_33_ws101
                            clear f_33_ws101
                            have f_33_ws103 : ws103[33]? = some ((q80, Sum.inl (cF, 4096, Sum.inr (Sum.inr (Sum.inr (Sum.inr (fun _ => none)))))) : Nat × va_E) := by rw [e_ws103]; exact gs_ne (by decide) f_33_ws102
                            clear f_33_ws102
                            have f_33_ws104 : ws104[33]? = some ((q80, Sum.inl (cF, 4096, Sum.inr (Sum.inr (Sum.inr (Sum.inr (fun _ => none)))))) : Nat × va_E) := by rw [e_ws104]; exact gs_ne (by decide) f_33_ws103
                            clear f_33_ws103
                            have f_34_ws83 : ws83[34]? = some ((q81, Sum.inl (cF, 4096, Sum.inr (Sum.inr (Sum.inr (Sum.inr (fun _ => none)))))) : Nat × va_E) := by rw [e_ws83]; exact gs_ne (by decide) f_34_ws78
                            clear f_34_ws78
                            have f_34_ws85 : ws85[34]? = some ((q81, Sum.inl (cF, 4096, Sum.inr (Sum.inr (Sum.inr (Sum.inr (fun _ => none)))))) : Nat × va_E) := by rw [e_ws85]; exact gs_app f_34_ws83
                            clear f_34_ws83
                            have f_34_ws87 : ws87[34]? = some ((q81, Sum.inl (cF, 4096, Sum.inr (Sum.inr (Sum.inr (Sum.inr (fun _ => none)))))) : Nat × va_E) := e_ws87.at (by first | decide | (simp; done) | (simp; omega)) f_34_ws85
                            clear f_34_ws85
                            have f_34_ws92 : ws92[34]? = some ((q81, Sum.inl (cF, 4096, Sum.inr (Sum.inr (Sum.inr (Sum.inr (fun _ => none)))))) : Nat × va_E) := by rw [e_ws92]; exact gs_ne (by decide) f_34_ws87
                            clear f_34_ws87
                            have f_34_ws94 : ws94[34]? = some ((q81, Sum.inl (cF, 4096, Sum.inr (Sum.inr (Sum.inr (Sum.inr (fun _ => none)))))) : Nat × va_E) := by rw [e_ws94]; exact gs_app f_34_ws92
                            clear f_34_ws92
                            have f_34_ws96 : ws96[34]? = some ((q81, Sum.inl (cF, 4096, Sum.inr (Sum.inr (Sum.inr (Sum.inr (fun _ => none)))))) : Nat × va_E) := e_ws96.at (by first | decide | (simp; done) | (simp; omega)) f_34_ws94
                            clear f_34_ws94
                            have f_34_ws101 : ws101[34]? = some ((q81, Sum.inl (cF, 4096, Sum.inr (Sum.inr (Sum.inr (Sum.inr (fun _ => none)))))) : Nat × va_E) := by rw [e_ws101]; exact gs_ne (by decide) f_34_ws96
                            clear f_34_ws96
                            have f_34_ws102 : ws102[34]? = some ((q81, Sum.inl (cF, 4096, Sum.inr (Sum.inr (Sum.inr (Sum.inr (fun _ => none)))))) : Nat × va_E) := by rw [e_ws102]; exact gs_ne (by decide) f_34_ws101
                            clear f_34_ws101
                            have f_34_ws103 : ws103[34]? = some ((q81, Sum.inl (cF, 4096, Sum.inr (Sum.inr (Sum.inr (Sum.inr (fun _ => none)))))) : Nat × va_E) := by rw [e_ws103]; exact gs_ne (by decide) f_34_ws102
                            clear f_34_ws102
                            have f_34_ws104 : ws104[34]? = some ((q81, Sum.inl (cF, 4096, Sum.inr (Sum.inr (Sum.inr (Sum.inr (fun _ => none)))))) : Nat × va_E) := by rw [e_ws104]; exact gs_ne (by decide) f_34_ws103
                            clear f_34_ws103
                            have f_35_ws83 : ws83[35]? = some ((q82, Sum.inl (cZ, 4096, Sum.inl (fun _ => 0))) : Nat × va_E) := by rw [e_ws83]; exact gs_ne (by decide) f_35_ws78
                            clear f_35_ws78
                            have f_35_ws85 : ws85[35]? = some ((q82, Sum.inl (cZ, 4096, Sum.inl (fun _ => 0))) : Nat × va_E) := by rw [e_ws85]; exact gs_app f_35_ws83
                            clear f_35_ws83
                            have f_35_ws87 : ws87[35]? = some ((q82, Sum.inl (cZ, 4096, Sum.inl (fun _ => 0))) : Nat × va_E) := e_ws87.at (by first | decide | (simp; done) | (simp; omega)) f_35_ws85
                            clear f_35_ws85
                            have f_35_ws92 : ws92[35]? = some ((q82, Sum.inl (cZ, 4096, Sum.inl (fun _ => 0))) : Nat × va_E) := by rw [e_ws92]; exact gs_ne (by decide) f_35_ws87
                            clear f_35_ws87
                            have f_35_ws94 : ws94[35]? = some ((q82, Sum.inl (cZ, 4096, Sum.inl (fun _ => 0))) : Nat × va_E) := by rw [e_ws94]; exact gs_app f_35_ws92
                            clear f_35_ws92
                            have f_35_ws96 : ws96[35]? = some ((q82, Sum.inl (cZ, 4096, Sum.inl (fun _ => 0))) : Nat × va_E) := e_ws96.at (by first | decide | (simp; done) | (simp; omega)) f_35_ws94
                            clear f_35_ws94
                            have f_35_ws101 : ws101[35]? = some ((q82, Sum.inl (cZ, 4096, Sum.inl (fun _ => 0))) : Nat × va_E) := by rw [e_ws101]; exact gs_ne (by decide) f_35_ws96
                            clear f_35_ws96
                            have f_35_ws102 : ws102[35]? = some ((q82, Sum.inl (cZ, 4096, Sum.inl (fun _ => 0))) : Nat × va_E) := by rw [e_ws102]; exact gs_ne (by decide) f_35_ws101
                            clear f_35_ws101
                            have f_35_ws103 : ws103[35]? = some ((q82, Sum.inl (cZ, 4096, Sum.inl (fun _ => 0))) : Nat × va_E) := by rw [e_ws103]; exact gs_ne (by decide) f_35_ws102
                            clear f_35_ws102
                            have f_35_ws104 : ws104[35]? = some ((q82, Sum.inl (cZ, 4096, Sum.inl (fun _ => 0))) : Nat × va_E) := by rw [e_ws104]; exact gs_ne (by decide) f_35_ws103
                            clear f_35_ws103
                            have f_36_ws92 : ws92[36]? = some ((q84, Sum.inr (6, [Value.ref q88, Value.int 0, Value.int 0])) : Nat × va_E) := by rw [e_ws92]; exact gs_ne (by decide) f_36_ws87
                            clear f_36_ws87
                            have f_36_ws94 : ws94[36]? = some ((q84, Sum.inr (6, [Value.ref q88, Value.int 0, Value.int 0])) : Nat × va_E) := by rw [e_ws94]; exact gs_app f_36_ws92
                            clear f_36_ws92
                            have f_36_ws96 : ws96[36]? = some ((q84, Sum.inr (6, [Value.ref q88, Value.int 0, Value.int 0])) : Nat × va_E) := e_ws96.at (by first | decide | (simp; done) | (simp; omega)) f_36_ws94
                            clear f_36_ws94
                            have f_36_ws101 : ws101[36]? = some ((q84, Sum.inr (6, [Value.ref q88, Value.int 0, Value.int 0])) : Nat × va_E) := by rw [e_ws101]; exact gs_ne (by decide) f_36_ws96
                            clear f_36_ws96
                            have f_36_ws102 : ws102[36]? = some ((q84, Sum.inr (6, [Value.ref q88, Value.int 0, Value.int 0])) : Nat × va_E) := by rw [e_ws102]; exact gs_ne (by decide) f_36_ws101
                            clear f_36_ws101
                            have f_36_ws103 : ws103[36]? = some ((q84, Sum.inr (6, [Value.ref q88, Value.int 0, Value.int 0])) : Nat × va_E) := by rw [e_ws103]; exact gs_ne (by decide) f_36_ws102
                            clear f_36_ws102
                            have f_36_ws104 : ws104[36]? = some ((q84, Sum.inr (6, [Value.ref q88, Value.int 0, Value.int 0])) : Nat × va_E) := by rw [e_ws104]; exact gs_ne (by decide) f_36_ws103
                            clear f_36_ws103
                            have f_37_ws92 : ws92[37]? = some ((q88, Sum.inr (4, [Value.ref q89, Value.ref q90, Value.ref q91, Value.null, Value.int 0, Value.int 0])) : Nat × va_E) := by rw [e_ws92]; exact gs_ne (by decide) f_37_ws87
                            clear f_37_ws87
                            have f_37_ws94 : ws94[37]? = some ((q88, Sum.inr (4, [Value.ref q89, Value.ref q90, Value.ref q91, Value.null, Value.int 0, Value.int 0])) : Nat × va_E) := by rw [e_ws94]; exact gs_app f_37_ws92
                            clear f_37_ws92
                            have f_37_ws96 : ws96[37]? = some ((q88, Sum.inr (4, [Value.ref q89, Value.ref q90, Value.ref q91, Value.null, Value.int 0, Value.int 0])) : Nat × va_E) := e_ws96.at (by first | decide | (simp; done) | (simp; omega)) f_37_ws94
                            clear f_37_ws94
                            have f_37_ws101 : ws101[37]? = some ((q88, Sum.inr (4, [Value.ref q89, Value.ref q90, Value.ref q91, Value.null, Value.int 0, Value.int 0])) : Nat × va_E) := by rw [e_ws101]; exact gs_ne (by decide) f_37_ws96
                            clear f_37_ws96
                            have f_37_ws102 : ws102[37]? = some ((q88, Sum.inr (4, [Value.ref q89, Value.ref q90, Value.ref q91, Value.null, Value.int 0, Value.int 0])) : Nat × va_E) := by rw [e_ws102]; exact gs_ne (by decide) f_37_ws101
                            clear f_37_ws101
                            have f_37_ws103 : ws103[37]? = some ((q88, Sum.inr (4, [Value.ref q89, Value.ref q90, Value.ref q91, Value.null, Value.int 0, Value.int 0])) : Nat × va_E) := by rw [e_ws103]; exact gs_ne (by decide) f_37_ws102
                            clear f_37_ws102
                            have f_37_ws104 : ws104[37]? = some ((q88, Sum.inr (4, [Value.ref q89, Value.ref q90, Value.ref q91, Value.null, Value.int 0, Value.int 0])) : Nat × va_E) := by rw [e_ws104]; exact gs_ne (by decide) f_37_ws103
                            clear f_37_ws103
                            have f_38_ws92 : ws92[38]? = some ((q89, Sum.inl (cF, 4096, Sum.inr (Sum.inr (Sum.inr (Sum.inr (fun _ => none)))))) : Nat × va_E) := by rw [e_ws92]; exact gs_ne (by decide) f_38_ws87
                            clear f_38_ws87
                            have f_38_ws94 : ws94[38]? = some ((q89, Sum.inl (cF, 4096, Sum.inr (Sum.inr (Sum.inr (Sum.inr (fun _ => none)))))) : Nat × va_E) := by rw [e_ws94]; exact gs_app f_38_ws92
                            clear f_38_ws92
                            have f_38_ws96 : ws96[38]? = some ((q89, Sum.inl (cF, 4096, Sum.inr (Sum.inr (Sum.inr (Sum.inr (fun _ => none)))))) : Nat × va_E) := e_ws96.at (by first | decide | (simp; done) | (simp; omega)) f_38_ws94
                            clear f_38_ws94
                            have f_38_ws101 : ws101[38]? = some ((q89, Sum.inl (cF, 4096, Sum.inr (Sum.inr (Sum.inr (Sum.inr (fun _ => none)))))) : Nat × va_E) := by rw [e_ws101]; exact gs_ne (by decide) f_38_ws96
                            clear f_38_ws96
                            have f_38_ws102 : ws102[38]? = some ((q89, Sum.inl (cF, 4096, Sum.inr (Sum.inr (Sum.inr (Sum.inr (fun _ => none)))))) : Nat × va_E) := by rw [e_ws102]; exact gs_ne (by decide) f_38_ws101
                            clear f_38_ws101
                            have f_38_ws103 : ws103[38]? = some ((q89, Sum.inl (cF, 4096, Sum.inr (Sum.inr (Sum.inr (Sum.inr (fun _ => none)))))) : Nat × va_E) := by rw [e_ws103]; exact gs_ne (by decide) f_38_ws102
                            clear f_38_ws102
                            have f_38_ws104 : ws104[38]? = some ((q89, Sum.inl (cF, 4096, Sum.inr (Sum.inr (Sum.inr (Sum.inr (fun _ => none)))))) : Nat × va_E) := by rw [e_ws104]; exact gs_ne (by decide) f_38_ws103
                            clear f_38_ws103
                            have f_39_ws92 : ws92[39]? = some ((q90, Sum.inl (cF, 4096, Sum.inr (Sum.inr (Sum.inr (Sum.inr (fun _ => none)))))) : Nat × va_E) := by rw [e_ws92]; exact gs_ne (by decide) f_39_ws87
                            clear f_39_ws87
                            have f_39_ws94 : ws94[39]? = some ((q90, Sum.inl (cF, 4096, Sum.inr (Sum.inr (Sum.inr (Sum.inr (fun _ => none)))))) : Nat × va_E) := by rw [e_ws94]; exact gs_app f_39_ws92
                            clear f_39_ws92
                            have f_39_ws96 : ws96[39]? = some ((q90, Sum.inl (cF, 4096, Sum.inr (Sum.inr (Sum.inr (Sum.inr (fun _ => none)))))) : Nat × va_E) := e_ws96.at (by first | decide | (simp; done) | (simp; omega)) f_39_ws94
                            clear f_39_ws94
                            have f_39_ws101 : ws101[39]? = some ((q90, Sum.inl (cF, 4096, Sum.inr (Sum.inr (Sum.inr (Sum.inr (fun _ => none)))))) : Nat × va_E) := by rw [e_ws101]; exact gs_ne (by decide) f_39_ws96
                            clear f_39_ws96
                            have f_39_ws102 : ws102[39]? = some ((q90, Sum.inl (cF, 4096, Sum.inr (Sum.inr (Sum.inr (Sum.inr (fun _ => none)))))) : Nat × va_E) := by rw [e_ws102]; exact gs_ne (by decide) f_39_ws101
                            clear f_39_ws101
                            have f_39_ws103 : ws103[39]? = some ((q90, Sum.inl (cF, 4096, Sum.inr (Sum.inr (Sum.inr (Sum.inr (fun _ => none)))))) : Nat × va_E) := by rw [e_ws103]; exact gs_ne (by decide) f_39_ws102
                            clear f_39_ws102
                            have f_39_ws104 : ws104[39]? = some ((q90, Sum.inl (cF, 4096, Sum.inr (Sum.inr (Sum.inr (Sum.inr (fun _ => none)))))) : Nat × va_E) := by rw [e_ws104]; exact gs_ne (by decide) f_39_ws103
                            clear f_39_ws103
                            have f_40_ws92 : ws92[40]? = some ((q91, Sum.inl (cZ, 4096, Sum.inl (fun _ => 0))) : Nat × va_E) := by rw [e_ws92]; exact gs_ne (by decide) f_40_ws87
                            clear f_40_ws87
                            have f_40_ws94 : ws94[40]? = some ((q91, Sum.inl (cZ, 4096, Sum.inl (fun _ => 0))) : Nat × va_E) := by rw [e_ws94]; exact gs_app f_40_ws92
                            clear f_40_ws92
                            have f_40_ws96 : ws96[40]? = some ((q91, Sum.inl (cZ, 4096, Sum.inl (fun _ => 0))) : Nat × va_E) := e_ws96.at (by first | decide | (simp; done) | (simp; omega)) f_40_ws94
                            clear f_40_ws94
                            have f_40_ws101 : ws101[40]? = some ((q91, Sum.inl (cZ, 4096, Sum.inl (fun _ => 0))) : Nat × va_E) := by rw [e_ws101]; exact gs_ne (by decide) f_40_ws96
                            clear f_40_ws96
                            have f_40_ws102 : ws102[40]? = some ((q91, Sum.inl (cZ, 4096, Sum.inl (fun _ => 0))) : Nat × va_E) := by rw [e_ws102]; exact gs_ne (by decide) f_40_ws101
                            clear f_40_ws101
                            have f_40_ws103 : ws103[40]? = some ((q91, Sum.inl (cZ, 4096, Sum.inl (fun _ => 0))) : Nat × va_E) := by rw [e_ws103]; exact gs_ne (by decide) f_40_ws102
                            clear f_40_ws102
                            have f_40_ws104 : ws104[40]? = some ((q91, Sum.inl (cZ, 4096, Sum.inl (fun _ => 0))) : Nat × va_E) := by rw [e_ws104]; exact gs_ne (by decide) f_40_ws103
                            clear f_40_ws103
                            have f_41_ws101 : ws101[41]? = some ((q93, Sum.inr (6, [Value.ref q97, Value.int 0, Value.int 0])) : Nat × va_E) := by rw [e_ws101]; exact gs_ne (by decide) f_41_ws96
                            clear f_41_ws96
                            have f_41_ws102 : ws102[41]? = some ((q93, Sum.inr (6, [Value.ref q97, Value.int 0, Value.int 0])) : Nat × va_E) := by rw [e_ws102]; exact gs_ne (by decide) f_41_ws101
                            clear f_41_ws101
                            have f_41_ws103 : ws103[41]? = some ((q93, Sum.inr (6, [Value.ref q97, Value.int 0, Value.int 0])) : Nat × va_E) := by rw [e_ws103]; exact gs_ne (by decide) f_41_ws102
                            clear f_41_ws102
                            have f_41_ws104 : ws104[41]? = some ((q93, Sum.inr (6, [Value.ref q97, Value.int 0, Value.int 0])) : Nat × va_E) := by rw [e_ws104]; exact gs_ne (by decide) f_41_ws103
                            clear f_41_ws103
                            have f_42_ws101 : ws101[42]? = some ((q97, Sum.inr (4, [Value.ref q98, Value.ref q99, Value.ref q100, Value.null, Value.int 0, Value.int 0])) : Nat × va_E) := by rw [e_ws101]; exact gs_ne (by decide) f_42_ws96
                            clear f_42_ws96
                            have f_42_ws102 : ws102[42]? = some ((q97, Sum.inr (4, [Value.ref q98, Value.ref q99, Value.ref q100, Value.null, Value.int 0, Value.int 0])) : Nat × va_E) := by rw [e_ws102]; exact gs_ne (by decide) f_42_ws101
                            clear f_42_ws101
                            have f_42_ws103 : ws103[42]? = some ((q97, Sum.inr (4, [Value.ref q98, Value.ref q99, Value.ref q100, Value.null, Value.int 0, Value.int 0])) : Nat × va_E) := by rw [e_ws103]; exact gs_ne (by decide) f_42_ws102
                            clear f_42_ws102
                            have f_42_ws104 : ws104[42]? = some ((q97, Sum.inr (4, [Value.ref q98, Value.ref q99, Value.ref q100, Value.null, Value.int 0, Value.int 0])) : Nat × va_E) := by rw [e_ws104]; exact gs_ne (by decide) f_42_ws103
                            clear f_42_ws103
                            have f_43_ws101 : ws101[43]? = some ((q98, Sum.inl (cF, 4096, Sum.inr (Sum.inr (Sum.inr (Sum.inr (fun _ => none)))))) : Nat × va_E) := by rw [e_ws101]; exact gs_ne (by decide) f_43_ws96
                            clear f_43_ws96
                            have f_43_ws102 : ws102[43]? = some ((q98, Sum.inl (cF, 4096, Sum.inr (Sum.inr (Sum.inr (Sum.inr (fun _ => none)))))) : Nat × va_E) := by rw [e_ws102]; exact gs_ne (by decide) f_43_ws101
                            clear f_43_ws101
                            have f_43_ws103 : ws103[43]? = some ((q98, Sum.inl (cF, 4096, Sum.inr (Sum.inr (Sum.inr (Sum.inr (fun _ => none)))))) : Nat × va_E) := by rw [e_ws103]; exact gs_ne (by decide) f_43_ws102
                            clear f_43_ws102
                            have f_43_ws104 : ws104[43]? = some ((q98, Sum.inl (cF, 4096, Sum.inr (Sum.inr (Sum.inr (Sum.inr (fun _ => none)))))) : Nat × va_E) := by rw [e_ws104]; exact gs_ne (by decide) f_43_ws103
                            clear f_43_ws103
                            have f_44_ws101 : ws101[44]? = some ((q99, Sum.inl (cF, 4096, Sum.inr (Sum.inr (Sum.inr (Sum.inr (fun _ => none)))))) : Nat × va_E) := by rw [e_ws101]; exact gs_ne (by decide) f_44_ws96
                            clear f_44_ws96
                            have f_44_ws102 : ws102[44]? = some ((q99, Sum.inl (cF, 4096, Sum.inr (Sum.inr (Sum.inr (Sum.inr (fun _ => none)))))) : Nat × va_E) := by rw [e_ws102]; exact gs_ne (by decide) f_44_ws101
                            clear f_44_ws101
                            have f_44_ws103 : ws103[44]? = some ((q99, Sum.inl (cF, 4096, Sum.inr (Sum.inr (Sum.inr (Sum.inr (fun _ => none)))))) : Nat × va_E) := by rw [e_ws103]; exact gs_ne (by decide) f_44_ws102
                            clear f_44_ws102
                            have f_44_ws104 : ws104[44]? = some ((q99, Sum.inl (cF, 4096, Sum.inr (Sum.inr (Sum.inr (Sum.inr (fun _ => none)))))) : Nat × va_E) := by rw [e_ws104]; exact gs_ne (by decide) f_44_ws103
                            clear f_44_ws103
                            have f_45_ws101 : ws101[45]? = some ((q100, Sum.inl (cZ, 4096, Sum.inl (fun _ => 0))) : Nat × va_E) := by rw [e_ws101]; exact gs_ne (by decide) f_45_ws96
                            clear f_45_ws96
                            have f_45_ws102 : ws102[45]? = some ((q100, Sum.inl (cZ, 4096, Sum.inl (fun _ => 0))) : Nat × va_E) := by rw [e_ws102]; exact gs_ne (by decide) f_45_ws101
                            clear f_45_ws101
                            have f_45_ws103 : ws103[45]? = some ((q100, Sum.inl (cZ, 4096, Sum.inl (fun _ => 0))) : Nat × va_E) := by rw [e_ws103]; exact gs_ne (by decide) f_45_ws102
                            clear f_45_ws102
                            have f_45_ws104 : ws104[45]? = some ((q100, Sum.inl (cZ, 4096, Sum.inl (fun _ => 0))) : Nat × va_E) := by rw [e_ws104]; exact gs_ne (by decide) f_45_ws103
                            clear f_45_ws103
                            obtain ⟨q, hq⟩ : ∃ q : Nat → Nat, q = fun k => ([a, q1, q5, q6, q7, q9, q13, q14, q16, q20, q21, q22, q24, q28, q29, q30, q32, q36, q37, q38, q40, q43, q48, q53, q58, q63, q66, q70, q71, q72, q73, q75, q79, q80, q81, q82, q84, q88, q89, q90, q91, q93, q97, q98, q99, q100] : List Nat).getD (k - 0) 0 := ⟨_, rfl⟩
                            have e_q0 : a = q 0 := by rw [hq]; rfl
                            have e_q1 : q1 = q 1 := by rw [hq]; rfl
                            have e_q2 : q5 = q 2 := by rw [hq]; rfl
                            have e_q3 : q6 = q 3 := by rw [hq]; rfl
                            have e_q4 : q7 = q 4 := by rw [hq]; rfl
                            have e_q5 : q9 = q 5 := by rw [hq]; rfl
                            have e_q6 : q13 = q 6 := by rw [hq]; rfl
                            have e_q7 : q14 = q 7 := by rw [hq]; rfl
                            have e_q8 : q16 = q 8 := by rw [hq]; rfl
                            have e_q9 : q20 = q 9 := by rw [hq]; rfl
                            have e_q10 : q21 = q 10 := by rw [hq]; rfl
                            have e_q11 : q22 = q 11 := by rw [hq]; rfl
                            have e_q12 : q24 = q 12 := by rw [hq]; rfl
                            have e_q13 : q28 = q 13 := by rw [hq]; rfl
                            have e_q14 : q29 = q 14 := by rw [hq]; rfl
                            have e_q15 : q30 = q 15 := by rw [hq]; rfl
                            have e_q16 : q32 = q 16 := by rw [hq]; rfl
                            have e_q17 : q36 = q 17 := by rw [hq]; rfl
                            have e_q18 : q37 = q 18 := by rw [hq]; rfl
                            have e_q19 : q38 = q 19 := by rw [hq]; rfl
                            have e_q20 : q40 = q 20 := by rw [hq]; rfl
                            have e_q21 : q43 = q 21 := by rw [hq]; rfl
                            have e_q22 : q48 = q 22 := by rw [hq]; rfl
                            have e_q23 : q53 = q 23 := by rw [hq]; rfl
                            have e_q24 : q58 = q 24 := by rw [hq]; rfl
                            have e_q25 : q63 = q 25 := by rw [hq]; rfl
                            have e_q26 : q66 = q 26 := by rw [hq]; rfl
                            have e_q27 : q70 = q 27 := by rw [hq]; rfl
                            have e_q28 : q71 = q 28 := by rw [hq]; rfl
                            have e_q29 : q72 = q 29 := by rw [hq]; rfl
                            have e_q30 : q73 = q 30 := by rw [hq]; rfl
                            have e_q31 : q75 = q 31 := by rw [hq]; rfl
                            have e_q32 : q79 = q 32 := by rw [hq]; rfl
                            have e_q33 : q80 = q 33 := by rw [hq]; rfl
                            have e_q34 : q81 = q 34 := by rw [hq]; rfl
                            have e_q35 : q82 = q 35 := by rw [hq]; rfl
                            have e_q36 : q84 = q 36 := by rw [hq]; rfl
                            have e_q37 : q88 = q 37 := by rw [hq]; rfl
                            have e_q38 : q89 = q 38 := by rw [hq]; rfl
                            have e_q39 : q90 = q 39 := by rw [hq]; rfl
                            have e_q40 : q91 = q 40 := by rw [hq]; rfl
                            have e_q41 : q93 = q 41 := by rw [hq]; rfl
                            have e_q42 : q97 = q 42 := by rw [hq]; rfl
                            have e_q43 : q98 = q 43 := by rw [hq]; rfl
                            have e_q44 : q99 = q 44 := by rw [hq]; rfl
                            have e_q45 : q100 = q 45 := by rw [hq]; rfl
                            clear hq
                            have g0 : le_G0 D cI cZ cF cM cR q ws104 := by
                              unfold le_G0
                              rw [← e_q0, ← e_q1, ← e_q2, ← e_q3, ← e_q4, ← e_q5, ← e_q6, ← e_q7, ← e_q8, ← e_q9, ← e_q10, ← e_q11, ← e_q12, ← e_q13, ← e_q14, ← e_q15, ← e_q16, ← e_q20, ← e_q25]
                              exact ⟨f_0_ws104, f_1_ws104, f_2_ws104, f_3_ws104, f_4_ws104, f_5_ws104, f_6_ws104, f_7_ws104, f_8_ws104, f_9_ws104, f_10_ws104, f_11_ws104, f_12_ws104, f_13_ws104, f_14_ws104, f_15_ws104⟩
                            have g1 : le_G1 D cI cZ cF cM cR q ws104 := by
                              unfold le_G1
                              rw [← e_q16, ← e_q17, ← e_q18, ← e_q19, ← e_q20, ← e_q21, ← e_q22, ← e_q23, ← e_q24, ← e_q25, ← e_q26, ← e_q27, ← e_q28, ← e_q29, ← e_q30, ← e_q31, ← e_q32, ← e_q36, ← e_q41]
                              exact ⟨f_16_ws104, f_17_ws104, f_18_ws104, f_19_ws104, f_20_ws104, f_21_ws104, f_22_ws104, f_23_ws104, f_24_ws104, f_25_ws104, f_26_ws104, f_27_ws104, f_28_ws104, f_29_ws104, f_30_ws104, f_31_ws104⟩
                            have g2 : le_G2 D cI cZ cF cM cR q ws104 := by
                              unfold le_G2
                              rw [← e_q32, ← e_q33, ← e_q34, ← e_q35, ← e_q36, ← e_q37, ← e_q38, ← e_q39, ← e_q40, ← e_q41, ← e_q42, ← e_q43, ← e_q44, ← e_q45]
                              exact ⟨f_32_ws104, f_33_ws104, f_34_ws104, f_35_ws104, f_36_ws104, f_37_ws104, f_38_ws104, f_39_ws104, f_40_ws104, f_41_ws104, f_42_ws104, f_43_ws104, f_44_ws104, f_45_ws104⟩
                            refine W.widen (k := 45) (n := 200000) (by decide) (by decide) ?_
                            exact gx_ret (W.vret hx hb hr (gx_post hP hK hD hS (by rw [← hPQ]; exact ⟨rfl, hU, q, e_q0.symm, g0, g1, g2⟩)) hS.2.2 d_Le_init_143)
                          · obtain ⟨E9, ws105, ce, hp, hce, hP9, -, hD9, hS9⟩ := gx_backT h0_95 hW_95 hQ_95 hL_95 hD hS hA
                            clear hQ_95 h0_95 hL_95 hW_95 hP hD hS
                            have hP := hP9
                            have hD := hD9
                            have hS := hS9
                            clear hP9 hD9 hS9
                            rcases hp with ⟨q106, q107, q108, q109, hv9, e_ws105, f_41_ws105, f_42_ws105, f_43_ws105, f_44_ws105, f_45_ws105⟩
                            cases hv9
                        · obtain ⟨E9, ws110, ce, hp, hce, hP9, -, hD9, hS9⟩ := gx_backT h0_86 hW_86 hQ_86 hL_86 hD hS hA
                          clear hQ_86 h0_86 hL_86 hW_86 hP hD hS
                          have hP := hP9
                          have hD := hD9
                          have hS := hS9
                          clear hP9 hD9 hS9
                          rcases hp with ⟨q111, q112, q113, q114, hv9, e_ws110, f_36_ws110, f_37_ws110, f_38_ws110, f_39_ws110, f_40_ws110⟩
                          cases hv9
                      · obtain ⟨E9, ws115, ce, hp, hce, hP9, -, hD9, hS9⟩ := gx_backT h0_77 hW_77 hQ_77 hL_77 hD hS hA
                        clear hQ_77 h0_77 hL_77 hW_77 hP hD hS
                        have hP := hP9
                        have hD := hD9
                        have hS := hS9
                        clear hP9 hD9 hS9
                        rcases hp with ⟨q116, q117, q118, q119, hv9, e_ws115, f_31_ws115, f_32_ws115, f_33_ws115, f_34_ws115, f_35_ws115⟩
                        cases hv9
                    · obtain ⟨E9, ws120, ce, hp, hce, hP9, -, hD9, hS9⟩ := gx_backT h0_68 hW_68 hQ_68 hL_68 hD hS hA
                      clear hQ_68 h0_68 hL_68 hW_68 hP hD hS
                      have hP := hP9
                      have hD := hD9
                      have hS := hS9
                      clear hP9 hD9 hS9
                      rcases hp with ⟨q121, q122, q123, q124, hv9, e_ws120, f_26_ws120, f_27_ws120, f_28_ws120, f_29_ws120, f_30_ws120⟩
                      cases hv9
                  · obtain ⟨E9, ws125, ce, hp, hce, hP9, -, hD9, hS9⟩ := gx_backT h0_60 hW_60 hQ_60 hL_60 hD hS hA
                    clear hQ_60 h0_60 hL_60 hW_60 hP hD hS
                    have hP := hP9
                    have hD := hD9
                    have hS := hS9
                    clear hP9 hD9 hS9
                    rcases hp with ⟨hv9, e_ws125⟩
                    cases hv9
                · obtain ⟨E9, ws126, ce, hp, hce, hP9, -, hD9, hS9⟩ := gx_backT h0_55 hW_55 hQ_55 hL_55 hD hS hA
                  clear hQ_55 h0_55 hL_55 hW_55 hP hD hS
                  have hP := hP9
                  have hD := hD9
                  have hS := hS9
                  clear hP9 hD9 hS9
                  rcases hp with ⟨hv9, e_ws126⟩
                  cases hv9
              · obtain ⟨E9, ws127, ce, hp, hce, hP9, -, hD9, hS9⟩ := gx_backT h0_50 hW_50 hQ_50 hL_50 hD hS hA
                clear hQ_50 h0_50 hL_50 hW_50 hP hD hS
                have hP := hP9
                have hD := hD9
                have hS := hS9
                clear hP9 hD9 hS9
                rcases hp with ⟨hv9, e_ws127⟩
                cases hv9
            · obtain ⟨E9, ws128, ce, hp, hce, hP9, -, hD9, hS9⟩ := gx_backT h0_45 hW_45 hQ_45 hL_45 hD hS hA
              clear hQ_45 h0_45 hL_45 hW_45 hP hD hS
              have hP := hP9
              have hD := hD9
              have hS := hS9
              clear hP9 hD9 hS9
              rcases hp with ⟨hv9, e_ws128⟩
              cases hv9
          · obtain ⟨E9, ws129, ce, hp, hce, hP9, -, hD9, hS9⟩ := gx_backT h0_34 hW_34 hQ_34 hL_34 hD hS hA
            clear hQ_34 h0_34 hL_34 hW_34 hP hD hS
            have hP := hP9
            have hD := hD9
            have hS := hS9
            clear hP9 hD9 hS9
            rcases hp with ⟨q130, q131, q132, hv9, e_ws129, f_16_ws129, f_17_ws129, f_18_ws129, f_19_ws129⟩
            cases hv9
        · obtain ⟨E9, ws133, ce, hp, hce, hP9, -, hD9, hS9⟩ := gx_backT h0_26 hW_26 hQ_26 hL_26 hD hS hA
          clear hQ_26 h0_26 hL_26 hW_26 hP hD hS
          have hP := hP9
          have hD := hD9
          have hS := hS9
          clear hP9 hD9 hS9
          rcases hp with ⟨q134, q135, q136, hv9, e_ws133, f_12_ws133, f_13_ws133, f_14_ws133, f_15_ws133⟩
          cases hv9
      · obtain ⟨E9, ws137, ce, hp, hce, hP9, -, hD9, hS9⟩ := gx_backT h0_18 hW_18 hQ_18 hL_18 hD hS hA
        clear hQ_18 h0_18 hL_18 hW_18 hP hD hS
        have hP := hP9
        have hD := hD9
        have hS := hS9
        clear hP9 hD9 hS9
        rcases hp with ⟨q138, q139, q140, hv9, e_ws137, f_8_ws137, f_9_ws137, f_10_ws137, f_11_ws137⟩
        cases hv9
    · obtain ⟨E9, ws141, ce, hp, hce, hP9, -, hD9, hS9⟩ := gx_backT h0_11 hW_11 hQ_11 hL_11 hD hS hA
      clear hQ_11 h0_11 hL_11 hW_11 hP hD hS
      have hP := hP9
      have hD := hD9
      have hS := hS9
      clear hP9 hD9 hS9
      rcases hp with ⟨q142, q143, hv9, e_ws141, f_5_ws141, f_6_ws141, f_7_ws141⟩
      cases hv9
  · obtain ⟨E9, ws144, ce, hp, hce, hP9, -, hD9, hS9⟩ := gx_backT h0_3 hW_3 hQ_3 hL_3 hD hS hA
    clear hQ_3 h0_3 hL_3 hW_3 hP hD hS
    have hP := hP9
    have hD := hD9
    have hS := hS9
    clear hP9 hD9 hS9
    rcases hp with ⟨q145, q146, q147, hv9, e_ws144, f_1_ws144, f_2_ws144, f_3_ws144, f_4_ws144⟩
    cases hv9
