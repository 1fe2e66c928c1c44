/-! THE TURNS OF THE LAW on new objects; rows printed by an own text program -/
set_option maxHeartbeats 4000000 in
set_option maxRecDepth 100000 in
theorem law_t3 {p : Program} {e : Env} {s : State} {m : MethodId} {below : List Frame} {meth : Method} {c : Code} {Q : State → Prop} (l : Launch) (htr : l.stackTraces = false) {b : Nat} {xs : Nat → Int32} (hx : p.tables.exec = Jvm.exec) (hb : c.code = code) (hml : c.maxLocals = 7) (hown : s.vm.findClass "CommitLedgerLaw" = some m.cls) (hts1 : ∀ w ∈ lw_tbl, w.before #[Value.ref b] s = true) (hgv : (Jvm.Cond.and given_1 narrow_1).before #[Value.ref b] s = true) (hX : va_X b 4 xs s s.heap) (hbl : b < s.heap.size) (D : va_G) (tys : List (ClassId × FieldType)) (cI cZ cF cM cR cV cJ : ClassId) (q0 q1 q2 q3 q4 q5 q6 q7 q8 q9 q10 q11 q12 q13 q14 q15 q16 q17 q18 q19 q20 q21 q22 q23 q24 q25 q26 q27 q28 q29 q30 q31 q32 q33 q34 q35 q36 q37 q38 q39 q40 q41 q42 q43 q44 q45 q46 q47 q48 q49 q50 q51 q52 q53 q54 q55 q56 q57 q58 q59 q60 q61 q62 q63 q64 q65 q66 q67 q68 q69 q70 q71 q72 q73 q74 q75 q76 q77 q78 q79 q80 q81 q82 q83 q84 q85 q86 q87 q88 q89 q90 q91 q92 q93 q94 q95 q96 q97 q98 q99 q100 q101 q102 q103 q104 q105 q106 q107 q108 q109 q110 q111 q112 q113 q114 q115 q116 : Nat) (u0 u1 um : Value) (ws : va_W) (H : Heap) (locs : List Loc) (ls : Array Slot) (hK : va_K D classes tys s) (htys : tys = [(cI, FieldType.int), (cZ, FieldType.boolean), (cF, FieldType.object "CommitLedger$LedgerFile"), (cM, FieldType.object "CommitLedger$Merge"), (cR, FieldType.object "CommitLedger$Reader"), (cV, FieldType.object "CommitLedgerModel$Version"), (cJ, FieldType.long)]) (hP : va_P D classes ws H) (hD : va_D (fun q : Nat => s.heap.size ≤ q) ws) (hS : va_S (fun q : Nat => s.heap.size ≤ q) s.heap H locs) (hlen : ws.length = 117) (f_0 : ws[0]? = some ((q0, Sum.inr (0, [Value.ref q1, Value.ref q5, Value.ref q8, Value.ref q20, Value.ref q25, Value.ref q12, Value.ref q16, Value.int 0, Value.int 0, Value.int 0, Value.int 16, Value.int 4, Value.int 0, Value.int 0, Value.int 0, Value.int 0, Value.int 0, Value.int (-1)])) : Nat × va_E)) (f_46 : ws[46]? = some ((q46, Sum.inr (8, [Value.int 0, Value.int 0, Value.ref q47, Value.ref q48, Value.ref q49, Value.int 0, Value.ref q50, Value.ref q51, Value.ref q52, Value.ref q53, Value.int 0, Value.int 0, Value.int 0, Value.int (-1), Value.int 0, Value.ref q54, Value.ref q62, Value.ref q70, Value.int 0, Value.int 0, Value.int 0, Value.ref q78, Value.ref q79, Value.int 0, Value.int 16, Value.int 4, um, Value.ref q80, Value.ref q81, Value.ref q82, Value.int 0, Value.ref q83, Value.int 0, Value.int 0, Value.int 0])) : Nat × va_E)) (hl : lv_has ls 7 [(4, Value.int 0), (3, Value.ref q116), (2, Value.ref q46), (1, Value.ref q0), (0, Value.ref b)])
    (k : ∀ (H : Heap) (locs : List Loc) (ls : Array Slot), va_S (fun q : Nat => s.heap.size ≤ q) s.heap H locs → lv_has ls 7 [(4, Value.int 0), (0, Value.ref b)] → W p l e room_1 s m #[Value.ref b] below meth c H locs 400 700000 Q (F0 m 1272 ls [])) :
    W p l e room_1 s m #[Value.ref b] below meth c H locs 122 677754 Q (F0 m 324 ls []) := by
  have ht0 : tys[0]? = some ((cI, FieldType.int) : ClassId × FieldType) := by rw [htys]; rfl
  have ht1 : tys[1]? = some ((cZ, FieldType.boolean) : ClassId × FieldType) := by rw [htys]; rfl
  have ht2 : tys[2]? = some ((cF, FieldType.object "CommitLedger$LedgerFile") : ClassId × FieldType) := by rw [htys]; rfl
  have ht3 : tys[3]? = some ((cM, FieldType.object "CommitLedger$Merge") : ClassId × FieldType) := by rw [htys]; rfl
  have ht4 : tys[4]? = some ((cR, FieldType.object "CommitLedger$Reader") : ClassId × FieldType) := by rw [htys]; rfl
  have ht5 : tys[5]? = some ((cV, FieldType.object "CommitLedgerModel$Version") : ClassId × FieldType) := by rw [htys]; rfl
  have ht6 : tys[6]? = some ((cJ, FieldType.long) : ClassId × FieldType) := by rw [htys]; rfl
  have hY := gx_Y0 hts1 hgv
  have hts := gx_hts0 hts1 hgv
  obtain ⟨z, hzz⟩ : ∃ x : Nat, x = s.heap.size := ⟨_, rfl⟩
  rw [← hzz] at hY
  have hz : z ≤ s.heap.size := Nat.le_of_eq hzz
  have hAz : ∀ q : Nat, (fun q : Nat => s.heap.size ≤ q) q → z ≤ q := fun q h => by rw [hzz]; exact h
  have hA : ∀ q : Nat, s.heap.size ≤ q → (fun q : Nat => s.heap.size ≤ q) q := fun _ h => h
  have hbA : ¬ (fun q : Nat => s.heap.size ≤ q) b := Nat.not_le.mpr hbl
  have hN : gx_NS (fun q : Nat => s.heap.size ≤ q) s := fun q cell h hc => absurd (Array.getElem?_eq_some_iff.mp hc).1 (Nat.not_lt.mpr h)
  have hlen0 := hlen
  have hU : gx_g ws ws 0 [0, 1, 2, 3, 4, 5, 6, 7, 8, 9, 10, 11, 12, 13, 14, 15, 16, 17, 18, 19, 20, 21, 22, 23, 24, 25, 26, 27, 28, 29, 30, 31, 32, 33, 34, 35, 36, 37, 38, 39, 40, 41, 42, 43, 44, 45, 46, 47, 48, 49, 50, 51, 52, 53, 54, 55, 56, 57, 58, 59, 60, 61, 62, 63, 64, 65, 66, 67, 68, 69, 70, 71, 72, 73, 74, 75, 76, 77, 78, 79, 80, 81, 82, 83, 84, 85, 86, 87, 88, 89, 90, 91, 92, 93, 94, 95, 96, 97, 98, 99, 100, 101, 102, 103, 104, 105, 106, 107, 108, 109, 110, 111, 112, 113, 114, 115, 116] := gx_g.rf
  obtain ⟨y0, hy0⟩ : ∃ y : Int32, y = xs 0 := ⟨_, rfl⟩
  obtain ⟨y1, hy1⟩ : ∃ y : Int32, y = xs 1 := ⟨_, rfl⟩
  obtain ⟨y2, hy2⟩ : ∃ y : Int32, y = xs 2 := ⟨_, rfl⟩
  obtain ⟨y3, hy3⟩ : ∃ y : Int32, y = xs 3 := ⟨_, rfl⟩
  generalize hAe : (fun q : Nat => s.heap.size ≤ q) = A at hD hN hA hAz hS hbA
  refine lv_aload_n hx hb d_Lw_law_324 rfl (lv_at hl 3 rfl) ?_
  refine lv_aload_n hx hb d_Lw_law_325 rfl (lv_at hl 4 rfl) ?_
  refine lv_iload hx hb d_Lw_law_326 (lv_at hl 0 rfl) ?_
  refine lv_iconst (v := 1) hx hb d_Lw_law_328 (by decide) ?_
  refine lv_iadd hx hb d_Lw_law_329 ?_
  refine gx_topi (y := 1) (by decide) ?_
  refine va_sld hx hb hX hbl hbA hS (i := 1) (gx_inl (by decide)) d_Lw_law_330 ?_
  refine gx_topi (y := y1) (by rw [hy1]; rfl) ?_
  refine lv_aload_n hx hb d_Lw_law_331 rfl (lv_at hl 1 rfl) ?_
  refine gx_callH (ig := .invokestatic 109) (c_Lw_erase_v1 l htr D tys z _ ws q0 y1 q116 q1 q5 q8 q20 q25 q12 q16 f_0) (gx_invSH (As := [Value.ref q0, Value.int y1, Value.ref q116]) (rest := []) hx hb hown hts km_Lw_109 kS_Lw_erase kN_Lw kc_Lw_erase (by decide) (show (parseMethodDescriptor y_Lw_erase.desc).map (fun d => d.parameters.length) = some 3 by decide +kernel) rfl rfl d_Lw_law_332) (gx_cwH hts kc_Lw_erase kN_Lw rfl rfl ⟨Nat.le_of_ble_eq_true rfl, Nat.le_of_ble_eq_true rfl⟩) hb hml gx_blind (gx_pre hz hP hK hD hY hS hAz [Value.ref q0, Value.int y1, Value.ref q116]) rfl hl.1 (lv_room (Nat.le_of_ble_eq_true rfl)) d_Lw_law_332 ⟨Nat.le_of_ble_eq_true rfl, Nat.le_of_ble_eq_true rfl⟩ (fun v1 st1 t1 L1 h0_1 hW_1 hQ_1 hL_1 => ?_) (fun v1 st1 t1 L1 h0_1 hW_1 hQ_1 hL_1 => ?_)
  · obtain ⟨ws2, hp, hP9, -, hD9, hS9⟩ := gx_back h0_1 hW_1 hQ_1 hL_1 hD hS hA
    clear hQ_1 h0_1 hL_1 hW_1 hP hD hS
    have hP := hP9
    have hD := hD9
    have hS := hS9
    clear hP9 hD9 hS9
    rcases hp with ⟨hv9, e_ws2⟩
    cases hv9
    rw [e_ws2] at hP hD
    refine W.eq (g2 := F0 m 335 ls [Value.int 1]) rfl ?_
    refine W.widen (k := 123) (n := 677760) (by decide) (by decide) ?_
    generalize t1.heap = H at hP hS ⊢
    generalize locs ++ L1 = locs at hS ⊢
    refine lv_istore (lv' := [(5, Value.int 1), (4, Value.int 0), (3, Value.ref q116), (2, Value.ref q46), (1, Value.ref q0), (0, Value.ref b)]) hx hb d_Lw_law_335 hl (by decide) rfl (fun ls hl => ?_)
    refine lv_aload_n hx hb d_Lw_law_337 rfl (lv_at hl 3 rfl) ?_
    refine lv_aload_n hx hb d_Lw_law_338 rfl (lv_at hl 5 rfl) ?_
    refine lv_iload hx hb d_Lw_law_339 (lv_at hl 1 rfl) ?_
    refine lv_iconst (v := 1) hx hb d_Lw_law_341 (by decide) ?_
    refine lv_iadd hx hb d_Lw_law_342 ?_
    refine gx_topi (y := 1) (by decide) ?_
    refine va_sld hx hb hX hbl hbA hS (i := 1) (gx_inl (by decide)) d_Lw_law_343 ?_
    refine gx_topi (y := y1) (by rw [hy1]; rfl) ?_
    refine gx_call (ig := .invokevirtual 111) (c_Mo_erase_v1 l htr D tys z _ ws q46 y1 q47 q48 q49 q50 q51 q52 q53 q54 q62 q70 q78 q79 (um) q80 q81 q82 q83 f_46) (gx_invV (As := [Value.int y1]) (rest := []) hx hb hown hts km_Lw_111 kI_Mo_erase kV_Mo_erase kc_Mo_erase (by decide) (show (parseMethodDescriptor y_Mo_erase.desc).map (fun d => d.parameters.length) = some 1 by decide +kernel) (gx_recv (ci := 8) hK hP rfl f_46) rfl rfl d_Lw_law_344) (gx_cw (z := 0) hts kc_Mo_erase kN_Mo rfl rfl ⟨Nat.le_of_ble_eq_true rfl, Nat.le_of_ble_eq_true rfl⟩) hb hml gx_blind (gx_pre hz hP hK hD hY hS hAz [Value.ref q46, Value.int y1]) rfl hl.1 (lv_room (Nat.le_of_ble_eq_true rfl)) d_Lw_law_344 ⟨Nat.le_of_ble_eq_true rfl, Nat.le_of_ble_eq_true rfl⟩ (fun v3 st3 t3 L3 h0_3 hW_3 hQ_3 hL_3 => ?_) (fun v3 st3 t3 L3 h0_3 hW_3 hQ_3 hL_3 => ?_)
    · obtain ⟨ws4, hp, hP9, -, hD9, hS9⟩ := gx_back h0_3 hW_3 hQ_3 hL_3 hD hS hA
      clear hQ_3 h0_3 hL_3 hW_3 hP hD hS
      have hP := hP9
      have hD := hD9
      have hS := hS9
      clear hP9 hD9 hS9
      rcases hp with ⟨hv9, e_ws4, f_46_ws4⟩
      cases hv9
      have f_46_ws4 : ws4[46]? = some ((q46, Sum.inr (8, [Value.int 0, Value.int 1, Value.ref q47, Value.ref q48, Value.ref q49, Value.int 0, Value.ref q50, Value.ref q51, Value.ref q52, Value.ref q53, Value.int 0, Value.int 0, Value.int 0, Value.int (-1), Value.int 0, Value.ref q54, Value.ref q62, Value.ref q70, Value.int 0, Value.int 0, Value.int 0, Value.ref q78, Value.ref q79, Value.int 0, Value.int 16, Value.int 4, um, Value.ref q80, Value.ref q81, Value.ref q82, Value.int 0, Value.ref q83, Value.int 0, Value.int 0, Value.int 0])) : Nat × va_E) := f_46_ws4
      replace hlen : ws4.length = 117 := by rw [e_ws4.1, hlen]
      replace hU : gx_g ws ws4 0 [0, 1, 2, 3, 4, 5, 6, 7, 8, 9, 10, 11, 12, 13, 14, 15, 16, 17, 18, 19, 20, 21, 22, 23, 24, 25, 26, 27, 28, 29, 30, 31, 32, 33, 34, 35, 36, 37, 38, 39, 40, 41, 42, 43, 44, 45, 46, 47, 48, 49, 50, 51, 52, 53, 54, 55, 56, 57, 58, 59, 60, 61, 62, 63, 64, 65, 66, 67, 68, 69, 70, 71, 72, 73, 74, 75, 76, 77, 78, 79, 80, 81, 82, 83, 84, 85, 86, 87, 88, 89, 90, 91, 92, 93, 94, 95, 96, 97, 98, 99, 100, 101, 102, 103, 104, 105, 106, 107, 108, 109, 110, 111, 112, 113, 114, 115, 116] := hU.call e_ws4 (by rw [hlen0]; decide)
      refine W.eq (g2 := F0 m 347 ls [Value.int 0]) rfl ?_
      generalize t3.heap = H at hP hS ⊢
      generalize locs ++ L3 = locs at hS ⊢
      refine lv_istore (lv' := [(6, Value.int 0), (5, Value.int 1), (4, Value.int 0), (3, Value.ref q116), (2, Value.ref q46), (1, Value.ref q0), (0, Value.ref b)]) hx hb d_Lw_law_347 hl (by decide) rfl (fun ls hl => ?_)
      refine lv_aload_n hx hb d_Lw_law_349 rfl (lv_at hl 4 rfl) ?_
      refine gx_call (ig := .invokevirtual 98) (c_Mo_thrown l htr D tys z _ ws4 q46 46 (Value.int 0) 1 (Value.ref q47) (Value.ref q48) (Value.ref q49) (Value.int 0) (Value.ref q50) (Value.ref q51) (Value.ref q52) (Value.ref q53) (Value.int 0) (Value.int 0) (Value.int 0) (Value.int (-1)) (Value.int 0) (Value.ref q54) (Value.ref q62) (Value.ref q70) (Value.int 0) (Value.int 0) (Value.int 0) (Value.ref q78) (Value.ref q79) (Value.int 0) (Value.int 16) (Value.int 4) (um) (Value.ref q80) (Value.ref q81) (Value.ref q82) (Value.int 0) (Value.ref q83) (Value.int 0) (Value.int 0) (Value.int 0) f_46_ws4) (gx_invV (As := []) (rest := []) hx hb hown hts km_Lw_98 kI_Mo_thrown kV_Mo_thrown kc_Mo_thrown (by decide) (show (parseMethodDescriptor y_Mo_thrown.desc).map (fun d => d.parameters.length) = some 0 by decide +kernel) (gx_recv (ci := 8) hK hP rfl f_46_ws4) rfl rfl d_Lw_law_350) (gx_cw (z := 0) hts kc_Mo_thrown kN_Mo rfl rfl ⟨Nat.le_of_ble_eq_true rfl, Nat.le_of_ble_eq_true rfl⟩) hb hml gx_blind (gx_pre hz hP hK hD hY hS hAz [Value.ref q46]) rfl hl.1 (lv_room (Nat.le_of_ble_eq_true rfl)) d_Lw_law_350 ⟨Nat.le_of_ble_eq_true rfl, Nat.le_of_ble_eq_true rfl⟩ (fun v5 st5 t5 L5 h0_5 hW_5 hQ_5 hL_5 => ?_) (fun v5 st5 t5 L5 h0_5 hW_5 hQ_5 hL_5 => ?_)
      · obtain ⟨ws6, hp, hP9, -, hD9, hS9⟩ := gx_back h0_5 hW_5 hQ_5 hL_5 hD hS hA
        clear hQ_5 h0_5 hL_5 hW_5 hP hD hS
        have hP := hP9
        have hD := hD9
        have hS := hS9
        clear hP9 hD9 hS9
        rcases hp with ⟨hv9, e_ws6⟩
        cases hv9
        rw [e_ws6] at hP hD
        refine W.eq (g2 := F0 m 353 ls [Value.int 1]) rfl ?_
        generalize t5.heap = H at hP hS ⊢
        generalize locs ++ L5 = locs at hS ⊢
        refine lv_iload hx hb d_Lw_law_353 (lv_at hl 1 rfl) ?_
        refine lv_icmp_eq (tgt := 360) hx hb d_Lw_law_355 (by decide) (fun _ => ?_) (fun c9 => absurd (by decide) c9)
        refine lv_iload hx hb d_Lw_law_360 (lv_at hl 1 rfl) ?_
        refine lv_if_ne (tgt := 377) hx hb d_Lw_law_362 (by decide) (fun _ => ?_) (fun c9 => absurd c9 (by decide))
        refine lv_goto (tgt := 1272) hx hb d_Lw_law_377 (by decide) ?_
        refine W.widen (k := 400) (n := 700000) (by decide) (by decide) ?_
        exact k _ _ ls (by rw [hAe]; exact hS) (lv_sub hl [2, 6] rfl)
      · obtain ⟨E9, ws7, ce, hp, hce, hP9, -, hD9, hS9⟩ := gx_backT h0_5 hW_5 hQ_5 hL_5 hD hS hA
        clear hQ_5 h0_5 hL_5 hW_5 hP hD hS
        have hP := hP9
        have hD := hD9
        have hS := hS9
        clear hP9 hD9 hS9
        rcases hp with ⟨hv9, e_ws7⟩
        cases hv9
    · obtain ⟨E9, ws8, ce, hp, hce, hP9, -, hD9, hS9⟩ := gx_backT h0_3 hW_3 hQ_3 hL_3 hD hS hA
      clear hQ_3 h0_3 hL_3 hW_3 hP hD hS
      have hP := hP9
      have hD := hD9
      have hS := hS9
      clear hP9 hD9 hS9
      rcases hp with ⟨hv9, e_ws8, f_46_ws8⟩
      cases hv9
  · obtain ⟨E9, ws9, ce, hp, hce, hP9, -, hD9, hS9⟩ := gx_backT h0_1 hW_1 hQ_1 hL_1 hD hS hA
    clear hQ_1 h0_1 hL_1 hW_1 hP hD hS
    have hP := hP9
    have hD := hD9
    have hS := hS9
    clear hP9 hD9 hS9
    rcases hp with ⟨hv9, e_ws9⟩
    cases hv9

set_option maxHeartbeats 4000000 in
set_option maxRecDepth 100000 in
theorem law_t4 {p : Program} {e : Env} {s : State} {m : MethodId} {below : List Frame} {meth : Method} {c : Code} {Q : State → Prop} (l : Launch) (htr : l.stackTraces = false) {b : Nat} {xs : Nat → Int32} (hx : p.tables.exec = Jvm.exec) (hb : c.code = code) (hml : c.maxLocals = 7) (hown : s.vm.findClass "CommitLedgerLaw" = some m.cls) (hts1 : ∀ w ∈ lw_tbl, w.before #[Value.ref b] s = true) (hgv : (Jvm.Cond.and given_1 narrow_1).before #[Value.ref b] s = true) (hX : va_X b 4 xs s s.heap) (hbl : b < s.heap.size) (D : va_G) (tys : List (ClassId × FieldType)) (cI cZ cF cM cR cV cJ : ClassId) (q0 q1 q2 q3 q4 q5 q6 q7 q8 q9 q10 q11 q12 q13 q14 q15 q16 q17 q18 q19 q20 q21 q22 q23 q24 q25 q26 q27 q28 q29 q30 q31 q32 q33 q34 q35 q36 q37 q38 q39 q40 q41 q42 q43 q44 q45 q46 q47 q48 q49 q50 q51 q52 q53 q54 q55 q56 q57 q58 q59 q60 q61 q62 q63 q64 q65 q66 q67 q68 q69 q70 q71 q72 q73 q74 q75 q76 q77 q78 q79 q80 q81 q82 q83 q84 q85 q86 q87 q88 q89 q90 q91 q92 q93 q94 q95 q96 q97 q98 q99 q100 q101 q102 q103 q104 q105 q106 q107 q108 q109 q110 q111 q112 q113 q114 q115 q116 : Nat) (u0 u1 um : Value) (ws : va_W) (H : Heap) (locs : List Loc) (ls : Array Slot) (hK : va_K D classes tys s) (htys : tys = [(cI, FieldType.int), (cZ, FieldType.boolean), (cF, FieldType.object "CommitLedger$LedgerFile"), (cM, FieldType.object "CommitLedger$Merge"), (cR, FieldType.object "CommitLedger$Reader"), (cV, FieldType.object "CommitLedgerModel$Version"), (cJ, FieldType.long)]) (hP : va_P D classes ws H) (hD : va_D (fun q : Nat => s.heap.size ≤ q) ws) (hS : va_S (fun q : Nat => s.heap.size ≤ q) s.heap H locs) (hlen : ws.length = 117) (f_0 : ws[0]? = some ((q0, Sum.inr (0, [Value.ref q1, Value.ref q5, Value.ref q8, Value.ref q20, Value.ref q25, Value.ref q12, Value.ref q16, Value.int 0, Value.int 0, Value.int 0, Value.int 16, Value.int 4, Value.int 0, Value.int 0, Value.int 0, Value.int 0, Value.int 0, Value.int (-1)])) : Nat × va_E)) (f_46 : ws[46]? = some ((q46, Sum.inr (8, [Value.int 0, Value.int 0, Value.ref q47, Value.ref q48, Value.ref q49, Value.int 0, Value.ref q50, Value.ref q51, Value.ref q52, Value.ref q53, Value.int 0, Value.int 0, Value.int 0, Value.int (-1), Value.int 0, Value.ref q54, Value.ref q62, Value.ref q70, Value.int 0, Value.int 0, Value.int 0, Value.ref q78, Value.ref q79, Value.int 0, Value.int 16, Value.int 4, um, Value.ref q80, Value.ref q81, Value.ref q82, Value.int 0, Value.ref q83, Value.int 0, Value.int 0, Value.int 0])) : Nat × va_E)) (f_54 : ws[54]? = some ((q54, Sum.inr (9, [Value.ref q55, Value.ref q56, Value.ref q57, Value.ref q58, Value.ref q59, Value.ref q60, Value.ref q61, Value.int 0, Value.int 0, Value.int 0, Value.int 0])) : Nat × va_E)) (f_83 : ws[83]? = some ((q83, Sum.inl (cV, 4, Sum.inr (Sum.inr (Sum.inr (Sum.inr (va_up (va_up (va_up (va_up (fun _ => none) 0 (some q84)) 1 (some q92)) 2 (some q100)) 3 (some q108))))))) : Nat × va_E)) (f_84 : ws[84]? = some ((q84, Sum.inr (9, [Value.ref q85, Value.ref q86, Value.ref q87, Value.ref q88, Value.ref q89, Value.ref q90, Value.ref q91, Value.int 0, Value.int 0, Value.int 0, Value.int 0])) : Nat × va_E)) (f_92 : ws[92]? = some ((q92, Sum.inr (9, [Value.ref q93, Value.ref q94, Value.ref q95, Value.ref q96, Value.ref q97, Value.ref q98, Value.ref q99, Value.int 0, Value.int 0, Value.int 0, Value.int 0])) : Nat × va_E)) (f_100 : ws[100]? = some ((q100, Sum.inr (9, [Value.ref q101, Value.ref q102, Value.ref q103, Value.ref q104, Value.ref q105, Value.ref q106, Value.ref q107, Value.int 0, Value.int 0, Value.int 0, Value.int 0])) : Nat × va_E)) (f_108 : ws[108]? = some ((q108, Sum.inr (9, [Value.ref q109, Value.ref q110, Value.ref q111, Value.ref q112, Value.ref q113, Value.ref q114, Value.ref q115, Value.int 0, Value.int 0, Value.int 0, Value.int 0])) : Nat × va_E)) (hl : lv_has ls 7 [(4, Value.int 0), (3, Value.ref q116), (2, Value.ref q46), (1, Value.ref q0), (0, Value.ref b)])
    (k : ∀ (H : Heap) (locs : List Loc) (ls : Array Slot), va_S (fun q : Nat => s.heap.size ≤ q) s.heap H locs → lv_has ls 7 [(4, Value.int 0), (0, Value.ref b)] → W p l e room_1 s m #[Value.ref b] below meth c H locs 400 700000 Q (F0 m 1272 ls [])) :
    W p l e room_1 s m #[Value.ref b] below meth c H locs 122 677754 Q (F0 m 380 ls []) := by
  have ht0 : tys[0]? = some ((cI, FieldType.int) : ClassId × FieldType) := by rw [htys]; rfl
  have ht1 : tys[1]? = some ((cZ, FieldType.boolean) : ClassId × FieldType) := by rw [htys]; rfl
  have ht2 : tys[2]? = some ((cF, FieldType.object "CommitLedger$LedgerFile") : ClassId × FieldType) := by rw [htys]; rfl
  have ht3 : tys[3]? = some ((cM, FieldType.object "CommitLedger$Merge") : ClassId × FieldType) := by rw [htys]; rfl
  have ht4 : tys[4]? = some ((cR, FieldType.object "CommitLedger$Reader") : ClassId × FieldType) := by rw [htys]; rfl
  have ht5 : tys[5]? = some ((cV, FieldType.object "CommitLedgerModel$Version") : ClassId × FieldType) := by rw [htys]; rfl
  have ht6 : tys[6]? = some ((cJ, FieldType.long) : ClassId × FieldType) := by rw [htys]; rfl
  have hY := gx_Y0 hts1 hgv
  have hts := gx_hts0 hts1 hgv
  obtain ⟨z, hzz⟩ : ∃ x : Nat, x = s.heap.size := ⟨_, rfl⟩
  rw [← hzz] at hY
  have hz : z ≤ s.heap.size := Nat.le_of_eq hzz
  have hAz : ∀ q : Nat, (fun q : Nat => s.heap.size ≤ q) q → z ≤ q := fun q h => by rw [hzz]; exact h
  have hA : ∀ q : Nat, s.heap.size ≤ q → (fun q : Nat => s.heap.size ≤ q) q := fun _ h => h
  have hbA : ¬ (fun q : Nat => s.heap.size ≤ q) b := Nat.not_le.mpr hbl
  have hN : gx_NS (fun q : Nat => s.heap.size ≤ q) s := fun q cell h hc => absurd (Array.getElem?_eq_some_iff.mp hc).1 (Nat.not_lt.mpr h)
  have hlen0 := hlen
  have hU : gx_g ws ws 0 [0, 1, 2, 3, 4, 5, 6, 7, 8, 9, 10, 11, 12, 13, 14, 15, 16, 17, 18, 19, 20, 21, 22, 23, 24, 25, 26, 27, 28, 29, 30, 31, 32, 33, 34, 35, 36, 37, 38, 39, 40, 41, 42, 43, 44, 45, 46, 47, 48, 49, 50, 51, 52, 53, 54, 55, 56, 57, 58, 59, 60, 61, 62, 63, 64, 65, 66, 67, 68, 69, 70, 71, 72, 73, 74, 75, 76, 77, 78, 79, 80, 81, 82, 83, 84, 85, 86, 87, 88, 89, 90, 91, 92, 93, 94, 95, 96, 97, 98, 99, 100, 101, 102, 103, 104, 105, 106, 107, 108, 109, 110, 111, 112, 113, 114, 115, 116] := gx_g.rf
  obtain ⟨y0, hy0⟩ : ∃ y : Int32, y = xs 0 := ⟨_, rfl⟩
  obtain ⟨y1, hy1⟩ : ∃ y : Int32, y = xs 1 := ⟨_, rfl⟩
  obtain ⟨y2, hy2⟩ : ∃ y : Int32, y = xs 2 := ⟨_, rfl⟩
  obtain ⟨y3, hy3⟩ : ∃ y : Int32, y = xs 3 := ⟨_, rfl⟩
  generalize hAe : (fun q : Nat => s.heap.size ≤ q) = A at hD hN hA hAz hS hbA
  refine lv_aload_n hx hb d_Lw_law_380 rfl (lv_at hl 3 rfl) ?_
  refine lv_aload_n hx hb d_Lw_law_381 rfl (lv_at hl 1 rfl) ?_
  refine gx_callH (ig := .invokestatic 112) (c_Lw_flush_v1 l htr D tys z _ ws q0 q116 q1 q5 q8 q20 q25 q12 q16 f_0) (gx_invSH (As := [Value.ref q0, Value.ref q116]) (rest := []) hx hb hown hts km_Lw_112 kS_Lw_flush kN_Lw kc_Lw_flush (by decide) (show (parseMethodDescriptor y_Lw_flush.desc).map (fun d => d.parameters.length) = some 2 by decide +kernel) rfl rfl d_Lw_law_382) (gx_cwH hts kc_Lw_flush kN_Lw rfl rfl ⟨Nat.le_of_ble_eq_true rfl, Nat.le_of_ble_eq_true rfl⟩) hb hml gx_blind (gx_pre hz hP hK hD hY hS hAz [Value.ref q0, Value.ref q116]) rfl hl.1 (lv_room (Nat.le_of_ble_eq_true rfl)) d_Lw_law_382 ⟨Nat.le_of_ble_eq_true rfl, Nat.le_of_ble_eq_true rfl⟩ (fun v1 st1 t1 L1 h0_1 hW_1 hQ_1 hL_1 => ?_) (fun v1 st1 t1 L1 h0_1 hW_1 hQ_1 hL_1 => ?_)
  · obtain ⟨ws2, hp, hP9, -, hD9, hS9⟩ := gx_back h0_1 hW_1 hQ_1 hL_1 hD hS hA
    clear hQ_1 h0_1 hL_1 hW_1 hP hD hS
    have hP := hP9
    have hD := hD9
    have hS := hS9
    clear hP9 hD9 hS9
    rcases hp with ⟨hv9, e_ws2⟩
    cases hv9
    rw [e_ws2] at hP hD
    refine W.eq (g2 := F0 m 385 ls [Value.int 1]) rfl ?_
    refine W.widen (k := 123) (n := 677760) (by decide) (by decide) ?_
    generalize t1.heap = H at hP hS ⊢
    generalize locs ++ L1 = locs at hS ⊢
    refine lv_istore (lv' := [(5, Value.int 1), (4, Value.int 0), (3, Value.ref q116), (2, Value.ref q46), (1, Value.ref q0), (0, Value.ref b)]) hx hb d_Lw_law_385 hl (by decide) rfl (fun ls hl => ?_)
    refine lv_aload_n hx hb d_Lw_law_387 rfl (lv_at hl 3 rfl) ?_
    refine gx_call (ig := .invokevirtual 115) (c_Mo_flush_v1 l htr D tys z _ ws cV q46 q47 q48 q49 q50 q51 q52 q53 q54 q62 q70 q78 q79 (um) q80 q81 q82 q83 q55 q56 q57 q58 q59 q60 q61 q84 q85 q86 q87 q88 q89 q90 q91 q92 q93 q94 q95 q96 q97 q98 q99 q100 q101 q102 q103 q104 q105 q106 q107 q108 q109 q110 q111 q112 q113 q114 q115 f_46 f_54 f_84 f_92 f_100 f_108 f_83 ht5) (gx_invV (As := []) (rest := []) hx hb hown hts km_Lw_115 kI_Mo_flush kV_Mo_flush kc_Mo_flush (by decide) (show (parseMethodDescriptor y_Mo_flush.desc).map (fun d => d.parameters.length) = some 0 by decide +kernel) (gx_recv (ci := 8) hK hP rfl f_46) rfl rfl d_Lw_law_388) (gx_cw (z := 0) hts kc_Mo_flush kN_Mo rfl rfl ⟨Nat.le_of_ble_eq_true rfl, Nat.le_of_ble_eq_true rfl⟩) hb hml gx_blind (gx_pre hz hP hK hD hY hS hAz [Value.ref q46]) rfl hl.1 (lv_room (Nat.le_of_ble_eq_true rfl)) d_Lw_law_388 ⟨Nat.le_of_ble_eq_true rfl, Nat.le_of_ble_eq_true rfl⟩ (fun v3 st3 t3 L3 h0_3 hW_3 hQ_3 hL_3 => ?_) (fun v3 st3 t3 L3 h0_3 hW_3 hQ_3 hL_3 => ?_)
    · obtain ⟨ws4, hp, hP9, -, hD9, hS9⟩ := gx_back h0_3 hW_3 hQ_3 hL_3 hD hS hA
      clear hQ_3 h0_3 hL_3 hW_3 hP hD hS
      have hP := hP9
      have hD := hD9
      have hS := hS9
      clear hP9 hD9 hS9
      rcases hp with ⟨hv9, e_ws4, f_46_ws4⟩
      cases hv9
      have f_46_ws4 : ws4[46]? = some ((q46, Sum.inr (8, [Value.int 0, Value.int 1, Value.ref q47, Value.ref q48, Value.ref q49, Value.int 0, Value.ref q50, Value.ref q51, Value.ref q52, Value.ref q53, Value.int 0, Value.int 0, Value.int 0, Value.int (-1), Value.int 0, Value.ref q54, Value.ref q62, Value.ref q70, Value.int 0, Value.int 0, Value.int 0, Value.ref q78, Value.ref q79, Value.int 0, Value.int 16, Value.int 4, um, Value.ref q80, Value.ref q81, Value.ref q82, Value.int 0, Value.ref q83, Value.int 0, Value.int 0, Value.int 0])) : Nat × va_E) := f_46_ws4
      replace hlen : ws4.length = 117 := by rw [e_ws4.1, hlen]
      replace hU : gx_g ws ws4 0 [0, 1, 2, 3, 4, 5, 6, 7, 8, 9, 10, 11, 12, 13, 14, 15, 16, 17, 18, 19, 20, 21, 22, 23, 24, 25, 26, 27, 28, 29, 30, 31, 32, 33, 34, 35, 36, 37, 38, 39, 40, 41, 42, 43, 44, 45, 46, 47, 48, 49, 50, 51, 52, 53, 54, 55, 56, 57, 58, 59, 60, 61, 62, 63, 64, 65, 66, 67, 68, 69, 70, 71, 72, 73, 74, 75, 76, 77, 78, 79, 80, 81, 82, 83, 84, 85, 86, 87, 88, 89, 90, 91, 92, 93, 94, 95, 96, 97, 98, 99, 100, 101, 102, 103, 104, 105, 106, 107, 108, 109, 110, 111, 112, 113, 114, 115, 116] := hU.call e_ws4 (by rw [hlen0]; decide)
      refine W.eq (g2 := F0 m 391 ls [Value.int 0]) rfl ?_
      generalize t3.heap = H at hP hS ⊢
      generalize locs ++ L3 = locs at hS ⊢
      refine lv_istore (lv' := [(6, Value.int 0), (5, Value.int 1), (4, Value.int 0), (3, Value.ref q116), (2, Value.ref q46), (1, Value.ref q0), (0, Value.ref b)]) hx hb d_Lw_law_391 hl (by decide) rfl (fun ls hl => ?_)
      refine lv_aload_n hx hb d_Lw_law_393 rfl (lv_at hl 4 rfl) ?_
      refine gx_call (ig := .invokevirtual 98) (c_Mo_thrown l htr D tys z _ ws4 q46 46 (Value.int 0) 1 (Value.ref q47) (Value.ref q48) (Value.ref q49) (Value.int 0) (Value.ref q50) (Value.ref q51) (Value.ref q52) (Value.ref q53) (Value.int 0) (Value.int 0) (Value.int 0) (Value.int (-1)) (Value.int 0) (Value.ref q54) (Value.ref q62) (Value.ref q70) (Value.int 0) (Value.int 0) (Value.int 0) (Value.ref q78) (Value.ref q79) (Value.int 0) (Value.int 16) (Value.int 4) (um) (Value.ref q80) (Value.ref q81) (Value.ref q82) (Value.int 0) (Value.ref q83) (Value.int 0) (Value.int 0) (Value.int 0) f_46_ws4) (gx_invV (As := []) (rest := []) hx hb hown hts km_Lw_98 kI_Mo_thrown kV_Mo_thrown kc_Mo_thrown (by decide) (show (parseMethodDescriptor y_Mo_thrown.desc).map (fun d => d.parameters.length) = some 0 by decide +kernel) (gx_recv (ci := 8) hK hP rfl f_46_ws4) rfl rfl d_Lw_law_394) (gx_cw (z := 0) hts kc_Mo_thrown kN_Mo rfl rfl ⟨Nat.le_of_ble_eq_true rfl, Nat.le_of_ble_eq_true rfl⟩) hb hml gx_blind (gx_pre hz hP hK hD hY hS hAz [Value.ref q46]) rfl hl.1 (lv_room (Nat.le_of_ble_eq_true rfl)) d_Lw_law_394 ⟨Nat.le_of_ble_eq_true rfl, Nat.le_of_ble_eq_true rfl⟩ (fun v5 st5 t5 L5 h0_5 hW_5 hQ_5 hL_5 => ?_) (fun v5 st5 t5 L5 h0_5 hW_5 hQ_5 hL_5 => ?_)
      · obtain ⟨ws6, hp, hP9, -, hD9, hS9⟩ := gx_back h0_5 hW_5 hQ_5 hL_5 hD hS hA
        clear hQ_5 h0_5 hL_5 hW_5 hP hD hS
        have hP := hP9
        have hD := hD9
        have hS := hS9
        clear hP9 hD9 hS9
        rcases hp with ⟨hv9, e_ws6⟩
        cases hv9
        rw [e_ws6] at hP hD
        refine W.eq (g2 := F0 m 397 ls [Value.int 1]) rfl ?_
        generalize t5.heap = H at hP hS ⊢
        generalize locs ++ L5 = locs at hS ⊢
        refine lv_iload hx hb d_Lw_law_397 (lv_at hl 1 rfl) ?_
        refine lv_icmp_eq (tgt := 404) hx hb d_Lw_law_399 (by decide) (fun _ => ?_) (fun c9 => absurd (by decide) c9)
        refine lv_iload hx hb d_Lw_law_404 (lv_at hl 1 rfl) ?_
        refine lv_if_ne (tgt := 421) hx hb d_Lw_law_406 (by decide) (fun _ => ?_) (fun c9 => absurd c9 (by decide))
        refine lv_goto (tgt := 1272) hx hb d_Lw_law_421 (by decide) ?_
        refine W.widen (k := 400) (n := 700000) (by decide) (by decide) ?_
        exact k _ _ ls (by rw [hAe]; exact hS) (lv_sub hl [2, 6] rfl)
      · obtain ⟨E9, ws7, ce, hp, hce, hP9, -, hD9, hS9⟩ := gx_backT h0_5 hW_5 hQ_5 hL_5 hD hS hA
        clear hQ_5 h0_5 hL_5 hW_5 hP hD hS
        have hP := hP9
        have hD := hD9
        have hS := hS9
        clear hP9 hD9 hS9
        rcases hp with ⟨hv9, e_ws7⟩
        cases hv9
    · obtain ⟨E9, ws8, ce, hp, hce, hP9, -, hD9, hS9⟩ := gx_backT h0_3 hW_3 hQ_3 hL_3 hD hS hA
      clear hQ_3 h0_3 hL_3 hW_3 hP hD hS
      have hP := hP9
      have hD := hD9
      have hS := hS9
      clear hP9 hD9 hS9
      rcases hp with ⟨hv9, e_ws8, f_46_ws8⟩
      cases hv9
  · obtain ⟨E9, ws9, ce, hp, hce, hP9, -, hD9, hS9⟩ := gx_backT h0_1 hW_1 hQ_1 hL_1 hD hS hA
    clear hQ_1 h0_1 hL_1 hW_1 hP hD hS
    have hP := hP9
    have hD := hD9
    have hS := hS9
    clear hP9 hD9 hS9
    rcases hp with ⟨hv9, e_ws9⟩
    cases hv9

set_option maxHeartbeats 4000000 in
set_option maxRecDepth 100000 in
theorem law_t5 {p : Program} {e : Env} {s : State} {m : MethodId} {below : List Frame} {meth : Method} {c : Code} {Q : State → Prop} (l : Launch) (htr : l.stackTraces = false) {b : Nat} {xs : Nat → Int32} (hx : p.tables.exec = Jvm.exec) (hb : c.code = code) (hml : c.maxLocals = 7) (hown : s.vm.findClass "CommitLedgerLaw" = some m.cls) (hts1 : ∀ w ∈ lw_tbl, w.before #[Value.ref b] s = true) (hgv : (Jvm.Cond.and given_1 narrow_1).before #[Value.ref b] s = true) (hX : va_X b 4 xs s s.heap) (hbl : b < s.heap.size) (D : va_G) (tys : List (ClassId × FieldType)) (cI cZ cF cM cR cV cJ : ClassId) (q0 q1 q2 q3 q4 q5 q6 q7 q8 q9 q10 q11 q12 q13 q14 q15 q16 q17 q18 q19 q20 q21 q22 q23 q24 q25 q26 q27 q28 q29 q30 q31 q32 q33 q34 q35 q36 q37 q38 q39 q40 q41 q42 q43 q44 q45 q46 q47 q48 q49 q50 q51 q52 q53 q54 q55 q56 q57 q58 q59 q60 q61 q62 q63 q64 q65 q66 q67 q68 q69 q70 q71 q72 q73 q74 q75 q76 q77 q78 q79 q80 q81 q82 q83 q84 q85 q86 q87 q88 q89 q90 q91 q92 q93 q94 q95 q96 q97 q98 q99 q100 q101 q102 q103 q104 q105 q106 q107 q108 q109 q110 q111 q112 q113 q114 q115 q116 : Nat) (u0 u1 um : Value) (ws : va_W) (H : Heap) (locs : List Loc) (ls : Array Slot) (hK : va_K D classes tys s) (htys : tys = [(cI, FieldType.int), (cZ, FieldType.boolean), (cF, FieldType.object "CommitLedger$LedgerFile"), (cM, FieldType.object "CommitLedger$Merge"), (cR, FieldType.object "CommitLedger$Reader"), (cV, FieldType.object "CommitLedgerModel$Version"), (cJ, FieldType.long)]) (hP : va_P D classes ws H) (hD : va_D (fun q : Nat => s.heap.size ≤ q) ws) (hS : va_S (fun q : Nat => s.heap.size ≤ q) s.heap H locs) (hlen : ws.length = 117) (f_0 : ws[0]? = some ((q0, Sum.inr (0, [Value.ref q1, Value.ref q5, Value.ref q8, Value.ref q20, Value.ref q25, Value.ref q12, Value.ref q16, Value.int 0, Value.int 0, Value.int 0, Value.int 16, Value.int 4, Value.int 0, Value.int 0, Value.int 0, Value.int 0, Value.int 0, Value.int (-1)])) : Nat × va_E)) (f_46 : ws[46]? = some ((q46, Sum.inr (8, [Value.int 0, Value.int 0, Value.ref q47, Value.ref q48, Value.ref q49, Value.int 0, Value.ref q50, Value.ref q51, Value.ref q52, Value.ref q53, Value.int 0, Value.int 0, Value.int 0, Value.int (-1), Value.int 0, Value.ref q54, Value.ref q62, Value.ref q70, Value.int 0, Value.int 0, Value.int 0, Value.ref q78, Value.ref q79, Value.int 0, Value.int 16, Value.int 4, um, Value.ref q80, Value.ref q81, Value.ref q82, Value.int 0, Value.ref q83, Value.int 0, Value.int 0, Value.int 0])) : Nat × va_E)) (hl : lv_has ls 7 [(4, Value.int 0), (3, Value.ref q116), (2, Value.ref q46), (1, Value.ref q0), (0, Value.ref b)])
    (k : ∀ (H : Heap) (locs : List Loc) (ls : Array Slot), va_S (fun q : Nat => s.heap.size ≤ q) s.heap H locs → lv_has ls 7 [(4, Value.int 0), (0, Value.ref b)] → W p l e room_1 s m #[Value.ref b] below meth c H locs 400 700000 Q (F0 m 1272 ls [])) :
    W p l e room_1 s m #[Value.ref b] below meth c H locs 122 677754 Q (F0 m 424 ls []) := by
  have ht0 : tys[0]? = some ((cI, FieldType.int) : ClassId × FieldType) := by rw [htys]; rfl
  have ht1 : tys[1]? = some ((cZ, FieldType.boolean) : ClassId × FieldType) := by rw [htys]; rfl
  have ht2 : tys[2]? = some ((cF, FieldType.object "CommitLedger$LedgerFile") : ClassId × FieldType) := by rw [htys]; rfl
  have ht3 : tys[3]? = some ((cM, FieldType.object "CommitLedger$Merge") : ClassId × FieldType) := by rw [htys]; rfl
  have ht4 : tys[4]? = some ((cR, FieldType.object "CommitLedger$Reader") : ClassId × FieldType) := by rw [htys]; rfl
  have ht5 : tys[5]? = some ((cV, FieldType.object "CommitLedgerModel$Version") : ClassId × FieldType) := by rw [htys]; rfl
  have ht6 : tys[6]? = some ((cJ, FieldType.long) : ClassId × FieldType) := by rw [htys]; rfl
  have hY := gx_Y0 hts1 hgv
  have hts := gx_hts0 hts1 hgv
  obtain ⟨z, hzz⟩ : ∃ x : Nat, x = s.heap.size := ⟨_, rfl⟩
  rw [← hzz] at hY
  have hz : z ≤ s.heap.size := Nat.le_of_eq hzz
  have hAz : ∀ q : Nat, (fun q : Nat => s.heap.size ≤ q) q → z ≤ q := fun q h => by rw [hzz]; exact h
  have hA : ∀ q : Nat, s.heap.size ≤ q → (fun q : Nat => s.heap.size ≤ q) q := fun _ h => h
  have hbA : ¬ (fun q : Nat => s.heap.size ≤ q) b := Nat.not_le.mpr hbl
  have hN : gx_NS (fun q : Nat => s.heap.size ≤ q) s := fun q cell h hc => absurd (Array.getElem?_eq_some_iff.mp hc).1 (Nat.not_lt.mpr h)
  have hlen0 := hlen
  have hU : gx_g ws ws 0 [0, 1, 2, 3, 4, 5, 6, 7, 8, 9, 10, 11, 12, 13, 14, 15, 16, 17, 18, 19, 20, 21, 22, 23, 24, 25, 26, 27, 28, 29, 30, 31, 32, 33, 34, 35, 36, 37, 38, 39, 40, 41, 42, 43, 44, 45, 46, 47, 48, 49, 50, 51, 52, 53, 54, 55, 56, 57, 58, 59, 60, 61, 62, 63, 64, 65, 66, 67, 68, 69, 70, 71, 72, 73, 74, 75, 76, 77, 78, 79, 80, 81, 82, 83, 84, 85, 86, 87, 88, 89, 90, 91, 92, 93, 94, 95, 96, 97, 98, 99, 100, 101, 102, 103, 104, 105, 106, 107, 108, 109, 110, 111, 112, 113, 114, 115, 116] := gx_g.rf
  obtain ⟨y0, hy0⟩ : ∃ y : Int32, y = xs 0 := ⟨_, rfl⟩
  obtain ⟨y1, hy1⟩ : ∃ y : Int32, y = xs 1 := ⟨_, rfl⟩
  obtain ⟨y2, hy2⟩ : ∃ y : Int32, y = xs 2 := ⟨_, rfl⟩
  obtain ⟨y3, hy3⟩ : ∃ y : Int32, y = xs 3 := ⟨_, rfl⟩
  generalize hAe : (fun q : Nat => s.heap.size ≤ q) = A at hD hN hA hAz hS hbA
  refine lv_aload_n hx hb d_Lw_law_424 rfl (lv_at hl 3 rfl) ?_
  refine lv_aload_n hx hb d_Lw_law_425 rfl (lv_at hl 4 rfl) ?_
  refine lv_iload hx hb d_Lw_law_426 (lv_at hl 0 rfl) ?_
  refine lv_iconst (v := 1) hx hb d_Lw_law_428 (by decide) ?_
  refine lv_iadd hx hb d_Lw_law_429 ?_
  refine gx_topi (y := 1) (by decide) ?_
  refine va_sld hx hb hX hbl hbA hS (i := 1) (gx_inl (by decide)) d_Lw_law_430 ?_
  refine gx_topi (y := y1) (by rw [hy1]; rfl) ?_
  refine lv_aload_n hx hb d_Lw_law_431 rfl (lv_at hl 1 rfl) ?_
  refine gx_callH (ig := .invokestatic 116) (c_Lw_merge_v1 l htr D tys z _ ws q0 y1 q116 q1 q5 q8 q20 q25 q12 q16 f_0) (gx_invSH (As := [Value.ref q0, Value.int y1, Value.ref q116]) (rest := []) hx hb hown hts km_Lw_116 kS_Lw_merge kN_Lw kc_Lw_merge (by decide) (show (parseMethodDescriptor y_Lw_merge.desc).map (fun d => d.parameters.length) = some 3 by decide +kernel) rfl rfl d_Lw_law_432) (gx_cwH hts kc_Lw_merge kN_Lw rfl rfl ⟨Nat.le_of_ble_eq_true rfl, Nat.le_of_ble_eq_true rfl⟩) hb hml gx_blind (gx_pre hz hP hK hD hY hS hAz [Value.ref q0, Value.int y1, Value.ref q116]) rfl hl.1 (lv_room (Nat.le_of_ble_eq_true rfl)) d_Lw_law_432 ⟨Nat.le_of_ble_eq_true rfl, Nat.le_of_ble_eq_true rfl⟩ (fun v1 st1 t1 L1 h0_1 hW_1 hQ_1 hL_1 => ?_) (fun v1 st1 t1 L1 h0_1 hW_1 hQ_1 hL_1 => ?_)
  · obtain ⟨ws2, hp, hP9, -, hD9, hS9⟩ := gx_back h0_1 hW_1 hQ_1 hL_1 hD hS hA
    clear hQ_1 h0_1 hL_1 hW_1 hP hD hS
    have hP := hP9
    have hD := hD9
    have hS := hS9
    clear hP9 hD9 hS9
    rcases hp with ⟨hv9, e_ws2, g1_0, g1_1⟩ | ⟨hv9, e_ws2, g1_0⟩ | ⟨hv9, e_ws2, g1_0, g1_1⟩
    · cases hv9
      rw [e_ws2] at hP hD
      refine W.eq (g2 := F0 m 435 ls [Value.int 2]) rfl ?_
      refine W.widen (k := 124) (n := 677766) (by decide) (by decide) ?_
      generalize t1.heap = H at hP hS ⊢
      generalize locs ++ L1 = locs at hS ⊢
      refine lv_istore (lv' := [(5, Value.int 2), (4, Value.int 0), (3, Value.ref q116), (2, Value.ref q46), (1, Value.ref q0), (0, Value.ref b)]) hx hb d_Lw_law_435 hl (by decide) rfl (fun ls hl => ?_)
      refine lv_aload_n hx hb d_Lw_law_437 rfl (lv_at hl 3 rfl) ?_
      refine lv_aload_n hx hb d_Lw_law_438 rfl (lv_at hl 5 rfl) ?_
      refine lv_iload hx hb d_Lw_law_439 (lv_at hl 1 rfl) ?_
      refine lv_iconst (v := 1) hx hb d_Lw_law_441 (by decide) ?_
      refine lv_iadd hx hb d_Lw_law_442 ?_
      refine gx_topi (y := 1) (by decide) ?_
      refine va_sld hx hb hX hbl hbA hS (i := 1) (gx_inl (by decide)) d_Lw_law_443 ?_
      refine gx_topi (y := y1) (by rw [hy1]; rfl) ?_
      refine gx_call (ig := .invokevirtual 118) (c_Mo_merge_v1 l htr D tys z _ ws q46 y1 q47 q48 q49 q50 q51 q52 q53 q54 q62 q70 q78 q79 (um) q80 q81 q82 q83 f_46) (gx_invV (As := [Value.int y1]) (rest := []) hx hb hown hts km_Lw_118 kI_Mo_merge kV_Mo_merge kc_Mo_merge (by decide) (show (parseMethodDescriptor y_Mo_merge.desc).map (fun d => d.parameters.length) = some 1 by decide +kernel) (gx_recv (ci := 8) hK hP rfl f_46) rfl rfl d_Lw_law_444) (gx_cw (z := 0) hts kc_Mo_merge kN_Mo rfl rfl ⟨Nat.le_of_ble_eq_true rfl, Nat.le_of_ble_eq_true rfl⟩) hb hml gx_blind (gx_pre hz hP hK hD hY hS hAz [Value.ref q46, Value.int y1]) rfl hl.1 (lv_room (Nat.le_of_ble_eq_true rfl)) d_Lw_law_444 ⟨Nat.le_of_ble_eq_true rfl, Nat.le_of_ble_eq_true rfl⟩ (fun v3 st3 t3 L3 h0_3 hW_3 hQ_3 hL_3 => ?_) (fun v3 st3 t3 L3 h0_3 hW_3 hQ_3 hL_3 => ?_)
      · obtain ⟨ws4, hp, hP9, -, hD9, hS9⟩ := gx_back h0_3 hW_3 hQ_3 hL_3 hD hS hA
        clear hQ_3 h0_3 hL_3 hW_3 hP hD hS
        have hP := hP9
        have hD := hD9
        have hS := hS9
        clear hP9 hD9 hS9
        rcases hp with ⟨hv9, e_ws4, f_46_ws4, g3_0⟩ | ⟨hv9, e_ws4, f_46_ws4, g3_0, g3_1⟩ | ⟨hv9, e_ws4, f_46_ws4, g3_0, g3_1⟩
        · cases hv9
          have f_46_ws4 : ws4[46]? = some ((q46, Sum.inr (8, [Value.int 0, Value.int 1, Value.ref q47, Value.ref q48, Value.ref q49, Value.int 0, Value.ref q50, Value.ref q51, Value.ref q52, Value.ref q53, Value.int 0, Value.int 0, Value.int 0, Value.int (-1), Value.int 0, Value.ref q54, Value.ref q62, Value.ref q70, Value.int 0, Value.int 0, Value.int 0, Value.ref q78, Value.ref q79, Value.int 0, Value.int 16, Value.int 4, um, Value.ref q80, Value.ref q81, Value.ref q82, Value.int 0, Value.ref q83, Value.int 0, Value.int 0, Value.int 0])) : Nat × va_E) := f_46_ws4
          replace hlen : ws4.length = 117 := by rw [e_ws4.1, hlen]
          replace hU : gx_g ws ws4 0 [0, 1, 2, 3, 4, 5, 6, 7, 8, 9, 10, 11, 12, 13, 14, 15, 16, 17, 18, 19, 20, 21, 22, 23, 24, 25, 26, 27, 28, 29, 30, 31, 32, 33, 34, 35, 36, 37, 38, 39, 40, 41, 42, 43, 44, 45, 46, 47, 48, 49, 50, 51, 52, 53, 54, 55, 56, 57, 58, 59, 60, 61, 62, 63, 64, 65, 66, 67, 68, 69, 70, 71, 72, 73, 74, 75, 76, 77, 78, 79, 80, 81, 82, 83, 84, 85, 86, 87, 88, 89, 90, 91, 92, 93, 94, 95, 96, 97, 98, 99, 100, 101, 102, 103, 104, 105, 106, 107, 108, 109, 110, 111, 112, 113, 114, 115, 116] := hU.call e_ws4 (by rw [hlen0]; decide)
          exact absurd g3_0 g1_0
        · cases hv9
          have f_46_ws4 : ws4[46]? = some ((q46, Sum.inr (8, [Value.int 0, Value.int 2, Value.ref q47, Value.ref q48, Value.ref q49, Value.int 0, Value.ref q50, Value.ref q51, Value.ref q52, Value.ref q53, Value.int 0, Value.int 0, Value.int 0, Value.int (-1), Value.int 0, Value.ref q54, Value.ref q62, Value.ref q70, Value.int 0, Value.int 0, Value.int 0, Value.ref q78, Value.ref q79, Value.int 0, Value.int 16, Value.int 4, um, Value.ref q80, Value.ref q81, Value.ref q82, Value.int 0, Value.ref q83, Value.int 0, Value.int 0, Value.int 0])) : Nat × va_E) := f_46_ws4
          replace hlen : ws4.length = 117 := by rw [e_ws4.1, hlen]
          replace hU : gx_g ws ws4 0 [0, 1, 2, 3, 4, 5, 6, 7, 8, 9, 10, 11, 12, 13, 14, 15, 16, 17, 18, 19, 20, 21, 22, 23, 24, 25, 26, 27, 28, 29, 30, 31, 32, 33, 34, 35, 36, 37, 38, 39, 40, 41, 42, 43, 44, 45, 46, 47, 48, 49, 50, 51, 52, 53, 54, 55, 56, 57, 58, 59, 60, 61, 62, 63, 64, 65, 66, 67, 68, 69, 70, 71, 72, 73, 74, 75, 76, 77, 78, 79, 80, 81, 82, 83, 84, 85, 86, 87, 88, 89, 90, 91, 92, 93, 94, 95, 96, 97, 98, 99, 100, 101, 102, 103, 104, 105, 106, 107, 108, 109, 110, 111, 112, 113, 114, 115, 116] := hU.call e_ws4 (by rw [hlen0]; decide)
          refine W.eq (g2 := F0 m 447 ls [Value.int 0]) rfl ?_
          generalize t3.heap = H at hP hS ⊢
          generalize locs ++ L3 = locs at hS ⊢
          refine lv_istore (lv' := [(6, Value.int 0), (5, Value.int 2), (4, Value.int 0), (3, Value.ref q116), (2, Value.ref q46), (1, Value.ref q0), (0, Value.ref b)]) hx hb d_Lw_law_447 hl (by decide) rfl (fun ls hl => ?_)
          refine lv_aload_n hx hb d_Lw_law_449 rfl (lv_at hl 4 rfl) ?_
          refine gx_call (ig := .invokevirtual 98) (c_Mo_thrown l htr D tys z _ ws4 q46 46 (Value.int 0) 2 (Value.ref q47) (Value.ref q48) (Value.ref q49) (Value.int 0) (Value.ref q50) (Value.ref q51) (Value.ref q52) (Value.ref q53) (Value.int 0) (Value.int 0) (Value.int 0) (Value.int (-1)) (Value.int 0) (Value.ref q54) (Value.ref q62) (Value.ref q70) (Value.int 0) (Value.int 0) (Value.int 0) (Value.ref q78) (Value.ref q79) (Value.int 0) (Value.int 16) (Value.int 4) (um) (Value.ref q80) (Value.ref q81) (Value.ref q82) (Value.int 0) (Value.ref q83) (Value.int 0) (Value.int 0) (Value.int 0) f_46_ws4) (gx_invV (As := []) (rest := []) hx hb hown hts km_Lw_98 kI_Mo_thrown kV_Mo_thrown kc_Mo_thrown (by decide) (show (parseMethodDescriptor y_Mo_thrown.desc).map (fun d => d.parameters.length) = some 0 by decide +kernel) (gx_recv (ci := 8) hK hP rfl f_46_ws4) rfl rfl d_Lw_law_450) (gx_cw (z := 0) hts kc_Mo_thrown kN_Mo rfl rfl ⟨Nat.le_of_ble_eq_true rfl, Nat.le_of_ble_eq_true rfl⟩) hb hml gx_blind (gx_pre hz hP hK hD hY hS hAz [Value.ref q46]) rfl hl.1 (lv_room (Nat.le_of_ble_eq_true rfl)) d_Lw_law_450 ⟨Nat.le_of_ble_eq_true rfl, Nat.le_of_ble_eq_true rfl⟩ (fun v5 st5 t5 L5 h0_5 hW_5 hQ_5 hL_5 => ?_) (fun v5 st5 t5 L5 h0_5 hW_5 hQ_5 hL_5 => ?_)
          · obtain ⟨ws6, hp, hP9, -, hD9, hS9⟩ := gx_back h0_5 hW_5 hQ_5 hL_5 hD hS hA
            clear hQ_5 h0_5 hL_5 hW_5 hP hD hS
            have hP := hP9
            have hD := hD9
            have hS := hS9
            clear hP9 hD9 hS9
            rcases hp with ⟨hv9, e_ws6⟩
            cases hv9
            rw [e_ws6] at hP hD
            refine W.eq (g2 := F0 m 453 ls [Value.int 2]) rfl ?_
            generalize t5.heap = H at hP hS ⊢
            generalize locs ++ L5 = locs at hS ⊢
            refine lv_iload hx hb d_Lw_law_453 (lv_at hl 1 rfl) ?_
            refine lv_icmp_eq (tgt := 460) hx hb d_Lw_law_455 (by decide) (fun _ => ?_) (fun c9 => absurd (by decide) c9)
            refine lv_iload hx hb d_Lw_law_460 (lv_at hl 1 rfl) ?_
            refine lv_if_ne (tgt := 477) hx hb d_Lw_law_462 (by decide) (fun _ => ?_) (fun c9 => absurd c9 (by decide))
            refine lv_goto (tgt := 1272) hx hb d_Lw_law_477 (by decide) ?_
            refine W.widen (k := 400) (n := 700000) (by decide) (by decide) ?_
            exact k _ _ ls (by rw [hAe]; exact hS) (lv_sub hl [2, 6] rfl)
          · obtain ⟨E9, ws7, ce, hp, hce, hP9, -, hD9, hS9⟩ := gx_backT h0_5 hW_5 hQ_5 hL_5 hD hS hA
            clear hQ_5 h0_5 hL_5 hW_5 hP hD hS
            have hP := hP9
            have hD := hD9
            have hS := hS9
            clear hP9 hD9 hS9
            rcases hp with ⟨hv9, e_ws7⟩
            cases hv9
        · cases hv9
          have f_46_ws4 : ws4[46]? = some ((q46, Sum.inr (8, [Value.int 0, Value.int 1, Value.ref q47, Value.ref q48, Value.ref q49, Value.int 0, Value.ref q50, Value.ref q51, Value.ref q52, Value.ref q53, Value.int 0, Value.int 0, Value.int 0, Value.int (-1), Value.int 0, Value.ref q54, Value.ref q62, Value.ref q70, Value.int 0, Value.int 0, Value.int 0, Value.ref q78, Value.ref q79, Value.int 0, Value.int 16, Value.int 4, um, Value.ref q80, Value.ref q81, Value.ref q82, Value.int 0, Value.ref q83, Value.int 0, Value.int 0, Value.int 0])) : Nat × va_E) := f_46_ws4
          replace hlen : ws4.length = 117 := by rw [e_ws4.1, hlen]
          replace hU : gx_g ws ws4 0 [0, 1, 2, 3, 4, 5, 6, 7, 8, 9, 10, 11, 12, 13, 14, 15, 16, 17, 18, 19, 20, 21, 22, 23, 24, 25, 26, 27, 28, 29, 30, 31, 32, 33, 34, 35, 36, 37, 38, 39, 40, 41, 42, 43, 44, 45, 46, 47, 48, 49, 50, 51, 52, 53, 54, 55, 56, 57, 58, 59, 60, 61, 62, 63, 64, 65, 66, 67, 68, 69, 70, 71, 72, 73, 74, 75, 76, 77, 78, 79, 80, 81, 82, 83, 84, 85, 86, 87, 88, 89, 90, 91, 92, 93, 94, 95, 96, 97, 98, 99, 100, 101, 102, 103, 104, 105, 106, 107, 108, 109, 110, 111, 112, 113, 114, 115, 116] := hU.call e_ws4 (by rw [hlen0]; decide)
          exact absurd g1_1 g3_1
      · obtain ⟨E9, ws8, ce, hp, hce, hP9, -, hD9, hS9⟩ := gx_backT h0_3 hW_3 hQ_3 hL_3 hD hS hA
        clear hQ_3 h0_3 hL_3 hW_3 hP hD hS
        have hP := hP9
        have hD := hD9
        have hS := hS9
        clear hP9 hD9 hS9
        rcases hp with ⟨hv9, e_ws8, f_46_ws8, g3_0⟩ | ⟨hv9, e_ws8, f_46_ws8, g3_0, g3_1⟩ | ⟨hv9, e_ws8, f_46_ws8, g3_0, g3_1⟩
        · cases hv9
        · cases hv9
        · cases hv9
    · cases hv9
      rw [e_ws2] at hP hD
      refine W.eq (g2 := F0 m 435 ls [Value.int 1]) rfl ?_
      refine W.widen (k := 124) (n := 677766) (by decide) (by decide) ?_
      generalize t1.heap = H at hP hS ⊢
      generalize locs ++ L1 = locs at hS ⊢
      refine lv_istore (lv' := [(5, Value.int 1), (4, Value.int 0), (3, Value.ref q116), (2, Value.ref q46), (1, Value.ref q0), (0, Value.ref b)]) hx hb d_Lw_law_435 hl (by decide) rfl (fun ls hl => ?_)
      refine lv_aload_n hx hb d_Lw_law_437 rfl (lv_at hl 3 rfl) ?_
      refine lv_aload_n hx hb d_Lw_law_438 rfl (lv_at hl 5 rfl) ?_
      refine lv_iload hx hb d_Lw_law_439 (lv_at hl 1 rfl) ?_
      refine lv_iconst (v := 1) hx hb d_Lw_law_441 (by decide) ?_
      refine lv_iadd hx hb d_Lw_law_442 ?_
      refine gx_topi (y := 1) (by decide) ?_
      refine va_sld hx hb hX hbl hbA hS (i := 1) (gx_inl (by decide)) d_Lw_law_443 ?_
      refine gx_topi (y := y1) (by rw [hy1]; rfl) ?_
      refine gx_call (ig := .invokevirtual 118) (c_Mo_merge_v1 l htr D tys z _ ws q46 y1 q47 q48 q49 q50 q51 q52 q53 q54 q62 q70 q78 q79 (um) q80 q81 q82 q83 f_46) (gx_invV (As := [Value.int y1]) (rest := []) hx hb hown hts km_Lw_118 kI_Mo_merge kV_Mo_merge kc_Mo_merge (by decide) (show (parseMethodDescriptor y_Mo_merge.desc).map (fun d => d.parameters.length) = some 1 by decide +kernel) (gx_recv (ci := 8) hK hP rfl f_46) rfl rfl d_Lw_law_444) (gx_cw (z := 0) hts kc_Mo_merge kN_Mo rfl rfl ⟨Nat.le_of_ble_eq_true rfl, Nat.le_of_ble_eq_true rfl⟩) hb hml gx_blind (gx_pre hz hP hK hD hY hS hAz [Value.ref q46, Value.int y1]) rfl hl.1 (lv_room (Nat.le_of_ble_eq_true rfl)) d_Lw_law_444 ⟨Nat.le_of_ble_eq_true rfl, Nat.le_of_ble_eq_true rfl⟩ (fun v9 st9 t9 L9 h0_9 hW_9 hQ_9 hL_9 => ?_) (fun v9 st9 t9 L9 h0_9 hW_9 hQ_9 hL_9 => ?_)
      · obtain ⟨ws10, hp, hP9, -, hD9, hS9⟩ := gx_back h0_9 hW_9 hQ_9 hL_9 hD hS hA
        clear hQ_9 h0_9 hL_9 hW_9 hP hD hS
        have hP := hP9
        have hD := hD9
        have hS := hS9
        clear hP9 hD9 hS9
        rcases hp with ⟨hv9, e_ws10, f_46_ws10, g9_0⟩ | ⟨hv9, e_ws10, f_46_ws10, g9_0, g9_1⟩ | ⟨hv9, e_ws10, f_46_ws10, g9_0, g9_1⟩
        · cases hv9
          have f_46_ws10 : ws10[46]? = some ((q46, Sum.inr (8, [Value.int 0, Value.int 1, Value.ref q47, Value.ref q48, Value.ref q49, Value.int 0, Value.ref q50, Value.ref q51, Value.ref q52, Value.ref q53, Value.int 0, Value.int 0, Value.int 0, Value.int (-1), Value.int 0, Value.ref q54, Value.ref q62, Value.ref q70, Value.int 0, Value.int 0, Value.int 0, Value.ref q78, Value.ref q79, Value.int 0, Value.int 16, Value.int 4, um, Value.ref q80, Value.ref q81, Value.ref q82, Value.int 0, Value.ref q83, Value.int 0, Value.int 0, Value.int 0])) : Nat × va_E) := f_46_ws10
          replace hlen : ws10.length = 117 := by rw [e_ws10.1, hlen]
          replace hU : gx_g ws ws10 0 [0, 1, 2, 3, 4, 5, 6, 7, 8, 9, 10, 11, 12, 13, 14, 15, 16, 17, 18, 19, 20, 21, 22, 23, 24, 25, 26, 27, 28, 29, 30, 31, 32, 33, 34, 35, 36, 37, 38, 39, 40, 41, 42, 43, 44, 45, 46, 47, 48, 49, 50, 51, 52, 53, 54, 55, 56, 57, 58, 59, 60, 61, 62, 63, 64, 65, 66, 67, 68, 69, 70, 71, 72, 73, 74, 75, 76, 77, 78, 79, 80, 81, 82, 83, 84, 85, 86, 87, 88, 89, 90, 91, 92, 93, 94, 95, 96, 97, 98, 99, 100, 101, 102, 103, 104, 105, 106, 107, 108, 109, 110, 111, 112, 113, 114, 115, 116] := hU.call e_ws10 (by rw [hlen0]; decide)
          refine W.eq (g2 := F0 m 447 ls [Value.int 0]) rfl ?_
          generalize t9.heap = H at hP hS ⊢
          generalize locs ++ L9 = locs at hS ⊢
          refine lv_istore (lv' := [(6, Value.int 0), (5, Value.int 1), (4, Value.int 0), (3, Value.ref q116), (2, Value.ref q46), (1, Value.ref q0), (0, Value.ref b)]) hx hb d_Lw_law_447 hl (by decide) rfl (fun ls hl => ?_)
          refine lv_aload_n hx hb d_Lw_law_449 rfl (lv_at hl 4 rfl) ?_
          refine gx_call (ig := .invokevirtual 98) (c_Mo_thrown l htr D tys z _ ws10 q46 46 (Value.int 0) 1 (Value.ref q47) (Value.ref q48) (Value.ref q49) (Value.int 0) (Value.ref q50) (Value.ref q51) (Value.ref q52) (Value.ref q53) (Value.int 0) (Value.int 0) (Value.int 0) (Value.int (-1)) (Value.int 0) (Value.ref q54) (Value.ref q62) (Value.ref q70) (Value.int 0) (Value.int 0) (Value.int 0) (Value.ref q78) (Value.ref q79) (Value.int 0) (Value.int 16) (Value.int 4) (um) (Value.ref q80) (Value.ref q81) (Value.ref q82) (Value.int 0) (Value.ref q83) (Value.int 0) (Value.int 0) (Value.int 0) f_46_ws10) (gx_invV (As := []) (rest := []) hx hb hown hts km_Lw_98 kI_Mo_thrown kV_Mo_thrown kc_Mo_thrown (by decide) (show (parseMethodDescriptor y_Mo_thrown.desc).map (fun d => d.parameters.length) = some 0 by decide +kernel) (gx_recv (ci := 8) hK hP rfl f_46_ws10) rfl rfl d_Lw_law_450) (gx_cw (z := 0) hts kc_Mo_thrown kN_Mo rfl rfl ⟨Nat.le_of_ble_eq_true rfl, Nat.le_of_ble_eq_true rfl⟩) hb hml gx_blind (gx_pre hz hP hK hD hY hS hAz [Value.ref q46]) rfl hl.1 (lv_room (Nat.le_of_ble_eq_true rfl)) d_Lw_law_450 ⟨Nat.le_of_ble_eq_true rfl, Nat.le_of_ble_eq_true rfl⟩ (fun v11 st11 t11 L11 h0_11 hW_11 hQ_11 hL_11 => ?_) (fun v11 st11 t11 L11 h0_11 hW_11 hQ_11 hL_11 => ?_)
          · obtain ⟨ws12, hp, hP9, -, hD9, hS9⟩ := gx_back h0_11 hW_11 hQ_11 hL_11 hD hS hA
            clear hQ_11 h0_11 hL_11 hW_11 hP hD hS
            have hP := hP9
            have hD := hD9
            have hS := hS9
            clear hP9 hD9 hS9
            rcases hp with ⟨hv9, e_ws12⟩
            cases hv9
            rw [e_ws12] at hP hD
            refine W.eq (g2 := F0 m 453 ls [Value.int 1]) rfl ?_
            generalize t11.heap = H at hP hS ⊢
            generalize locs ++ L11 = locs at hS ⊢
            refine lv_iload hx hb d_Lw_law_453 (lv_at hl 1 rfl) ?_
            refine lv_icmp_eq (tgt := 460) hx hb d_Lw_law_455 (by decide) (fun _ => ?_) (fun c9 => absurd (by decide) c9)
            refine lv_iload hx hb d_Lw_law_460 (lv_at hl 1 rfl) ?_
            refine lv_if_ne (tgt := 477) hx hb d_Lw_law_462 (by decide) (fun _ => ?_) (fun c9 => absurd c9 (by decide))
            refine lv_goto (tgt := 1272) hx hb d_Lw_law_477 (by decide) ?_
            refine W.widen (k := 400) (n := 700000) (by decide) (by decide) ?_
            exact k _ _ ls (by rw [hAe]; exact hS) (lv_sub hl [2, 6] rfl)
          · obtain ⟨E9, ws13, ce, hp, hce, hP9, -, hD9, hS9⟩ := gx_backT h0_11 hW_11 hQ_11 hL_11 hD hS hA
            clear hQ_11 h0_11 hL_11 hW_11 hP hD hS
            have hP := hP9
            have hD := hD9
            have hS := hS9
            clear hP9 hD9 hS9
            rcases hp with ⟨hv9, e_ws13⟩
            cases hv9
        · cases hv9
          have f_46_ws10 : ws10[46]? = some ((q46, Sum.inr (8, [Value.int 0, Value.int 2, Value.ref q47, Value.ref q48, Value.ref q49, Value.int 0, Value.ref q50, Value.ref q51, Value.ref q52, Value.ref q53, Value.int 0, Value.int 0, Value.int 0, Value.int (-1), Value.int 0, Value.ref q54, Value.ref q62, Value.ref q70, Value.int 0, Value.int 0, Value.int 0, Value.ref q78, Value.ref q79, Value.int 0, Value.int 16, Value.int 4, um, Value.ref q80, Value.ref q81, Value.ref q82, Value.int 0, Value.ref q83, Value.int 0, Value.int 0, Value.int 0])) : Nat × va_E) := f_46_ws10
          replace hlen : ws10.length = 117 := by rw [e_ws10.1, hlen]
          replace hU : gx_g ws ws10 0 [0, 1, 2, 3, 4, 5, 6, 7, 8, 9, 10, 11, 12, 13, 14, 15, 16, 17, 18, 19, 20, 21, 22, 23, 24, 25, 26, 27, 28, 29, 30, 31, 32, 33, 34, 35, 36, 37, 38, 39, 40, 41, 42, 43, 44, 45, 46, 47, 48, 49, 50, 51, 52, 53, 54, 55, 56, 57, 58, 59, 60, 61, 62, 63, 64, 65, 66, 67, 68, 69, 70, 71, 72, 73, 74, 75, 76, 77, 78, 79, 80, 81, 82, 83, 84, 85, 86, 87, 88, 89, 90, 91, 92, 93, 94, 95, 96, 97, 98, 99, 100, 101, 102, 103, 104, 105, 106, 107, 108, 109, 110, 111, 112, 113, 114, 115, 116] := hU.call e_ws10 (by rw [hlen0]; decide)
          exact absurd g1_0 g9_0
        · cases hv9
          have f_46_ws10 : ws10[46]? = some ((q46, Sum.inr (8, [Value.int 0, Value.int 1, Value.ref q47, Value.ref q48, Value.ref q49, Value.int 0, Value.ref q50, Value.ref q51, Value.ref q52, Value.ref q53, Value.int 0, Value.int 0, Value.int 0, Value.int (-1), Value.int 0, Value.ref q54, Value.ref q62, Value.ref q70, Value.int 0, Value.int 0, Value.int 0, Value.ref q78, Value.ref q79, Value.int 0, Value.int 16, Value.int 4, um, Value.ref q80, Value.ref q81, Value.ref q82, Value.int 0, Value.ref q83, Value.int 0, Value.int 0, Value.int 0])) : Nat × va_E) := f_46_ws10
          replace hlen : ws10.length = 117 := by rw [e_ws10.1, hlen]
          replace hU : gx_g ws ws10 0 [0, 1, 2, 3, 4, 5, 6, 7, 8, 9, 10, 11, 12, 13, 14, 15, 16, 17, 18, 19, 20, 21, 22, 23, 24, 25, 26, 27, 28, 29, 30, 31, 32, 33, 34, 35, 36, 37, 38, 39, 40, 41, 42, 43, 44, 45, 46, 47, 48, 49, 50, 51, 52, 53, 54, 55, 56, 57, 58, 59, 60, 61, 62, 63, 64, 65, 66, 67, 68, 69, 70, 71, 72, 73, 74, 75, 76, 77, 78, 79, 80, 81, 82, 83, 84, 85, 86, 87, 88, 89, 90, 91, 92, 93, 94, 95, 96, 97, 98, 99, 100, 101, 102, 103, 104, 105, 106, 107, 108, 109, 110, 111, 112, 113, 114, 115, 116] := hU.call e_ws10 (by rw [hlen0]; decide)
          exact absurd g1_0 g9_0
      · obtain ⟨E9, ws14, ce, hp, hce, hP9, -, hD9, hS9⟩ := gx_backT h0_9 hW_9 hQ_9 hL_9 hD hS hA
        clear hQ_9 h0_9 hL_9 hW_9 hP hD hS
        have hP := hP9
        have hD := hD9
        have hS := hS9
        clear hP9 hD9 hS9
        rcases hp with ⟨hv9, e_ws14, f_46_ws14, g9_0⟩ | ⟨hv9, e_ws14, f_46_ws14, g9_0, g9_1⟩ | ⟨hv9, e_ws14, f_46_ws14, g9_0, g9_1⟩
        · cases hv9
        · cases hv9
        · cases hv9
    · cases hv9
      rw [e_ws2] at hP hD
      refine W.eq (g2 := F0 m 435 ls [Value.int 1]) rfl ?_
      refine W.widen (k := 124) (n := 677766) (by decide) (by decide) ?_
      generalize t1.heap = H at hP hS ⊢
      generalize locs ++ L1 = locs at hS ⊢
      refine lv_istore (lv' := [(5, Value.int 1), (4, Value.int 0), (3, Value.ref q116), (2, Value.ref q46), (1, Value.ref q0), (0, Value.ref b)]) hx hb d_Lw_law_435 hl (by decide) rfl (fun ls hl => ?_)
      refine lv_aload_n hx hb d_Lw_law_437 rfl (lv_at hl 3 rfl) ?_
      refine lv_aload_n hx hb d_Lw_law_438 rfl (lv_at hl 5 rfl) ?_
      refine lv_iload hx hb d_Lw_law_439 (lv_at hl 1 rfl) ?_
      refine lv_iconst (v := 1) hx hb d_Lw_law_441 (by decide) ?_
      refine lv_iadd hx hb d_Lw_law_442 ?_
      refine gx_topi (y := 1) (by decide) ?_
      refine va_sld hx hb hX hbl hbA hS (i := 1) (gx_inl (by decide)) d_Lw_law_443 ?_
      refine gx_topi (y := y1) (by rw [hy1]; rfl) ?_
      refine gx_call (ig := .invokevirtual 118) (c_Mo_merge_v1 l htr D tys z _ ws q46 y1 q47 q48 q49 q50 q51 q52 q53 q54 q62 q70 q78 q79 (um) q80 q81 q82 q83 f_46) (gx_invV (As := [Value.int y1]) (rest := []) hx hb hown hts km_Lw_118 kI_Mo_merge kV_Mo_merge kc_Mo_merge (by decide) (show (parseMethodDescriptor y_Mo_merge.desc).map (fun d => d.parameters.length) = some 1 by decide +kernel) (gx_recv (ci := 8) hK hP rfl f_46) rfl rfl d_Lw_law_444) (gx_cw (z := 0) hts kc_Mo_merge kN_Mo rfl rfl ⟨Nat.le_of_ble_eq_true rfl, Nat.le_of_ble_eq_true rfl⟩) hb hml gx_blind (gx_pre hz hP hK hD hY hS hAz [Value.ref q46, Value.int y1]) rfl hl.1 (lv_room (Nat.le_of_ble_eq_true rfl)) d_Lw_law_444 ⟨Nat.le_of_ble_eq_true rfl, Nat.le_of_ble_eq_true rfl⟩ (fun v15 st15 t15 L15 h0_15 hW_15 hQ_15 hL_15 => ?_) (fun v15 st15 t15 L15 h0_15 hW_15 hQ_15 hL_15 => ?_)
      · obtain ⟨ws16, hp, hP9, -, hD9, hS9⟩ := gx_back h0_15 hW_15 hQ_15 hL_15 hD hS hA
        clear hQ_15 h0_15 hL_15 hW_15 hP hD hS
        have hP := hP9
        have hD := hD9
        have hS := hS9
        clear hP9 hD9 hS9
        rcases hp with ⟨hv9, e_ws16, f_46_ws16, g15_0⟩ | ⟨hv9, e_ws16, f_46_ws16, g15_0, g15_1⟩ | ⟨hv9, e_ws16, f_46_ws16, g15_0, g15_1⟩
        · cases hv9
          have f_46_ws16 : ws16[46]? = some ((q46, Sum.inr (8, [Value.int 0, Value.int 1, Value.ref q47, Value.ref q48, Value.ref q49, Value.int 0, Value.ref q50, Value.ref q51, Value.ref q52, Value.ref q53, Value.int 0, Value.int 0, Value.int 0, Value.int (-1), Value.int 0, Value.ref q54, Value.ref q62, Value.ref q70, Value.int 0, Value.int 0, Value.int 0, Value.ref q78, Value.ref q79, Value.int 0, Value.int 16, Value.int 4, um, Value.ref q80, Value.ref q81, Value.ref q82, Value.int 0, Value.ref q83, Value.int 0, Value.int 0, Value.int 0])) : Nat × va_E) := f_46_ws16
          replace hlen : ws16.length = 117 := by rw [e_ws16.1, hlen]
          replace hU : gx_g ws ws16 0 [0, 1, 2, 3, 4, 5, 6, 7, 8, 9, 10, 11, 12, 13, 14, 15, 16, 17, 18, 19, 20, 21, 22, 23, 24, 25, 26, 27, 28, 29, 30, 31, 32, 33, 34, 35, 36, 37, 38, 39, 40, 41, 42, 43, 44, 45, 46, 47, 48, 49, 50, 51, 52, 53, 54, 55, 56, 57, 58, 59, 60, 61, 62, 63, 64, 65, 66, 67, 68, 69, 70, 71, 72, 73, 74, 75, 76, 77, 78, 79, 80, 81, 82, 83, 84, 85, 86, 87, 88, 89, 90, 91, 92, 93, 94, 95, 96, 97, 98, 99, 100, 101, 102, 103, 104, 105, 106, 107, 108, 109, 110, 111, 112, 113, 114, 115, 116] := hU.call e_ws16 (by rw [hlen0]; decide)
          exact absurd g15_0 g1_0
        · cases hv9
          have f_46_ws16 : ws16[46]? = some ((q46, Sum.inr (8, [Value.int 0, Value.int 2, Value.ref q47, Value.ref q48, Value.ref q49, Value.int 0, Value.ref q50, Value.ref q51, Value.ref q52, Value.ref q53, Value.int 0, Value.int 0, Value.int 0, Value.int (-1), Value.int 0, Value.ref q54, Value.ref q62, Value.ref q70, Value.int 0, Value.int 0, Value.int 0, Value.ref q78, Value.ref q79, Value.int 0, Value.int 16, Value.int 4, um, Value.ref q80, Value.ref q81, Value.ref q82, Value.int 0, Value.ref q83, Value.int 0, Value.int 0, Value.int 0])) : Nat × va_E) := f_46_ws16
          replace hlen : ws16.length = 117 := by rw [e_ws16.1, hlen]
          replace hU : gx_g ws ws16 0 [0, 1, 2, 3, 4, 5, 6, 7, 8, 9, 10, 11, 12, 13, 14, 15, 16, 17, 18, 19, 20, 21, 22, 23, 24, 25, 26, 27, 28, 29, 30, 31, 32, 33, 34, 35, 36, 37, 38, 39, 40, 41, 42, 43, 44, 45, 46, 47, 48, 49, 50, 51, 52, 53, 54, 55, 56, 57, 58, 59, 60, 61, 62, 63, 64, 65, 66, 67, 68, 69, 70, 71, 72, 73, 74, 75, 76, 77, 78, 79, 80, 81, 82, 83, 84, 85, 86, 87, 88, 89, 90, 91, 92, 93, 94, 95, 96, 97, 98, 99, 100, 101, 102, 103, 104, 105, 106, 107, 108, 109, 110, 111, 112, 113, 114, 115, 116] := hU.call e_ws16 (by rw [hlen0]; decide)
          exact absurd g15_1 g1_1
        · cases hv9
          have f_46_ws16 : ws16[46]? = some ((q46, Sum.inr (8, [Value.int 0, Value.int 1, Value.ref q47, Value.ref q48, Value.ref q49, Value.int 0, Value.ref q50, Value.ref q51, Value.ref q52, Value.ref q53, Value.int 0, Value.int 0, Value.int 0, Value.int (-1), Value.int 0, Value.ref q54, Value.ref q62, Value.ref q70, Value.int 0, Value.int 0, Value.int 0, Value.ref q78, Value.ref q79, Value.int 0, Value.int 16, Value.int 4, um, Value.ref q80, Value.ref q81, Value.ref q82, Value.int 0, Value.ref q83, Value.int 0, Value.int 0, Value.int 0])) : Nat × va_E) := f_46_ws16
          replace hlen : ws16.length = 117 := by rw [e_ws16.1, hlen]
          replace hU : gx_g ws ws16 0 [0, 1, 2, 3, 4, 5, 6, 7, 8, 9, 10, 11, 12, 13, 14, 15, 16, 17, 18, 19, 20, 21, 22, 23, 24, 25, 26, 27, 28, 29, 30, 31, 32, 33, 34, 35, 36, 37, 38, 39, 40, 41, 42, 43, 44, 45, 46, 47, 48, 49, 50, 51, 52, 53, 54, 55, 56, 57, 58, 59, 60, 61, 62, 63, 64, 65, 66, 67, 68, 69, 70, 71, 72, 73, 74, 75, 76, 77, 78, 79, 80, 81, 82, 83, 84, 85, 86, 87, 88, 89, 90, 91, 92, 93, 94, 95, 96, 97, 98, 99, 100, 101, 102, 103, 104, 105, 106, 107, 108, 109, 110, 111, 112, 113, 114, 115, 116] := hU.call e_ws16 (by rw [hlen0]; decide)
          refine W.eq (g2 := F0 m 447 ls [Value.int 0]) rfl ?_
          generalize t15.heap = H at hP hS ⊢
          generalize locs ++ L15 = locs at hS ⊢
          refine lv_istore (lv' := [(6, Value.int 0), (5, Value.int 1), (4, Value.int 0), (3, Value.ref q116), (2, Value.ref q46), (1, Value.ref q0), (0, Value.ref b)]) hx hb d_Lw_law_447 hl (by decide) rfl (fun ls hl => ?_)
          refine lv_aload_n hx hb d_Lw_law_449 rfl (lv_at hl 4 rfl) ?_
          refine gx_call (ig := .invokevirtual 98) (c_Mo_thrown l htr D tys z _ ws16 q46 46 (Value.int 0) 1 (Value.ref q47) (Value.ref q48) (Value.ref q49) (Value.int 0) (Value.ref q50) (Value.ref q51) (Value.ref q52) (Value.ref q53) (Value.int 0) (Value.int 0) (Value.int 0) (Value.int (-1)) (Value.int 0) (Value.ref q54) (Value.ref q62) (Value.ref q70) (Value.int 0) (Value.int 0) (Value.int 0) (Value.ref q78) (Value.ref q79) (Value.int 0) (Value.int 16) (Value.int 4) (um) (Value.ref q80) (Value.ref q81) (Value.ref q82) (Value.int 0) (Value.ref q83) (Value.int 0) (Value.int 0) (Value.int 0) f_46_ws16) (gx_invV (As := []) (rest := []) hx hb hown hts km_Lw_98 kI_Mo_thrown kV_Mo_thrown kc_Mo_thrown (by decide) (show (parseMethodDescriptor y_Mo_thrown.desc).map (fun d => d.parameters.length) = some 0 by decide +kernel) (gx_recv (ci := 8) hK hP rfl f_46_ws16) rfl rfl d_Lw_law_450) (gx_cw (z := 0) hts kc_Mo_thrown kN_Mo rfl rfl ⟨Nat.le_of_ble_eq_true rfl, Nat.le_of_ble_eq_true rfl⟩) hb hml gx_blind (gx_pre hz hP hK hD hY hS hAz [Value.ref q46]) rfl hl.1 (lv_room (Nat.le_of_ble_eq_true rfl)) d_Lw_law_450 ⟨Nat.le_of_ble_eq_true rfl, Nat.le_of_ble_eq_true rfl⟩ (fun v17 st17 t17 L17 h0_17 hW_17 hQ_17 hL_17 => ?_) (fun v17 st17 t17 L17 h0_17 hW_17 hQ_17 hL_17 => ?_)
          · obtain ⟨ws18, hp, hP9, -, hD9, hS9⟩ := gx_back h0_17 hW_17 hQ_17 hL_17 hD hS hA
            clear hQ_17 h0_17 hL_17 hW_17 hP hD hS
            have hP := hP9
            have hD := hD9
            have hS := hS9
            clear hP9 hD9 hS9
            rcases hp with ⟨hv9, e_ws18⟩
            cases hv9
            rw [e_ws18] at hP hD
            refine W.eq (g2 := F0 m 453 ls [Value.int 1]) rfl ?_
            generalize t17.heap = H at hP hS ⊢
            generalize locs ++ L17 = locs at hS ⊢
            refine lv_iload hx hb d_Lw_law_453 (lv_at hl 1 rfl) ?_
            refine lv_icmp_eq (tgt := 460) hx hb d_Lw_law_455 (by decide) (fun _ => ?_) (fun c9 => absurd (by decide) c9)
            refine lv_iload hx hb d_Lw_law_460 (lv_at hl 1 rfl) ?_
            refine lv_if_ne (tgt := 477) hx hb d_Lw_law_462 (by decide) (fun _ => ?_) (fun c9 => absurd c9 (by decide))
            refine lv_goto (tgt := 1272) hx hb d_Lw_law_477 (by decide) ?_
            refine W.widen (k := 400) (n := 700000) (by decide) (by decide) ?_
            exact k _ _ ls (by rw [hAe]; exact hS) (lv_sub hl [2, 6] rfl)
          · obtain ⟨E9, ws19, ce, hp, hce, hP9, -, hD9, hS9⟩ := gx_backT h0_17 hW_17 hQ_17 hL_17 hD hS hA
            clear hQ_17 h0_17 hL_17 hW_17 hP hD hS
            have hP := hP9
            have hD := hD9
            have hS := hS9
            clear hP9 hD9 hS9
            rcases hp with ⟨hv9, e_ws19⟩
            cases hv9
      · obtain ⟨E9, ws20, ce, hp, hce, hP9, -, hD9, hS9⟩ := gx_backT h0_15 hW_15 hQ_15 hL_15 hD hS hA
        clear hQ_15 h0_15 hL_15 hW_15 hP hD hS
        have hP := hP9
        have hD := hD9
        have hS := hS9
        clear hP9 hD9 hS9
        rcases hp with ⟨hv9, e_ws20, f_46_ws20, g15_0⟩ | ⟨hv9, e_ws20, f_46_ws20, g15_0, g15_1⟩ | ⟨hv9, e_ws20, f_46_ws20, g15_0, g15_1⟩
        · cases hv9
        · cases hv9
        · cases hv9
  · obtain ⟨E9, ws21, ce, hp, hce, hP9, -, hD9, hS9⟩ := gx_backT h0_1 hW_1 hQ_1 hL_1 hD hS hA
    clear hQ_1 h0_1 hL_1 hW_1 hP hD hS
    have hP := hP9
    have hD := hD9
    have hS := hS9
    clear hP9 hD9 hS9
    rcases hp with ⟨hv9, e_ws21, g1_0, g1_1⟩ | ⟨hv9, e_ws21, g1_0⟩ | ⟨hv9, e_ws21, g1_0, g1_1⟩
    · cases hv9
    · cases hv9
    · cases hv9

set_option maxHeartbeats 4000000 in
set_option maxRecDepth 100000 in
theorem law_t6 {p : Program} {e : Env} {s : State} {m : MethodId} {below : List Frame} {meth : Method} {c : Code} {Q : State → Prop} (l : Launch) (htr : l.stackTraces = false) {b : Nat} {xs : Nat → Int32} (hx : p.tables.exec = Jvm.exec) (hb : c.code = code) (hml : c.maxLocals = 7) (hown : s.vm.findClass "CommitLedgerLaw" = some m.cls) (hts1 : ∀ w ∈ lw_tbl, w.before #[Value.ref b] s = true) (hgv : (Jvm.Cond.and given_1 narrow_1).before #[Value.ref b] s = true) (hX : va_X b 4 xs s s.heap) (hbl : b < s.heap.size) (D : va_G) (tys : List (ClassId × FieldType)) (cI cZ cF cM cR cV cJ : ClassId) (q0 q1 q2 q3 q4 q5 q6 q7 q8 q9 q10 q11 q12 q13 q14 q15 q16 q17 q18 q19 q20 q21 q22 q23 q24 q25 q26 q27 q28 q29 q30 q31 q32 q33 q34 q35 q36 q37 q38 q39 q40 q41 q42 q43 q44 q45 q46 q47 q48 q49 q50 q51 q52 q53 q54 q55 q56 q57 q58 q59 q60 q61 q62 q63 q64 q65 q66 q67 q68 q69 q70 q71 q72 q73 q74 q75 q76 q77 q78 q79 q80 q81 q82 q83 q84 q85 q86 q87 q88 q89 q90 q91 q92 q93 q94 q95 q96 q97 q98 q99 q100 q101 q102 q103 q104 q105 q106 q107 q108 q109 q110 q111 q112 q113 q114 q115 q116 : Nat) (u0 u1 um : Value) (ws : va_W) (H : Heap) (locs : List Loc) (ls : Array Slot) (hK : va_K D classes tys s) (htys : tys = [(cI, FieldType.int), (cZ, FieldType.boolean), (cF, FieldType.object "CommitLedger$LedgerFile"), (cM, FieldType.object "CommitLedger$Merge"), (cR, FieldType.object "CommitLedger$Reader"), (cV, FieldType.object "CommitLedgerModel$Version"), (cJ, FieldType.long)]) (hP : va_P D classes ws H) (hD : va_D (fun q : Nat => s.heap.size ≤ q) ws) (hS : va_S (fun q : Nat => s.heap.size ≤ q) s.heap H locs) (hlen : ws.length = 117) (f_0 : ws[0]? = some ((q0, Sum.inr (0, [Value.ref q1, Value.ref q5, Value.ref q8, Value.ref q20, Value.ref q25, Value.ref q12, Value.ref q16, Value.int 0, Value.int 0, Value.int 0, Value.int 16, Value.int 4, Value.int 0, Value.int 0, Value.int 0, Value.int 0, Value.int 0, Value.int (-1)])) : Nat × va_E)) (f_46 : ws[46]? = some ((q46, Sum.inr (8, [Value.int 0, Value.int 0, Value.ref q47, Value.ref q48, Value.ref q49, Value.int 0, Value.ref q50, Value.ref q51, Value.ref q52, Value.ref q53, Value.int 0, Value.int 0, Value.int 0, Value.int (-1), Value.int 0, Value.ref q54, Value.ref q62, Value.ref q70, Value.int 0, Value.int 0, Value.int 0, Value.ref q78, Value.ref q79, Value.int 0, Value.int 16, Value.int 4, um, Value.ref q80, Value.ref q81, Value.ref q82, Value.int 0, Value.ref q83, Value.int 0, Value.int 0, Value.int 0])) : Nat × va_E)) (hl : lv_has ls 7 [(4, Value.int 0), (3, Value.ref q116), (2, Value.ref q46), (1, Value.ref q0), (0, Value.ref b)])
    (k : ∀ (H : Heap) (locs : List Loc) (ls : Array Slot), va_S (fun q : Nat => s.heap.size ≤ q) s.heap H locs → lv_has ls 7 [(4, Value.int 0), (0, Value.ref b)] → W p l e room_1 s m #[Value.ref b] below meth c H locs 400 700000 Q (F0 m 1272 ls [])) :
    W p l e room_1 s m #[Value.ref b] below meth c H locs 122 677754 Q (F0 m 480 ls []) := by
  have ht0 : tys[0]? = some ((cI, FieldType.int) : ClassId × FieldType) := by rw [htys]; rfl
  have ht1 : tys[1]? = some ((cZ, FieldType.boolean) : ClassId × FieldType) := by rw [htys]; rfl
  have ht2 : tys[2]? = some ((cF, FieldType.object "CommitLedger$LedgerFile") : ClassId × FieldType) := by rw [htys]; rfl
  have ht3 : tys[3]? = some ((cM, FieldType.object "CommitLedger$Merge") : ClassId × FieldType) := by rw [htys]; rfl
  have ht4 : tys[4]? = some ((cR, FieldType.object "CommitLedger$Reader") : ClassId × FieldType) := by rw [htys]; rfl
  have ht5 : tys[5]? = some ((cV, FieldType.object "CommitLedgerModel$Version") : ClassId × FieldType) := by rw [htys]; rfl
  have ht6 : tys[6]? = some ((cJ, FieldType.long) : ClassId × FieldType) := by rw [htys]; rfl
  have hY := gx_Y0 hts1 hgv
  have hts := gx_hts0 hts1 hgv
  obtain ⟨z, hzz⟩ : ∃ x : Nat, x = s.heap.size := ⟨_, rfl⟩
  rw [← hzz] at hY
  have hz : z ≤ s.heap.size := Nat.le_of_eq hzz
  have hAz : ∀ q : Nat, (fun q : Nat => s.heap.size ≤ q) q → z ≤ q := fun q h => by rw [hzz]; exact h
  have hA : ∀ q : Nat, s.heap.size ≤ q → (fun q : Nat => s.heap.size ≤ q) q := fun _ h => h
  have hbA : ¬ (fun q : Nat => s.heap.size ≤ q) b := Nat.not_le.mpr hbl
  have hN : gx_NS (fun q : Nat => s.heap.size ≤ q) s := fun q cell h hc => absurd (Array.getElem?_eq_some_iff.mp hc).1 (Nat.not_lt.mpr h)
  have hlen0 := hlen
  have hU : gx_g ws ws 0 [0, 1, 2, 3, 4, 5, 6, 7, 8, 9, 10, 11, 12, 13, 14, 15, 16, 17, 18, 19, 20, 21, 22, 23, 24, 25, 26, 27, 28, 29, 30, 31, 32, 33, 34, 35, 36, 37, 38, 39, 40, 41, 42, 43, 44, 45, 46, 47, 48, 49, 50, 51, 52, 53, 54, 55, 56, 57, 58, 59, 60, 61, 62, 63, 64, 65, 66, 67, 68, 69, 70, 71, 72, 73, 74, 75, 76, 77, 78, 79, 80, 81, 82, 83, 84, 85, 86, 87, 88, 89, 90, 91, 92, 93, 94, 95, 96, 97, 98, 99, 100, 101, 102, 103, 104, 105, 106, 107, 108, 109, 110, 111, 112, 113, 114, 115, 116] := gx_g.rf
  obtain ⟨y0, hy0⟩ : ∃ y : Int32, y = xs 0 := ⟨_, rfl⟩
  obtain ⟨y1, hy1⟩ : ∃ y : Int32, y = xs 1 := ⟨_, rfl⟩
  obtain ⟨y2, hy2⟩ : ∃ y : Int32, y = xs 2 := ⟨_, rfl⟩
  obtain ⟨y3, hy3⟩ : ∃ y : Int32, y = xs 3 := ⟨_, rfl⟩
  generalize hAe : (fun q : Nat => s.heap.size ≤ q) = A at hD hN hA hAz hS hbA
  refine lv_aload_n hx hb d_Lw_law_480 rfl (lv_at hl 3 rfl) ?_
  refine lv_aload_n hx hb d_Lw_law_481 rfl (lv_at hl 4 rfl) ?_
  refine lv_iload hx hb d_Lw_law_482 (lv_at hl 0 rfl) ?_
  refine lv_iconst (v := 1) hx hb d_Lw_law_484 (by decide) ?_
  refine lv_iadd hx hb d_Lw_law_485 ?_
  refine gx_topi (y := 1) (by decide) ?_
  refine va_sld hx hb hX hbl hbA hS (i := 1) (gx_inl (by decide)) d_Lw_law_486 ?_
  refine gx_topi (y := y1) (by rw [hy1]; rfl) ?_
  refine lv_aload_n hx hb d_Lw_law_487 rfl (lv_at hl 4 rfl) ?_
  refine lv_iload hx hb d_Lw_law_488 (lv_at hl 0 rfl) ?_
  refine lv_iconst (v := 2) hx hb d_Lw_law_490 (by decide) ?_
  refine lv_iadd hx hb d_Lw_law_491 ?_
  refine gx_topi (y := 2) (by decide) ?_
  refine va_sld hx hb hX hbl hbA hS (i := 2) (gx_inl (by decide)) d_Lw_law_492 ?_
  refine gx_topi (y := y2) (by rw [hy2]; rfl) ?_
  refine lv_if_eq (tgt := 500) hx hb d_Lw_law_493 (by decide) (fun c493_1 => ?_) (fun c493_1 => ?_)
  · refine lv_iconst (v := 0) hx hb d_Lw_law_500 (by decide) ?_
    refine lv_aload_n hx hb d_Lw_law_501 rfl (lv_at hl 1 rfl) ?_
    refine gx_callH (ig := .invokestatic 119) (c_Lw_finish_v1 l htr D tys z _ ws q0 y1 0 q116 q1 q5 q8 q20 q25 q12 q16 f_0) (gx_invSH (As := [Value.ref q0, Value.int y1, Value.int 0, Value.ref q116]) (rest := []) hx hb hown hts km_Lw_119 kS_Lw_finish kN_Lw kc_Lw_finish (by decide) (show (parseMethodDescriptor y_Lw_finish.desc).map (fun d => d.parameters.length) = some 4 by decide +kernel) rfl rfl d_Lw_law_502) (gx_cwH hts kc_Lw_finish kN_Lw rfl rfl ⟨Nat.le_of_ble_eq_true rfl, Nat.le_of_ble_eq_true rfl⟩) hb hml gx_blind (gx_pre hz hP hK hD hY hS hAz [Value.ref q0, Value.int y1, Value.int 0, Value.ref q116]) rfl hl.1 (lv_room (Nat.le_of_ble_eq_true rfl)) d_Lw_law_502 ⟨Nat.le_of_ble_eq_true rfl, Nat.le_of_ble_eq_true rfl⟩ (fun v2 st2 t2 L2 h0_2 hW_2 hQ_2 hL_2 => ?_) (fun v2 st2 t2 L2 h0_2 hW_2 hQ_2 hL_2 => ?_)
    · obtain ⟨ws3, hp, hP9, -, hD9, hS9⟩ := gx_back h0_2 hW_2 hQ_2 hL_2 hD hS hA
      clear hQ_2 h0_2 hL_2 hW_2 hP hD hS
      have hP := hP9
      have hD := hD9
      have hS := hS9
      clear hP9 hD9 hS9
      rcases hp with ⟨hv9, e_ws3⟩
      cases hv9
      rw [e_ws3] at hP hD
      refine W.eq (g2 := F0 m 505 ls [Value.int 1]) rfl ?_
      refine W.widen (k := 123) (n := 677760) (by decide) (by decide) ?_
      generalize t2.heap = H at hP hS ⊢
      generalize locs ++ L2 = locs at hS ⊢
      refine lv_istore (lv' := [(5, Value.int 1), (4, Value.int 0), (3, Value.ref q116), (2, Value.ref q46), (1, Value.ref q0), (0, Value.ref b)]) hx hb d_Lw_law_505 hl (by decide) rfl (fun ls hl => ?_)
      refine lv_aload_n hx hb d_Lw_law_507 rfl (lv_at hl 3 rfl) ?_
      refine lv_aload_n hx hb d_Lw_law_508 rfl (lv_at hl 5 rfl) ?_
      refine lv_iload hx hb d_Lw_law_509 (lv_at hl 1 rfl) ?_
      refine lv_iconst (v := 1) hx hb d_Lw_law_511 (by decide) ?_
      refine lv_iadd hx hb d_Lw_law_512 ?_
      refine gx_topi (y := 1) (by decide) ?_
      refine va_sld hx hb hX hbl hbA hS (i := 1) (gx_inl (by decide)) d_Lw_law_513 ?_
      refine gx_topi (y := y1) (by rw [hy1]; rfl) ?_
      refine lv_aload_n hx hb d_Lw_law_514 rfl (lv_at hl 5 rfl) ?_
      refine lv_iload hx hb d_Lw_law_515 (lv_at hl 1 rfl) ?_
      refine lv_iconst (v := 2) hx hb d_Lw_law_517 (by decide) ?_
      refine lv_iadd hx hb d_Lw_law_518 ?_
      refine gx_topi (y := 2) (by decide) ?_
      refine va_sld hx hb hX hbl hbA hS (i := 2) (gx_inl (by decide)) d_Lw_law_519 ?_
      refine gx_topi (y := y2) (by rw [hy2]; rfl) ?_
      refine lv_if_eq (tgt := 527) hx hb d_Lw_law_520 (by decide) (fun _ => ?_) (fun c9 => absurd c493_1 c9)
      refine lv_iconst (v := 0) hx hb d_Lw_law_527 (by decide) ?_
      refine gx_call (ig := .invokevirtual 122) (c_Mo_finish_v1 l htr D tys z _ ws q46 y1 0 q47 q48 q49 q50 q51 q52 q53 q54 q62 q70 q78 q79 (um) q80 q81 q82 q83 f_46) (gx_invV (As := [Value.int y1, Value.int 0]) (rest := []) hx hb hown hts km_Lw_122 kI_Mo_finish kV_Mo_finish kc_Mo_finish (by decide) (show (parseMethodDescriptor y_Mo_finish.desc).map (fun d => d.parameters.length) = some 2 by decide +kernel) (gx_recv (ci := 8) hK hP rfl f_46) rfl rfl d_Lw_law_528) (gx_cw (z := 0) hts kc_Mo_finish kN_Mo rfl rfl ⟨Nat.le_of_ble_eq_true rfl, Nat.le_of_ble_eq_true rfl⟩) hb hml gx_blind (gx_pre hz hP hK hD hY hS hAz [Value.ref q46, Value.int y1, Value.int 0]) rfl hl.1 (lv_room (Nat.le_of_ble_eq_true rfl)) d_Lw_law_528 ⟨Nat.le_of_ble_eq_true rfl, Nat.le_of_ble_eq_true rfl⟩ (fun v5 st5 t5 L5 h0_5 hW_5 hQ_5 hL_5 => ?_) (fun v5 st5 t5 L5 h0_5 hW_5 hQ_5 hL_5 => ?_)
      · obtain ⟨ws6, hp, hP9, -, hD9, hS9⟩ := gx_back h0_5 hW_5 hQ_5 hL_5 hD hS hA
        clear hQ_5 h0_5 hL_5 hW_5 hP hD hS
        have hP := hP9
        have hD := hD9
        have hS := hS9
        clear hP9 hD9 hS9
        rcases hp with ⟨hv9, e_ws6, f_46_ws6⟩
        cases hv9
        have f_46_ws6 : ws6[46]? = some ((q46, Sum.inr (8, [Value.int 0, Value.int 1, Value.ref q47, Value.ref q48, Value.ref q49, Value.int 0, Value.ref q50, Value.ref q51, Value.ref q52, Value.ref q53, Value.int 0, Value.int 0, Value.int 0, Value.int (-1), Value.int 0, Value.ref q54, Value.ref q62, Value.ref q70, Value.int 0, Value.int 0, Value.int 0, Value.ref q78, Value.ref q79, Value.int 0, Value.int 16, Value.int 4, um, Value.ref q80, Value.ref q81, Value.ref q82, Value.int 0, Value.ref q83, Value.int 0, Value.int 0, Value.int 0])) : Nat × va_E) := f_46_ws6
        replace hlen : ws6.length = 117 := by rw [e_ws6.1, hlen]
        replace hU : gx_g ws ws6 0 [0, 1, 2, 3, 4, 5, 6, 7, 8, 9, 10, 11, 12, 13, 14, 15, 16, 17, 18, 19, 20, 21, 22, 23, 24, 25, 26, 27, 28, 29, 30, 31, 32, 33, 34, 35, 36, 37, 38, 39, 40, 41, 42, 43, 44, 45, 46, 47, 48, 49, 50, 51, 52, 53, 54, 55, 56, 57, 58, 59, 60, 61, 62, 63, 64, 65, 66, 67, 68, 69, 70, 71, 72, 73, 74, 75, 76, 77, 78, 79, 80, 81, 82, 83, 84, 85, 86, 87, 88, 89, 90, 91, 92, 93, 94, 95, 96, 97, 98, 99, 100, 101, 102, 103, 104, 105, 106, 107, 108, 109, 110, 111, 112, 113, 114, 115, 116] := hU.call e_ws6 (by rw [hlen0]; decide)
        refine W.eq (g2 := F0 m 531 ls [Value.int 0]) rfl ?_
        generalize t5.heap = H at hP hS ⊢
        generalize locs ++ L5 = locs at hS ⊢
        refine lv_istore (lv' := [(6, Value.int 0), (5, Value.int 1), (4, Value.int 0), (3, Value.ref q116), (2, Value.ref q46), (1, Value.ref q0), (0, Value.ref b)]) hx hb d_Lw_law_531 hl (by decide) rfl (fun ls hl => ?_)
        refine lv_aload_n hx hb d_Lw_law_533 rfl (lv_at hl 4 rfl) ?_
        refine gx_call (ig := .invokevirtual 98) (c_Mo_thrown l htr D tys z _ ws6 q46 46 (Value.int 0) 1 (Value.ref q47) (Value.ref q48) (Value.ref q49) (Value.int 0) (Value.ref q50) (Value.ref q51) (Value.ref q52) (Value.ref q53) (Value.int 0) (Value.int 0) (Value.int 0) (Value.int (-1)) (Value.int 0) (Value.ref q54) (Value.ref q62) (Value.ref q70) (Value.int 0) (Value.int 0) (Value.int 0) (Value.ref q78) (Value.ref q79) (Value.int 0) (Value.int 16) (Value.int 4) (um) (Value.ref q80) (Value.ref q81) (Value.ref q82) (Value.int 0) (Value.ref q83) (Value.int 0) (Value.int 0) (Value.int 0) f_46_ws6) (gx_invV (As := []) (rest := []) hx hb hown hts km_Lw_98 kI_Mo_thrown kV_Mo_thrown kc_Mo_thrown (by decide) (show (parseMethodDescriptor y_Mo_thrown.desc).map (fun d => d.parameters.length) = some 0 by decide +kernel) (gx_recv (ci := 8) hK hP rfl f_46_ws6) rfl rfl d_Lw_law_534) (gx_cw (z := 0) hts kc_Mo_thrown kN_Mo rfl rfl ⟨Nat.le_of_ble_eq_true rfl, Nat.le_of_ble_eq_true rfl⟩) hb hml gx_blind (gx_pre hz hP hK hD hY hS hAz [Value.ref q46]) rfl hl.1 (lv_room (Nat.le_of_ble_eq_true rfl)) d_Lw_law_534 ⟨Nat.le_of_ble_eq_true rfl, Nat.le_of_ble_eq_true rfl⟩ (fun v7 st7 t7 L7 h0_7 hW_7 hQ_7 hL_7 => ?_) (fun v7 st7 t7 L7 h0_7 hW_7 hQ_7 hL_7 => ?_)
        · obtain ⟨ws8, hp, hP9, -, hD9, hS9⟩ := gx_back h0_7 hW_7 hQ_7 hL_7 hD hS hA
          clear hQ_7 h0_7 hL_7 hW_7 hP hD hS
          have hP := hP9
          have hD := hD9
          have hS := hS9
          clear hP9 hD9 hS9
          rcases hp with ⟨hv9, e_ws8⟩
          cases hv9
          rw [e_ws8] at hP hD
          refine W.eq (g2 := F0 m 537 ls [Value.int 1]) rfl ?_
          generalize t7.heap = H at hP hS ⊢
          generalize locs ++ L7 = locs at hS ⊢
          refine lv_iload hx hb d_Lw_law_537 (lv_at hl 1 rfl) ?_
          refine lv_icmp_eq (tgt := 544) hx hb d_Lw_law_539 (by decide) (fun _ => ?_) (fun c9 => absurd (by decide) c9)
          refine lv_iload hx hb d_Lw_law_544 (lv_at hl 1 rfl) ?_
          refine lv_if_ne (tgt := 561) hx hb d_Lw_law_546 (by decide) (fun _ => ?_) (fun c9 => absurd c9 (by decide))
          refine lv_goto (tgt := 1272) hx hb d_Lw_law_561 (by decide) ?_
          refine W.widen (k := 400) (n := 700000) (by decide) (by decide) ?_
          exact k _ _ ls (by rw [hAe]; exact hS) (lv_sub hl [2, 6] rfl)
        · obtain ⟨E9, ws9, ce, hp, hce, hP9, -, hD9, hS9⟩ := gx_backT h0_7 hW_7 hQ_7 hL_7 hD hS hA
          clear hQ_7 h0_7 hL_7 hW_7 hP hD hS
          have hP := hP9
          have hD := hD9
          have hS := hS9
          clear hP9 hD9 hS9
          rcases hp with ⟨hv9, e_ws9⟩
          cases hv9
      · obtain ⟨E9, ws10, ce, hp, hce, hP9, -, hD9, hS9⟩ := gx_backT h0_5 hW_5 hQ_5 hL_5 hD hS hA
        clear hQ_5 h0_5 hL_5 hW_5 hP hD hS
        have hP := hP9
        have hD := hD9
        have hS := hS9
        clear hP9 hD9 hS9
        rcases hp with ⟨hv9, e_ws10, f_46_ws10⟩
        cases hv9
    · obtain ⟨E9, ws11, ce, hp, hce, hP9, -, hD9, hS9⟩ := gx_backT h0_2 hW_2 hQ_2 hL_2 hD hS hA
      clear hQ_2 h0_2 hL_2 hW_2 hP hD hS
      have hP := hP9
      have hD := hD9
      have hS := hS9
      clear hP9 hD9 hS9
      rcases hp with ⟨hv9, e_ws11⟩
      cases hv9
  · refine lv_iconst (v := 1) hx hb d_Lw_law_496 (by decide) ?_
    refine lv_goto (tgt := 501) hx hb d_Lw_law_497 (by decide) ?_
    refine lv_aload_n hx hb d_Lw_law_501 rfl (lv_at hl 1 rfl) ?_
    refine gx_callH (ig := .invokestatic 119) (c_Lw_finish_v1 l htr D tys z _ ws q0 y1 1 q116 q1 q5 q8 q20 q25 q12 q16 f_0) (gx_invSH (As := [Value.ref q0, Value.int y1, Value.int 1, Value.ref q116]) (rest := []) hx hb hown hts km_Lw_119 kS_Lw_finish kN_Lw kc_Lw_finish (by decide) (show (parseMethodDescriptor y_Lw_finish.desc).map (fun d => d.parameters.length) = some 4 by decide +kernel) rfl rfl d_Lw_law_502) (gx_cwH hts kc_Lw_finish kN_Lw rfl rfl ⟨Nat.le_of_ble_eq_true rfl, Nat.le_of_ble_eq_true rfl⟩) hb hml gx_blind (gx_pre hz hP hK hD hY hS hAz [Value.ref q0, Value.int y1, Value.int 1, Value.ref q116]) rfl hl.1 (lv_room (Nat.le_of_ble_eq_true rfl)) d_Lw_law_502 ⟨Nat.le_of_ble_eq_true rfl, Nat.le_of_ble_eq_true rfl⟩ (fun v12 st12 t12 L12 h0_12 hW_12 hQ_12 hL_12 => ?_) (fun v12 st12 t12 L12 h0_12 hW_12 hQ_12 hL_12 => ?_)
    · obtain ⟨ws13, hp, hP9, -, hD9, hS9⟩ := gx_back h0_12 hW_12 hQ_12 hL_12 hD hS hA
      clear hQ_12 h0_12 hL_12 hW_12 hP hD hS
      have hP := hP9
      have hD := hD9
      have hS := hS9
      clear hP9 hD9 hS9
      rcases hp with ⟨hv9, e_ws13⟩
      cases hv9
      rw [e_ws13] at hP hD
      refine W.eq (g2 := F0 m 505 ls [Value.int 1]) rfl ?_
      refine W.widen (k := 123) (n := 677760) (by decide) (by decide) ?_
      generalize t12.heap = H at hP hS ⊢
      generalize locs ++ L12 = locs at hS ⊢
      refine lv_istore (lv' := [(5, Value.int 1), (4, Value.int 0), (3, Value.ref q116), (2, Value.ref q46), (1, Value.ref q0), (0, Value.ref b)]) hx hb d_Lw_law_505 hl (by decide) rfl (fun ls hl => ?_)
      refine lv_aload_n hx hb d_Lw_law_507 rfl (lv_at hl 3 rfl) ?_
      refine lv_aload_n hx hb d_Lw_law_508 rfl (lv_at hl 5 rfl) ?_
      refine lv_iload hx hb d_Lw_law_509 (lv_at hl 1 rfl) ?_
      refine lv_iconst (v := 1) hx hb d_Lw_law_511 (by decide) ?_
      refine lv_iadd hx hb d_Lw_law_512 ?_
      refine gx_topi (y := 1) (by decide) ?_
      refine va_sld hx hb hX hbl hbA hS (i := 1) (gx_inl (by decide)) d_Lw_law_513 ?_
      refine gx_topi (y := y1) (by rw [hy1]; rfl) ?_
      refine lv_aload_n hx hb d_Lw_law_514 rfl (lv_at hl 5 rfl) ?_
      refine lv_iload hx hb d_Lw_law_515 (lv_at hl 1 rfl) ?_
      refine lv_iconst (v := 2) hx hb d_Lw_law_517 (by decide) ?_
      refine lv_iadd hx hb d_Lw_law_518 ?_
      refine gx_topi (y := 2) (by decide) ?_
      refine va_sld hx hb hX hbl hbA hS (i := 2) (gx_inl (by decide)) d_Lw_law_519 ?_
      refine gx_topi (y := y2) (by rw [hy2]; rfl) ?_
      refine lv_if_eq (tgt := 527) hx hb d_Lw_law_520 (by decide) (fun c9 => absurd c9 c493_1) (fun _ => ?_)
      refine lv_iconst (v := 1) hx hb d_Lw_law_523 (by decide) ?_
      refine lv_goto (tgt := 528) hx hb d_Lw_law_524 (by decide) ?_
      refine gx_call (ig := .invokevirtual 122) (c_Mo_finish_v1 l htr D tys z _ ws q46 y1 1 q47 q48 q49 q50 q51 q52 q53 q54 q62 q70 q78 q79 (um) q80 q81 q82 q83 f_46) (gx_invV (As := [Value.int y1, Value.int 1]) (rest := []) hx hb hown hts km_Lw_122 kI_Mo_finish kV_Mo_finish kc_Mo_finish (by decide) (show (parseMethodDescriptor y_Mo_finish.desc).map (fun d => d.parameters.length) = some 2 by decide +kernel) (gx_recv (ci := 8) hK hP rfl f_46) rfl rfl d_Lw_law_528) (gx_cw (z := 0) hts kc_Mo_finish kN_Mo rfl rfl ⟨Nat.le_of_ble_eq_true rfl, Nat.le_of_ble_eq_true rfl⟩) hb hml gx_blind (gx_pre hz hP hK hD hY hS hAz [Value.ref q46, Value.int y1, Value.int 1]) rfl hl.1 (lv_room (Nat.le_of_ble_eq_true rfl)) d_Lw_law_528 ⟨Nat.le_of_ble_eq_true rfl, Nat.le_of_ble_eq_true rfl⟩ (fun v15 st15 t15 L15 h0_15 hW_15 hQ_15 hL_15 => ?_) (fun v15 st15 t15 L15 h0_15 hW_15 hQ_15 hL_15 => ?_)
      · obtain ⟨ws16, hp, hP9, -, hD9, hS9⟩ := gx_back h0_15 hW_15 hQ_15 hL_15 hD hS hA
        clear hQ_15 h0_15 hL_15 hW_15 hP hD hS
        have hP := hP9
        have hD := hD9
        have hS := hS9
        clear hP9 hD9 hS9
        rcases hp with ⟨hv9, e_ws16, f_46_ws16⟩
        cases hv9
        have f_46_ws16 : ws16[46]? = some ((q46, Sum.inr (8, [Value.int 0, Value.int 1, Value.ref q47, Value.ref q48, Value.ref q49, Value.int 0, Value.ref q50, Value.ref q51, Value.ref q52, Value.ref q53, Value.int 0, Value.int 0, Value.int 0, Value.int (-1), Value.int 0, Value.ref q54, Value.ref q62, Value.ref q70, Value.int 0, Value.int 0, Value.int 0, Value.ref q78, Value.ref q79, Value.int 0, Value.int 16, Value.int 4, um, Value.ref q80, Value.ref q81, Value.ref q82, Value.int 0, Value.ref q83, Value.int 0, Value.int 0, Value.int 0])) : Nat × va_E) := f_46_ws16
        replace hlen : ws16.length = 117 := by rw [e_ws16.1, hlen]
        replace hU : gx_g ws ws16 0 [0, 1, 2, 3, 4, 5, 6, 7, 8, 9, 10, 11, 12, 13, 14, 15, 16, 17, 18, 19, 20, 21, 22, 23, 24, 25, 26, 27, 28, 29, 30, 31, 32, 33, 34, 35, 36, 37, 38, 39, 40, 41, 42, 43, 44, 45, 46, 47, 48, 49, 50, 51, 52, 53, 54, 55, 56, 57, 58, 59, 60, 61, 62, 63, 64, 65, 66, 67, 68, 69, 70, 71, 72, 73, 74, 75, 76, 77, 78, 79, 80, 81, 82, 83, 84, 85, 86, 87, 88, 89, 90, 91, 92, 93, 94, 95, 96, 97, 98, 99, 100, 101, 102, 103, 104, 105, 106, 107, 108, 109, 110, 111, 112, 113, 114, 115, 116] := hU.call e_ws16 (by rw [hlen0]; decide)
        refine W.eq (g2 := F0 m 531 ls [Value.int 0]) rfl ?_
        generalize t15.heap = H at hP hS ⊢
        generalize locs ++ L15 = locs at hS ⊢
        refine lv_istore (lv' := [(6, Value.int 0), (5, Value.int 1), (4, Value.int 0), (3, Value.ref q116), (2, Value.ref q46), (1, Value.ref q0), (0, Value.ref b)]) hx hb d_Lw_law_531 hl (by decide) rfl (fun ls hl => ?_)
        refine lv_aload_n hx hb d_Lw_law_533 rfl (lv_at hl 4 rfl) ?_
        refine gx_call (ig := .invokevirtual 98) (c_Mo_thrown l htr D tys z _ ws16 q46 46 (Value.int 0) 1 (Value.ref q47) (Value.ref q48) (Value.ref q49) (Value.int 0) (Value.ref q50) (Value.ref q51) (Value.ref q52) (Value.ref q53) (Value.int 0) (Value.int 0) (Value.int 0) (Value.int (-1)) (Value.int 0) (Value.ref q54) (Value.ref q62) (Value.ref q70) (Value.int 0) (Value.int 0) (Value.int 0) (Value.ref q78) (Value.ref q79) (Value.int 0) (Value.int 16) (Value.int 4) (um) (Value.ref q80) (Value.ref q81) (Value.ref q82) (Value.int 0) (Value.ref q83) (Value.int 0) (Value.int 0) (Value.int 0) f_46_ws16) (gx_invV (As := []) (rest := []) hx hb hown hts km_Lw_98 kI_Mo_thrown kV_Mo_thrown kc_Mo_thrown (by decide) (show (parseMethodDescriptor y_Mo_thrown.desc).map (fun d => d.parameters.length) = some 0 by decide +kernel) (gx_recv (ci := 8) hK hP rfl f_46_ws16) rfl rfl d_Lw_law_534) (gx_cw (z := 0) hts kc_Mo_thrown kN_Mo rfl rfl ⟨Nat.le_of_ble_eq_true rfl, Nat.le_of_ble_eq_true rfl⟩) hb hml gx_blind (gx_pre hz hP hK hD hY hS hAz [Value.ref q46]) rfl hl.1 (lv_room (Nat.le_of_ble_eq_true rfl)) d_Lw_law_534 ⟨Nat.le_of_ble_eq_true rfl, Nat.le_of_ble_eq_true rfl⟩ (fun v17 st17 t17 L17 h0_17 hW_17 hQ_17 hL_17 => ?_) (fun v17 st17 t17 L17 h0_17 hW_17 hQ_17 hL_17 => ?_)
        · obtain ⟨ws18, hp, hP9, -, hD9, hS9⟩ := gx_back h0_17 hW_17 hQ_17 hL_17 hD hS hA
          clear hQ_17 h0_17 hL_17 hW_17 hP hD hS
          have hP := hP9
          have hD := hD9
          have hS := hS9
          clear hP9 hD9 hS9
          rcases hp with ⟨hv9, e_ws18⟩
          cases hv9
          rw [e_ws18] at hP hD
          refine W.eq (g2 := F0 m 537 ls [Value.int 1]) rfl ?_
          generalize t17.heap = H at hP hS ⊢
          generalize locs ++ L17 = locs at hS ⊢
          refine lv_iload hx hb d_Lw_law_537 (lv_at hl 1 rfl) ?_
          refine lv_icmp_eq (tgt := 544) hx hb d_Lw_law_539 (by decide) (fun _ => ?_) (fun c9 => absurd (by decide) c9)
          refine lv_iload hx hb d_Lw_law_544 (lv_at hl 1 rfl) ?_
          refine lv_if_ne (tgt := 561) hx hb d_Lw_law_546 (by decide) (fun _ => ?_) (fun c9 => absurd c9 (by decide))
          refine lv_goto (tgt := 1272) hx hb d_Lw_law_561 (by decide) ?_
          refine W.widen (k := 400) (n := 700000) (by decide) (by decide) ?_
          exact k _ _ ls (by rw [hAe]; exact hS) (lv_sub hl [2, 6] rfl)
        · obtain ⟨E9, ws19, ce, hp, hce, hP9, -, hD9, hS9⟩ := gx_backT h0_17 hW_17 hQ_17 hL_17 hD hS hA
          clear hQ_17 h0_17 hL_17 hW_17 hP hD hS
          have hP := hP9
          have hD := hD9
          have hS := hS9
          clear hP9 hD9 hS9
          rcases hp with ⟨hv9, e_ws19⟩
          cases hv9
      · obtain ⟨E9, ws20, ce, hp, hce, hP9, -, hD9, hS9⟩ := gx_backT h0_15 hW_15 hQ_15 hL_15 hD hS hA
        clear hQ_15 h0_15 hL_15 hW_15 hP hD hS
        have hP := hP9
        have hD := hD9
        have hS := hS9
        clear hP9 hD9 hS9
        rcases hp with ⟨hv9, e_ws20, f_46_ws20⟩
        cases hv9
    · obtain ⟨E9, ws21, ce, hp, hce, hP9, -, hD9, hS9⟩ := gx_backT h0_12 hW_12 hQ_12 hL_12 hD hS hA
      clear hQ_12 h0_12 hL_12 hW_12 hP hD hS
      have hP := hP9
      have hD := hD9
      have hS := hS9
      clear hP9 hD9 hS9
      rcases hp with ⟨hv9, e_ws21⟩
      cases hv9

set_option maxHeartbeats 4000000 in
set_option maxRecDepth 100000 in
theorem law_t7 {p : Program} {e : Env} {s : State} {m : MethodId} {below : List Frame} {meth : Method} {c : Code} {Q : State → Prop} (l : Launch) (htr : l.stackTraces = false) {b : Nat} {xs : Nat → Int32} (hx : p.tables.exec = Jvm.exec) (hb : c.code = code) (hml : c.maxLocals = 7) (hown : s.vm.findClass "CommitLedgerLaw" = some m.cls) (hts1 : ∀ w ∈ lw_tbl, w.before #[Value.ref b] s = true) (hgv : (Jvm.Cond.and given_1 narrow_1).before #[Value.ref b] s = true) (hX : va_X b 4 xs s s.heap) (hbl : b < s.heap.size) (D : va_G) (tys : List (ClassId × FieldType)) (cI cZ cF cM cR cV cJ : ClassId) (q0 q1 q2 q3 q4 q5 q6 q7 q8 q9 q10 q11 q12 q13 q14 q15 q16 q17 q18 q19 q20 q21 q22 q23 q24 q25 q26 q27 q28 q29 q30 q31 q32 q33 q34 q35 q36 q37 q38 q39 q40 q41 q42 q43 q44 q45 q46 q47 q48 q49 q50 q51 q52 q53 q54 q55 q56 q57 q58 q59 q60 q61 q62 q63 q64 q65 q66 q67 q68 q69 q70 q71 q72 q73 q74 q75 q76 q77 q78 q79 q80 q81 q82 q83 q84 q85 q86 q87 q88 q89 q90 q91 q92 q93 q94 q95 q96 q97 q98 q99 q100 q101 q102 q103 q104 q105 q106 q107 q108 q109 q110 q111 q112 q113 q114 q115 q116 : Nat) (u0 u1 um : Value) (ws : va_W) (H : Heap) (locs : List Loc) (ls : Array Slot) (hK : va_K D classes tys s) (htys : tys = [(cI, FieldType.int), (cZ, FieldType.boolean), (cF, FieldType.object "CommitLedger$LedgerFile"), (cM, FieldType.object "CommitLedger$Merge"), (cR, FieldType.object "CommitLedger$Reader"), (cV, FieldType.object "CommitLedgerModel$Version"), (cJ, FieldType.long)]) (hP : va_P D classes ws H) (hD : va_D (fun q : Nat => s.heap.size ≤ q) ws) (hS : va_S (fun q : Nat => s.heap.size ≤ q) s.heap H locs) (hlen : ws.length = 117) (f_0 : ws[0]? = some ((q0, Sum.inr (0, [Value.ref q1, Value.ref q5, Value.ref q8, Value.ref q20, Value.ref q25, Value.ref q12, Value.ref q16, Value.int 0, Value.int 0, Value.int 0, Value.int 16, Value.int 4, Value.int 0, Value.int 0, Value.int 0, Value.int 0, Value.int 0, Value.int (-1)])) : Nat × va_E)) (f_46 : ws[46]? = some ((q46, Sum.inr (8, [Value.int 0, Value.int 0, Value.ref q47, Value.ref q48, Value.ref q49, Value.int 0, Value.ref q50, Value.ref q51, Value.ref q52, Value.ref q53, Value.int 0, Value.int 0, Value.int 0, Value.int (-1), Value.int 0, Value.ref q54, Value.ref q62, Value.ref q70, Value.int 0, Value.int 0, Value.int 0, Value.ref q78, Value.ref q79, Value.int 0, Value.int 16, Value.int 4, um, Value.ref q80, Value.ref q81, Value.ref q82, Value.int 0, Value.ref q83, Value.int 0, Value.int 0, Value.int 0])) : Nat × va_E)) (hl : lv_has ls 7 [(4, Value.int 0), (3, Value.ref q116), (2, Value.ref q46), (1, Value.ref q0), (0, Value.ref b)])
    (k : ∀ (H : Heap) (locs : List Loc) (ls : Array Slot), va_S (fun q : Nat => s.heap.size ≤ q) s.heap H locs → lv_has ls 7 [(4, Value.int 0), (0, Value.ref b)] → W p l e room_1 s m #[Value.ref b] below meth c H locs 400 700000 Q (F0 m 1272 ls [])) :
    W p l e room_1 s m #[Value.ref b] below meth c H locs 122 677754 Q (F0 m 564 ls []) := by
  have ht0 : tys[0]? = some ((cI, FieldType.int) : ClassId × FieldType) := by rw [htys]; rfl
  have ht1 : tys[1]? = some ((cZ, FieldType.boolean) : ClassId × FieldType) := by rw [htys]; rfl
  have ht2 : tys[2]? = some ((cF, FieldType.object "CommitLedger$LedgerFile") : ClassId × FieldType) := by rw [htys]; rfl
  have ht3 : tys[3]? = some ((cM, FieldType.object "CommitLedger$Merge") : ClassId × FieldType) := by rw [htys]; rfl
  have ht4 : tys[4]? = some ((cR, FieldType.object "CommitLedger$Reader") : ClassId × FieldType) := by rw [htys]; rfl
  have ht5 : tys[5]? = some ((cV, FieldType.object "CommitLedgerModel$Version") : ClassId × FieldType) := by rw [htys]; rfl
  have ht6 : tys[6]? = some ((cJ, FieldType.long) : ClassId × FieldType) := by rw [htys]; rfl
  have hY := gx_Y0 hts1 hgv
  have hts := gx_hts0 hts1 hgv
  obtain ⟨z, hzz⟩ : ∃ x : Nat, x = s.heap.size := ⟨_, rfl⟩
  rw [← hzz] at hY
  have hz : z ≤ s.heap.size := Nat.le_of_eq hzz
  have hAz : ∀ q : Nat, (fun q : Nat => s.heap.size ≤ q) q → z ≤ q := fun q h => by rw [hzz]; exact h
  have hA : ∀ q : Nat, s.heap.size ≤ q → (fun q : Nat => s.heap.size ≤ q) q := fun _ h => h
  have hbA : ¬ (fun q : Nat => s.heap.size ≤ q) b := Nat.not_le.mpr hbl
  have hN : gx_NS (fun q : Nat => s.heap.size ≤ q) s := fun q cell h hc => absurd (Array.getElem?_eq_some_iff.mp hc).1 (Nat.not_lt.mpr h)
  have hlen0 := hlen
  have hU : gx_g ws ws 0 [0, 1, 2, 3, 4, 5, 6, 7, 8, 9, 10, 11, 12, 13, 14, 15, 16, 17, 18, 19, 20, 21, 22, 23, 24, 25, 26, 27, 28, 29, 30, 31, 32, 33, 34, 35, 36, 37, 38, 39, 40, 41, 42, 43, 44, 45, 46, 47, 48, 49, 50, 51, 52, 53, 54, 55, 56, 57, 58, 59, 60, 61, 62, 63, 64, 65, 66, 67, 68, 69, 70, 71, 72, 73, 74, 75, 76, 77, 78, 79, 80, 81, 82, 83, 84, 85, 86, 87, 88, 89, 90, 91, 92, 93, 94, 95, 96, 97, 98, 99, 100, 101, 102, 103, 104, 105, 106, 107, 108, 109, 110, 111, 112, 113, 114, 115, 116] := gx_g.rf
  obtain ⟨y0, hy0⟩ : ∃ y : Int32, y = xs 0 := ⟨_, rfl⟩
  obtain ⟨y1, hy1⟩ : ∃ y : Int32, y = xs 1 := ⟨_, rfl⟩
  obtain ⟨y2, hy2⟩ : ∃ y : Int32, y = xs 2 := ⟨_, rfl⟩
  obtain ⟨y3, hy3⟩ : ∃ y : Int32, y = xs 3 := ⟨_, rfl⟩
  generalize hAe : (fun q : Nat => s.heap.size ≤ q) = A at hD hN hA hAz hS hbA
  refine lv_aload_n hx hb d_Lw_law_564 rfl (lv_at hl 3 rfl) ?_
  refine lv_aload_n hx hb d_Lw_law_565 rfl (lv_at hl 1 rfl) ?_
  refine gx_callH (ig := .invokestatic 123) (c_Lw_prepare_v1 l htr D tys z _ ws q0 q116 q1 q5 q8 q20 q25 q12 q16 f_0) (gx_invSH (As := [Value.ref q0, Value.ref q116]) (rest := []) hx hb hown hts km_Lw_123 kS_Lw_prepare kN_Lw kc_Lw_prepare (by decide) (show (parseMethodDescriptor y_Lw_prepare.desc).map (fun d => d.parameters.length) = some 2 by decide +kernel) rfl rfl d_Lw_law_566) (gx_cwH hts kc_Lw_prepare kN_Lw rfl rfl ⟨Nat.le_of_ble_eq_true rfl, Nat.le_of_ble_eq_true rfl⟩) hb hml gx_blind (gx_pre hz hP hK hD hY hS hAz [Value.ref q0, Value.ref q116]) rfl hl.1 (lv_room (Nat.le_of_ble_eq_true rfl)) d_Lw_law_566 ⟨Nat.le_of_ble_eq_true rfl, Nat.le_of_ble_eq_true rfl⟩ (fun v1 st1 t1 L1 h0_1 hW_1 hQ_1 hL_1 => ?_) (fun v1 st1 t1 L1 h0_1 hW_1 hQ_1 hL_1 => ?_)
  · obtain ⟨ws2, hp, hP9, -, hD9, hS9⟩ := gx_back h0_1 hW_1 hQ_1 hL_1 hD hS hA
    clear hQ_1 h0_1 hL_1 hW_1 hP hD hS
    have hP := hP9
    have hD := hD9
    have hS := hS9
    clear hP9 hD9 hS9
    rcases hp with ⟨hv9, e_ws2⟩
    cases hv9
    rw [e_ws2] at hP hD
    refine W.eq (g2 := F0 m 569 ls [Value.int 1]) rfl ?_
    refine W.widen (k := 123) (n := 677760) (by decide) (by decide) ?_
    generalize t1.heap = H at hP hS ⊢
    generalize locs ++ L1 = locs at hS ⊢
    refine lv_istore (lv' := [(5, Value.int 1), (4, Value.int 0), (3, Value.ref q116), (2, Value.ref q46), (1, Value.ref q0), (0, Value.ref b)]) hx hb d_Lw_law_569 hl (by decide) rfl (fun ls hl => ?_)
    refine lv_aload_n hx hb d_Lw_law_571 rfl (lv_at hl 3 rfl) ?_
    refine gx_call (ig := .invokevirtual 125) (c_Mo_prepare_v1 l htr D tys z _ ws q46 q47 q48 q49 q50 q51 q52 q53 q54 q62 q70 q78 q79 (um) q80 q81 q82 q83 f_46) (gx_invV (As := []) (rest := []) hx hb hown hts km_Lw_125 kI_Mo_prepare kV_Mo_prepare kc_Mo_prepare (by decide) (show (parseMethodDescriptor y_Mo_prepare.desc).map (fun d => d.parameters.length) = some 0 by decide +kernel) (gx_recv (ci := 8) hK hP rfl f_46) rfl rfl d_Lw_law_572) (gx_cw (z := 0) hts kc_Mo_prepare kN_Mo rfl rfl ⟨Nat.le_of_ble_eq_true rfl, Nat.le_of_ble_eq_true rfl⟩) hb hml gx_blind (gx_pre hz hP hK hD hY hS hAz [Value.ref q46]) rfl hl.1 (lv_room (Nat.le_of_ble_eq_true rfl)) d_Lw_law_572 ⟨Nat.le_of_ble_eq_true rfl, Nat.le_of_ble_eq_true rfl⟩ (fun v3 st3 t3 L3 h0_3 hW_3 hQ_3 hL_3 => ?_) (fun v3 st3 t3 L3 h0_3 hW_3 hQ_3 hL_3 => ?_)
    · obtain ⟨ws4, hp, hP9, -, hD9, hS9⟩ := gx_back h0_3 hW_3 hQ_3 hL_3 hD hS hA
      clear hQ_3 h0_3 hL_3 hW_3 hP hD hS
      have hP := hP9
      have hD := hD9
      have hS := hS9
      clear hP9 hD9 hS9
      rcases hp with ⟨hv9, e_ws4, f_46_ws4⟩
      cases hv9
      have f_46_ws4 : ws4[46]? = some ((q46, Sum.inr (8, [Value.int 0, Value.int 1, Value.ref q47, Value.ref q48, Value.ref q49, Value.int 0, Value.ref q50, Value.ref q51, Value.ref q52, Value.ref q53, Value.int 0, Value.int 0, Value.int 0, Value.int (-1), Value.int 0, Value.ref q54, Value.ref q62, Value.ref q70, Value.int 0, Value.int 0, Value.int 0, Value.ref q78, Value.ref q79, Value.int 0, Value.int 16, Value.int 4, um, Value.ref q80, Value.ref q81, Value.ref q82, Value.int 0, Value.ref q83, Value.int 0, Value.int 0, Value.int 0])) : Nat × va_E) := f_46_ws4
      replace hlen : ws4.length = 117 := by rw [e_ws4.1, hlen]
      replace hU : gx_g ws ws4 0 [0, 1, 2, 3, 4, 5, 6, 7, 8, 9, 10, 11, 12, 13, 14, 15, 16, 17, 18, 19, 20, 21, 22, 23, 24, 25, 26, 27, 28, 29, 30, 31, 32, 33, 34, 35, 36, 37, 38, 39, 40, 41, 42, 43, 44, 45, 46, 47, 48, 49, 50, 51, 52, 53, 54, 55, 56, 57, 58, 59, 60, 61, 62, 63, 64, 65, 66, 67, 68, 69, 70, 71, 72, 73, 74, 75, 76, 77, 78, 79, 80, 81, 82, 83, 84, 85, 86, 87, 88, 89, 90, 91, 92, 93, 94, 95, 96, 97, 98, 99, 100, 101, 102, 103, 104, 105, 106, 107, 108, 109, 110, 111, 112, 113, 114, 115, 116] := hU.call e_ws4 (by rw [hlen0]; decide)
      refine W.eq (g2 := F0 m 575 ls [Value.int 0]) rfl ?_
      generalize t3.heap = H at hP hS ⊢
      generalize locs ++ L3 = locs at hS ⊢
      refine lv_istore (lv' := [(6, Value.int 0), (5, Value.int 1), (4, Value.int 0), (3, Value.ref q116), (2, Value.ref q46), (1, Value.ref q0), (0, Value.ref b)]) hx hb d_Lw_law_575 hl (by decide) rfl (fun ls hl => ?_)
      refine lv_aload_n hx hb d_Lw_law_577 rfl (lv_at hl 4 rfl) ?_
      refine gx_call (ig := .invokevirtual 98) (c_Mo_thrown l htr D tys z _ ws4 q46 46 (Value.int 0) 1 (Value.ref q47) (Value.ref q48) (Value.ref q49) (Value.int 0) (Value.ref q50) (Value.ref q51) (Value.ref q52) (Value.ref q53) (Value.int 0) (Value.int 0) (Value.int 0) (Value.int (-1)) (Value.int 0) (Value.ref q54) (Value.ref q62) (Value.ref q70) (Value.int 0) (Value.int 0) (Value.int 0) (Value.ref q78) (Value.ref q79) (Value.int 0) (Value.int 16) (Value.int 4) (um) (Value.ref q80) (Value.ref q81) (Value.ref q82) (Value.int 0) (Value.ref q83) (Value.int 0) (Value.int 0) (Value.int 0) f_46_ws4) (gx_invV (As := []) (rest := []) hx hb hown hts km_Lw_98 kI_Mo_thrown kV_Mo_thrown kc_Mo_thrown (by decide) (show (parseMethodDescriptor y_Mo_thrown.desc).map (fun d => d.parameters.length) = some 0 by decide +kernel) (gx_recv (ci := 8) hK hP rfl f_46_ws4) rfl rfl d_Lw_law_578) (gx_cw (z := 0) hts kc_Mo_thrown kN_Mo rfl rfl ⟨Nat.le_of_ble_eq_true rfl, Nat.le_of_ble_eq_true rfl⟩) hb hml gx_blind (gx_pre hz hP hK hD hY hS hAz [Value.ref q46]) rfl hl.1 (lv_room (Nat.le_of_ble_eq_true rfl)) d_Lw_law_578 ⟨Nat.le_of_ble_eq_true rfl, Nat.le_of_ble_eq_true rfl⟩ (fun v5 st5 t5 L5 h0_5 hW_5 hQ_5 hL_5 => ?_) (fun v5 st5 t5 L5 h0_5 hW_5 hQ_5 hL_5 => ?_)
      · obtain ⟨ws6, hp, hP9, -, hD9, hS9⟩ := gx_back h0_5 hW_5 hQ_5 hL_5 hD hS hA
        clear hQ_5 h0_5 hL_5 hW_5 hP hD hS
        have hP := hP9
        have hD := hD9
        have hS := hS9
        clear hP9 hD9 hS9
        rcases hp with ⟨hv9, e_ws6⟩
        cases hv9
        rw [e_ws6] at hP hD
        refine W.eq (g2 := F0 m 581 ls [Value.int 1]) rfl ?_
        generalize t5.heap = H at hP hS ⊢
        generalize locs ++ L5 = locs at hS ⊢
        refine lv_iload hx hb d_Lw_law_581 (lv_at hl 1 rfl) ?_
        refine lv_icmp_eq (tgt := 588) hx hb d_Lw_law_583 (by decide) (fun _ => ?_) (fun c9 => absurd (by decide) c9)
        refine lv_iload hx hb d_Lw_law_588 (lv_at hl 1 rfl) ?_
        refine lv_if_ne (tgt := 605) hx hb d_Lw_law_590 (by decide) (fun _ => ?_) (fun c9 => absurd c9 (by decide))
        refine lv_goto (tgt := 1272) hx hb d_Lw_law_605 (by decide) ?_
        refine W.widen (k := 400) (n := 700000) (by decide) (by decide) ?_
        exact k _ _ ls (by rw [hAe]; exact hS) (lv_sub hl [2, 6] rfl)
      · obtain ⟨E9, ws7, ce, hp, hce, hP9, -, hD9, hS9⟩ := gx_backT h0_5 hW_5 hQ_5 hL_5 hD hS hA
        clear hQ_5 h0_5 hL_5 hW_5 hP hD hS
        have hP := hP9
        have hD := hD9
        have hS := hS9
        clear hP9 hD9 hS9
        rcases hp with ⟨hv9, e_ws7⟩
        cases hv9
    · obtain ⟨E9, ws8, ce, hp, hce, hP9, -, hD9, hS9⟩ := gx_backT h0_3 hW_3 hQ_3 hL_3 hD hS hA
      clear hQ_3 h0_3 hL_3 hW_3 hP hD hS
      have hP := hP9
      have hD := hD9
      have hS := hS9
      clear hP9 hD9 hS9
      rcases hp with ⟨hv9, e_ws8, f_46_ws8⟩
      cases hv9
  · obtain ⟨E9, ws9, ce, hp, hce, hP9, -, hD9, hS9⟩ := gx_backT h0_1 hW_1 hQ_1 hL_1 hD hS hA
    clear hQ_1 h0_1 hL_1 hW_1 hP hD hS
    have hP := hP9
    have hD := hD9
    have hS := hS9
    clear hP9 hD9 hS9
    rcases hp with ⟨hv9, e_ws9⟩
    cases hv9

set_option maxHeartbeats 4000000 in
set_option maxRecDepth 100000 in
theorem law_t8 {p : Program} {e : Env} {s : State} {m : MethodId} {below : List Frame} {meth : Method} {c : Code} {Q : State → Prop} (l : Launch) (htr : l.stackTraces = false) {b : Nat} {xs : Nat → Int32} (hx : p.tables.exec = Jvm.exec) (hb : c.code = code) (hml : c.maxLocals = 7) (hown : s.vm.findClass "CommitLedgerLaw" = some m.cls) (hts1 : ∀ w ∈ lw_tbl, w.before #[Value.ref b] s = true) (hgv : (Jvm.Cond.and given_1 narrow_1).before #[Value.ref b] s = true) (hX : va_X b 4 xs s s.heap) (hbl : b < s.heap.size) (D : va_G) (tys : List (ClassId × FieldType)) (cI cZ cF cM cR cV cJ : ClassId) (q0 q1 q2 q3 q4 q5 q6 q7 q8 q9 q10 q11 q12 q13 q14 q15 q16 q17 q18 q19 q20 q21 q22 q23 q24 q25 q26 q27 q28 q29 q30 q31 q32 q33 q34 q35 q36 q37 q38 q39 q40 q41 q42 q43 q44 q45 q46 q47 q48 q49 q50 q51 q52 q53 q54 q55 q56 q57 q58 q59 q60 q61 q62 q63 q64 q65 q66 q67 q68 q69 q70 q71 q72 q73 q74 q75 q76 q77 q78 q79 q80 q81 q82 q83 q84 q85 q86 q87 q88 q89 q90 q91 q92 q93 q94 q95 q96 q97 q98 q99 q100 q101 q102 q103 q104 q105 q106 q107 q108 q109 q110 q111 q112 q113 q114 q115 q116 : Nat) (u0 u1 um : Value) (ws : va_W) (H : Heap) (locs : List Loc) (ls : Array Slot) (hK : va_K D classes tys s) (htys : tys = [(cI, FieldType.int), (cZ, FieldType.boolean), (cF, FieldType.object "CommitLedger$LedgerFile"), (cM, FieldType.object "CommitLedger$Merge"), (cR, FieldType.object "CommitLedger$Reader"), (cV, FieldType.object "CommitLedgerModel$Version"), (cJ, FieldType.long)]) (hP : va_P D classes ws H) (hD : va_D (fun q : Nat => s.heap.size ≤ q) ws) (hS : va_S (fun q : Nat => s.heap.size ≤ q) s.heap H locs) (hlen : ws.length = 117) (f_0 : ws[0]? = some ((q0, Sum.inr (0, [Value.ref q1, Value.ref q5, Value.ref q8, Value.ref q20, Value.ref q25, Value.ref q12, Value.ref q16, Value.int 0, Value.int 0, Value.int 0, Value.int 16, Value.int 4, Value.int 0, Value.int 0, Value.int 0, Value.int 0, Value.int 0, Value.int (-1)])) : Nat × va_E)) (f_46 : ws[46]? = some ((q46, Sum.inr (8, [Value.int 0, Value.int 0, Value.ref q47, Value.ref q48, Value.ref q49, Value.int 0, Value.ref q50, Value.ref q51, Value.ref q52, Value.ref q53, Value.int 0, Value.int 0, Value.int 0, Value.int (-1), Value.int 0, Value.ref q54, Value.ref q62, Value.ref q70, Value.int 0, Value.int 0, Value.int 0, Value.ref q78, Value.ref q79, Value.int 0, Value.int 16, Value.int 4, um, Value.ref q80, Value.ref q81, Value.ref q82, Value.int 0, Value.ref q83, Value.int 0, Value.int 0, Value.int 0])) : Nat × va_E)) (hl : lv_has ls 7 [(4, Value.int 0), (3, Value.ref q116), (2, Value.ref q46), (1, Value.ref q0), (0, Value.ref b)])
    (k : ∀ (H : Heap) (locs : List Loc) (ls : Array Slot), va_S (fun q : Nat => s.heap.size ≤ q) s.heap H locs → lv_has ls 7 [(4, Value.int 0), (0, Value.ref b)] → W p l e room_1 s m #[Value.ref b] below meth c H locs 400 700000 Q (F0 m 1272 ls [])) :
    W p l e room_1 s m #[Value.ref b] below meth c H locs 122 677754 Q (F0 m 608 ls []) := by
  have ht0 : tys[0]? = some ((cI, FieldType.int) : ClassId × FieldType) := by rw [htys]; rfl
  have ht1 : tys[1]? = some ((cZ, FieldType.boolean) : ClassId × FieldType) := by rw [htys]; rfl
  have ht2 : tys[2]? = some ((cF, FieldType.object "CommitLedger$LedgerFile") : ClassId × FieldType) := by rw [htys]; rfl
  have ht3 : tys[3]? = some ((cM, FieldType.object "CommitLedger$Merge") : ClassId × FieldType) := by rw [htys]; rfl
  have ht4 : tys[4]? = some ((cR, FieldType.object "CommitLedger$Reader") : ClassId × FieldType) := by rw [htys]; rfl
  have ht5 : tys[5]? = some ((cV, FieldType.object "CommitLedgerModel$Version") : ClassId × FieldType) := by rw [htys]; rfl
  have ht6 : tys[6]? = some ((cJ, FieldType.long) : ClassId × FieldType) := by rw [htys]; rfl
  have hY := gx_Y0 hts1 hgv
  have hts := gx_hts0 hts1 hgv
  obtain ⟨z, hzz⟩ : ∃ x : Nat, x = s.heap.size := ⟨_, rfl⟩
  rw [← hzz] at hY
  have hz : z ≤ s.heap.size := Nat.le_of_eq hzz
  have hAz : ∀ q : Nat, (fun q : Nat => s.heap.size ≤ q) q → z ≤ q := fun q h => by rw [hzz]; exact h
  have hA : ∀ q : Nat, s.heap.size ≤ q → (fun q : Nat => s.heap.size ≤ q) q := fun _ h => h
  have hbA : ¬ (fun q : Nat => s.heap.size ≤ q) b := Nat.not_le.mpr hbl
  have hN : gx_NS (fun q : Nat => s.heap.size ≤ q) s := fun q cell h hc => absurd (Array.getElem?_eq_some_iff.mp hc).1 (Nat.not_lt.mpr h)
  have hlen0 := hlen
  have hU : gx_g ws ws 0 [0, 1, 2, 3, 4, 5, 6, 7, 8, 9, 10, 11, 12, 13, 14, 15, 16, 17, 18, 19, 20, 21, 22, 23, 24, 25, 26, 27, 28, 29, 30, 31, 32, 33, 34, 35, 36, 37, 38, 39, 40, 41, 42, 43, 44, 45, 46, 47, 48, 49, 50, 51, 52, 53, 54, 55, 56, 57, 58, 59, 60, 61, 62, 63, 64, 65, 66, 67, 68, 69, 70, 71, 72, 73, 74, 75, 76, 77, 78, 79, 80, 81, 82, 83, 84, 85, 86, 87, 88, 89, 90, 91, 92, 93, 94, 95, 96, 97, 98, 99, 100, 101, 102, 103, 104, 105, 106, 107, 108, 109, 110, 111, 112, 113, 114, 115, 116] := gx_g.rf
  obtain ⟨y0, hy0⟩ : ∃ y : Int32, y = xs 0 := ⟨_, rfl⟩
  obtain ⟨y1, hy1⟩ : ∃ y : Int32, y = xs 1 := ⟨_, rfl⟩
  obtain ⟨y2, hy2⟩ : ∃ y : Int32, y = xs 2 := ⟨_, rfl⟩
  obtain ⟨y3, hy3⟩ : ∃ y : Int32, y = xs 3 := ⟨_, rfl⟩
  generalize hAe : (fun q : Nat => s.heap.size ≤ q) = A at hD hN hA hAz hS hbA
  refine lv_aload_n hx hb d_Lw_law_608 rfl (lv_at hl 3 rfl) ?_
  refine lv_aload_n hx hb d_Lw_law_609 rfl (lv_at hl 1 rfl) ?_
  refine gx_callH (ig := .invokestatic 126) (c_Lw_commit_v1 l htr D tys z _ ws q0 q116 q1 q5 q8 q20 q25 q12 q16 f_0) (gx_invSH (As := [Value.ref q0, Value.ref q116]) (rest := []) hx hb hown hts km_Lw_126 kS_Lw_commit kN_Lw kc_Lw_commit (by decide) (show (parseMethodDescriptor y_Lw_commit.desc).map (fun d => d.parameters.length) = some 2 by decide +kernel) rfl rfl d_Lw_law_610) (gx_cwH hts kc_Lw_commit kN_Lw rfl rfl ⟨Nat.le_of_ble_eq_true rfl, Nat.le_of_ble_eq_true rfl⟩) hb hml gx_blind (gx_pre hz hP hK hD hY hS hAz [Value.ref q0, Value.ref q116]) rfl hl.1 (lv_room (Nat.le_of_ble_eq_true rfl)) d_Lw_law_610 ⟨Nat.le_of_ble_eq_true rfl, Nat.le_of_ble_eq_true rfl⟩ (fun v1 st1 t1 L1 h0_1 hW_1 hQ_1 hL_1 => ?_) (fun v1 st1 t1 L1 h0_1 hW_1 hQ_1 hL_1 => ?_)
  · obtain ⟨ws2, hp, hP9, -, hD9, hS9⟩ := gx_back h0_1 hW_1 hQ_1 hL_1 hD hS hA
    clear hQ_1 h0_1 hL_1 hW_1 hP hD hS
    have hP := hP9
    have hD := hD9
    have hS := hS9
    clear hP9 hD9 hS9
    rcases hp with ⟨hv9, e_ws2⟩
    cases hv9
    rw [e_ws2] at hP hD
    refine W.eq (g2 := F0 m 613 ls [Value.int 1]) rfl ?_
    refine W.widen (k := 123) (n := 677760) (by decide) (by decide) ?_
    generalize t1.heap = H at hP hS ⊢
    generalize locs ++ L1 = locs at hS ⊢
    refine lv_istore (lv' := [(5, Value.int 1), (4, Value.int 0), (3, Value.ref q116), (2, Value.ref q46), (1, Value.ref q0), (0, Value.ref b)]) hx hb d_Lw_law_613 hl (by decide) rfl (fun ls hl => ?_)
    refine lv_aload_n hx hb d_Lw_law_615 rfl (lv_at hl 3 rfl) ?_
    refine gx_call (ig := .invokevirtual 128) (c_Mo_commit_v1 l htr D tys z _ ws q46 q47 q48 q49 q50 q51 q52 q53 q54 q62 q70 q78 q79 (um) q80 q81 q82 q83 f_46) (gx_invV (As := []) (rest := []) hx hb hown hts km_Lw_128 kI_Mo_commit kV_Mo_commit kc_Mo_commit (by decide) (show (parseMethodDescriptor y_Mo_commit.desc).map (fun d => d.parameters.length) = some 0 by decide +kernel) (gx_recv (ci := 8) hK hP rfl f_46) rfl rfl d_Lw_law_616) (gx_cw (z := 0) hts kc_Mo_commit kN_Mo rfl rfl ⟨Nat.le_of_ble_eq_true rfl, Nat.le_of_ble_eq_true rfl⟩) hb hml gx_blind (gx_pre hz hP hK hD hY hS hAz [Value.ref q46]) rfl hl.1 (lv_room (Nat.le_of_ble_eq_true rfl)) d_Lw_law_616 ⟨Nat.le_of_ble_eq_true rfl, Nat.le_of_ble_eq_true rfl⟩ (fun v3 st3 t3 L3 h0_3 hW_3 hQ_3 hL_3 => ?_) (fun v3 st3 t3 L3 h0_3 hW_3 hQ_3 hL_3 => ?_)
    · obtain ⟨ws4, hp, hP9, -, hD9, hS9⟩ := gx_back h0_3 hW_3 hQ_3 hL_3 hD hS hA
      clear hQ_3 h0_3 hL_3 hW_3 hP hD hS
      have hP := hP9
      have hD := hD9
      have hS := hS9
      clear hP9 hD9 hS9
      rcases hp with ⟨hv9, e_ws4, f_46_ws4⟩
      cases hv9
      have f_46_ws4 : ws4[46]? = some ((q46, Sum.inr (8, [Value.int 0, Value.int 1, Value.ref q47, Value.ref q48, Value.ref q49, Value.int 0, Value.ref q50, Value.ref q51, Value.ref q52, Value.ref q53, Value.int 0, Value.int 0, Value.int 0, Value.int (-1), Value.int 0, Value.ref q54, Value.ref q62, Value.ref q70, Value.int 0, Value.int 0, Value.int 0, Value.ref q78, Value.ref q79, Value.int 0, Value.int 16, Value.int 4, um, Value.ref q80, Value.ref q81, Value.ref q82, Value.int 0, Value.ref q83, Value.int 0, Value.int 0, Value.int 0])) : Nat × va_E) := f_46_ws4
      replace hlen : ws4.length = 117 := by rw [e_ws4.1, hlen]
      replace hU : gx_g ws ws4 0 [0, 1, 2, 3, 4, 5, 6, 7, 8, 9, 10, 11, 12, 13, 14, 15, 16, 17, 18, 19, 20, 21, 22, 23, 24, 25, 26, 27, 28, 29, 30, 31, 32, 33, 34, 35, 36, 37, 38, 39, 40, 41, 42, 43, 44, 45, 46, 47, 48, 49, 50, 51, 52, 53, 54, 55, 56, 57, 58, 59, 60, 61, 62, 63, 64, 65, 66, 67, 68, 69, 70, 71, 72, 73, 74, 75, 76, 77, 78, 79, 80, 81, 82, 83, 84, 85, 86, 87, 88, 89, 90, 91, 92, 93, 94, 95, 96, 97, 98, 99, 100, 101, 102, 103, 104, 105, 106, 107, 108, 109, 110, 111, 112, 113, 114, 115, 116] := hU.call e_ws4 (by rw [hlen0]; decide)
      refine W.eq (g2 := F0 m 619 ls [Value.int 0]) rfl ?_
      generalize t3.heap = H at hP hS ⊢
      generalize locs ++ L3 = locs at hS ⊢
      refine lv_istore (lv' := [(6, Value.int 0), (5, Value.int 1), (4, Value.int 0), (3, Value.ref q116), (2, Value.ref q46), (1, Value.ref q0), (0, Value.ref b)]) hx hb d_Lw_law_619 hl (by decide) rfl (fun ls hl => ?_)
      refine lv_aload_n hx hb d_Lw_law_621 rfl (lv_at hl 4 rfl) ?_
      refine gx_call (ig := .invokevirtual 98) (c_Mo_thrown l htr D tys z _ ws4 q46 46 (Value.int 0) 1 (Value.ref q47) (Value.ref q48) (Value.ref q49) (Value.int 0) (Value.ref q50) (Value.ref q51) (Value.ref q52) (Value.ref q53) (Value.int 0) (Value.int 0) (Value.int 0) (Value.int (-1)) (Value.int 0) (Value.ref q54) (Value.ref q62) (Value.ref q70) (Value.int 0) (Value.int 0) (Value.int 0) (Value.ref q78) (Value.ref q79) (Value.int 0) (Value.int 16) (Value.int 4) (um) (Value.ref q80) (Value.ref q81) (Value.ref q82) (Value.int 0) (Value.ref q83) (Value.int 0) (Value.int 0) (Value.int 0) f_46_ws4) (gx_invV (As := []) (rest := []) hx hb hown hts km_Lw_98 kI_Mo_thrown kV_Mo_thrown kc_Mo_thrown (by decide) (show (parseMethodDescriptor y_Mo_thrown.desc).map (fun d => d.parameters.length) = some 0 by decide +kernel) (gx_recv (ci := 8) hK hP rfl f_46_ws4) rfl rfl d_Lw_law_622) (gx_cw (z := 0) hts kc_Mo_thrown kN_Mo rfl rfl ⟨Nat.le_of_ble_eq_true rfl, Nat.le_of_ble_eq_true rfl⟩) hb hml gx_blind (gx_pre hz hP hK hD hY hS hAz [Value.ref q46]) rfl hl.1 (lv_room (Nat.le_of_ble_eq_true rfl)) d_Lw_law_622 ⟨Nat.le_of_ble_eq_true rfl, Nat.le_of_ble_eq_true rfl⟩ (fun v5 st5 t5 L5 h0_5 hW_5 hQ_5 hL_5 => ?_) (fun v5 st5 t5 L5 h0_5 hW_5 hQ_5 hL_5 => ?_)
      · obtain ⟨ws6, hp, hP9, -, hD9, hS9⟩ := gx_back h0_5 hW_5 hQ_5 hL_5 hD hS hA
        clear hQ_5 h0_5 hL_5 hW_5 hP hD hS
        have hP := hP9
        have hD := hD9
        have hS := hS9
        clear hP9 hD9 hS9
        rcases hp with ⟨hv9, e_ws6⟩
        cases hv9
        rw [e_ws6] at hP hD
        refine W.eq (g2 := F0 m 625 ls [Value.int 1]) rfl ?_
        generalize t5.heap = H at hP hS ⊢
        generalize locs ++ L5 = locs at hS ⊢
        refine lv_iload hx hb d_Lw_law_625 (lv_at hl 1 rfl) ?_
        refine lv_icmp_eq (tgt := 632) hx hb d_Lw_law_627 (by decide) (fun _ => ?_) (fun c9 => absurd (by decide) c9)
        refine lv_iload hx hb d_Lw_law_632 (lv_at hl 1 rfl) ?_
        refine lv_if_ne (tgt := 649) hx hb d_Lw_law_634 (by decide) (fun _ => ?_) (fun c9 => absurd c9 (by decide))
        refine lv_goto (tgt := 1272) hx hb d_Lw_law_649 (by decide) ?_
        refine W.widen (k := 400) (n := 700000) (by decide) (by decide) ?_
        exact k _ _ ls (by rw [hAe]; exact hS) (lv_sub hl [2, 6] rfl)
      · obtain ⟨E9, ws7, ce, hp, hce, hP9, -, hD9, hS9⟩ := gx_backT h0_5 hW_5 hQ_5 hL_5 hD hS hA
        clear hQ_5 h0_5 hL_5 hW_5 hP hD hS
        have hP := hP9
        have hD := hD9
        have hS := hS9
        clear hP9 hD9 hS9
        rcases hp with ⟨hv9, e_ws7⟩
        cases hv9
    · obtain ⟨E9, ws8, ce, hp, hce, hP9, -, hD9, hS9⟩ := gx_backT h0_3 hW_3 hQ_3 hL_3 hD hS hA
      clear hQ_3 h0_3 hL_3 hW_3 hP hD hS
      have hP := hP9
      have hD := hD9
      have hS := hS9
      clear hP9 hD9 hS9
      rcases hp with ⟨hv9, e_ws8, f_46_ws8⟩
      cases hv9
  · obtain ⟨E9, ws9, ce, hp, hce, hP9, -, hD9, hS9⟩ := gx_backT h0_1 hW_1 hQ_1 hL_1 hD hS hA
    clear hQ_1 h0_1 hL_1 hW_1 hP hD hS
    have hP := hP9
    have hD := hD9
    have hS := hS9
    clear hP9 hD9 hS9
    rcases hp with ⟨hv9, e_ws9⟩
    cases hv9

set_option maxHeartbeats 4000000 in
set_option maxRecDepth 100000 in
theorem law_t9 {p : Program} {e : Env} {s : State} {m : MethodId} {below : List Frame} {meth : Method} {c : Code} {Q : State → Prop} (l : Launch) (htr : l.stackTraces = false) {b : Nat} {xs : Nat → Int32} (hx : p.tables.exec = Jvm.exec) (hb : c.code = code) (hml : c.maxLocals = 7) (hown : s.vm.findClass "CommitLedgerLaw" = some m.cls) (hts1 : ∀ w ∈ lw_tbl, w.before #[Value.ref b] s = true) (hgv : (Jvm.Cond.and given_1 narrow_1).before #[Value.ref b] s = true) (hX : va_X b 4 xs s s.heap) (hbl : b < s.heap.size) (D : va_G) (tys : List (ClassId × FieldType)) (cI cZ cF cM cR cV cJ : ClassId) (q0 q1 q2 q3 q4 q5 q6 q7 q8 q9 q10 q11 q12 q13 q14 q15 q16 q17 q18 q19 q20 q21 q22 q23 q24 q25 q26 q27 q28 q29 q30 q31 q32 q33 q34 q35 q36 q37 q38 q39 q40 q41 q42 q43 q44 q45 q46 q47 q48 q49 q50 q51 q52 q53 q54 q55 q56 q57 q58 q59 q60 q61 q62 q63 q64 q65 q66 q67 q68 q69 q70 q71 q72 q73 q74 q75 q76 q77 q78 q79 q80 q81 q82 q83 q84 q85 q86 q87 q88 q89 q90 q91 q92 q93 q94 q95 q96 q97 q98 q99 q100 q101 q102 q103 q104 q105 q106 q107 q108 q109 q110 q111 q112 q113 q114 q115 q116 : Nat) (u0 u1 um : Value) (ws : va_W) (H : Heap) (locs : List Loc) (ls : Array Slot) (hK : va_K D classes tys s) (htys : tys = [(cI, FieldType.int), (cZ, FieldType.boolean), (cF, FieldType.object "CommitLedger$LedgerFile"), (cM, FieldType.object "CommitLedger$Merge"), (cR, FieldType.object "CommitLedger$Reader"), (cV, FieldType.object "CommitLedgerModel$Version"), (cJ, FieldType.long)]) (hP : va_P D classes ws H) (hD : va_D (fun q : Nat => s.heap.size ≤ q) ws) (hS : va_S (fun q : Nat => s.heap.size ≤ q) s.heap H locs) (hlen : ws.length = 117) (f_0 : ws[0]? = some ((q0, Sum.inr (0, [Value.ref q1, Value.ref q5, Value.ref q8, Value.ref q20, Value.ref q25, Value.ref q12, Value.ref q16, Value.int 0, Value.int 0, Value.int 0, Value.int 16, Value.int 4, Value.int 0, Value.int 0, Value.int 0, Value.int 0, Value.int 0, Value.int (-1)])) : Nat × va_E)) (f_46 : ws[46]? = some ((q46, Sum.inr (8, [Value.int 0, Value.int 0, Value.ref q47, Value.ref q48, Value.ref q49, Value.int 0, Value.ref q50, Value.ref q51, Value.ref q52, Value.ref q53, Value.int 0, Value.int 0, Value.int 0, Value.int (-1), Value.int 0, Value.ref q54, Value.ref q62, Value.ref q70, Value.int 0, Value.int 0, Value.int 0, Value.ref q78, Value.ref q79, Value.int 0, Value.int 16, Value.int 4, um, Value.ref q80, Value.ref q81, Value.ref q82, Value.int 0, Value.ref q83, Value.int 0, Value.int 0, Value.int 0])) : Nat × va_E)) (f_83 : ws[83]? = some ((q83, Sum.inl (cV, 4, Sum.inr (Sum.inr (Sum.inr (Sum.inr (va_up (va_up (va_up (va_up (fun _ => none) 0 (some q84)) 1 (some q92)) 2 (some q100)) 3 (some q108))))))) : Nat × va_E)) (f_84 : ws[84]? = some ((q84, Sum.inr (9, [Value.ref q85, Value.ref q86, Value.ref q87, Value.ref q88, Value.ref q89, Value.ref q90, Value.ref q91, Value.int 0, Value.int 0, Value.int 0, Value.int 0])) : Nat × va_E)) (f_92 : ws[92]? = some ((q92, Sum.inr (9, [Value.ref q93, Value.ref q94, Value.ref q95, Value.ref q96, Value.ref q97, Value.ref q98, Value.ref q99, Value.int 0, Value.int 0, Value.int 0, Value.int 0])) : Nat × va_E)) (f_100 : ws[100]? = some ((q100, Sum.inr (9, [Value.ref q101, Value.ref q102, Value.ref q103, Value.ref q104, Value.ref q105, Value.ref q106, Value.ref q107, Value.int 0, Value.int 0, Value.int 0, Value.int 0])) : Nat × va_E)) (f_108 : ws[108]? = some ((q108, Sum.inr (9, [Value.ref q109, Value.ref q110, Value.ref q111, Value.ref q112, Value.ref q113, Value.ref q114, Value.ref q115, Value.int 0, Value.int 0, Value.int 0, Value.int 0])) : Nat × va_E)) (hl : lv_has ls 7 [(4, Value.int 0), (3, Value.ref q116), (2, Value.ref q46), (1, Value.ref q0), (0, Value.ref b)])
    (k : ∀ (H : Heap) (locs : List Loc) (ls : Array Slot), va_S (fun q : Nat => s.heap.size ≤ q) s.heap H locs → lv_has ls 7 [(4, Value.int 0), (0, Value.ref b)] → W p l e room_1 s m #[Value.ref b] below meth c H locs 400 700000 Q (F0 m 1272 ls [])) :
    W p l e room_1 s m #[Value.ref b] below meth c H locs 122 677754 Q (F0 m 652 ls []) := by
  have ht0 : tys[0]? = some ((cI, FieldType.int) : ClassId × FieldType) := by rw [htys]; rfl
  have ht1 : tys[1]? = some ((cZ, FieldType.boolean) : ClassId × FieldType) := by rw [htys]; rfl
  have ht2 : tys[2]? = some ((cF, FieldType.object "CommitLedger$LedgerFile") : ClassId × FieldType) := by rw [htys]; rfl
  have ht3 : tys[3]? = some ((cM, FieldType.object "CommitLedger$Merge") : ClassId × FieldType) := by rw [htys]; rfl
  have ht4 : tys[4]? = some ((cR, FieldType.object "CommitLedger$Reader") : ClassId × FieldType) := by rw [htys]; rfl
  have ht5 : tys[5]? = some ((cV, FieldType.object "CommitLedgerModel$Version") : ClassId × FieldType) := by rw [htys]; rfl
  have ht6 : tys[6]? = some ((cJ, FieldType.long) : ClassId × FieldType) := by rw [htys]; rfl
  have hY := gx_Y0 hts1 hgv
  have hts := gx_hts0 hts1 hgv
  obtain ⟨z, hzz⟩ : ∃ x : Nat, x = s.heap.size := ⟨_, rfl⟩
  rw [← hzz] at hY
  have hz : z ≤ s.heap.size := Nat.le_of_eq hzz
  have hAz : ∀ q : Nat, (fun q : Nat => s.heap.size ≤ q) q → z ≤ q := fun q h => by rw [hzz]; exact h
  have hA : ∀ q : Nat, s.heap.size ≤ q → (fun q : Nat => s.heap.size ≤ q) q := fun _ h => h
  have hbA : ¬ (fun q : Nat => s.heap.size ≤ q) b := Nat.not_le.mpr hbl
  have hN : gx_NS (fun q : Nat => s.heap.size ≤ q) s := fun q cell h hc => absurd (Array.getElem?_eq_some_iff.mp hc).1 (Nat.not_lt.mpr h)
  have hlen0 := hlen
  have hU : gx_g ws ws 0 [0, 1, 2, 3, 4, 5, 6, 7, 8, 9, 10, 11, 12, 13, 14, 15, 16, 17, 18, 19, 20, 21, 22, 23, 24, 25, 26, 27, 28, 29, 30, 31, 32, 33, 34, 35, 36, 37, 38, 39, 40, 41, 42, 43, 44, 45, 46, 47, 48, 49, 50, 51, 52, 53, 54, 55, 56, 57, 58, 59, 60, 61, 62, 63, 64, 65, 66, 67, 68, 69, 70, 71, 72, 73, 74, 75, 76, 77, 78, 79, 80, 81, 82, 83, 84, 85, 86, 87, 88, 89, 90, 91, 92, 93, 94, 95, 96, 97, 98, 99, 100, 101, 102, 103, 104, 105, 106, 107, 108, 109, 110, 111, 112, 113, 114, 115, 116] := gx_g.rf
  obtain ⟨y0, hy0⟩ : ∃ y : Int32, y = xs 0 := ⟨_, rfl⟩
  obtain ⟨y1, hy1⟩ : ∃ y : Int32, y = xs 1 := ⟨_, rfl⟩
  obtain ⟨y2, hy2⟩ : ∃ y : Int32, y = xs 2 := ⟨_, rfl⟩
  obtain ⟨y3, hy3⟩ : ∃ y : Int32, y = xs 3 := ⟨_, rfl⟩
  generalize hAe : (fun q : Nat => s.heap.size ≤ q) = A at hD hN hA hAz hS hbA
  refine lv_aload_n hx hb d_Lw_law_652 rfl (lv_at hl 3 rfl) ?_
  refine gx_callH (ig := .invokestatic 129) (c_Lw_rollback_v1 l htr D tys z _ ws q0 q1 q5 q8 q20 q25 q12 q16 f_0) (gx_invSH (As := [Value.ref q0]) (rest := []) hx hb hown hts km_Lw_129 kS_Lw_rollback kN_Lw kc_Lw_rollback (by decide) (show (parseMethodDescriptor y_Lw_rollback.desc).map (fun d => d.parameters.length) = some 1 by decide +kernel) rfl rfl d_Lw_law_653) (gx_cwH hts kc_Lw_rollback kN_Lw rfl rfl ⟨Nat.le_of_ble_eq_true rfl, Nat.le_of_ble_eq_true rfl⟩) hb hml gx_blind (gx_pre hz hP hK hD hY hS hAz [Value.ref q0]) rfl hl.1 (lv_room (Nat.le_of_ble_eq_true rfl)) d_Lw_law_653 ⟨Nat.le_of_ble_eq_true rfl, Nat.le_of_ble_eq_true rfl⟩ (fun v1 st1 t1 L1 h0_1 hW_1 hQ_1 hL_1 => ?_) (fun v1 st1 t1 L1 h0_1 hW_1 hQ_1 hL_1 => ?_)
  · obtain ⟨ws2, hp, hP9, -, hD9, hS9⟩ := gx_back h0_1 hW_1 hQ_1 hL_1 hD hS hA
    clear hQ_1 h0_1 hL_1 hW_1 hP hD hS
    have hP := hP9
    have hD := hD9
    have hS := hS9
    clear hP9 hD9 hS9
    rcases hp with ⟨hv9, e_ws2⟩
    cases hv9
    rw [e_ws2] at hP hD
    refine W.eq (g2 := F0 m 656 ls [Value.int 1]) rfl ?_
    refine W.widen (k := 123) (n := 677760) (by decide) (by decide) ?_
    generalize t1.heap = H at hP hS ⊢
    generalize locs ++ L1 = locs at hS ⊢
    refine lv_istore (lv' := [(5, Value.int 1), (4, Value.int 0), (3, Value.ref q116), (2, Value.ref q46), (1, Value.ref q0), (0, Value.ref b)]) hx hb d_Lw_law_656 hl (by decide) rfl (fun ls hl => ?_)
    refine lv_aload_n hx hb d_Lw_law_658 rfl (lv_at hl 3 rfl) ?_
    refine gx_call (ig := .invokevirtual 132) (c_Mo_rollback_v1 l htr D tys z _ ws cV q46 q47 q48 q49 q50 q51 q52 q53 q54 q62 q70 q78 q79 (um) q80 q81 q82 q83 q84 q85 q86 q87 q88 q89 q90 q91 q92 q93 q94 q95 q96 q97 q98 q99 q100 q101 q102 q103 q104 q105 q106 q107 q108 q109 q110 q111 q112 q113 q114 q115 f_46 f_84 f_92 f_100 f_108 f_83 ht5) (gx_invV (As := []) (rest := []) hx hb hown hts km_Lw_132 kI_Mo_rollback kV_Mo_rollback kc_Mo_rollback (by decide) (show (parseMethodDescriptor y_Mo_rollback.desc).map (fun d => d.parameters.length) = some 0 by decide +kernel) (gx_recv (ci := 8) hK hP rfl f_46) rfl rfl d_Lw_law_659) (gx_cw (z := 0) hts kc_Mo_rollback kN_Mo rfl rfl ⟨Nat.le_of_ble_eq_true rfl, Nat.le_of_ble_eq_true rfl⟩) hb hml gx_blind (gx_pre hz hP hK hD hY hS hAz [Value.ref q46]) rfl hl.1 (lv_room (Nat.le_of_ble_eq_true rfl)) d_Lw_law_659 ⟨Nat.le_of_ble_eq_true rfl, Nat.le_of_ble_eq_true rfl⟩ (fun v3 st3 t3 L3 h0_3 hW_3 hQ_3 hL_3 => ?_) (fun v3 st3 t3 L3 h0_3 hW_3 hQ_3 hL_3 => ?_)
    · obtain ⟨ws4, hp, hP9, -, hD9, hS9⟩ := gx_back h0_3 hW_3 hQ_3 hL_3 hD hS hA
      clear hQ_3 h0_3 hL_3 hW_3 hP hD hS
      have hP := hP9
      have hD := hD9
      have hS := hS9
      clear hP9 hD9 hS9
      rcases hp with ⟨hv9, e_ws4, f_46_ws4⟩
      cases hv9
      have f_46_ws4 : ws4[46]? = some ((q46, Sum.inr (8, [Value.int 0, Value.int 1, Value.ref q47, Value.ref q48, Value.ref q49, Value.int 0, Value.ref q50, Value.ref q51, Value.ref q52, Value.ref q53, Value.int 0, Value.int 0, Value.int 0, Value.int (-1), Value.int 0, Value.ref q54, Value.ref q62, Value.ref q70, Value.int 0, Value.int 0, Value.int 0, Value.ref q78, Value.ref q79, Value.int 0, Value.int 16, Value.int 4, um, Value.ref q80, Value.ref q81, Value.ref q82, Value.int 0, Value.ref q83, Value.int 0, Value.int 0, Value.int 0])) : Nat × va_E) := f_46_ws4
      replace hlen : ws4.length = 117 := by rw [e_ws4.1, hlen]
      replace hU : gx_g ws ws4 0 [0, 1, 2, 3, 4, 5, 6, 7, 8, 9, 10, 11, 12, 13, 14, 15, 16, 17, 18, 19, 20, 21, 22, 23, 24, 25, 26, 27, 28, 29, 30, 31, 32, 33, 34, 35, 36, 37, 38, 39, 40, 41, 42, 43, 44, 45, 46, 47, 48, 49, 50, 51, 52, 53, 54, 55, 56, 57, 58, 59, 60, 61, 62, 63, 64, 65, 66, 67, 68, 69, 70, 71, 72, 73, 74, 75, 76, 77, 78, 79, 80, 81, 82, 83, 84, 85, 86, 87, 88, 89, 90, 91, 92, 93, 94, 95, 96, 97, 98, 99, 100, 101, 102, 103, 104, 105, 106, 107, 108, 109, 110, 111, 112, 113, 114, 115, 116] := hU.call e_ws4 (by rw [hlen0]; decide)
      refine W.eq (g2 := F0 m 662 ls []) rfl ?_
      generalize t3.heap = H at hP hS ⊢
      generalize locs ++ L3 = locs at hS ⊢
      refine lv_aload_n hx hb d_Lw_law_662 rfl (lv_at hl 3 rfl) ?_
      refine gx_call (ig := .invokevirtual 98) (c_Mo_thrown l htr D tys z _ ws4 q46 46 (Value.int 0) 1 (Value.ref q47) (Value.ref q48) (Value.ref q49) (Value.int 0) (Value.ref q50) (Value.ref q51) (Value.ref q52) (Value.ref q53) (Value.int 0) (Value.int 0) (Value.int 0) (Value.int (-1)) (Value.int 0) (Value.ref q54) (Value.ref q62) (Value.ref q70) (Value.int 0) (Value.int 0) (Value.int 0) (Value.ref q78) (Value.ref q79) (Value.int 0) (Value.int 16) (Value.int 4) (um) (Value.ref q80) (Value.ref q81) (Value.ref q82) (Value.int 0) (Value.ref q83) (Value.int 0) (Value.int 0) (Value.int 0) f_46_ws4) (gx_invV (As := []) (rest := []) hx hb hown hts km_Lw_98 kI_Mo_thrown kV_Mo_thrown kc_Mo_thrown (by decide) (show (parseMethodDescriptor y_Mo_thrown.desc).map (fun d => d.parameters.length) = some 0 by decide +kernel) (gx_recv (ci := 8) hK hP rfl f_46_ws4) rfl rfl d_Lw_law_663) (gx_cw (z := 0) hts kc_Mo_thrown kN_Mo rfl rfl ⟨Nat.le_of_ble_eq_true rfl, Nat.le_of_ble_eq_true rfl⟩) hb hml gx_blind (gx_pre hz hP hK hD hY hS hAz [Value.ref q46]) rfl hl.1 (lv_room (Nat.le_of_ble_eq_true rfl)) d_Lw_law_663 ⟨Nat.le_of_ble_eq_true rfl, Nat.le_of_ble_eq_true rfl⟩ (fun v5 st5 t5 L5 h0_5 hW_5 hQ_5 hL_5 => ?_) (fun v5 st5 t5 L5 h0_5 hW_5 hQ_5 hL_5 => ?_)
      · obtain ⟨ws6, hp, hP9, -, hD9, hS9⟩ := gx_back h0_5 hW_5 hQ_5 hL_5 hD hS hA
        clear hQ_5 h0_5 hL_5 hW_5 hP hD hS
        have hP := hP9
        have hD := hD9
        have hS := hS9
        clear hP9 hD9 hS9
        rcases hp with ⟨hv9, e_ws6⟩
        cases hv9
        rw [e_ws6] at hP hD
        refine W.eq (g2 := F0 m 666 ls [Value.int 1]) rfl ?_
        generalize t5.heap = H at hP hS ⊢
        generalize locs ++ L5 = locs at hS ⊢
        refine lv_iload hx hb d_Lw_law_666 (lv_at hl 0 rfl) ?_
        refine lv_icmp_eq (tgt := 673) hx hb d_Lw_law_668 (by decide) (fun _ => ?_) (fun c9 => absurd (by decide) c9)
        refine lv_goto (tgt := 1272) hx hb d_Lw_law_673 (by decide) ?_
        refine W.widen (k := 400) (n := 700000) (by decide) (by decide) ?_
        exact k _ _ ls (by rw [hAe]; exact hS) (lv_sub hl [1, 5] rfl)
      · obtain ⟨E9, ws7, ce, hp, hce, hP9, -, hD9, hS9⟩ := gx_backT h0_5 hW_5 hQ_5 hL_5 hD hS hA
        clear hQ_5 h0_5 hL_5 hW_5 hP hD hS
        have hP := hP9
        have hD := hD9
        have hS := hS9
        clear hP9 hD9 hS9
        rcases hp with ⟨hv9, e_ws7⟩
        cases hv9
    · obtain ⟨E9, ws8, ce, hp, hce, hP9, -, hD9, hS9⟩ := gx_backT h0_3 hW_3 hQ_3 hL_3 hD hS hA
      clear hQ_3 h0_3 hL_3 hW_3 hP hD hS
      have hP := hP9
      have hD := hD9
      have hS := hS9
      clear hP9 hD9 hS9
      rcases hp with ⟨hv9, e_ws8, f_46_ws8⟩
      cases hv9
  · obtain ⟨E9, ws9, ce, hp, hce, hP9, -, hD9, hS9⟩ := gx_backT h0_1 hW_1 hQ_1 hL_1 hD hS hA
    clear hQ_1 h0_1 hL_1 hW_1 hP hD hS
    have hP := hP9
    have hD := hD9
    have hS := hS9
    clear hP9 hD9 hS9
    rcases hp with ⟨hv9, e_ws9⟩
    cases hv9

set_option maxHeartbeats 4000000 in
set_option maxRecDepth 100000 in
theorem law_t10 {p : Program} {e : Env} {s : State} {m : MethodId} {below : List Frame} {meth : Method} {c : Code} {Q : State → Prop} (l : Launch) (htr : l.stackTraces = false) {b : Nat} {xs : Nat → Int32} (hx : p.tables.exec = Jvm.exec) (hb : c.code = code) (hml : c.maxLocals = 7) (hown : s.vm.findClass "CommitLedgerLaw" = some m.cls) (hts1 : ∀ w ∈ lw_tbl, w.before #[Value.ref b] s = true) (hgv : (Jvm.Cond.and given_1 narrow_1).before #[Value.ref b] s = true) (hX : va_X b 4 xs s s.heap) (hbl : b < s.heap.size) (D : va_G) (tys : List (ClassId × FieldType)) (cI cZ cF cM cR cV cJ : ClassId) (q0 q1 q2 q3 q4 q5 q6 q7 q8 q9 q10 q11 q12 q13 q14 q15 q16 q17 q18 q19 q20 q21 q22 q23 q24 q25 q26 q27 q28 q29 q30 q31 q32 q33 q34 q35 q36 q37 q38 q39 q40 q41 q42 q43 q44 q45 q46 q47 q48 q49 q50 q51 q52 q53 q54 q55 q56 q57 q58 q59 q60 q61 q62 q63 q64 q65 q66 q67 q68 q69 q70 q71 q72 q73 q74 q75 q76 q77 q78 q79 q80 q81 q82 q83 q84 q85 q86 q87 q88 q89 q90 q91 q92 q93 q94 q95 q96 q97 q98 q99 q100 q101 q102 q103 q104 q105 q106 q107 q108 q109 q110 q111 q112 q113 q114 q115 q116 : Nat) (u0 u1 um : Value) (ws : va_W) (H : Heap) (locs : List Loc) (ls : Array Slot) (hK : va_K D classes tys s) (htys : tys = [(cI, FieldType.int), (cZ, FieldType.boolean), (cF, FieldType.object "CommitLedger$LedgerFile"), (cM, FieldType.object "CommitLedger$Merge"), (cR, FieldType.object "CommitLedger$Reader"), (cV, FieldType.object "CommitLedgerModel$Version"), (cJ, FieldType.long)]) (hP : va_P D classes ws H) (hD : va_D (fun q : Nat => s.heap.size ≤ q) ws) (hS : va_S (fun q : Nat => s.heap.size ≤ q) s.heap H locs) (hlen : ws.length = 117) (f_0 : ws[0]? = some ((q0, Sum.inr (0, [Value.ref q1, Value.ref q5, Value.ref q8, Value.ref q20, Value.ref q25, Value.ref q12, Value.ref q16, Value.int 0, Value.int 0, Value.int 0, Value.int 16, Value.int 4, Value.int 0, Value.int 0, Value.int 0, Value.int 0, Value.int 0, Value.int (-1)])) : Nat × va_E)) (f_46 : ws[46]? = some ((q46, Sum.inr (8, [Value.int 0, Value.int 0, Value.ref q47, Value.ref q48, Value.ref q49, Value.int 0, Value.ref q50, Value.ref q51, Value.ref q52, Value.ref q53, Value.int 0, Value.int 0, Value.int 0, Value.int (-1), Value.int 0, Value.ref q54, Value.ref q62, Value.ref q70, Value.int 0, Value.int 0, Value.int 0, Value.ref q78, Value.ref q79, Value.int 0, Value.int 16, Value.int 4, um, Value.ref q80, Value.ref q81, Value.ref q82, Value.int 0, Value.ref q83, Value.int 0, Value.int 0, Value.int 0])) : Nat × va_E)) (hl : lv_has ls 7 [(4, Value.int 0), (3, Value.ref q116), (2, Value.ref q46), (1, Value.ref q0), (0, Value.ref b)])
    (k : ∀ (H : Heap) (locs : List Loc) (ls : Array Slot), va_S (fun q : Nat => s.heap.size ≤ q) s.heap H locs → lv_has ls 7 [(4, Value.int 0), (0, Value.ref b)] → W p l e room_1 s m #[Value.ref b] below meth c H locs 400 700000 Q (F0 m 1272 ls [])) :
    W p l e room_1 s m #[Value.ref b] below meth c H locs 122 677754 Q (F0 m 676 ls []) := by
  have ht0 : tys[0]? = some ((cI, FieldType.int) : ClassId × FieldType) := by rw [htys]; rfl
  have ht1 : tys[1]? = some ((cZ, FieldType.boolean) : ClassId × FieldType) := by rw [htys]; rfl
  have ht2 : tys[2]? = some ((cF, FieldType.object "CommitLedger$LedgerFile") : ClassId × FieldType) := by rw [htys]; rfl
  have ht3 : tys[3]? = some ((cM, FieldType.object "CommitLedger$Merge") : ClassId × FieldType) := by rw [htys]; rfl
  have ht4 : tys[4]? = some ((cR, FieldType.object "CommitLedger$Reader") : ClassId × FieldType) := by rw [htys]; rfl
  have ht5 : tys[5]? = some ((cV, FieldType.object "CommitLedgerModel$Version") : ClassId × FieldType) := by rw [htys]; rfl
  have ht6 : tys[6]? = some ((cJ, FieldType.long) : ClassId × FieldType) := by rw [htys]; rfl
  have hY := gx_Y0 hts1 hgv
  have hts := gx_hts0 hts1 hgv
  obtain ⟨z, hzz⟩ : ∃ x : Nat, x = s.heap.size := ⟨_, rfl⟩
  rw [← hzz] at hY
  have hz : z ≤ s.heap.size := Nat.le_of_eq hzz
  have hAz : ∀ q : Nat, (fun q : Nat => s.heap.size ≤ q) q → z ≤ q := fun q h => by rw [hzz]; exact h
  have hA : ∀ q : Nat, s.heap.size ≤ q → (fun q : Nat => s.heap.size ≤ q) q := fun _ h => h
  have hbA : ¬ (fun q : Nat => s.heap.size ≤ q) b := Nat.not_le.mpr hbl
  have hN : gx_NS (fun q : Nat => s.heap.size ≤ q) s := fun q cell h hc => absurd (Array.getElem?_eq_some_iff.mp hc).1 (Nat.not_lt.mpr h)
  have hlen0 := hlen
  have hU : gx_g ws ws 0 [0, 1, 2, 3, 4, 5, 6, 7, 8, 9, 10, 11, 12, 13, 14, 15, 16, 17, 18, 19, 20, 21, 22, 23, 24, 25, 26, 27, 28, 29, 30, 31, 32, 33, 34, 35, 36, 37, 38, 39, 40, 41, 42, 43, 44, 45, 46, 47, 48, 49, 50, 51, 52, 53, 54, 55, 56, 57, 58, 59, 60, 61, 62, 63, 64, 65, 66, 67, 68, 69, 70, 71, 72, 73, 74, 75, 76, 77, 78, 79, 80, 81, 82, 83, 84, 85, 86, 87, 88, 89, 90, 91, 92, 93, 94, 95, 96, 97, 98, 99, 100, 101, 102, 103, 104, 105, 106, 107, 108, 109, 110, 111, 112, 113, 114, 115, 116] := gx_g.rf
  obtain ⟨y0, hy0⟩ : ∃ y : Int32, y = xs 0 := ⟨_, rfl⟩
  obtain ⟨y1, hy1⟩ : ∃ y : Int32, y = xs 1 := ⟨_, rfl⟩
  obtain ⟨y2, hy2⟩ : ∃ y : Int32, y = xs 2 := ⟨_, rfl⟩
  obtain ⟨y3, hy3⟩ : ∃ y : Int32, y = xs 3 := ⟨_, rfl⟩
  generalize hAe : (fun q : Nat => s.heap.size ≤ q) = A at hD hN hA hAz hS hbA
  refine lv_aload_n hx hb d_Lw_law_676 rfl (lv_at hl 3 rfl) ?_
  refine lv_aload_n hx hb d_Lw_law_677 rfl (lv_at hl 1 rfl) ?_
  refine gx_callH (ig := .invokestatic 133) (c_Lw_close_v1 l htr D tys z _ ws q0 q116 q1 q5 q8 q20 q25 q12 q16 f_0) (gx_invSH (As := [Value.ref q0, Value.ref q116]) (rest := []) hx hb hown hts km_Lw_133 kS_Lw_close kN_Lw kc_Lw_close (by decide) (show (parseMethodDescriptor y_Lw_close.desc).map (fun d => d.parameters.length) = some 2 by decide +kernel) rfl rfl d_Lw_law_678) (gx_cwH hts kc_Lw_close kN_Lw rfl rfl ⟨Nat.le_of_ble_eq_true rfl, Nat.le_of_ble_eq_true rfl⟩) hb hml gx_blind (gx_pre hz hP hK hD hY hS hAz [Value.ref q0, Value.ref q116]) rfl hl.1 (lv_room (Nat.le_of_ble_eq_true rfl)) d_Lw_law_678 ⟨Nat.le_of_ble_eq_true rfl, Nat.le_of_ble_eq_true rfl⟩ (fun v1 st1 t1 L1 h0_1 hW_1 hQ_1 hL_1 => ?_) (fun v1 st1 t1 L1 h0_1 hW_1 hQ_1 hL_1 => ?_)
  · obtain ⟨ws2, hp, hP9, -, hD9, hS9⟩ := gx_back h0_1 hW_1 hQ_1 hL_1 hD hS hA
    clear hQ_1 h0_1 hL_1 hW_1 hP hD hS
    have hP := hP9
    have hD := hD9
    have hS := hS9
    clear hP9 hD9 hS9
    rcases hp with ⟨hv9, e_ws2⟩
    cases hv9
    rw [e_ws2] at hP hD
    refine W.eq (g2 := F0 m 681 ls [Value.int 1]) rfl ?_
    refine W.widen (k := 123) (n := 677760) (by decide) (by decide) ?_
    generalize t1.heap = H at hP hS ⊢
    generalize locs ++ L1 = locs at hS ⊢
    refine lv_istore (lv' := [(5, Value.int 1), (4, Value.int 0), (3, Value.ref q116), (2, Value.ref q46), (1, Value.ref q0), (0, Value.ref b)]) hx hb d_Lw_law_681 hl (by decide) rfl (fun ls hl => ?_)
    refine lv_aload_n hx hb d_Lw_law_683 rfl (lv_at hl 3 rfl) ?_
    refine gx_call (ig := .invokevirtual 135) (c_Mo_close0_v1 l htr D tys z _ ws q46 q47 q48 q49 q50 q51 q52 q53 q54 q62 q70 q78 q79 (um) q80 q81 q82 q83 f_46) (gx_invV (As := []) (rest := []) hx hb hown hts km_Lw_135 kI_Mo_close0 kV_Mo_close0 kc_Mo_close0 (by decide) (show (parseMethodDescriptor y_Mo_close0.desc).map (fun d => d.parameters.length) = some 0 by decide +kernel) (gx_recv (ci := 8) hK hP rfl f_46) rfl rfl d_Lw_law_684) (gx_cw (z := 0) hts kc_Mo_close0 kN_Mo rfl rfl ⟨Nat.le_of_ble_eq_true rfl, Nat.le_of_ble_eq_true rfl⟩) hb hml gx_blind (gx_pre hz hP hK hD hY hS hAz [Value.ref q46]) rfl hl.1 (lv_room (Nat.le_of_ble_eq_true rfl)) d_Lw_law_684 ⟨Nat.le_of_ble_eq_true rfl, Nat.le_of_ble_eq_true rfl⟩ (fun v3 st3 t3 L3 h0_3 hW_3 hQ_3 hL_3 => ?_) (fun v3 st3 t3 L3 h0_3 hW_3 hQ_3 hL_3 => ?_)
    · obtain ⟨ws4, hp, hP9, -, hD9, hS9⟩ := gx_back h0_3 hW_3 hQ_3 hL_3 hD hS hA
      clear hQ_3 h0_3 hL_3 hW_3 hP hD hS
      have hP := hP9
      have hD := hD9
      have hS := hS9
      clear hP9 hD9 hS9
      rcases hp with ⟨hv9, e_ws4, f_46_ws4⟩
      cases hv9
      have f_46_ws4 : ws4[46]? = some ((q46, Sum.inr (8, [Value.int 0, Value.int 1, Value.ref q47, Value.ref q48, Value.ref q49, Value.int 0, Value.ref q50, Value.ref q51, Value.ref q52, Value.ref q53, Value.int 0, Value.int 0, Value.int 0, Value.int (-1), Value.int 0, Value.ref q54, Value.ref q62, Value.ref q70, Value.int 0, Value.int 0, Value.int 0, Value.ref q78, Value.ref q79, Value.int 0, Value.int 16, Value.int 4, um, Value.ref q80, Value.ref q81, Value.ref q82, Value.int 0, Value.ref q83, Value.int 0, Value.int 0, Value.int 0])) : Nat × va_E) := f_46_ws4
      replace hlen : ws4.length = 117 := by rw [e_ws4.1, hlen]
      replace hU : gx_g ws ws4 0 [0, 1, 2, 3, 4, 5, 6, 7, 8, 9, 10, 11, 12, 13, 14, 15, 16, 17, 18, 19, 20, 21, 22, 23, 24, 25, 26, 27, 28, 29, 30, 31, 32, 33, 34, 35, 36, 37, 38, 39, 40, 41, 42, 43, 44, 45, 46, 47, 48, 49, 50, 51, 52, 53, 54, 55, 56, 57, 58, 59, 60, 61, 62, 63, 64, 65, 66, 67, 68, 69, 70, 71, 72, 73, 74, 75, 76, 77, 78, 79, 80, 81, 82, 83, 84, 85, 86, 87, 88, 89, 90, 91, 92, 93, 94, 95, 96, 97, 98, 99, 100, 101, 102, 103, 104, 105, 106, 107, 108, 109, 110, 111, 112, 113, 114, 115, 116] := hU.call e_ws4 (by rw [hlen0]; decide)
      refine W.eq (g2 := F0 m 687 ls [Value.int 0]) rfl ?_
      generalize t3.heap = H at hP hS ⊢
      generalize locs ++ L3 = locs at hS ⊢
      refine lv_istore (lv' := [(6, Value.int 0), (5, Value.int 1), (4, Value.int 0), (3, Value.ref q116), (2, Value.ref q46), (1, Value.ref q0), (0, Value.ref b)]) hx hb d_Lw_law_687 hl (by decide) rfl (fun ls hl => ?_)
      refine lv_aload_n hx hb d_Lw_law_689 rfl (lv_at hl 4 rfl) ?_
      refine gx_call (ig := .invokevirtual 98) (c_Mo_thrown l htr D tys z _ ws4 q46 46 (Value.int 0) 1 (Value.ref q47) (Value.ref q48) (Value.ref q49) (Value.int 0) (Value.ref q50) (Value.ref q51) (Value.ref q52) (Value.ref q53) (Value.int 0) (Value.int 0) (Value.int 0) (Value.int (-1)) (Value.int 0) (Value.ref q54) (Value.ref q62) (Value.ref q70) (Value.int 0) (Value.int 0) (Value.int 0) (Value.ref q78) (Value.ref q79) (Value.int 0) (Value.int 16) (Value.int 4) (um) (Value.ref q80) (Value.ref q81) (Value.ref q82) (Value.int 0) (Value.ref q83) (Value.int 0) (Value.int 0) (Value.int 0) f_46_ws4) (gx_invV (As := []) (rest := []) hx hb hown hts km_Lw_98 kI_Mo_thrown kV_Mo_thrown kc_Mo_thrown (by decide) (show (parseMethodDescriptor y_Mo_thrown.desc).map (fun d => d.parameters.length) = some 0 by decide +kernel) (gx_recv (ci := 8) hK hP rfl f_46_ws4) rfl rfl d_Lw_law_690) (gx_cw (z := 0) hts kc_Mo_thrown kN_Mo rfl rfl ⟨Nat.le_of_ble_eq_true rfl, Nat.le_of_ble_eq_true rfl⟩) hb hml gx_blind (gx_pre hz hP hK hD hY hS hAz [Value.ref q46]) rfl hl.1 (lv_room (Nat.le_of_ble_eq_true rfl)) d_Lw_law_690 ⟨Nat.le_of_ble_eq_true rfl, Nat.le_of_ble_eq_true rfl⟩ (fun v5 st5 t5 L5 h0_5 hW_5 hQ_5 hL_5 => ?_) (fun v5 st5 t5 L5 h0_5 hW_5 hQ_5 hL_5 => ?_)
      · obtain ⟨ws6, hp, hP9, -, hD9, hS9⟩ := gx_back h0_5 hW_5 hQ_5 hL_5 hD hS hA
        clear hQ_5 h0_5 hL_5 hW_5 hP hD hS
        have hP := hP9
        have hD := hD9
        have hS := hS9
        clear hP9 hD9 hS9
        rcases hp with ⟨hv9, e_ws6⟩
        cases hv9
        rw [e_ws6] at hP hD
        refine W.eq (g2 := F0 m 693 ls [Value.int 1]) rfl ?_
        generalize t5.heap = H at hP hS ⊢
        generalize locs ++ L5 = locs at hS ⊢
        refine lv_iload hx hb d_Lw_law_693 (lv_at hl 1 rfl) ?_
        refine lv_icmp_eq (tgt := 700) hx hb d_Lw_law_695 (by decide) (fun _ => ?_) (fun c9 => absurd (by decide) c9)
        refine lv_iload hx hb d_Lw_law_700 (lv_at hl 1 rfl) ?_
        refine lv_if_ne (tgt := 717) hx hb d_Lw_law_702 (by decide) (fun _ => ?_) (fun c9 => absurd c9 (by decide))
        refine lv_goto (tgt := 1272) hx hb d_Lw_law_717 (by decide) ?_
        refine W.widen (k := 400) (n := 700000) (by decide) (by decide) ?_
        exact k _ _ ls (by rw [hAe]; exact hS) (lv_sub hl [2, 6] rfl)
      · obtain ⟨E9, ws7, ce, hp, hce, hP9, -, hD9, hS9⟩ := gx_backT h0_5 hW_5 hQ_5 hL_5 hD hS hA
        clear hQ_5 h0_5 hL_5 hW_5 hP hD hS
        have hP := hP9
        have hD := hD9
        have hS := hS9
        clear hP9 hD9 hS9
        rcases hp with ⟨hv9, e_ws7⟩
        cases hv9
    · obtain ⟨E9, ws8, ce, hp, hce, hP9, -, hD9, hS9⟩ := gx_backT h0_3 hW_3 hQ_3 hL_3 hD hS hA
      clear hQ_3 h0_3 hL_3 hW_3 hP hD hS
      have hP := hP9
      have hD := hD9
      have hS := hS9
      clear hP9 hD9 hS9
      rcases hp with ⟨hv9, e_ws8, f_46_ws8⟩
      cases hv9
  · obtain ⟨E9, ws9, ce, hp, hce, hP9, -, hD9, hS9⟩ := gx_backT h0_1 hW_1 hQ_1 hL_1 hD hS hA
    clear hQ_1 h0_1 hL_1 hW_1 hP hD hS
    have hP := hP9
    have hD := hD9
    have hS := hS9
    clear hP9 hD9 hS9
    rcases hp with ⟨hv9, e_ws9⟩
    cases hv9

set_option maxHeartbeats 4000000 in
set_option maxRecDepth 100000 in
theorem law_t11 {p : Program} {e : Env} {s : State} {m : MethodId} {below : List Frame} {meth : Method} {c : Code} {Q : State → Prop} (l : Launch) (htr : l.stackTraces = false) {b : Nat} {xs : Nat → Int32} (hx : p.tables.exec = Jvm.exec) (hb : c.code = code) (hml : c.maxLocals = 7) (hown : s.vm.findClass "CommitLedgerLaw" = some m.cls) (hts1 : ∀ w ∈ lw_tbl, w.before #[Value.ref b] s = true) (hgv : (Jvm.Cond.and given_1 narrow_1).before #[Value.ref b] s = true) (hX : va_X b 4 xs s s.heap) (hbl : b < s.heap.size) (D : va_G) (tys : List (ClassId × FieldType)) (cI cZ cF cM cR cV cJ : ClassId) (q0 q1 q2 q3 q4 q5 q6 q7 q8 q9 q10 q11 q12 q13 q14 q15 q16 q17 q18 q19 q20 q21 q22 q23 q24 q25 q26 q27 q28 q29 q30 q31 q32 q33 q34 q35 q36 q37 q38 q39 q40 q41 q42 q43 q44 q45 q46 q47 q48 q49 q50 q51 q52 q53 q54 q55 q56 q57 q58 q59 q60 q61 q62 q63 q64 q65 q66 q67 q68 q69 q70 q71 q72 q73 q74 q75 q76 q77 q78 q79 q80 q81 q82 q83 q84 q85 q86 q87 q88 q89 q90 q91 q92 q93 q94 q95 q96 q97 q98 q99 q100 q101 q102 q103 q104 q105 q106 q107 q108 q109 q110 q111 q112 q113 q114 q115 q116 : Nat) (u0 u1 um : Value) (ws : va_W) (H : Heap) (locs : List Loc) (ls : Array Slot) (hK : va_K D classes tys s) (htys : tys = [(cI, FieldType.int), (cZ, FieldType.boolean), (cF, FieldType.object "CommitLedger$LedgerFile"), (cM, FieldType.object "CommitLedger$Merge"), (cR, FieldType.object "CommitLedger$Reader"), (cV, FieldType.object "CommitLedgerModel$Version"), (cJ, FieldType.long)]) (hP : va_P D classes ws H) (hD : va_D (fun q : Nat => s.heap.size ≤ q) ws) (hS : va_S (fun q : Nat => s.heap.size ≤ q) s.heap H locs) (hlen : ws.length = 117) (f_0 : ws[0]? = some ((q0, Sum.inr (0, [Value.ref q1, Value.ref q5, Value.ref q8, Value.ref q20, Value.ref q25, Value.ref q12, Value.ref q16, Value.int 0, Value.int 0, Value.int 0, Value.int 16, Value.int 4, Value.int 0, Value.int 0, Value.int 0, Value.int 0, Value.int 0, Value.int (-1)])) : Nat × va_E)) (f_46 : ws[46]? = some ((q46, Sum.inr (8, [Value.int 0, Value.int 0, Value.ref q47, Value.ref q48, Value.ref q49, Value.int 0, Value.ref q50, Value.ref q51, Value.ref q52, Value.ref q53, Value.int 0, Value.int 0, Value.int 0, Value.int (-1), Value.int 0, Value.ref q54, Value.ref q62, Value.ref q70, Value.int 0, Value.int 0, Value.int 0, Value.ref q78, Value.ref q79, Value.int 0, Value.int 16, Value.int 4, um, Value.ref q80, Value.ref q81, Value.ref q82, Value.int 0, Value.ref q83, Value.int 0, Value.int 0, Value.int 0])) : Nat × va_E)) (hl : lv_has ls 7 [(4, Value.int 0), (3, Value.ref q116), (2, Value.ref q46), (1, Value.ref q0), (0, Value.ref b)])
    (k : ∀ (H : Heap) (locs : List Loc) (ls : Array Slot), va_S (fun q : Nat => s.heap.size ≤ q) s.heap H locs → lv_has ls 7 [(4, Value.int 0), (0, Value.ref b)] → W p l e room_1 s m #[Value.ref b] below meth c H locs 400 700000 Q (F0 m 1272 ls [])) :
    W p l e room_1 s m #[Value.ref b] below meth c H locs 122 677754 Q (F0 m 720 ls []) := by
  have ht0 : tys[0]? = some ((cI, FieldType.int) : ClassId × FieldType) := by rw [htys]; rfl
  have ht1 : tys[1]? = some ((cZ, FieldType.boolean) : ClassId × FieldType) := by rw [htys]; rfl
  have ht2 : tys[2]? = some ((cF, FieldType.object "CommitLedger$LedgerFile") : ClassId × FieldType) := by rw [htys]; rfl
  have ht3 : tys[3]? = some ((cM, FieldType.object "CommitLedger$Merge") : ClassId × FieldType) := by rw [htys]; rfl
  have ht4 : tys[4]? = some ((cR, FieldType.object "CommitLedger$Reader") : ClassId × FieldType) := by rw [htys]; rfl
  have ht5 : tys[5]? = some ((cV, FieldType.object "CommitLedgerModel$Version") : ClassId × FieldType) := by rw [htys]; rfl
  have ht6 : tys[6]? = some ((cJ, FieldType.long) : ClassId × FieldType) := by rw [htys]; rfl
  have hY := gx_Y0 hts1 hgv
  have hts := gx_hts0 hts1 hgv
  obtain ⟨z, hzz⟩ : ∃ x : Nat, x = s.heap.size := ⟨_, rfl⟩
  rw [← hzz] at hY
  have hz : z ≤ s.heap.size := Nat.le_of_eq hzz
  have hAz : ∀ q : Nat, (fun q : Nat => s.heap.size ≤ q) q → z ≤ q := fun q h => by rw [hzz]; exact h
  have hA : ∀ q : Nat, s.heap.size ≤ q → (fun q : Nat => s.heap.size ≤ q) q := fun _ h => h
  have hbA : ¬ (fun q : Nat => s.heap.size ≤ q) b := Nat.not_le.mpr hbl
  have hN : gx_NS (fun q : Nat => s.heap.size ≤ q) s := fun q cell h hc => absurd (Array.getElem?_eq_some_iff.mp hc).1 (Nat.not_lt.mpr h)
  have hlen0 := hlen
  have hU : gx_g ws ws 0 [0, 1, 2, 3, 4, 5, 6, 7, 8, 9, 10, 11, 12, 13, 14, 15, 16, 17, 18, 19, 20, 21, 22, 23, 24, 25, 26, 27, 28, 29, 30, 31, 32, 33, 34, 35, 36, 37, 38, 39, 40, 41, 42, 43, 44, 45, 46, 47, 48, 49, 50, 51, 52, 53, 54, 55, 56, 57, 58, 59, 60, 61, 62, 63, 64, 65, 66, 67, 68, 69, 70, 71, 72, 73, 74, 75, 76, 77, 78, 79, 80, 81, 82, 83, 84, 85, 86, 87, 88, 89, 90, 91, 92, 93, 94, 95, 96, 97, 98, 99, 100, 101, 102, 103, 104, 105, 106, 107, 108, 109, 110, 111, 112, 113, 114, 115, 116] := gx_g.rf
  obtain ⟨y0, hy0⟩ : ∃ y : Int32, y = xs 0 := ⟨_, rfl⟩
  obtain ⟨y1, hy1⟩ : ∃ y : Int32, y = xs 1 := ⟨_, rfl⟩
  obtain ⟨y2, hy2⟩ : ∃ y : Int32, y = xs 2 := ⟨_, rfl⟩
  obtain ⟨y3, hy3⟩ : ∃ y : Int32, y = xs 3 := ⟨_, rfl⟩
  generalize hAe : (fun q : Nat => s.heap.size ≤ q) = A at hD hN hA hAz hS hbA
  refine lv_aload_n hx hb d_Lw_law_720 rfl (lv_at hl 3 rfl) ?_
  refine lv_aload_n hx hb d_Lw_law_721 rfl (lv_at hl 4 rfl) ?_
  refine lv_iload hx hb d_Lw_law_722 (lv_at hl 0 rfl) ?_
  refine lv_iconst (v := 1) hx hb d_Lw_law_724 (by decide) ?_
  refine lv_iadd hx hb d_Lw_law_725 ?_
  refine gx_topi (y := 1) (by decide) ?_
  refine va_sld hx hb hX hbl hbA hS (i := 1) (gx_inl (by decide)) d_Lw_law_726 ?_
  refine gx_topi (y := y1) (by rw [hy1]; rfl) ?_
  refine gx_callH (ig := .invokestatic 136) (c_Lw_power_v1 l htr D tys z _ ws q0 y1 q1 q5 q8 q20 q25 q12 q16 f_0) (gx_invSH (As := [Value.ref q0, Value.int y1]) (rest := []) hx hb hown hts km_Lw_136 kS_Lw_power kN_Lw kc_Lw_power (by decide) (show (parseMethodDescriptor y_Lw_power.desc).map (fun d => d.parameters.length) = some 2 by decide +kernel) rfl rfl d_Lw_law_727) (gx_cwH hts kc_Lw_power kN_Lw rfl rfl ⟨Nat.le_of_ble_eq_true rfl, Nat.le_of_ble_eq_true rfl⟩) hb hml gx_blind (gx_pre hz hP hK hD hY hS hAz [Value.ref q0, Value.int y1]) rfl hl.1 (lv_room (Nat.le_of_ble_eq_true rfl)) d_Lw_law_727 ⟨Nat.le_of_ble_eq_true rfl, Nat.le_of_ble_eq_true rfl⟩ (fun v1 st1 t1 L1 h0_1 hW_1 hQ_1 hL_1 => ?_) (fun v1 st1 t1 L1 h0_1 hW_1 hQ_1 hL_1 => ?_)
  · obtain ⟨ws2, hp, hP9, -, hD9, hS9⟩ := gx_back h0_1 hW_1 hQ_1 hL_1 hD hS hA
    clear hQ_1 h0_1 hL_1 hW_1 hP hD hS
    have hP := hP9
    have hD := hD9
    have hS := hS9
    clear hP9 hD9 hS9
    rcases hp with ⟨hv9, e_ws2, f_0_ws2, g1_0, g1_1⟩ | ⟨hv9, e_ws2, f_0_ws2, g1_0⟩ | ⟨hv9, e_ws2, f_0_ws2, g1_0, g1_1⟩
    · cases hv9
      have f_0_ws2 : ws2[0]? = some ((q0, Sum.inr (0, [Value.ref q1, Value.ref q5, Value.ref q8, Value.ref q20, Value.ref q25, Value.ref q12, Value.ref q16, Value.int 0, Value.int 0, Value.int 0, Value.int 16, Value.int 4, Value.int 0, Value.int 0, Value.int 0, Value.int 0, Value.int 0, Value.int y1])) : Nat × va_E) := f_0_ws2
      replace hlen : ws2.length = 117 := by rw [e_ws2.1, hlen]
      replace hU : gx_g ws ws2 0 [0, 1, 2, 3, 4, 5, 6, 7, 8, 9, 10, 11, 12, 13, 14, 15, 16, 17, 18, 19, 20, 21, 22, 23, 24, 25, 26, 27, 28, 29, 30, 31, 32, 33, 34, 35, 36, 37, 38, 39, 40, 41, 42, 43, 44, 45, 46, 47, 48, 49, 50, 51, 52, 53, 54, 55, 56, 57, 58, 59, 60, 61, 62, 63, 64, 65, 66, 67, 68, 69, 70, 71, 72, 73, 74, 75, 76, 77, 78, 79, 80, 81, 82, 83, 84, 85, 86, 87, 88, 89, 90, 91, 92, 93, 94, 95, 96, 97, 98, 99, 100, 101, 102, 103, 104, 105, 106, 107, 108, 109, 110, 111, 112, 113, 114, 115, 116] := hU.call e_ws2 (by rw [hlen0]; decide)
      refine W.eq (g2 := F0 m 730 ls [Value.int 0]) rfl ?_
      refine W.widen (k := 123) (n := 677760) (by decide) (by decide) ?_
      generalize t1.heap = H at hP hS ⊢
      generalize locs ++ L1 = locs at hS ⊢
      refine lv_istore (lv' := [(5, Value.int 0), (4, Value.int 0), (3, Value.ref q116), (2, Value.ref q46), (1, Value.ref q0), (0, Value.ref b)]) hx hb d_Lw_law_730 hl (by decide) rfl (fun ls hl => ?_)
      refine lv_aload_n hx hb d_Lw_law_732 rfl (lv_at hl 3 rfl) ?_
      refine lv_aload_n hx hb d_Lw_law_733 rfl (lv_at hl 5 rfl) ?_
      refine lv_iload hx hb d_Lw_law_734 (lv_at hl 1 rfl) ?_
      refine lv_iconst (v := 1) hx hb d_Lw_law_736 (by decide) ?_
      refine lv_iadd hx hb d_Lw_law_737 ?_
      refine gx_topi (y := 1) (by decide) ?_
      refine va_sld hx hb hX hbl hbA hS (i := 1) (gx_inl (by decide)) d_Lw_law_738 ?_
      refine gx_topi (y := y1) (by rw [hy1]; rfl) ?_
      have f_46_ws2 : ws2[46]? = some ((q46, Sum.inr (8, [Value.int 0, Value.int 0, Value.ref q47, Value.ref q48, Value.ref q49, Value.int 0, Value.ref q50, Value.ref q51, Value.ref q52, Value.ref q53, Value.int 0, Value.int 0, Value.int 0, Value.int (-1), Value.int 0, Value.ref q54, Value.ref q62, Value.ref q70, Value.int 0, Value.int 0, Value.int 0, Value.ref q78, Value.ref q79, Value.int 0, Value.int 16, Value.int 4, um, Value.ref q80, Value.ref q81, Value.ref q82, Value.int 0, Value.ref q83, Value.int 0, Value.int 0, Value.int 0])) : Nat × va_E) := e_ws2.at (by first | decide | (simp; done) | (simp; omega)) f_46
      clear f_46
      refine gx_call (ig := .invokevirtual 139) (c_Mo_power_v1 l htr D tys z _ ws2 q46 y1 q47 q48 q49 q50 q51 q52 q53 q54 q62 q70 q78 q79 (um) q80 q81 q82 q83 f_46_ws2) (gx_invV (As := [Value.int y1]) (rest := []) hx hb hown hts km_Lw_139 kI_Mo_power kV_Mo_power kc_Mo_power (by decide) (show (parseMethodDescriptor y_Mo_power.desc).map (fun d => d.parameters.length) = some 1 by decide +kernel) (gx_recv (ci := 8) hK hP rfl f_46_ws2) rfl rfl d_Lw_law_739) (gx_cw (z := 0) hts kc_Mo_power kN_Mo rfl rfl ⟨Nat.le_of_ble_eq_true rfl, Nat.le_of_ble_eq_true rfl⟩) hb hml gx_blind (gx_pre hz hP hK hD hY hS hAz [Value.ref q46, Value.int y1]) rfl hl.1 (lv_room (Nat.le_of_ble_eq_true rfl)) d_Lw_law_739 ⟨Nat.le_of_ble_eq_true rfl, Nat.le_of_ble_eq_true rfl⟩ (fun v3 st3 t3 L3 h0_3 hW_3 hQ_3 hL_3 => ?_) (fun v3 st3 t3 L3 h0_3 hW_3 hQ_3 hL_3 => ?_)
      · obtain ⟨ws4, hp, hP9, -, hD9, hS9⟩ := gx_back h0_3 hW_3 hQ_3 hL_3 hD hS hA
        clear hQ_3 h0_3 hL_3 hW_3 hP hD hS
        have hP := hP9
        have hD := hD9
        have hS := hS9
        clear hP9 hD9 hS9
        rcases hp with ⟨hv9, e_ws4, f_46_ws4, g3_0⟩ | ⟨hv9, e_ws4, f_46_ws4, g3_0, g3_1⟩ | ⟨hv9, e_ws4, f_46_ws4, g3_0, g3_1⟩
        · cases hv9
          have f_46_ws4 : ws4[46]? = some ((q46, Sum.inr (8, [Value.int 0, Value.int 1, Value.ref q47, Value.ref q48, Value.ref q49, Value.int 0, Value.ref q50, Value.ref q51, Value.ref q52, Value.ref q53, Value.int 0, Value.int 0, Value.int 0, Value.int (-1), Value.int 0, Value.ref q54, Value.ref q62, Value.ref q70, Value.int 0, Value.int 0, Value.int 0, Value.ref q78, Value.ref q79, Value.int 0, Value.int 16, Value.int 4, um, Value.ref q80, Value.ref q81, Value.ref q82, Value.int 0, Value.ref q83, Value.int 0, Value.int 0, Value.int 0])) : Nat × va_E) := f_46_ws4
          replace hlen : ws4.length = 117 := by rw [e_ws4.1, hlen]
          replace hU : gx_g ws ws4 0 [0, 1, 2, 3, 4, 5, 6, 7, 8, 9, 10, 11, 12, 13, 14, 15, 16, 17, 18, 19, 20, 21, 22, 23, 24, 25, 26, 27, 28, 29, 30, 31, 32, 33, 34, 35, 36, 37, 38, 39, 40, 41, 42, 43, 44, 45, 46, 47, 48, 49, 50, 51, 52, 53, 54, 55, 56, 57, 58, 59, 60, 61, 62, 63, 64, 65, 66, 67, 68, 69, 70, 71, 72, 73, 74, 75, 76, 77, 78, 79, 80, 81, 82, 83, 84, 85, 86, 87, 88, 89, 90, 91, 92, 93, 94, 95, 96, 97, 98, 99, 100, 101, 102, 103, 104, 105, 106, 107, 108, 109, 110, 111, 112, 113, 114, 115, 116] := hU.call e_ws4 (by rw [hlen0]; decide)
          exact absurd g3_0 g1_0
        · cases hv9
          have f_46_ws4 : ws4[46]? = some ((q46, Sum.inr (8, [Value.int 0, Value.int 0, Value.ref q47, Value.ref q48, Value.ref q49, Value.int 0, Value.ref q50, Value.ref q51, Value.ref q52, Value.ref q53, Value.int 0, Value.int 0, Value.int 0, Value.int y1, Value.int 0, Value.ref q54, Value.ref q62, Value.ref q70, Value.int 0, Value.int 0, Value.int 0, Value.ref q78, Value.ref q79, Value.int 0, Value.int 16, Value.int 4, um, Value.ref q80, Value.ref q81, Value.ref q82, Value.int 0, Value.ref q83, Value.int 0, Value.int 0, Value.int 0])) : Nat × va_E) := f_46_ws4
          replace hlen : ws4.length = 117 := by rw [e_ws4.1, hlen]
          replace hU : gx_g ws ws4 0 [0, 1, 2, 3, 4, 5, 6, 7, 8, 9, 10, 11, 12, 13, 14, 15, 16, 17, 18, 19, 20, 21, 22, 23, 24, 25, 26, 27, 28, 29, 30, 31, 32, 33, 34, 35, 36, 37, 38, 39, 40, 41, 42, 43, 44, 45, 46, 47, 48, 49, 50, 51, 52, 53, 54, 55, 56, 57, 58, 59, 60, 61, 62, 63, 64, 65, 66, 67, 68, 69, 70, 71, 72, 73, 74, 75, 76, 77, 78, 79, 80, 81, 82, 83, 84, 85, 86, 87, 88, 89, 90, 91, 92, 93, 94, 95, 96, 97, 98, 99, 100, 101, 102, 103, 104, 105, 106, 107, 108, 109, 110, 111, 112, 113, 114, 115, 116] := hU.call e_ws4 (by rw [hlen0]; decide)
          refine W.eq (g2 := F0 m 742 ls []) rfl ?_
          generalize t3.heap = H at hP hS ⊢
          generalize locs ++ L3 = locs at hS ⊢
          refine lv_aload_n hx hb d_Lw_law_742 rfl (lv_at hl 3 rfl) ?_
          refine gx_call (ig := .invokevirtual 98) (c_Mo_thrown l htr D tys z _ ws4 q46 46 (Value.int 0) 0 (Value.ref q47) (Value.ref q48) (Value.ref q49) (Value.int 0) (Value.ref q50) (Value.ref q51) (Value.ref q52) (Value.ref q53) (Value.int 0) (Value.int 0) (Value.int 0) (Value.int y1) (Value.int 0) (Value.ref q54) (Value.ref q62) (Value.ref q70) (Value.int 0) (Value.int 0) (Value.int 0) (Value.ref q78) (Value.ref q79) (Value.int 0) (Value.int 16) (Value.int 4) (um) (Value.ref q80) (Value.ref q81) (Value.ref q82) (Value.int 0) (Value.ref q83) (Value.int 0) (Value.int 0) (Value.int 0) f_46_ws4) (gx_invV (As := []) (rest := []) hx hb hown hts km_Lw_98 kI_Mo_thrown kV_Mo_thrown kc_Mo_thrown (by decide) (show (parseMethodDescriptor y_Mo_thrown.desc).map (fun d => d.parameters.length) = some 0 by decide +kernel) (gx_recv (ci := 8) hK hP rfl f_46_ws4) rfl rfl d_Lw_law_743) (gx_cw (z := 0) hts kc_Mo_thrown kN_Mo rfl rfl ⟨Nat.le_of_ble_eq_true rfl, Nat.le_of_ble_eq_true rfl⟩) hb hml gx_blind (gx_pre hz hP hK hD hY hS hAz [Value.ref q46]) rfl hl.1 (lv_room (Nat.le_of_ble_eq_true rfl)) d_Lw_law_743 ⟨Nat.le_of_ble_eq_true rfl, Nat.le_of_ble_eq_true rfl⟩ (fun v5 st5 t5 L5 h0_5 hW_5 hQ_5 hL_5 => ?_) (fun v5 st5 t5 L5 h0_5 hW_5 hQ_5 hL_5 => ?_)
          · obtain ⟨ws6, hp, hP9, -, hD9, hS9⟩ := gx_back h0_5 hW_5 hQ_5 hL_5 hD hS hA
            clear hQ_5 h0_5 hL_5 hW_5 hP hD hS
            have hP := hP9
            have hD := hD9
            have hS := hS9
            clear hP9 hD9 hS9
            rcases hp with ⟨hv9, e_ws6⟩
            cases hv9
            rw [e_ws6] at hP hD
            refine W.eq (g2 := F0 m 746 ls [Value.int 0]) rfl ?_
            generalize t5.heap = H at hP hS ⊢
            generalize locs ++ L5 = locs at hS ⊢
            refine lv_iload hx hb d_Lw_law_746 (lv_at hl 0 rfl) ?_
            refine lv_icmp_eq (tgt := 753) hx hb d_Lw_law_748 (by decide) (fun _ => ?_) (fun c9 => absurd (by decide) c9)
            refine lv_goto (tgt := 1272) hx hb d_Lw_law_753 (by decide) ?_
            refine W.widen (k := 400) (n := 700000) (by decide) (by decide) ?_
            exact k _ _ ls (by rw [hAe]; exact hS) (lv_sub hl [1, 5] rfl)
          · obtain ⟨E9, ws7, ce, hp, hce, hP9, -, hD9, hS9⟩ := gx_backT h0_5 hW_5 hQ_5 hL_5 hD hS hA
            clear hQ_5 h0_5 hL_5 hW_5 hP hD hS
            have hP := hP9
            have hD := hD9
            have hS := hS9
            clear hP9 hD9 hS9
            rcases hp with ⟨hv9, e_ws7⟩
            cases hv9
        · cases hv9
          have f_46_ws4 : ws4[46]? = some ((q46, Sum.inr (8, [Value.int 0, Value.int 1, Value.ref q47, Value.ref q48, Value.ref q49, Value.int 0, Value.ref q50, Value.ref q51, Value.ref q52, Value.ref q53, Value.int 0, Value.int 0, Value.int 0, Value.int (-1), Value.int 0, Value.ref q54, Value.ref q62, Value.ref q70, Value.int 0, Value.int 0, Value.int 0, Value.ref q78, Value.ref q79, Value.int 0, Value.int 16, Value.int 4, um, Value.ref q80, Value.ref q81, Value.ref q82, Value.int 0, Value.ref q83, Value.int 0, Value.int 0, Value.int 0])) : Nat × va_E) := f_46_ws4
          replace hlen : ws4.length = 117 := by rw [e_ws4.1, hlen]
          replace hU : gx_g ws ws4 0 [0, 1, 2, 3, 4, 5, 6, 7, 8, 9, 10, 11, 12, 13, 14, 15, 16, 17, 18, 19, 20, 21, 22, 23, 24, 25, 26, 27, 28, 29, 30, 31, 32, 33, 34, 35, 36, 37, 38, 39, 40, 41, 42, 43, 44, 45, 46, 47, 48, 49, 50, 51, 52, 53, 54, 55, 56, 57, 58, 59, 60, 61, 62, 63, 64, 65, 66, 67, 68, 69, 70, 71, 72, 73, 74, 75, 76, 77, 78, 79, 80, 81, 82, 83, 84, 85, 86, 87, 88, 89, 90, 91, 92, 93, 94, 95, 96, 97, 98, 99, 100, 101, 102, 103, 104, 105, 106, 107, 108, 109, 110, 111, 112, 113, 114, 115, 116] := hU.call e_ws4 (by rw [hlen0]; decide)
          exact absurd g1_1 g3_1
      · obtain ⟨E9, ws8, ce, hp, hce, hP9, -, hD9, hS9⟩ := gx_backT h0_3 hW_3 hQ_3 hL_3 hD hS hA
        clear hQ_3 h0_3 hL_3 hW_3 hP hD hS
        have hP := hP9
        have hD := hD9
        have hS := hS9
        clear hP9 hD9 hS9
        rcases hp with ⟨hv9, e_ws8, f_46_ws8, g3_0⟩ | ⟨hv9, e_ws8, f_46_ws8, g3_0, g3_1⟩ | ⟨hv9, e_ws8, f_46_ws8, g3_0, g3_1⟩
        · cases hv9
        · cases hv9
        · cases hv9
    · cases hv9
      have f_0_ws2 : ws2[0]? = some ((q0, Sum.inr (0, [Value.ref q1, Value.ref q5, Value.ref q8, Value.ref q20, Value.ref q25, Value.ref q12, Value.ref q16, Value.int 0, Value.int 0, Value.int 0, Value.int 16, Value.int 4, Value.int 0, Value.int 0, Value.int 0, Value.int 0, Value.int 0, Value.int (-1)])) : Nat × va_E) := f_0_ws2
      replace hlen : ws2.length = 117 := by rw [e_ws2.1, hlen]
      replace hU : gx_g ws ws2 0 [0, 1, 2, 3, 4, 5, 6, 7, 8, 9, 10, 11, 12, 13, 14, 15, 16, 17, 18, 19, 20, 21, 22, 23, 24, 25, 26, 27, 28, 29, 30, 31, 32, 33, 34, 35, 36, 37, 38, 39, 40, 41, 42, 43, 44, 45, 46, 47, 48, 49, 50, 51, 52, 53, 54, 55, 56, 57, 58, 59, 60, 61, 62, 63, 64, 65, 66, 67, 68, 69, 70, 71, 72, 73, 74, 75, 76, 77, 78, 79, 80, 81, 82, 83, 84, 85, 86, 87, 88, 89, 90, 91, 92, 93, 94, 95, 96, 97, 98, 99, 100, 101, 102, 103, 104, 105, 106, 107, 108, 109, 110, 111, 112, 113, 114, 115, 116] := hU.call e_ws2 (by rw [hlen0]; decide)
      refine W.eq (g2 := F0 m 730 ls [Value.int 1]) rfl ?_
      refine W.widen (k := 123) (n := 677760) (by decide) (by decide) ?_
      generalize t1.heap = H at hP hS ⊢
      generalize locs ++ L1 = locs at hS ⊢
      refine lv_istore (lv' := [(5, Value.int 1), (4, Value.int 0), (3, Value.ref q116), (2, Value.ref q46), (1, Value.ref q0), (0, Value.ref b)]) hx hb d_Lw_law_730 hl (by decide) rfl (fun ls hl => ?_)
      refine lv_aload_n hx hb d_Lw_law_732 rfl (lv_at hl 3 rfl) ?_
      refine lv_aload_n hx hb d_Lw_law_733 rfl (lv_at hl 5 rfl) ?_
      refine lv_iload hx hb d_Lw_law_734 (lv_at hl 1 rfl) ?_
      refine lv_iconst (v := 1) hx hb d_Lw_law_736 (by decide) ?_
      refine lv_iadd hx hb d_Lw_law_737 ?_
      refine gx_topi (y := 1) (by decide) ?_
      refine va_sld hx hb hX hbl hbA hS (i := 1) (gx_inl (by decide)) d_Lw_law_738 ?_
      refine gx_topi (y := y1) (by rw [hy1]; rfl) ?_
      have f_46_ws2 : ws2[46]? = some ((q46, Sum.inr (8, [Value.int 0, Value.int 0, Value.ref q47, Value.ref q48, Value.ref q49, Value.int 0, Value.ref q50, Value.ref q51, Value.ref q52, Value.ref q53, Value.int 0, Value.int 0, Value.int 0, Value.int (-1), Value.int 0, Value.ref q54, Value.ref q62, Value.ref q70, Value.int 0, Value.int 0, Value.int 0, Value.ref q78, Value.ref q79, Value.int 0, Value.int 16, Value.int 4, um, Value.ref q80, Value.ref q81, Value.ref q82, Value.int 0, Value.ref q83, Value.int 0, Value.int 0, Value.int 0])) : Nat × va_E) := e_ws2.at (by first | decide | (simp; done) | (simp; omega)) f_46
      clear f_46
      refine gx_call (ig := .invokevirtual 139) (c_Mo_power_v1 l htr D tys z _ ws2 q46 y1 q47 q48 q49 q50 q51 q52 q53 q54 q62 q70 q78 q79 (um) q80 q81 q82 q83 f_46_ws2) (gx_invV (As := [Value.int y1]) (rest := []) hx hb hown hts km_Lw_139 kI_Mo_power kV_Mo_power kc_Mo_power (by decide) (show (parseMethodDescriptor y_Mo_power.desc).map (fun d => d.parameters.length) = some 1 by decide +kernel) (gx_recv (ci := 8) hK hP rfl f_46_ws2) rfl rfl d_Lw_law_739) (gx_cw (z := 0) hts kc_Mo_power kN_Mo rfl rfl ⟨Nat.le_of_ble_eq_true rfl, Nat.le_of_ble_eq_true rfl⟩) hb hml gx_blind (gx_pre hz hP hK hD hY hS hAz [Value.ref q46, Value.int y1]) rfl hl.1 (lv_room (Nat.le_of_ble_eq_true rfl)) d_Lw_law_739 ⟨Nat.le_of_ble_eq_true rfl, Nat.le_of_ble_eq_true rfl⟩ (fun v9 st9 t9 L9 h0_9 hW_9 hQ_9 hL_9 => ?_) (fun v9 st9 t9 L9 h0_9 hW_9 hQ_9 hL_9 => ?_)
      · obtain ⟨ws10, hp, hP9, -, hD9, hS9⟩ := gx_back h0_9 hW_9 hQ_9 hL_9 hD hS hA
        clear hQ_9 h0_9 hL_9 hW_9 hP hD hS
        have hP := hP9
        have hD := hD9
        have hS := hS9
        clear hP9 hD9 hS9
        rcases hp with ⟨hv9, e_ws10, f_46_ws10, g9_0⟩ | ⟨hv9, e_ws10, f_46_ws10, g9_0, g9_1⟩ | ⟨hv9, e_ws10, f_46_ws10, g9_0, g9_1⟩
        · cases hv9
          have f_46_ws10 : ws10[46]? = some ((q46, Sum.inr (8, [Value.int 0, Value.int 1, Value.ref q47, Value.ref q48, Value.ref q49, Value.int 0, Value.ref q50, Value.ref q51, Value.ref q52, Value.ref q53, Value.int 0, Value.int 0, Value.int 0, Value.int (-1), Value.int 0, Value.ref q54, Value.ref q62, Value.ref q70, Value.int 0, Value.int 0, Value.int 0, Value.ref q78, Value.ref q79, Value.int 0, Value.int 16, Value.int 4, um, Value.ref q80, Value.ref q81, Value.ref q82, Value.int 0, Value.ref q83, Value.int 0, Value.int 0, Value.int 0])) : Nat × va_E) := f_46_ws10
          replace hlen : ws10.length = 117 := by rw [e_ws10.1, hlen]
          replace hU : gx_g ws ws10 0 [0, 1, 2, 3, 4, 5, 6, 7, 8, 9, 10, 11, 12, 13, 14, 15, 16, 17, 18, 19, 20, 21, 22, 23, 24, 25, 26, 27, 28, 29, 30, 31, 32, 33, 34, 35, 36, 37, 38, 39, 40, 41, 42, 43, 44, 45, 46, 47, 48, 49, 50, 51, 52, 53, 54, 55, 56, 57, 58, 59, 60, 61, 62, 63, 64, 65, 66, 67, 68, 69, 70, 71, 72, 73, 74, 75, 76, 77, 78, 79, 80, 81, 82, 83, 84, 85, 86, 87, 88, 89, 90, 91, 92, 93, 94, 95, 96, 97, 98, 99, 100, 101, 102, 103, 104, 105, 106, 107, 108, 109, 110, 111, 112, 113, 114, 115, 116] := hU.call e_ws10 (by rw [hlen0]; decide)
          refine W.eq (g2 := F0 m 742 ls []) rfl ?_
          generalize t9.heap = H at hP hS ⊢
          generalize locs ++ L9 = locs at hS ⊢
          refine lv_aload_n hx hb d_Lw_law_742 rfl (lv_at hl 3 rfl) ?_
          refine gx_call (ig := .invokevirtual 98) (c_Mo_thrown l htr D tys z _ ws10 q46 46 (Value.int 0) 1 (Value.ref q47) (Value.ref q48) (Value.ref q49) (Value.int 0) (Value.ref q50) (Value.ref q51) (Value.ref q52) (Value.ref q53) (Value.int 0) (Value.int 0) (Value.int 0) (Value.int (-1)) (Value.int 0) (Value.ref q54) (Value.ref q62) (Value.ref q70) (Value.int 0) (Value.int 0) (Value.int 0) (Value.ref q78) (Value.ref q79) (Value.int 0) (Value.int 16) (Value.int 4) (um) (Value.ref q80) (Value.ref q81) (Value.ref q82) (Value.int 0) (Value.ref q83) (Value.int 0) (Value.int 0) (Value.int 0) f_46_ws10) (gx_invV (As := []) (rest := []) hx hb hown hts km_Lw_98 kI_Mo_thrown kV_Mo_thrown kc_Mo_thrown (by decide) (show (parseMethodDescriptor y_Mo_thrown.desc).map (fun d => d.parameters.length) = some 0 by decide +kernel) (gx_recv (ci := 8) hK hP rfl f_46_ws10) rfl rfl d_Lw_law_743) (gx_cw (z := 0) hts kc_Mo_thrown kN_Mo rfl rfl ⟨Nat.le_of_ble_eq_true rfl, Nat.le_of_ble_eq_true rfl⟩) hb hml gx_blind (gx_pre hz hP hK hD hY hS hAz [Value.ref q46]) rfl hl.1 (lv_room (Nat.le_of_ble_eq_true rfl)) d_Lw_law_743 ⟨Nat.le_of_ble_eq_true rfl, Nat.le_of_ble_eq_true rfl⟩ (fun v11 st11 t11 L11 h0_11 hW_11 hQ_11 hL_11 => ?_) (fun v11 st11 t11 L11 h0_11 hW_11 hQ_11 hL_11 => ?_)
          · obtain ⟨ws12, hp, hP9, -, hD9, hS9⟩ := gx_back h0_11 hW_11 hQ_11 hL_11 hD hS hA
            clear hQ_11 h0_11 hL_11 hW_11 hP hD hS
            have hP := hP9
            have hD := hD9
            have hS := hS9
            clear hP9 hD9 hS9
            rcases hp with ⟨hv9, e_ws12⟩
            cases hv9
            rw [e_ws12] at hP hD
            refine W.eq (g2 := F0 m 746 ls [Value.int 1]) rfl ?_
            generalize t11.heap = H at hP hS ⊢
            generalize locs ++ L11 = locs at hS ⊢
            refine lv_iload hx hb d_Lw_law_746 (lv_at hl 0 rfl) ?_
            refine lv_icmp_eq (tgt := 753) hx hb d_Lw_law_748 (by decide) (fun _ => ?_) (fun c9 => absurd (by decide) c9)
            refine lv_goto (tgt := 1272) hx hb d_Lw_law_753 (by decide) ?_
            refine W.widen (k := 400) (n := 700000) (by decide) (by decide) ?_
            exact k _ _ ls (by rw [hAe]; exact hS) (lv_sub hl [1, 5] rfl)
          · obtain ⟨E9, ws13, ce, hp, hce, hP9, -, hD9, hS9⟩ := gx_backT h0_11 hW_11 hQ_11 hL_11 hD hS hA
            clear hQ_11 h0_11 hL_11 hW_11 hP hD hS
            have hP := hP9
            have hD := hD9
            have hS := hS9
            clear hP9 hD9 hS9
            rcases hp with ⟨hv9, e_ws13⟩
            cases hv9
        · cases hv9
          have f_46_ws10 : ws10[46]? = some ((q46, Sum.inr (8, [Value.int 0, Value.int 0, Value.ref q47, Value.ref q48, Value.ref q49, Value.int 0, Value.ref q50, Value.ref q51, Value.ref q52, Value.ref q53, Value.int 0, Value.int 0, Value.int 0, Value.int y1, Value.int 0, Value.ref q54, Value.ref q62, Value.ref q70, Value.int 0, Value.int 0, Value.int 0, Value.ref q78, Value.ref q79, Value.int 0, Value.int 16, Value.int 4, um, Value.ref q80, Value.ref q81, Value.ref q82, Value.int 0, Value.ref q83, Value.int 0, Value.int 0, Value.int 0])) : Nat × va_E) := f_46_ws10
          replace hlen : ws10.length = 117 := by rw [e_ws10.1, hlen]
          replace hU : gx_g ws ws10 0 [0, 1, 2, 3, 4, 5, 6, 7, 8, 9, 10, 11, 12, 13, 14, 15, 16, 17, 18, 19, 20, 21, 22, 23, 24, 25, 26, 27, 28, 29, 30, 31, 32, 33, 34, 35, 36, 37, 38, 39, 40, 41, 42, 43, 44, 45, 46, 47, 48, 49, 50, 51, 52, 53, 54, 55, 56, 57, 58, 59, 60, 61, 62, 63, 64, 65, 66, 67, 68, 69, 70, 71, 72, 73, 74, 75, 76, 77, 78, 79, 80, 81, 82, 83, 84, 85, 86, 87, 88, 89, 90, 91, 92, 93, 94, 95, 96, 97, 98, 99, 100, 101, 102, 103, 104, 105, 106, 107, 108, 109, 110, 111, 112, 113, 114, 115, 116] := hU.call e_ws10 (by rw [hlen0]; decide)
          exact absurd g1_0 g9_0
        · cases hv9
          have f_46_ws10 : ws10[46]? = some ((q46, Sum.inr (8, [Value.int 0, Value.int 1, Value.ref q47, Value.ref q48, Value.ref q49, Value.int 0, Value.ref q50, Value.ref q51, Value.ref q52, Value.ref q53, Value.int 0, Value.int 0, Value.int 0, Value.int (-1), Value.int 0, Value.ref q54, Value.ref q62, Value.ref q70, Value.int 0, Value.int 0, Value.int 0, Value.ref q78, Value.ref q79, Value.int 0, Value.int 16, Value.int 4, um, Value.ref q80, Value.ref q81, Value.ref q82, Value.int 0, Value.ref q83, Value.int 0, Value.int 0, Value.int 0])) : Nat × va_E) := f_46_ws10
          replace hlen : ws10.length = 117 := by rw [e_ws10.1, hlen]
          replace hU : gx_g ws ws10 0 [0, 1, 2, 3, 4, 5, 6, 7, 8, 9, 10, 11, 12, 13, 14, 15, 16, 17, 18, 19, 20, 21, 22, 23, 24, 25, 26, 27, 28, 29, 30, 31, 32, 33, 34, 35, 36, 37, 38, 39, 40, 41, 42, 43, 44, 45, 46, 47, 48, 49, 50, 51, 52, 53, 54, 55, 56, 57, 58, 59, 60, 61, 62, 63, 64, 65, 66, 67, 68, 69, 70, 71, 72, 73, 74, 75, 76, 77, 78, 79, 80, 81, 82, 83, 84, 85, 86, 87, 88, 89, 90, 91, 92, 93, 94, 95, 96, 97, 98, 99, 100, 101, 102, 103, 104, 105, 106, 107, 108, 109, 110, 111, 112, 113, 114, 115, 116] := hU.call e_ws10 (by rw [hlen0]; decide)
          exact absurd g1_0 g9_0
      · obtain ⟨E9, ws14, ce, hp, hce, hP9, -, hD9, hS9⟩ := gx_backT h0_9 hW_9 hQ_9 hL_9 hD hS hA
        clear hQ_9 h0_9 hL_9 hW_9 hP hD hS
        have hP := hP9
        have hD := hD9
        have hS := hS9
        clear hP9 hD9 hS9
        rcases hp with ⟨hv9, e_ws14, f_46_ws14, g9_0⟩ | ⟨hv9, e_ws14, f_46_ws14, g9_0, g9_1⟩ | ⟨hv9, e_ws14, f_46_ws14, g9_0, g9_1⟩
        · cases hv9
        · cases hv9
        · cases hv9
    · cases hv9
      have f_0_ws2 : ws2[0]? = some ((q0, Sum.inr (0, [Value.ref q1, Value.ref q5, Value.ref q8, Value.ref q20, Value.ref q25, Value.ref q12, Value.ref q16, Value.int 0, Value.int 0, Value.int 0, Value.int 16, Value.int 4, Value.int 0, Value.int 0, Value.int 0, Value.int 0, Value.int 0, Value.int (-1)])) : Nat × va_E) := f_0_ws2
      replace hlen : ws2.length = 117 := by rw [e_ws2.1, hlen]
      replace hU : gx_g ws ws2 0 [0, 1, 2, 3, 4, 5, 6, 7, 8, 9, 10, 11, 12, 13, 14, 15, 16, 17, 18, 19, 20, 21, 22, 23, 24, 25, 26, 27, 28, 29, 30, 31, 32, 33, 34, 35, 36, 37, 38, 39, 40, 41, 42, 43, 44, 45, 46, 47, 48, 49, 50, 51, 52, 53, 54, 55, 56, 57, 58, 59, 60, 61, 62, 63, 64, 65, 66, 67, 68, 69, 70, 71, 72, 73, 74, 75, 76, 77, 78, 79, 80, 81, 82, 83, 84, 85, 86, 87, 88, 89, 90, 91, 92, 93, 94, 95, 96, 97, 98, 99, 100, 101, 102, 103, 104, 105, 106, 107, 108, 109, 110, 111, 112, 113, 114, 115, 116] := hU.call e_ws2 (by rw [hlen0]; decide)
      refine W.eq (g2 := F0 m 730 ls [Value.int 1]) rfl ?_
      refine W.widen (k := 123) (n := 677760) (by decide) (by decide) ?_
      generalize t1.heap = H at hP hS ⊢
      generalize locs ++ L1 = locs at hS ⊢
      refine lv_istore (lv' := [(5, Value.int 1), (4, Value.int 0), (3, Value.ref q116), (2, Value.ref q46), (1, Value.ref q0), (0, Value.ref b)]) hx hb d_Lw_law_730 hl (by decide) rfl (fun ls hl => ?_)
      refine lv_aload_n hx hb d_Lw_law_732 rfl (lv_at hl 3 rfl) ?_
      refine lv_aload_n hx hb d_Lw_law_733 rfl (lv_at hl 5 rfl) ?_
      refine lv_iload hx hb d_Lw_law_734 (lv_at hl 1 rfl) ?_
      refine lv_iconst (v := 1) hx hb d_Lw_law_736 (by decide) ?_
      refine lv_iadd hx hb d_Lw_law_737 ?_
      refine gx_topi (y := 1) (by decide) ?_
      refine va_sld hx hb hX hbl hbA hS (i := 1) (gx_inl (by decide)) d_Lw_law_738 ?_
      refine gx_topi (y := y1) (by rw [hy1]; rfl) ?_
      have f_46_ws2 : ws2[46]? = some ((q46, Sum.inr (8, [Value.int 0, Value.int 0, Value.ref q47, Value.ref q48, Value.ref q49, Value.int 0, Value.ref q50, Value.ref q51, Value.ref q52, Value.ref q53, Value.int 0, Value.int 0, Value.int 0, Value.int (-1), Value.int 0, Value.ref q54, Value.ref q62, Value.ref q70, Value.int 0, Value.int 0, Value.int 0, Value.ref q78, Value.ref q79, Value.int 0, Value.int 16, Value.int 4, um, Value.ref q80, Value.ref q81, Value.ref q82, Value.int 0, Value.ref q83, Value.int 0, Value.int 0, Value.int 0])) : Nat × va_E) := e_ws2.at (by first | decide | (simp; done) | (simp; omega)) f_46
      clear f_46
      refine gx_call (ig := .invokevirtual 139) (c_Mo_power_v1 l htr D tys z _ ws2 q46 y1 q47 q48 q49 q50 q51 q52 q53 q54 q62 q70 q78 q79 (um) q80 q81 q82 q83 f_46_ws2) (gx_invV (As := [Value.int y1]) (rest := []) hx hb hown hts km_Lw_139 kI_Mo_power kV_Mo_power kc_Mo_power (by decide) (show (parseMethodDescriptor y_Mo_power.desc).map (fun d => d.parameters.length) = some 1 by decide +kernel) (gx_recv (ci := 8) hK hP rfl f_46_ws2) rfl rfl d_Lw_law_739) (gx_cw (z := 0) hts kc_Mo_power kN_Mo rfl rfl ⟨Nat.le_of_ble_eq_true rfl, Nat.le_of_ble_eq_true rfl⟩) hb hml gx_blind (gx_pre hz hP hK hD hY hS hAz [Value.ref q46, Value.int y1]) rfl hl.1 (lv_room (Nat.le_of_ble_eq_true rfl)) d_Lw_law_739 ⟨Nat.le_of_ble_eq_true rfl, Nat.le_of_ble_eq_true rfl⟩ (fun v15 st15 t15 L15 h0_15 hW_15 hQ_15 hL_15 => ?_) (fun v15 st15 t15 L15 h0_15 hW_15 hQ_15 hL_15 => ?_)
      · obtain ⟨ws16, hp, hP9, -, hD9, hS9⟩ := gx_back h0_15 hW_15 hQ_15 hL_15 hD hS hA
        clear hQ_15 h0_15 hL_15 hW_15 hP hD hS
        have hP := hP9
        have hD := hD9
        have hS := hS9
        clear hP9 hD9 hS9
        rcases hp with ⟨hv9, e_ws16, f_46_ws16, g15_0⟩ | ⟨hv9, e_ws16, f_46_ws16, g15_0, g15_1⟩ | ⟨hv9, e_ws16, f_46_ws16, g15_0, g15_1⟩
        · cases hv9
          have f_46_ws16 : ws16[46]? = some ((q46, Sum.inr (8, [Value.int 0, Value.int 1, Value.ref q47, Value.ref q48, Value.ref q49, Value.int 0, Value.ref q50, Value.ref q51, Value.ref q52, Value.ref q53, Value.int 0, Value.int 0, Value.int 0, Value.int (-1), Value.int 0, Value.ref q54, Value.ref q62, Value.ref q70, Value.int 0, Value.int 0, Value.int 0, Value.ref q78, Value.ref q79, Value.int 0, Value.int 16, Value.int 4, um, Value.ref q80, Value.ref q81, Value.ref q82, Value.int 0, Value.ref q83, Value.int 0, Value.int 0, Value.int 0])) : Nat × va_E) := f_46_ws16
          replace hlen : ws16.length = 117 := by rw [e_ws16.1, hlen]
          replace hU : gx_g ws ws16 0 [0, 1, 2, 3, 4, 5, 6, 7, 8, 9, 10, 11, 12, 13, 14, 15, 16, 17, 18, 19, 20, 21, 22, 23, 24, 25, 26, 27, 28, 29, 30, 31, 32, 33, 34, 35, 36, 37, 38, 39, 40, 41, 42, 43, 44, 45, 46, 47, 48, 49, 50, 51, 52, 53, 54, 55, 56, 57, 58, 59, 60, 61, 62, 63, 64, 65, 66, 67, 68, 69, 70, 71, 72, 73, 74, 75, 76, 77, 78, 79, 80, 81, 82, 83, 84, 85, 86, 87, 88, 89, 90, 91, 92, 93, 94, 95, 96, 97, 98, 99, 100, 101, 102, 103, 104, 105, 106, 107, 108, 109, 110, 111, 112, 113, 114, 115, 116] := hU.call e_ws16 (by rw [hlen0]; decide)
          exact absurd g15_0 g1_0
        · cases hv9
          have f_46_ws16 : ws16[46]? = some ((q46, Sum.inr (8, [Value.int 0, Value.int 0, Value.ref q47, Value.ref q48, Value.ref q49, Value.int 0, Value.ref q50, Value.ref q51, Value.ref q52, Value.ref q53, Value.int 0, Value.int 0, Value.int 0, Value.int y1, Value.int 0, Value.ref q54, Value.ref q62, Value.ref q70, Value.int 0, Value.int 0, Value.int 0, Value.ref q78, Value.ref q79, Value.int 0, Value.int 16, Value.int 4, um, Value.ref q80, Value.ref q81, Value.ref q82, Value.int 0, Value.ref q83, Value.int 0, Value.int 0, Value.int 0])) : Nat × va_E) := f_46_ws16
          replace hlen : ws16.length = 117 := by rw [e_ws16.1, hlen]
          replace hU : gx_g ws ws16 0 [0, 1, 2, 3, 4, 5, 6, 7, 8, 9, 10, 11, 12, 13, 14, 15, 16, 17, 18, 19, 20, 21, 22, 23, 24, 25, 26, 27, 28, 29, 30, 31, 32, 33, 34, 35, 36, 37, 38, 39, 40, 41, 42, 43, 44, 45, 46, 47, 48, 49, 50, 51, 52, 53, 54, 55, 56, 57, 58, 59, 60, 61, 62, 63, 64, 65, 66, 67, 68, 69, 70, 71, 72, 73, 74, 75, 76, 77, 78, 79, 80, 81, 82, 83, 84, 85, 86, 87, 88, 89, 90, 91, 92, 93, 94, 95, 96, 97, 98, 99, 100, 101, 102, 103, 104, 105, 106, 107, 108, 109, 110, 111, 112, 113, 114, 115, 116] := hU.call e_ws16 (by rw [hlen0]; decide)
          exact absurd g15_1 g1_1
        · cases hv9
          have f_46_ws16 : ws16[46]? = some ((q46, Sum.inr (8, [Value.int 0, Value.int 1, Value.ref q47, Value.ref q48, Value.ref q49, Value.int 0, Value.ref q50, Value.ref q51, Value.ref q52, Value.ref q53, Value.int 0, Value.int 0, Value.int 0, Value.int (-1), Value.int 0, Value.ref q54, Value.ref q62, Value.ref q70, Value.int 0, Value.int 0, Value.int 0, Value.ref q78, Value.ref q79, Value.int 0, Value.int 16, Value.int 4, um, Value.ref q80, Value.ref q81, Value.ref q82, Value.int 0, Value.ref q83, Value.int 0, Value.int 0, Value.int 0])) : Nat × va_E) := f_46_ws16
          replace hlen : ws16.length = 117 := by rw [e_ws16.1, hlen]
          replace hU : gx_g ws ws16 0 [0, 1, 2, 3, 4, 5, 6, 7, 8, 9, 10, 11, 12, 13, 14, 15, 16, 17, 18, 19, 20, 21, 22, 23, 24, 25, 26, 27, 28, 29, 30, 31, 32, 33, 34, 35, 36, 37, 38, 39, 40, 41, 42, 43, 44, 45, 46, 47, 48, 49, 50, 51, 52, 53, 54, 55, 56, 57, 58, 59, 60, 61, 62, 63, 64, 65, 66, 67, 68, 69, 70, 71, 72, 73, 74, 75, 76, 77, 78, 79, 80, 81, 82, 83, 84, 85, 86, 87, 88, 89, 90, 91, 92, 93, 94, 95, 96, 97, 98, 99, 100, 101, 102, 103, 104, 105, 106, 107, 108, 109, 110, 111, 112, 113, 114, 115, 116] := hU.call e_ws16 (by rw [hlen0]; decide)
          refine W.eq (g2 := F0 m 742 ls []) rfl ?_
          generalize t15.heap = H at hP hS ⊢
          generalize locs ++ L15 = locs at hS ⊢
          refine lv_aload_n hx hb d_Lw_law_742 rfl (lv_at hl 3 rfl) ?_
          refine gx_call (ig := .invokevirtual 98) (c_Mo_thrown l htr D tys z _ ws16 q46 46 (Value.int 0) 1 (Value.ref q47) (Value.ref q48) (Value.ref q49) (Value.int 0) (Value.ref q50) (Value.ref q51) (Value.ref q52) (Value.ref q53) (Value.int 0) (Value.int 0) (Value.int 0) (Value.int (-1)) (Value.int 0) (Value.ref q54) (Value.ref q62) (Value.ref q70) (Value.int 0) (Value.int 0) (Value.int 0) (Value.ref q78) (Value.ref q79) (Value.int 0) (Value.int 16) (Value.int 4) (um) (Value.ref q80) (Value.ref q81) (Value.ref q82) (Value.int 0) (Value.ref q83) (Value.int 0) (Value.int 0) (Value.int 0) f_46_ws16) (gx_invV (As := []) (rest := []) hx hb hown hts km_Lw_98 kI_Mo_thrown kV_Mo_thrown kc_Mo_thrown (by decide) (show (parseMethodDescriptor y_Mo_thrown.desc).map (fun d => d.parameters.length) = some 0 by decide +kernel) (gx_recv (ci := 8) hK hP rfl f_46_ws16) rfl rfl d_Lw_law_743) (gx_cw (z := 0) hts kc_Mo_thrown kN_Mo rfl rfl ⟨Nat.le_of_ble_eq_true rfl, Nat.le_of_ble_eq_true rfl⟩) hb hml gx_blind (gx_pre hz hP hK hD hY hS hAz [Value.ref q46]) rfl hl.1 (lv_room (Nat.le_of_ble_eq_true rfl)) d_Lw_law_743 ⟨Nat.le_of_ble_eq_true rfl, Nat.le_of_ble_eq_true rfl⟩ (fun v17 st17 t17 L17 h0_17 hW_17 hQ_17 hL_17 => ?_) (fun v17 st17 t17 L17 h0_17 hW_17 hQ_17 hL_17 => ?_)
          · obtain ⟨ws18, hp, hP9, -, hD9, hS9⟩ := gx_back h0_17 hW_17 hQ_17 hL_17 hD hS hA
            clear hQ_17 h0_17 hL_17 hW_17 hP hD hS
            have hP := hP9
            have hD := hD9
            have hS := hS9
            clear hP9 hD9 hS9
            rcases hp with ⟨hv9, e_ws18⟩
            cases hv9
            rw [e_ws18] at hP hD
            refine W.eq (g2 := F0 m 746 ls [Value.int 1]) rfl ?_
            generalize t17.heap = H at hP hS ⊢
            generalize locs ++ L17 = locs at hS ⊢
            refine lv_iload hx hb d_Lw_law_746 (lv_at hl 0 rfl) ?_
            refine lv_icmp_eq (tgt := 753) hx hb d_Lw_law_748 (by decide) (fun _ => ?_) (fun c9 => absurd (by decide) c9)
            refine lv_goto (tgt := 1272) hx hb d_Lw_law_753 (by decide) ?_
            refine W.widen (k := 400) (n := 700000) (by decide) (by decide) ?_
            exact k _ _ ls (by rw [hAe]; exact hS) (lv_sub hl [1, 5] rfl)
          · obtain ⟨E9, ws19, ce, hp, hce, hP9, -, hD9, hS9⟩ := gx_backT h0_17 hW_17 hQ_17 hL_17 hD hS hA
            clear hQ_17 h0_17 hL_17 hW_17 hP hD hS
            have hP := hP9
            have hD := hD9
            have hS := hS9
            clear hP9 hD9 hS9
            rcases hp with ⟨hv9, e_ws19⟩
            cases hv9
      · obtain ⟨E9, ws20, ce, hp, hce, hP9, -, hD9, hS9⟩ := gx_backT h0_15 hW_15 hQ_15 hL_15 hD hS hA
        clear hQ_15 h0_15 hL_15 hW_15 hP hD hS
        have hP := hP9
        have hD := hD9
        have hS := hS9
        clear hP9 hD9 hS9
        rcases hp with ⟨hv9, e_ws20, f_46_ws20, g15_0⟩ | ⟨hv9, e_ws20, f_46_ws20, g15_0, g15_1⟩ | ⟨hv9, e_ws20, f_46_ws20, g15_0, g15_1⟩
        · cases hv9
        · cases hv9
        · cases hv9
  · obtain ⟨E9, ws21, ce, hp, hce, hP9, -, hD9, hS9⟩ := gx_backT h0_1 hW_1 hQ_1 hL_1 hD hS hA
    clear hQ_1 h0_1 hL_1 hW_1 hP hD hS
    have hP := hP9
    have hD := hD9
    have hS := hS9
    clear hP9 hD9 hS9
    rcases hp with ⟨hv9, e_ws21, f_0_ws21, g1_0, g1_1⟩ | ⟨hv9, e_ws21, f_0_ws21, g1_0⟩ | ⟨hv9, e_ws21, f_0_ws21, g1_0, g1_1⟩
    · cases hv9
    · cases hv9
    · cases hv9

set_option maxHeartbeats 4000000 in
set_option maxRecDepth 100000 in
theorem law_t12 {p : Program} {e : Env} {s : State} {m : MethodId} {below : List Frame} {meth : Method} {c : Code} {Q : State → Prop} (l : Launch) (htr : l.stackTraces = false) {b : Nat} {xs : Nat → Int32} (hx : p.tables.exec = Jvm.exec) (hb : c.code = code) (hml : c.maxLocals = 7) (hown : s.vm.findClass "CommitLedgerLaw" = some m.cls) (hts1 : ∀ w ∈ lw_tbl, w.before #[Value.ref b] s = true) (hgv : (Jvm.Cond.and given_1 narrow_1).before #[Value.ref b] s = true) (hX : va_X b 4 xs s s.heap) (hbl : b < s.heap.size) (D : va_G) (tys : List (ClassId × FieldType)) (cI cZ cF cM cR cV cJ : ClassId) (q0 q1 q2 q3 q4 q5 q6 q7 q8 q9 q10 q11 q12 q13 q14 q15 q16 q17 q18 q19 q20 q21 q22 q23 q24 q25 q26 q27 q28 q29 q30 q31 q32 q33 q34 q35 q36 q37 q38 q39 q40 q41 q42 q43 q44 q45 q46 q47 q48 q49 q50 q51 q52 q53 q54 q55 q56 q57 q58 q59 q60 q61 q62 q63 q64 q65 q66 q67 q68 q69 q70 q71 q72 q73 q74 q75 q76 q77 q78 q79 q80 q81 q82 q83 q84 q85 q86 q87 q88 q89 q90 q91 q92 q93 q94 q95 q96 q97 q98 q99 q100 q101 q102 q103 q104 q105 q106 q107 q108 q109 q110 q111 q112 q113 q114 q115 q116 : Nat) (u0 u1 um : Value) (ws : va_W) (H : Heap) (locs : List Loc) (ls : Array Slot) (hK : va_K D classes tys s) (htys : tys = [(cI, FieldType.int), (cZ, FieldType.boolean), (cF, FieldType.object "CommitLedger$LedgerFile"), (cM, FieldType.object "CommitLedger$Merge"), (cR, FieldType.object "CommitLedger$Reader"), (cV, FieldType.object "CommitLedgerModel$Version"), (cJ, FieldType.long)]) (hP : va_P D classes ws H) (hD : va_D (fun q : Nat => s.heap.size ≤ q) ws) (hS : va_S (fun q : Nat => s.heap.size ≤ q) s.heap H locs) (hlen : ws.length = 117) (f_0 : ws[0]? = some ((q0, Sum.inr (0, [Value.ref q1, Value.ref q5, Value.ref q8, Value.ref q20, Value.ref q25, Value.ref q12, Value.ref q16, Value.int 0, Value.int 0, Value.int 0, Value.int 16, Value.int 4, Value.int 0, Value.int 0, Value.int 0, Value.int 0, Value.int 0, Value.int (-1)])) : Nat × va_E)) (f_5 : ws[5]? = some ((q5, Sum.inr (2, [Value.ref q6, Value.ref q7, Value.int 0, Value.int 0])) : Nat × va_E)) (f_6 : ws[6]? = some ((q6, Sum.inr (3, [u0, Value.int 0, Value.int 0])) : Nat × va_E)) (f_25 : ws[25]? = some ((q25, Sum.inl (cR, 4, Sum.inr (Sum.inr (Sum.inr (Sum.inr (va_up (va_up (va_up (va_up (fun _ => none) 0 (some q26)) 1 (some q31)) 2 (some q36)) 3 (some q41))))))) : Nat × va_E)) (f_26 : ws[26]? = some ((q26, Sum.inr (6, [Value.ref q27, Value.int 0, Value.int 0])) : Nat × va_E)) (f_31 : ws[31]? = some ((q31, Sum.inr (6, [Value.ref q32, Value.int 0, Value.int 0])) : Nat × va_E)) (f_36 : ws[36]? = some ((q36, Sum.inr (6, [Value.ref q37, Value.int 0, Value.int 0])) : Nat × va_E)) (f_41 : ws[41]? = some ((q41, Sum.inr (6, [Value.ref q42, Value.int 0, Value.int 0])) : Nat × va_E)) (f_46 : ws[46]? = some ((q46, Sum.inr (8, [Value.int 0, Value.int 0, Value.ref q47, Value.ref q48, Value.ref q49, Value.int 0, Value.ref q50, Value.ref q51, Value.ref q52, Value.ref q53, Value.int 0, Value.int 0, Value.int 0, Value.int (-1), Value.int 0, Value.ref q54, Value.ref q62, Value.ref q70, Value.int 0, Value.int 0, Value.int 0, Value.ref q78, Value.ref q79, Value.int 0, Value.int 16, Value.int 4, um, Value.ref q80, Value.ref q81, Value.ref q82, Value.int 0, Value.ref q83, Value.int 0, Value.int 0, Value.int 0])) : Nat × va_E)) (f_83 : ws[83]? = some ((q83, Sum.inl (cV, 4, Sum.inr (Sum.inr (Sum.inr (Sum.inr (va_up (va_up (va_up (va_up (fun _ => none) 0 (some q84)) 1 (some q92)) 2 (some q100)) 3 (some q108))))))) : Nat × va_E)) (f_84 : ws[84]? = some ((q84, Sum.inr (9, [Value.ref q85, Value.ref q86, Value.ref q87, Value.ref q88, Value.ref q89, Value.ref q90, Value.ref q91, Value.int 0, Value.int 0, Value.int 0, Value.int 0])) : Nat × va_E)) (f_92 : ws[92]? = some ((q92, Sum.inr (9, [Value.ref q93, Value.ref q94, Value.ref q95, Value.ref q96, Value.ref q97, Value.ref q98, Value.ref q99, Value.int 0, Value.int 0, Value.int 0, Value.int 0])) : Nat × va_E)) (f_100 : ws[100]? = some ((q100, Sum.inr (9, [Value.ref q101, Value.ref q102, Value.ref q103, Value.ref q104, Value.ref q105, Value.ref q106, Value.ref q107, Value.int 0, Value.int 0, Value.int 0, Value.int 0])) : Nat × va_E)) (f_108 : ws[108]? = some ((q108, Sum.inr (9, [Value.ref q109, Value.ref q110, Value.ref q111, Value.ref q112, Value.ref q113, Value.ref q114, Value.ref q115, Value.int 0, Value.int 0, Value.int 0, Value.int 0])) : Nat × va_E)) (hl : lv_has ls 7 [(4, Value.int 0), (3, Value.ref q116), (2, Value.ref q46), (1, Value.ref q0), (0, Value.ref b)])
    (k : ∀ (H : Heap) (locs : List Loc) (ls : Array Slot), va_S (fun q : Nat => s.heap.size ≤ q) s.heap H locs → lv_has ls 7 [(4, Value.int 0), (0, Value.ref b)] → W p l e room_1 s m #[Value.ref b] below meth c H locs 400 700000 Q (F0 m 1272 ls [])) :
    W p l e room_1 s m #[Value.ref b] below meth c H locs 122 677754 Q (F0 m 756 ls []) := by
  have ht0 : tys[0]? = some ((cI, FieldType.int) : ClassId × FieldType) := by rw [htys]; rfl
  have ht1 : tys[1]? = some ((cZ, FieldType.boolean) : ClassId × FieldType) := by rw [htys]; rfl
  have ht2 : tys[2]? = some ((cF, FieldType.object "CommitLedger$LedgerFile") : ClassId × FieldType) := by rw [htys]; rfl
  have ht3 : tys[3]? = some ((cM, FieldType.object "CommitLedger$Merge") : ClassId × FieldType) := by rw [htys]; rfl
  have ht4 : tys[4]? = some ((cR, FieldType.object "CommitLedger$Reader") : ClassId × FieldType) := by rw [htys]; rfl
  have ht5 : tys[5]? = some ((cV, FieldType.object "CommitLedgerModel$Version") : ClassId × FieldType) := by rw [htys]; rfl
  have ht6 : tys[6]? = some ((cJ, FieldType.long) : ClassId × FieldType) := by rw [htys]; rfl
  have hY := gx_Y0 hts1 hgv
  have hts := gx_hts0 hts1 hgv
  obtain ⟨z, hzz⟩ : ∃ x : Nat, x = s.heap.size := ⟨_, rfl⟩
  rw [← hzz] at hY
  have hz : z ≤ s.heap.size := Nat.le_of_eq hzz
  have hAz : ∀ q : Nat, (fun q : Nat => s.heap.size ≤ q) q → z ≤ q := fun q h => by rw [hzz]; exact h
  have hA : ∀ q : Nat, s.heap.size ≤ q → (fun q : Nat => s.heap.size ≤ q) q := fun _ h => h
  have hbA : ¬ (fun q : Nat => s.heap.size ≤ q) b := Nat.not_le.mpr hbl
  have hN : gx_NS (fun q : Nat => s.heap.size ≤ q) s := fun q cell h hc => absurd (Array.getElem?_eq_some_iff.mp hc).1 (Nat.not_lt.mpr h)
  have hlen0 := hlen
  have hU : gx_g ws ws 0 [0, 1, 2, 3, 4, 5, 6, 7, 8, 9, 10, 11, 12, 13, 14, 15, 16, 17, 18, 19, 20, 21, 22, 23, 24, 25, 26, 27, 28, 29, 30, 31, 32, 33, 34, 35, 36, 37, 38, 39, 40, 41, 42, 43, 44, 45, 46, 47, 48, 49, 50, 51, 52, 53, 54, 55, 56, 57, 58, 59, 60, 61, 62, 63, 64, 65, 66, 67, 68, 69, 70, 71, 72, 73, 74, 75, 76, 77, 78, 79, 80, 81, 82, 83, 84, 85, 86, 87, 88, 89, 90, 91, 92, 93, 94, 95, 96, 97, 98, 99, 100, 101, 102, 103, 104, 105, 106, 107, 108, 109, 110, 111, 112, 113, 114, 115, 116] := gx_g.rf
  obtain ⟨y0, hy0⟩ : ∃ y : Int32, y = xs 0 := ⟨_, rfl⟩
  obtain ⟨y1, hy1⟩ : ∃ y : Int32, y = xs 1 := ⟨_, rfl⟩
  obtain ⟨y2, hy2⟩ : ∃ y : Int32, y = xs 2 := ⟨_, rfl⟩
  obtain ⟨y3, hy3⟩ : ∃ y : Int32, y = xs 3 := ⟨_, rfl⟩
  generalize hAe : (fun q : Nat => s.heap.size ≤ q) = A at hD hN hA hAz hS hbA
  refine lv_aload_n hx hb d_Lw_law_756 rfl (lv_at hl 3 rfl) ?_
  refine gx_call (ig := .invokevirtual 140) (c_Le_crash_v1 l htr D tys z _ ws cR q0 q1 q5 q8 q20 q25 q12 q16 q6 q7 (u0) q26 q31 q36 q41 q27 q32 q37 q42 f_0 f_5 f_6 f_25 f_26 f_31 f_36 f_41 ht4) (gx_invV (As := []) (rest := []) hx hb hown hts km_Lw_140 kI_Le_crash kV_Le_crash kc_Le_crash (by decide) (show (parseMethodDescriptor y_Le_crash.desc).map (fun d => d.parameters.length) = some 0 by decide +kernel) (gx_recv (ci := 0) hK hP rfl f_0) rfl rfl d_Lw_law_757) (gx_cw (z := 0) hts kc_Le_crash kN_Le rfl rfl ⟨Nat.le_of_ble_eq_true rfl, Nat.le_of_ble_eq_true rfl⟩) hb hml gx_blind (gx_pre hz hP hK hD hY hS hAz [Value.ref q0]) rfl hl.1 (lv_room (Nat.le_of_ble_eq_true rfl)) d_Lw_law_757 ⟨Nat.le_of_ble_eq_true rfl, Nat.le_of_ble_eq_true rfl⟩ (fun v1 st1 t1 L1 h0_1 hW_1 hQ_1 hL_1 => ?_) (fun v1 st1 t1 L1 h0_1 hW_1 hQ_1 hL_1 => ?_)
  · obtain ⟨ws2, hp, hP9, -, hD9, hS9⟩ := gx_back h0_1 hW_1 hQ_1 hL_1 hD hS hA
    clear hQ_1 h0_1 hL_1 hW_1 hP hD hS
    have hP := hP9
    have hD := hD9
    have hS := hS9
    clear hP9 hD9 hS9
    rcases hp with ⟨hv9, e_ws2, f_0_ws2, f_5_ws2, f_26_ws2, f_31_ws2, f_36_ws2, f_41_ws2⟩
    cases hv9
    have f_0_ws2 : ws2[0]? = some ((q0, Sum.inr (0, [Value.ref q1, Value.ref q5, Value.ref q8, Value.ref q20, Value.ref q25, Value.ref q12, Value.ref q16, Value.int 0, Value.int 0, Value.int 0, Value.int 16, Value.int 4, Value.int 0, Value.int 0, Value.int 0, Value.int 0, Value.int 0, Value.int (-1)])) : Nat × va_E) := f_0_ws2
    have f_5_ws2 : ws2[5]? = some ((q5, Sum.inr (2, [Value.ref q6, Value.ref q7, Value.int 0, Value.int 1])) : Nat × va_E) := f_5_ws2
    have f_26_ws2 : ws2[26]? = some ((q26, Sum.inr (6, [Value.ref q27, Value.int 0, Value.int 0])) : Nat × va_E) := f_26_ws2
    have f_31_ws2 : ws2[31]? = some ((q31, Sum.inr (6, [Value.ref q32, Value.int 0, Value.int 0])) : Nat × va_E) := f_31_ws2
    have f_36_ws2 : ws2[36]? = some ((q36, Sum.inr (6, [Value.ref q37, Value.int 0, Value.int 0])) : Nat × va_E) := f_36_ws2
    have f_41_ws2 : ws2[41]? = some ((q41, Sum.inr (6, [Value.ref q42, Value.int 0, Value.int 0])) : Nat × va_E) := f_41_ws2
    replace hlen : ws2.length = 117 := by rw [e_ws2.1, hlen]
    replace hU : gx_g ws ws2 0 [0, 1, 2, 3, 4, 5, 6, 7, 8, 9, 10, 11, 12, 13, 14, 15, 16, 17, 18, 19, 20, 21, 22, 23, 24, 25, 26, 27, 28, 29, 30, 31, 32, 33, 34, 35, 36, 37, 38, 39, 40, 41, 42, 43, 44, 45, 46, 47, 48, 49, 50, 51, 52, 53, 54, 55, 56, 57, 58, 59, 60, 61, 62, 63, 64, 65, 66, 67, 68, 69, 70, 71, 72, 73, 74, 75, 76, 77, 78, 79, 80, 81, 82, 83, 84, 85, 86, 87, 88, 89, 90, 91, 92, 93, 94, 95, 96, 97, 98, 99, 100, 101, 102, 103, 104, 105, 106, 107, 108, 109, 110, 111, 112, 113, 114, 115, 116] := hU.call e_ws2 (by rw [hlen0]; decide)
    refine W.eq (g2 := F0 m 760 ls []) rfl ?_
    generalize t1.heap = H at hP hS ⊢
    generalize locs ++ L1 = locs at hS ⊢
    refine lv_aload_n hx hb d_Lw_law_760 rfl (lv_at hl 2 rfl) ?_
    have f_46_ws2 : ws2[46]? = some ((q46, Sum.inr (8, [Value.int 0, Value.int 0, Value.ref q47, Value.ref q48, Value.ref q49, Value.int 0, Value.ref q50, Value.ref q51, Value.ref q52, Value.ref q53, Value.int 0, Value.int 0, Value.int 0, Value.int (-1), Value.int 0, Value.ref q54, Value.ref q62, Value.ref q70, Value.int 0, Value.int 0, Value.int 0, Value.ref q78, Value.ref q79, Value.int 0, Value.int 16, Value.int 4, um, Value.ref q80, Value.ref q81, Value.ref q82, Value.int 0, Value.ref q83, Value.int 0, Value.int 0, Value.int 0])) : Nat × va_E) := e_ws2.at (by first | decide | (simp; done) | (simp; omega)) f_46
    clear f_46
    have f_84_ws2 : ws2[84]? = some ((q84, Sum.inr (9, [Value.ref q85, Value.ref q86, Value.ref q87, Value.ref q88, Value.ref q89, Value.ref q90, Value.ref q91, Value.int 0, Value.int 0, Value.int 0, Value.int 0])) : Nat × va_E) := e_ws2.at (by first | decide | (simp; done) | (simp; omega)) f_84
    clear f_84
    have f_92_ws2 : ws2[92]? = some ((q92, Sum.inr (9, [Value.ref q93, Value.ref q94, Value.ref q95, Value.ref q96, Value.ref q97, Value.ref q98, Value.ref q99, Value.int 0, Value.int 0, Value.int 0, Value.int 0])) : Nat × va_E) := e_ws2.at (by first | decide | (simp; done) | (simp; omega)) f_92
    clear f_92
    have f_100_ws2 : ws2[100]? = some ((q100, Sum.inr (9, [Value.ref q101, Value.ref q102, Value.ref q103, Value.ref q104, Value.ref q105, Value.ref q106, Value.ref q107, Value.int 0, Value.int 0, Value.int 0, Value.int 0])) : Nat × va_E) := e_ws2.at (by first | decide | (simp; done) | (simp; omega)) f_100
    clear f_100
    have f_108_ws2 : ws2[108]? = some ((q108, Sum.inr (9, [Value.ref q109, Value.ref q110, Value.ref q111, Value.ref q112, Value.ref q113, Value.ref q114, Value.ref q115, Value.int 0, Value.int 0, Value.int 0, Value.int 0])) : Nat × va_E) := e_ws2.at (by first | decide | (simp; done) | (simp; omega)) f_108
    clear f_108
    have f_83_ws2 : ws2[83]? = some ((q83, Sum.inl (cV, 4, Sum.inr (Sum.inr (Sum.inr (Sum.inr (va_up (va_up (va_up (va_up (fun _ => none) 0 (some q84)) 1 (some q92)) 2 (some q100)) 3 (some q108))))))) : Nat × va_E) := e_ws2.at (by first | decide | (simp; done) | (simp; omega)) f_83
    clear f_83
    refine gx_call (ig := .invokevirtual 143) (c_Mo_crash_v1 l htr D tys z _ ws2 cV q46 q47 q48 q49 q50 q51 q52 q53 q54 q62 q70 q78 q79 (um) q80 q81 q82 q83 q84 q85 q86 q87 q88 q89 q90 q91 q92 q93 q94 q95 q96 q97 q98 q99 q100 q101 q102 q103 q104 q105 q106 q107 q108 q109 q110 q111 q112 q113 q114 q115 f_46_ws2 f_84_ws2 f_92_ws2 f_100_ws2 f_108_ws2 f_83_ws2 ht5) (gx_invV (As := []) (rest := []) hx hb hown hts km_Lw_143 kI_Mo_crash kV_Mo_crash kc_Mo_crash (by decide) (show (parseMethodDescriptor y_Mo_crash.desc).map (fun d => d.parameters.length) = some 0 by decide +kernel) (gx_recv (ci := 8) hK hP rfl f_46_ws2) rfl rfl d_Lw_law_761) (gx_cw (z := 0) hts kc_Mo_crash kN_Mo rfl rfl ⟨Nat.le_of_ble_eq_true rfl, Nat.le_of_ble_eq_true rfl⟩) hb hml gx_blind (gx_pre hz hP hK hD hY hS hAz [Value.ref q46]) rfl hl.1 (lv_room (Nat.le_of_ble_eq_true rfl)) d_Lw_law_761 ⟨Nat.le_of_ble_eq_true rfl, Nat.le_of_ble_eq_true rfl⟩ (fun v3 st3 t3 L3 h0_3 hW_3 hQ_3 hL_3 => ?_) (fun v3 st3 t3 L3 h0_3 hW_3 hQ_3 hL_3 => ?_)
    · obtain ⟨ws4, hp, hP9, -, hD9, hS9⟩ := gx_back h0_3 hW_3 hQ_3 hL_3 hD hS hA
      clear hQ_3 h0_3 hL_3 hW_3 hP hD hS
      have hP := hP9
      have hD := hD9
      have hS := hS9
      clear hP9 hD9 hS9
      rcases hp with ⟨hv9, e_ws4, f_46_ws4, f_84_ws4, f_92_ws4, f_100_ws4, f_108_ws4⟩
      cases hv9
      have f_46_ws4 : ws4[46]? = some ((q46, Sum.inr (8, [Value.int 0, Value.int 0, Value.ref q47, Value.ref q48, Value.ref q49, Value.int 0, Value.ref q50, Value.ref q51, Value.ref q52, Value.ref q53, Value.int 0, Value.int 0, Value.int 0, Value.int (-1), Value.int 1, Value.ref q54, Value.ref q62, Value.ref q70, Value.int 0, Value.int 0, Value.int 0, Value.ref q78, Value.ref q79, Value.int 0, Value.int 16, Value.int 4, um, Value.ref q80, Value.ref q81, Value.ref q82, Value.int 0, Value.ref q83, Value.int 0, Value.int 0, Value.int 0])) : Nat × va_E) := f_46_ws4
      have f_84_ws4 : ws4[84]? = some ((q84, Sum.inr (9, [Value.ref q85, Value.ref q86, Value.ref q87, Value.ref q88, Value.ref q89, Value.ref q90, Value.ref q91, Value.int 0, Value.int 0, Value.int 0, Value.int 0])) : Nat × va_E) := f_84_ws4
      have f_92_ws4 : ws4[92]? = some ((q92, Sum.inr (9, [Value.ref q93, Value.ref q94, Value.ref q95, Value.ref q96, Value.ref q97, Value.ref q98, Value.ref q99, Value.int 0, Value.int 0, Value.int 0, Value.int 0])) : Nat × va_E) := f_92_ws4
      have f_100_ws4 : ws4[100]? = some ((q100, Sum.inr (9, [Value.ref q101, Value.ref q102, Value.ref q103, Value.ref q104, Value.ref q105, Value.ref q106, Value.ref q107, Value.int 0, Value.int 0, Value.int 0, Value.int 0])) : Nat × va_E) := f_100_ws4
      have f_108_ws4 : ws4[108]? = some ((q108, Sum.inr (9, [Value.ref q109, Value.ref q110, Value.ref q111, Value.ref q112, Value.ref q113, Value.ref q114, Value.ref q115, Value.int 0, Value.int 0, Value.int 0, Value.int 0])) : Nat × va_E) := f_108_ws4
      replace hlen : ws4.length = 117 := by rw [e_ws4.1, hlen]
      replace hU : gx_g ws ws4 0 [0, 1, 2, 3, 4, 5, 6, 7, 8, 9, 10, 11, 12, 13, 14, 15, 16, 17, 18, 19, 20, 21, 22, 23, 24, 25, 26, 27, 28, 29, 30, 31, 32, 33, 34, 35, 36, 37, 38, 39, 40, 41, 42, 43, 44, 45, 46, 47, 48, 49, 50, 51, 52, 53, 54, 55, 56, 57, 58, 59, 60, 61, 62, 63, 64, 65, 66, 67, 68, 69, 70, 71, 72, 73, 74, 75, 76, 77, 78, 79, 80, 81, 82, 83, 84, 85, 86, 87, 88, 89, 90, 91, 92, 93, 94, 95, 96, 97, 98, 99, 100, 101, 102, 103, 104, 105, 106, 107, 108, 109, 110, 111, 112, 113, 114, 115, 116] := hU.call e_ws4 (by rw [hlen0]; decide)
      refine W.eq (g2 := F0 m 764 ls []) rfl ?_
      generalize t3.heap = H at hP hS ⊢
      generalize locs ++ L3 = locs at hS ⊢
      refine lv_goto (tgt := 1272) hx hb d_Lw_law_764 (by decide) ?_
      refine W.widen (k := 400) (n := 700000) (by decide) (by decide) ?_
      exact k _ _ ls (by rw [hAe]; exact hS) (lv_sub hl [0, 4] rfl)
    · obtain ⟨E9, ws5, ce, hp, hce, hP9, -, hD9, hS9⟩ := gx_backT h0_3 hW_3 hQ_3 hL_3 hD hS hA
      clear hQ_3 h0_3 hL_3 hW_3 hP hD hS
      have hP := hP9
      have hD := hD9
      have hS := hS9
      clear hP9 hD9 hS9
      rcases hp with ⟨hv9, e_ws5, f_46_ws5, f_84_ws5, f_92_ws5, f_100_ws5, f_108_ws5⟩
      cases hv9
  · obtain ⟨E9, ws6, ce, hp, hce, hP9, -, hD9, hS9⟩ := gx_backT h0_1 hW_1 hQ_1 hL_1 hD hS hA
    clear hQ_1 h0_1 hL_1 hW_1 hP hD hS
    have hP := hP9
    have hD := hD9
    have hS := hS9
    clear hP9 hD9 hS9
    rcases hp with ⟨hv9, e_ws6, f_0_ws6, f_5_ws6, f_26_ws6, f_31_ws6, f_36_ws6, f_41_ws6⟩
    cases hv9
