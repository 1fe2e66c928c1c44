/-! THE TURNS OF THE LAW on new objects; rows printed by an own text program -/
set_option maxHeartbeats 4000000 in
set_option maxRecDepth 100000 in
theorem law_t13 {p : Program} {e : Env} {s : State} {m : MethodId} {below : List Frame} {meth : Method} {c : Code} {Q : State → Prop} (l : Launch) (htr : l.stackTraces = false) {b : Nat} {xs : Nat → Int32} (hx : p.tables.exec = Jvm.exec) (hb : c.code = code) (hml : c.maxLocals = 7) (hown : s.vm.findClass "CommitLedgerLaw" = some m.cls) (hts1 : ∀ w ∈ lw_tbl, w.before #[Value.ref b] s = true) (hgv : (Jvm.Cond.and given_1 narrow_1).before #[Value.ref b] s = true) (hX : va_X b 4 xs s s.heap) (hbl : b < s.heap.size) (D : va_G) (tys : List (ClassId × FieldType)) (cI cZ cF cM cR cV cJ : ClassId) (q0 q1 q2 q3 q4 q5 q6 q7 q8 q9 q10 q11 q12 q13 q14 q15 q16 q17 q18 q19 q20 q21 q22 q23 q24 q25 q26 q27 q28 q29 q30 q31 q32 q33 q34 q35 q36 q37 q38 q39 q40 q41 q42 q43 q44 q45 q46 q47 q48 q49 q50 q51 q52 q53 q54 q55 q56 q57 q58 q59 q60 q61 q62 q63 q64 q65 q66 q67 q68 q69 q70 q71 q72 q73 q74 q75 q76 q77 q78 q79 q80 q81 q82 q83 q84 q85 q86 q87 q88 q89 q90 q91 q92 q93 q94 q95 q96 q97 q98 q99 q100 q101 q102 q103 q104 q105 q106 q107 q108 q109 q110 q111 q112 q113 q114 q115 q116 : Nat) (u0 u1 um : Value) (ws : va_W) (H : Heap) (locs : List Loc) (ls : Array Slot) (hK : va_K D classes tys s) (htys : tys = [(cI, FieldType.int), (cZ, FieldType.boolean), (cF, FieldType.object "CommitLedger$LedgerFile"), (cM, FieldType.object "CommitLedger$Merge"), (cR, FieldType.object "CommitLedger$Reader"), (cV, FieldType.object "CommitLedgerModel$Version"), (cJ, FieldType.long)]) (hP : va_P D classes ws H) (hD : va_D (fun q : Nat => s.heap.size ≤ q) ws) (hS : va_S (fun q : Nat => s.heap.size ≤ q) s.heap H locs) (hlen : ws.length = 117) (f_0 : ws[0]? = some ((q0, Sum.inr (0, [Value.ref q1, Value.ref q5, Value.ref q8, Value.ref q20, Value.ref q25, Value.ref q12, Value.ref q16, Value.int 0, Value.int 0, Value.int 0, Value.int 16, Value.int 4, Value.int 0, Value.int 0, Value.int 0, Value.int 0, Value.int 0, Value.int (-1)])) : Nat × va_E)) (f_5 : ws[5]? = some ((q5, Sum.inr (2, [Value.ref q6, Value.ref q7, Value.int 0, Value.int 0])) : Nat × va_E)) (f_6 : ws[6]? = some ((q6, Sum.inr (3, [u0, Value.int 0, Value.int 0])) : Nat × va_E)) (f_25 : ws[25]? = some ((q25, Sum.inl (cR, 4, Sum.inr (Sum.inr (Sum.inr (Sum.inr (va_up (va_up (va_up (va_up (fun _ => none) 0 (some q26)) 1 (some q31)) 2 (some q36)) 3 (some q41))))))) : Nat × va_E)) (f_26 : ws[26]? = some ((q26, Sum.inr (6, [Value.ref q27, Value.int 0, Value.int 0])) : Nat × va_E)) (f_31 : ws[31]? = some ((q31, Sum.inr (6, [Value.ref q32, Value.int 0, Value.int 0])) : Nat × va_E)) (f_36 : ws[36]? = some ((q36, Sum.inr (6, [Value.ref q37, Value.int 0, Value.int 0])) : Nat × va_E)) (f_41 : ws[41]? = some ((q41, Sum.inr (6, [Value.ref q42, Value.int 0, Value.int 0])) : Nat × va_E)) (f_46 : ws[46]? = some ((q46, Sum.inr (8, [Value.int 0, Value.int 0, Value.ref q47, Value.ref q48, Value.ref q49, Value.int 0, Value.ref q50, Value.ref q51, Value.ref q52, Value.ref q53, Value.int 0, Value.int 0, Value.int 0, Value.int (-1), Value.int 0, Value.ref q54, Value.ref q62, Value.ref q70, Value.int 0, Value.int 0, Value.int 0, Value.ref q78, Value.ref q79, Value.int 0, Value.int 16, Value.int 4, um, Value.ref q80, Value.ref q81, Value.ref q82, Value.int 0, Value.ref q83, Value.int 0, Value.int 0, Value.int 0])) : Nat × va_E)) (f_83 : ws[83]? = some ((q83, Sum.inl (cV, 4, Sum.inr (Sum.inr (Sum.inr (Sum.inr (va_up (va_up (va_up (va_up (fun _ => none) 0 (some q84)) 1 (some q92)) 2 (some q100)) 3 (some q108))))))) : Nat × va_E)) (f_84 : ws[84]? = some ((q84, Sum.inr (9, [Value.ref q85, Value.ref q86, Value.ref q87, Value.ref q88, Value.ref q89, Value.ref q90, Value.ref q91, Value.int 0, Value.int 0, Value.int 0, Value.int 0])) : Nat × va_E)) (f_92 : ws[92]? = some ((q92, Sum.inr (9, [Value.ref q93, Value.ref q94, Value.ref q95, Value.ref q96, Value.ref q97, Value.ref q98, Value.ref q99, Value.int 0, Value.int 0, Value.int 0, Value.int 0])) : Nat × va_E)) (f_100 : ws[100]? = some ((q100, Sum.inr (9, [Value.ref q101, Value.ref q102, Value.ref q103, Value.ref q104, Value.ref q105, Value.ref q106, Value.ref q107, Value.int 0, Value.int 0, Value.int 0, Value.int 0])) : Nat × va_E)) (f_108 : ws[108]? = some ((q108, Sum.inr (9, [Value.ref q109, Value.ref q110, Value.ref q111, Value.ref q112, Value.ref q113, Value.ref q114, Value.ref q115, Value.int 0, Value.int 0, Value.int 0, Value.int 0])) : Nat × va_E)) (hl : lv_has ls 7 [(4, Value.int 0), (3, Value.ref q116), (2, Value.ref q46), (1, Value.ref q0), (0, Value.ref b)])
    (k : ∀ (H : Heap) (locs : List Loc) (ls : Array Slot), va_S (fun q : Nat => s.heap.size ≤ q) s.heap H locs → lv_has ls 7 [(4, Value.int 0), (0, Value.ref b)] → W p l e room_1 s m #[Value.ref b] below meth c H locs 400 700000 Q (F0 m 1272 ls [])) :
    W p l e room_1 s m #[Value.ref b] below meth c H locs 122 677754 Q (F0 m 767 ls []) := by
  have ht0 : tys[0]? = some ((cI, FieldType.int) : ClassId × FieldType) := by rw [htys]; rfl
  have ht1 : tys[1]? = some ((cZ, FieldType.boolean) : ClassId × FieldType) := by rw [htys]; rfl
  have ht2 : tys[2]? = some ((cF, FieldType.object "CommitLedger$LedgerFile") : ClassId × FieldType) := by rw [htys]; rfl
  have ht3 : tys[3]? = some ((cM, FieldType.object "CommitLedger$Merge") : ClassId × FieldType) := by rw [htys]; rfl
  have ht4 : tys[4]? = some ((cR, FieldType.object "CommitLedger$Reader") : ClassId × FieldType) := by rw [htys]; rfl
  have ht5 : tys[5]? = some ((cV, FieldType.object "CommitLedgerModel$Version") : ClassId × FieldType) := by rw [htys]; rfl
  have ht6 : tys[6]? = some ((cJ, FieldType.long) : ClassId × FieldType) := by rw [htys]; rfl
  have hY := gx_Y0 hts1 hgv
  have hts := gx_hts0 hts1 hgv
  obtain ⟨z, hzz⟩ : ∃ x : Nat, x = s.heap.size := ⟨_, rfl⟩
  rw [← hzz] at hY
  have hz : z ≤ s.heap.size := Nat.le_of_eq hzz
  have hAz : ∀ q : Nat, (fun q : Nat => s.heap.size ≤ q) q → z ≤ q := fun q h => by rw [hzz]; exact h
  have hA : ∀ q : Nat, s.heap.size ≤ q → (fun q : Nat => s.heap.size ≤ q) q := fun _ h => h
  have hbA : ¬ (fun q : Nat => s.heap.size ≤ q) b := Nat.not_le.mpr hbl
  have hN : gx_NS (fun q : Nat => s.heap.size ≤ q) s := fun q cell h hc => absurd (Array.getElem?_eq_some_iff.mp hc).1 (Nat.not_lt.mpr h)
  have hlen0 := hlen
  have hU : gx_g ws ws 0 [0, 1, 2, 3, 4, 5, 6, 7, 8, 9, 10, 11, 12, 13, 14, 15, 16, 17, 18, 19, 20, 21, 22, 23, 24, 25, 26, 27, 28, 29, 30, 31, 32, 33, 34, 35, 36, 37, 38, 39, 40, 41, 42, 43, 44, 45, 46, 47, 48, 49, 50, 51, 52, 53, 54, 55, 56, 57, 58, 59, 60, 61, 62, 63, 64, 65, 66, 67, 68, 69, 70, 71, 72, 73, 74, 75, 76, 77, 78, 79, 80, 81, 82, 83, 84, 85, 86, 87, 88, 89, 90, 91, 92, 93, 94, 95, 96, 97, 98, 99, 100, 101, 102, 103, 104, 105, 106, 107, 108, 109, 110, 111, 112, 113, 114, 115, 116] := gx_g.rf
  obtain ⟨y0, hy0⟩ : ∃ y : Int32, y = xs 0 := ⟨_, rfl⟩
  obtain ⟨y1, hy1⟩ : ∃ y : Int32, y = xs 1 := ⟨_, rfl⟩
  obtain ⟨y2, hy2⟩ : ∃ y : Int32, y = xs 2 := ⟨_, rfl⟩
  obtain ⟨y3, hy3⟩ : ∃ y : Int32, y = xs 3 := ⟨_, rfl⟩
  generalize hAe : (fun q : Nat => s.heap.size ≤ q) = A at hD hN hA hAz hS hbA
  refine lv_aload_n hx hb d_Lw_law_767 rfl (lv_at hl 3 rfl) ?_
  refine lv_aload_n hx hb d_Lw_law_768 rfl (lv_at hl 4 rfl) ?_
  refine lv_iload hx hb d_Lw_law_769 (lv_at hl 0 rfl) ?_
  refine lv_iconst (v := 1) hx hb d_Lw_law_771 (by decide) ?_
  refine lv_iadd hx hb d_Lw_law_772 ?_
  refine gx_topi (y := 1) (by decide) ?_
  refine va_sld hx hb hX hbl hbA hS (i := 1) (gx_inl (by decide)) d_Lw_law_773 ?_
  refine gx_topi (y := y1) (by rw [hy1]; rfl) ?_
  refine lv_aload_n hx hb d_Lw_law_774 rfl (lv_at hl 4 rfl) ?_
  refine lv_iload hx hb d_Lw_law_775 (lv_at hl 0 rfl) ?_
  refine lv_iconst (v := 2) hx hb d_Lw_law_777 (by decide) ?_
  refine lv_iadd hx hb d_Lw_law_778 ?_
  refine gx_topi (y := 2) (by decide) ?_
  refine va_sld hx hb hX hbl hbA hS (i := 2) (gx_inl (by decide)) d_Lw_law_779 ?_
  refine gx_topi (y := y2) (by rw [hy2]; rfl) ?_
  refine gx_callH (ig := .invokestatic 144) (c_Lw_harm_v1 l htr D tys z _ ws cR q0 y1 y2 q1 q5 q8 q20 q25 q12 q16 q6 q7 (u0) q26 q31 q36 q41 q27 q32 q37 q42 f_0 f_5 f_6 f_25 f_26 f_31 f_36 f_41 ht4) (gx_invSH (As := [Value.ref q0, Value.int y1, Value.int y2]) (rest := []) hx hb hown hts km_Lw_144 kS_Lw_harm kN_Lw kc_Lw_harm (by decide) (show (parseMethodDescriptor y_Lw_harm.desc).map (fun d => d.parameters.length) = some 3 by decide +kernel) rfl rfl d_Lw_law_780) (gx_cwH hts kc_Lw_harm kN_Lw rfl rfl ⟨Nat.le_of_ble_eq_true rfl, Nat.le_of_ble_eq_true rfl⟩) hb hml gx_blind (gx_pre hz hP hK hD hY hS hAz [Value.ref q0, Value.int y1, Value.int y2]) rfl hl.1 (lv_room (Nat.le_of_ble_eq_true rfl)) d_Lw_law_780 ⟨Nat.le_of_ble_eq_true rfl, Nat.le_of_ble_eq_true rfl⟩ (fun v1 st1 t1 L1 h0_1 hW_1 hQ_1 hL_1 => ?_) (fun v1 st1 t1 L1 h0_1 hW_1 hQ_1 hL_1 => ?_)
  · obtain ⟨ws2, hp, hP9, -, hD9, hS9⟩ := gx_back h0_1 hW_1 hQ_1 hL_1 hD hS hA
    clear hQ_1 h0_1 hL_1 hW_1 hP hD hS
    have hP := hP9
    have hD := hD9
    have hS := hS9
    clear hP9 hD9 hS9
    rcases hp with ⟨hv9, e_ws2, g1_0⟩ | ⟨hv9, e_ws2, g1_0, g1_1⟩ | ⟨hv9, e_ws2, g1_0, g1_1⟩
    · cases hv9
      rw [e_ws2] at hP hD
      refine W.eq (g2 := F0 m 783 ls [Value.int 1]) rfl ?_
      refine W.widen (k := 123) (n := 677760) (by decide) (by decide) ?_
      generalize t1.heap = H at hP hS ⊢
      generalize locs ++ L1 = locs at hS ⊢
      refine lv_istore (lv' := [(5, Value.int 1), (4, Value.int 0), (3, Value.ref q116), (2, Value.ref q46), (1, Value.ref q0), (0, Value.ref b)]) hx hb d_Lw_law_783 hl (by decide) rfl (fun ls hl => ?_)
      refine lv_aload_n hx hb d_Lw_law_785 rfl (lv_at hl 3 rfl) ?_
      refine lv_aload_n hx hb d_Lw_law_786 rfl (lv_at hl 5 rfl) ?_
      refine lv_iload hx hb d_Lw_law_787 (lv_at hl 1 rfl) ?_
      refine lv_iconst (v := 1) hx hb d_Lw_law_789 (by decide) ?_
      refine lv_iadd hx hb d_Lw_law_790 ?_
      refine gx_topi (y := 1) (by decide) ?_
      refine va_sld hx hb hX hbl hbA hS (i := 1) (gx_inl (by decide)) d_Lw_law_791 ?_
      refine gx_topi (y := y1) (by rw [hy1]; rfl) ?_
      refine lv_aload_n hx hb d_Lw_law_792 rfl (lv_at hl 5 rfl) ?_
      refine lv_iload hx hb d_Lw_law_793 (lv_at hl 1 rfl) ?_
      refine lv_iconst (v := 2) hx hb d_Lw_law_795 (by decide) ?_
      refine lv_iadd hx hb d_Lw_law_796 ?_
      refine gx_topi (y := 2) (by decide) ?_
      refine va_sld hx hb hX hbl hbA hS (i := 2) (gx_inl (by decide)) d_Lw_law_797 ?_
      refine gx_topi (y := y2) (by rw [hy2]; rfl) ?_
      refine gx_call (ig := .invokevirtual 146) (c_Mo_harm_v1 l htr D tys z _ ws cV q46 y1 y2 q47 q48 q49 q50 q51 q52 q53 q54 q62 q70 q78 q79 (um) q80 q81 q82 q83 q84 q85 q86 q87 q88 q89 q90 q91 q92 q93 q94 q95 q96 q97 q98 q99 q100 q101 q102 q103 q104 q105 q106 q107 q108 q109 q110 q111 q112 q113 q114 q115 f_46 f_84 f_92 f_100 f_108 f_83 ht5) (gx_invV (As := [Value.int y1, Value.int y2]) (rest := []) hx hb hown hts km_Lw_146 kI_Mo_harm kV_Mo_harm kc_Mo_harm (by decide) (show (parseMethodDescriptor y_Mo_harm.desc).map (fun d => d.parameters.length) = some 2 by decide +kernel) (gx_recv (ci := 8) hK hP rfl f_46) rfl rfl d_Lw_law_798) (gx_cw (z := 0) hts kc_Mo_harm kN_Mo rfl rfl ⟨Nat.le_of_ble_eq_true rfl, Nat.le_of_ble_eq_true rfl⟩) hb hml gx_blind (gx_pre hz hP hK hD hY hS hAz [Value.ref q46, Value.int y1, Value.int y2]) rfl hl.1 (lv_room (Nat.le_of_ble_eq_true rfl)) d_Lw_law_798 ⟨Nat.le_of_ble_eq_true rfl, Nat.le_of_ble_eq_true rfl⟩ (fun v3 st3 t3 L3 h0_3 hW_3 hQ_3 hL_3 => ?_) (fun v3 st3 t3 L3 h0_3 hW_3 hQ_3 hL_3 => ?_)
      · obtain ⟨ws4, hp, hP9, -, hD9, hS9⟩ := gx_back h0_3 hW_3 hQ_3 hL_3 hD hS hA
        clear hQ_3 h0_3 hL_3 hW_3 hP hD hS
        have hP := hP9
        have hD := hD9
        have hS := hS9
        clear hP9 hD9 hS9
        rcases hp with ⟨hv9, e_ws4, f_46_ws4, g3_0⟩ | ⟨hv9, e_ws4, f_46_ws4, g3_0, g3_1⟩ | ⟨hv9, e_ws4, f_46_ws4, g3_0, g3_1⟩
        · cases hv9
          have f_46_ws4 : ws4[46]? = some ((q46, Sum.inr (8, [Value.int 0, Value.int 1, Value.ref q47, Value.ref q48, Value.ref q49, Value.int 0, Value.ref q50, Value.ref q51, Value.ref q52, Value.ref q53, Value.int 0, Value.int 0, Value.int 0, Value.int (-1), Value.int 0, Value.ref q54, Value.ref q62, Value.ref q70, Value.int 0, Value.int 0, Value.int 0, Value.ref q78, Value.ref q79, Value.int 0, Value.int 16, Value.int 4, um, Value.ref q80, Value.ref q81, Value.ref q82, Value.int 0, Value.ref q83, Value.int 0, Value.int 0, Value.int 0])) : Nat × va_E) := f_46_ws4
          replace hlen : ws4.length = 117 := by rw [e_ws4.1, hlen]
          replace hU : gx_g ws ws4 0 [0, 1, 2, 3, 4, 5, 6, 7, 8, 9, 10, 11, 12, 13, 14, 15, 16, 17, 18, 19, 20, 21, 22, 23, 24, 25, 26, 27, 28, 29, 30, 31, 32, 33, 34, 35, 36, 37, 38, 39, 40, 41, 42, 43, 44, 45, 46, 47, 48, 49, 50, 51, 52, 53, 54, 55, 56, 57, 58, 59, 60, 61, 62, 63, 64, 65, 66, 67, 68, 69, 70, 71, 72, 73, 74, 75, 76, 77, 78, 79, 80, 81, 82, 83, 84, 85, 86, 87, 88, 89, 90, 91, 92, 93, 94, 95, 96, 97, 98, 99, 100, 101, 102, 103, 104, 105, 106, 107, 108, 109, 110, 111, 112, 113, 114, 115, 116] := hU.call e_ws4 (by rw [hlen0]; decide)
          refine W.eq (g2 := F0 m 801 ls []) rfl ?_
          generalize t3.heap = H at hP hS ⊢
          generalize locs ++ L3 = locs at hS ⊢
          refine lv_aload_n hx hb d_Lw_law_801 rfl (lv_at hl 3 rfl) ?_
          refine gx_call (ig := .invokevirtual 98) (c_Mo_thrown l htr D tys z _ ws4 q46 46 (Value.int 0) 1 (Value.ref q47) (Value.ref q48) (Value.ref q49) (Value.int 0) (Value.ref q50) (Value.ref q51) (Value.ref q52) (Value.ref q53) (Value.int 0) (Value.int 0) (Value.int 0) (Value.int (-1)) (Value.int 0) (Value.ref q54) (Value.ref q62) (Value.ref q70) (Value.int 0) (Value.int 0) (Value.int 0) (Value.ref q78) (Value.ref q79) (Value.int 0) (Value.int 16) (Value.int 4) (um) (Value.ref q80) (Value.ref q81) (Value.ref q82) (Value.int 0) (Value.ref q83) (Value.int 0) (Value.int 0) (Value.int 0) f_46_ws4) (gx_invV (As := []) (rest := []) hx hb hown hts km_Lw_98 kI_Mo_thrown kV_Mo_thrown kc_Mo_thrown (by decide) (show (parseMethodDescriptor y_Mo_thrown.desc).map (fun d => d.parameters.length) = some 0 by decide +kernel) (gx_recv (ci := 8) hK hP rfl f_46_ws4) rfl rfl d_Lw_law_802) (gx_cw (z := 0) hts kc_Mo_thrown kN_Mo rfl rfl ⟨Nat.le_of_ble_eq_true rfl, Nat.le_of_ble_eq_true rfl⟩) hb hml gx_blind (gx_pre hz hP hK hD hY hS hAz [Value.ref q46]) rfl hl.1 (lv_room (Nat.le_of_ble_eq_true rfl)) d_Lw_law_802 ⟨Nat.le_of_ble_eq_true rfl, Nat.le_of_ble_eq_true rfl⟩ (fun v5 st5 t5 L5 h0_5 hW_5 hQ_5 hL_5 => ?_) (fun v5 st5 t5 L5 h0_5 hW_5 hQ_5 hL_5 => ?_)
          · obtain ⟨ws6, hp, hP9, -, hD9, hS9⟩ := gx_back h0_5 hW_5 hQ_5 hL_5 hD hS hA
            clear hQ_5 h0_5 hL_5 hW_5 hP hD hS
            have hP := hP9
            have hD := hD9
            have hS := hS9
            clear hP9 hD9 hS9
            rcases hp with ⟨hv9, e_ws6⟩
            cases hv9
            rw [e_ws6] at hP hD
            refine W.eq (g2 := F0 m 805 ls [Value.int 1]) rfl ?_
            generalize t5.heap = H at hP hS ⊢
            generalize locs ++ L5 = locs at hS ⊢
            refine lv_iload hx hb d_Lw_law_805 (lv_at hl 0 rfl) ?_
            refine lv_icmp_eq (tgt := 812) hx hb d_Lw_law_807 (by decide) (fun _ => ?_) (fun c9 => absurd (by decide) c9)
            refine lv_goto (tgt := 1272) hx hb d_Lw_law_812 (by decide) ?_
            refine W.widen (k := 400) (n := 700000) (by decide) (by decide) ?_
            exact k _ _ ls (by rw [hAe]; exact hS) (lv_sub hl [1, 5] rfl)
          · obtain ⟨E9, ws7, ce, hp, hce, hP9, -, hD9, hS9⟩ := gx_backT h0_5 hW_5 hQ_5 hL_5 hD hS hA
            clear hQ_5 h0_5 hL_5 hW_5 hP hD hS
            have hP := hP9
            have hD := hD9
            have hS := hS9
            clear hP9 hD9 hS9
            rcases hp with ⟨hv9, e_ws7⟩
            cases hv9
        · cases hv9
          have f_46_ws4 : ws4[46]? = some ((q46, Sum.inr (8, [Value.int 0, Value.int 3, Value.ref q47, Value.ref q48, Value.ref q49, Value.int 0, Value.ref q50, Value.ref q51, Value.ref q52, Value.ref q53, Value.int 0, Value.int 0, Value.int 0, Value.int (-1), Value.int 0, Value.ref q54, Value.ref q62, Value.ref q70, Value.int 0, Value.int 0, Value.int 0, Value.ref q78, Value.ref q79, Value.int 0, Value.int 16, Value.int 4, um, Value.ref q80, Value.ref q81, Value.ref q82, Value.int 0, Value.ref q83, Value.int 0, Value.int 0, Value.int 0])) : Nat × va_E) := f_46_ws4
          replace hlen : ws4.length = 117 := by rw [e_ws4.1, hlen]
          replace hU : gx_g ws ws4 0 [0, 1, 2, 3, 4, 5, 6, 7, 8, 9, 10, 11, 12, 13, 14, 15, 16, 17, 18, 19, 20, 21, 22, 23, 24, 25, 26, 27, 28, 29, 30, 31, 32, 33, 34, 35, 36, 37, 38, 39, 40, 41, 42, 43, 44, 45, 46, 47, 48, 49, 50, 51, 52, 53, 54, 55, 56, 57, 58, 59, 60, 61, 62, 63, 64, 65, 66, 67, 68, 69, 70, 71, 72, 73, 74, 75, 76, 77, 78, 79, 80, 81, 82, 83, 84, 85, 86, 87, 88, 89, 90, 91, 92, 93, 94, 95, 96, 97, 98, 99, 100, 101, 102, 103, 104, 105, 106, 107, 108, 109, 110, 111, 112, 113, 114, 115, 116] := hU.call e_ws4 (by rw [hlen0]; decide)
          exact absurd g1_0 g3_0
        · cases hv9
          have f_46_ws4 : ws4[46]? = some ((q46, Sum.inr (8, [Value.int 0, Value.int 1, Value.ref q47, Value.ref q48, Value.ref q49, Value.int 0, Value.ref q50, Value.ref q51, Value.ref q52, Value.ref q53, Value.int 0, Value.int 0, Value.int 0, Value.int (-1), Value.int 0, Value.ref q54, Value.ref q62, Value.ref q70, Value.int 0, Value.int 0, Value.int 0, Value.ref q78, Value.ref q79, Value.int 0, Value.int 16, Value.int 4, um, Value.ref q80, Value.ref q81, Value.ref q82, Value.int 0, Value.ref q83, Value.int 0, Value.int 0, Value.int 0])) : Nat × va_E) := f_46_ws4
          replace hlen : ws4.length = 117 := by rw [e_ws4.1, hlen]
          replace hU : gx_g ws ws4 0 [0, 1, 2, 3, 4, 5, 6, 7, 8, 9, 10, 11, 12, 13, 14, 15, 16, 17, 18, 19, 20, 21, 22, 23, 24, 25, 26, 27, 28, 29, 30, 31, 32, 33, 34, 35, 36, 37, 38, 39, 40, 41, 42, 43, 44, 45, 46, 47, 48, 49, 50, 51, 52, 53, 54, 55, 56, 57, 58, 59, 60, 61, 62, 63, 64, 65, 66, 67, 68, 69, 70, 71, 72, 73, 74, 75, 76, 77, 78, 79, 80, 81, 82, 83, 84, 85, 86, 87, 88, 89, 90, 91, 92, 93, 94, 95, 96, 97, 98, 99, 100, 101, 102, 103, 104, 105, 106, 107, 108, 109, 110, 111, 112, 113, 114, 115, 116] := hU.call e_ws4 (by rw [hlen0]; decide)
          exact absurd g1_0 g3_0
      · obtain ⟨E9, ws8, ce, hp, hce, hP9, -, hD9, hS9⟩ := gx_backT h0_3 hW_3 hQ_3 hL_3 hD hS hA
        clear hQ_3 h0_3 hL_3 hW_3 hP hD hS
        have hP := hP9
        have hD := hD9
        have hS := hS9
        clear hP9 hD9 hS9
        rcases hp with ⟨hv9, e_ws8, f_46_ws8, g3_0⟩ | ⟨hv9, e_ws8, f_46_ws8, g3_0, g3_1⟩ | ⟨hv9, e_ws8, f_46_ws8, g3_0, g3_1⟩
        · cases hv9
        · cases hv9
        · cases hv9
    · cases hv9
      rw [e_ws2] at hP hD
      refine W.eq (g2 := F0 m 783 ls [Value.int 3]) rfl ?_
      refine W.widen (k := 123) (n := 677760) (by decide) (by decide) ?_
      generalize t1.heap = H at hP hS ⊢
      generalize locs ++ L1 = locs at hS ⊢
      refine lv_istore (lv' := [(5, Value.int 3), (4, Value.int 0), (3, Value.ref q116), (2, Value.ref q46), (1, Value.ref q0), (0, Value.ref b)]) hx hb d_Lw_law_783 hl (by decide) rfl (fun ls hl => ?_)
      refine lv_aload_n hx hb d_Lw_law_785 rfl (lv_at hl 3 rfl) ?_
      refine lv_aload_n hx hb d_Lw_law_786 rfl (lv_at hl 5 rfl) ?_
      refine lv_iload hx hb d_Lw_law_787 (lv_at hl 1 rfl) ?_
      refine lv_iconst (v := 1) hx hb d_Lw_law_789 (by decide) ?_
      refine lv_iadd hx hb d_Lw_law_790 ?_
      refine gx_topi (y := 1) (by decide) ?_
      refine va_sld hx hb hX hbl hbA hS (i := 1) (gx_inl (by decide)) d_Lw_law_791 ?_
      refine gx_topi (y := y1) (by rw [hy1]; rfl) ?_
      refine lv_aload_n hx hb d_Lw_law_792 rfl (lv_at hl 5 rfl) ?_
      refine lv_iload hx hb d_Lw_law_793 (lv_at hl 1 rfl) ?_
      refine lv_iconst (v := 2) hx hb d_Lw_law_795 (by decide) ?_
      refine lv_iadd hx hb d_Lw_law_796 ?_
      refine gx_topi (y := 2) (by decide) ?_
      refine va_sld hx hb hX hbl hbA hS (i := 2) (gx_inl (by decide)) d_Lw_law_797 ?_
      refine gx_topi (y := y2) (by rw [hy2]; rfl) ?_
      refine gx_call (ig := .invokevirtual 146) (c_Mo_harm_v1 l htr D tys z _ ws cV q46 y1 y2 q47 q48 q49 q50 q51 q52 q53 q54 q62 q70 q78 q79 (um) q80 q81 q82 q83 q84 q85 q86 q87 q88 q89 q90 q91 q92 q93 q94 q95 q96 q97 q98 q99 q100 q101 q102 q103 q104 q105 q106 q107 q108 q109 q110 q111 q112 q113 q114 q115 f_46 f_84 f_92 f_100 f_108 f_83 ht5) (gx_invV (As := [Value.int y1, Value.int y2]) (rest := []) hx hb hown hts km_Lw_146 kI_Mo_harm kV_Mo_harm kc_Mo_harm (by decide) (show (parseMethodDescriptor y_Mo_harm.desc).map (fun d => d.parameters.length) = some 2 by decide +kernel) (gx_recv (ci := 8) hK hP rfl f_46) rfl rfl d_Lw_law_798) (gx_cw (z := 0) hts kc_Mo_harm kN_Mo rfl rfl ⟨Nat.le_of_ble_eq_true rfl, Nat.le_of_ble_eq_true rfl⟩) hb hml gx_blind (gx_pre hz hP hK hD hY hS hAz [Value.ref q46, Value.int y1, Value.int y2]) rfl hl.1 (lv_room (Nat.le_of_ble_eq_true rfl)) d_Lw_law_798 ⟨Nat.le_of_ble_eq_true rfl, Nat.le_of_ble_eq_true rfl⟩ (fun v9 st9 t9 L9 h0_9 hW_9 hQ_9 hL_9 => ?_) (fun v9 st9 t9 L9 h0_9 hW_9 hQ_9 hL_9 => ?_)
      · obtain ⟨ws10, hp, hP9, -, hD9, hS9⟩ := gx_back h0_9 hW_9 hQ_9 hL_9 hD hS hA
        clear hQ_9 h0_9 hL_9 hW_9 hP hD hS
        have hP := hP9
        have hD := hD9
        have hS := hS9
        clear hP9 hD9 hS9
        rcases hp with ⟨hv9, e_ws10, f_46_ws10, g9_0⟩ | ⟨hv9, e_ws10, f_46_ws10, g9_0, g9_1⟩ | ⟨hv9, e_ws10, f_46_ws10, g9_0, g9_1⟩
        · cases hv9
          have f_46_ws10 : ws10[46]? = some ((q46, Sum.inr (8, [Value.int 0, Value.int 1, Value.ref q47, Value.ref q48, Value.ref q49, Value.int 0, Value.ref q50, Value.ref q51, Value.ref q52, Value.ref q53, Value.int 0, Value.int 0, Value.int 0, Value.int (-1), Value.int 0, Value.ref q54, Value.ref q62, Value.ref q70, Value.int 0, Value.int 0, Value.int 0, Value.ref q78, Value.ref q79, Value.int 0, Value.int 16, Value.int 4, um, Value.ref q80, Value.ref q81, Value.ref q82, Value.int 0, Value.ref q83, Value.int 0, Value.int 0, Value.int 0])) : Nat × va_E) := f_46_ws10
          replace hlen : ws10.length = 117 := by rw [e_ws10.1, hlen]
          replace hU : gx_g ws ws10 0 [0, 1, 2, 3, 4, 5, 6, 7, 8, 9, 10, 11, 12, 13, 14, 15, 16, 17, 18, 19, 20, 21, 22, 23, 24, 25, 26, 27, 28, 29, 30, 31, 32, 33, 34, 35, 36, 37, 38, 39, 40, 41, 42, 43, 44, 45, 46, 47, 48, 49, 50, 51, 52, 53, 54, 55, 56, 57, 58, 59, 60, 61, 62, 63, 64, 65, 66, 67, 68, 69, 70, 71, 72, 73, 74, 75, 76, 77, 78, 79, 80, 81, 82, 83, 84, 85, 86, 87, 88, 89, 90, 91, 92, 93, 94, 95, 96, 97, 98, 99, 100, 101, 102, 103, 104, 105, 106, 107, 108, 109, 110, 111, 112, 113, 114, 115, 116] := hU.call e_ws10 (by rw [hlen0]; decide)
          exact absurd g9_0 g1_0
        · cases hv9
          have f_46_ws10 : ws10[46]? = some ((q46, Sum.inr (8, [Value.int 0, Value.int 3, Value.ref q47, Value.ref q48, Value.ref q49, Value.int 0, Value.ref q50, Value.ref q51, Value.ref q52, Value.ref q53, Value.int 0, Value.int 0, Value.int 0, Value.int (-1), Value.int 0, Value.ref q54, Value.ref q62, Value.ref q70, Value.int 0, Value.int 0, Value.int 0, Value.ref q78, Value.ref q79, Value.int 0, Value.int 16, Value.int 4, um, Value.ref q80, Value.ref q81, Value.ref q82, Value.int 0, Value.ref q83, Value.int 0, Value.int 0, Value.int 0])) : Nat × va_E) := f_46_ws10
          replace hlen : ws10.length = 117 := by rw [e_ws10.1, hlen]
          replace hU : gx_g ws ws10 0 [0, 1, 2, 3, 4, 5, 6, 7, 8, 9, 10, 11, 12, 13, 14, 15, 16, 17, 18, 19, 20, 21, 22, 23, 24, 25, 26, 27, 28, 29, 30, 31, 32, 33, 34, 35, 36, 37, 38, 39, 40, 41, 42, 43, 44, 45, 46, 47, 48, 49, 50, 51, 52, 53, 54, 55, 56, 57, 58, 59, 60, 61, 62, 63, 64, 65, 66, 67, 68, 69, 70, 71, 72, 73, 74, 75, 76, 77, 78, 79, 80, 81, 82, 83, 84, 85, 86, 87, 88, 89, 90, 91, 92, 93, 94, 95, 96, 97, 98, 99, 100, 101, 102, 103, 104, 105, 106, 107, 108, 109, 110, 111, 112, 113, 114, 115, 116] := hU.call e_ws10 (by rw [hlen0]; decide)
          refine W.eq (g2 := F0 m 801 ls []) rfl ?_
          generalize t9.heap = H at hP hS ⊢
          generalize locs ++ L9 = locs at hS ⊢
          refine lv_aload_n hx hb d_Lw_law_801 rfl (lv_at hl 3 rfl) ?_
          refine gx_call (ig := .invokevirtual 98) (c_Mo_thrown l htr D tys z _ ws10 q46 46 (Value.int 0) 3 (Value.ref q47) (Value.ref q48) (Value.ref q49) (Value.int 0) (Value.ref q50) (Value.ref q51) (Value.ref q52) (Value.ref q53) (Value.int 0) (Value.int 0) (Value.int 0) (Value.int (-1)) (Value.int 0) (Value.ref q54) (Value.ref q62) (Value.ref q70) (Value.int 0) (Value.int 0) (Value.int 0) (Value.ref q78) (Value.ref q79) (Value.int 0) (Value.int 16) (Value.int 4) (um) (Value.ref q80) (Value.ref q81) (Value.ref q82) (Value.int 0) (Value.ref q83) (Value.int 0) (Value.int 0) (Value.int 0) f_46_ws10) (gx_invV (As := []) (rest := []) hx hb hown hts km_Lw_98 kI_Mo_thrown kV_Mo_thrown kc_Mo_thrown (by decide) (show (parseMethodDescriptor y_Mo_thrown.desc).map (fun d => d.parameters.length) = some 0 by decide +kernel) (gx_recv (ci := 8) hK hP rfl f_46_ws10) rfl rfl d_Lw_law_802) (gx_cw (z := 0) hts kc_Mo_thrown kN_Mo rfl rfl ⟨Nat.le_of_ble_eq_true rfl, Nat.le_of_ble_eq_true rfl⟩) hb hml gx_blind (gx_pre hz hP hK hD hY hS hAz [Value.ref q46]) rfl hl.1 (lv_room (Nat.le_of_ble_eq_true rfl)) d_Lw_law_802 ⟨Nat.le_of_ble_eq_true rfl, Nat.le_of_ble_eq_true rfl⟩ (fun v11 st11 t11 L11 h0_11 hW_11 hQ_11 hL_11 => ?_) (fun v11 st11 t11 L11 h0_11 hW_11 hQ_11 hL_11 => ?_)
          · obtain ⟨ws12, hp, hP9, -, hD9, hS9⟩ := gx_back h0_11 hW_11 hQ_11 hL_11 hD hS hA
            clear hQ_11 h0_11 hL_11 hW_11 hP hD hS
            have hP := hP9
            have hD := hD9
            have hS := hS9
            clear hP9 hD9 hS9
            rcases hp with ⟨hv9, e_ws12⟩
            cases hv9
            rw [e_ws12] at hP hD
            refine W.eq (g2 := F0 m 805 ls [Value.int 3]) rfl ?_
            generalize t11.heap = H at hP hS ⊢
            generalize locs ++ L11 = locs at hS ⊢
            refine lv_iload hx hb d_Lw_law_805 (lv_at hl 0 rfl) ?_
            refine lv_icmp_eq (tgt := 812) hx hb d_Lw_law_807 (by decide) (fun _ => ?_) (fun c9 => absurd (by decide) c9)
            refine lv_goto (tgt := 1272) hx hb d_Lw_law_812 (by decide) ?_
            refine W.widen (k := 400) (n := 700000) (by decide) (by decide) ?_
            exact k _ _ ls (by rw [hAe]; exact hS) (lv_sub hl [1, 5] rfl)
          · obtain ⟨E9, ws13, ce, hp, hce, hP9, -, hD9, hS9⟩ := gx_backT h0_11 hW_11 hQ_11 hL_11 hD hS hA
            clear hQ_11 h0_11 hL_11 hW_11 hP hD hS
            have hP := hP9
            have hD := hD9
            have hS := hS9
            clear hP9 hD9 hS9
            rcases hp with ⟨hv9, e_ws13⟩
            cases hv9
        · cases hv9
          have f_46_ws10 : ws10[46]? = some ((q46, Sum.inr (8, [Value.int 0, Value.int 1, Value.ref q47, Value.ref q48, Value.ref q49, Value.int 0, Value.ref q50, Value.ref q51, Value.ref q52, Value.ref q53, Value.int 0, Value.int 0, Value.int 0, Value.int (-1), Value.int 0, Value.ref q54, Value.ref q62, Value.ref q70, Value.int 0, Value.int 0, Value.int 0, Value.ref q78, Value.ref q79, Value.int 0, Value.int 16, Value.int 4, um, Value.ref q80, Value.ref q81, Value.ref q82, Value.int 0, Value.ref q83, Value.int 0, Value.int 0, Value.int 0])) : Nat × va_E) := f_46_ws10
          replace hlen : ws10.length = 117 := by rw [e_ws10.1, hlen]
          replace hU : gx_g ws ws10 0 [0, 1, 2, 3, 4, 5, 6, 7, 8, 9, 10, 11, 12, 13, 14, 15, 16, 17, 18, 19, 20, 21, 22, 23, 24, 25, 26, 27, 28, 29, 30, 31, 32, 33, 34, 35, 36, 37, 38, 39, 40, 41, 42, 43, 44, 45, 46, 47, 48, 49, 50, 51, 52, 53, 54, 55, 56, 57, 58, 59, 60, 61, 62, 63, 64, 65, 66, 67, 68, 69, 70, 71, 72, 73, 74, 75, 76, 77, 78, 79, 80, 81, 82, 83, 84, 85, 86, 87, 88, 89, 90, 91, 92, 93, 94, 95, 96, 97, 98, 99, 100, 101, 102, 103, 104, 105, 106, 107, 108, 109, 110, 111, 112, 113, 114, 115, 116] := hU.call e_ws10 (by rw [hlen0]; decide)
          exact absurd g1_1 g9_1
      · obtain ⟨E9, ws14, ce, hp, hce, hP9, -, hD9, hS9⟩ := gx_backT h0_9 hW_9 hQ_9 hL_9 hD hS hA
        clear hQ_9 h0_9 hL_9 hW_9 hP hD hS
        have hP := hP9
        have hD := hD9
        have hS := hS9
        clear hP9 hD9 hS9
        rcases hp with ⟨hv9, e_ws14, f_46_ws14, g9_0⟩ | ⟨hv9, e_ws14, f_46_ws14, g9_0, g9_1⟩ | ⟨hv9, e_ws14, f_46_ws14, g9_0, g9_1⟩
        · cases hv9
        · cases hv9
        · cases hv9
    · cases hv9
      rw [e_ws2] at hP hD
      refine W.eq (g2 := F0 m 783 ls [Value.int 1]) rfl ?_
      refine W.widen (k := 123) (n := 677760) (by decide) (by decide) ?_
      generalize t1.heap = H at hP hS ⊢
      generalize locs ++ L1 = locs at hS ⊢
      refine lv_istore (lv' := [(5, Value.int 1), (4, Value.int 0), (3, Value.ref q116), (2, Value.ref q46), (1, Value.ref q0), (0, Value.ref b)]) hx hb d_Lw_law_783 hl (by decide) rfl (fun ls hl => ?_)
      refine lv_aload_n hx hb d_Lw_law_785 rfl (lv_at hl 3 rfl) ?_
      refine lv_aload_n hx hb d_Lw_law_786 rfl (lv_at hl 5 rfl) ?_
      refine lv_iload hx hb d_Lw_law_787 (lv_at hl 1 rfl) ?_
      refine lv_iconst (v := 1) hx hb d_Lw_law_789 (by decide) ?_
      refine lv_iadd hx hb d_Lw_law_790 ?_
      refine gx_topi (y := 1) (by decide) ?_
      refine va_sld hx hb hX hbl hbA hS (i := 1) (gx_inl (by decide)) d_Lw_law_791 ?_
      refine gx_topi (y := y1) (by rw [hy1]; rfl) ?_
      refine lv_aload_n hx hb d_Lw_law_792 rfl (lv_at hl 5 rfl) ?_
      refine lv_iload hx hb d_Lw_law_793 (lv_at hl 1 rfl) ?_
      refine lv_iconst (v := 2) hx hb d_Lw_law_795 (by decide) ?_
      refine lv_iadd hx hb d_Lw_law_796 ?_
      refine gx_topi (y := 2) (by decide) ?_
      refine va_sld hx hb hX hbl hbA hS (i := 2) (gx_inl (by decide)) d_Lw_law_797 ?_
      refine gx_topi (y := y2) (by rw [hy2]; rfl) ?_
      refine gx_call (ig := .invokevirtual 146) (c_Mo_harm_v1 l htr D tys z _ ws cV q46 y1 y2 q47 q48 q49 q50 q51 q52 q53 q54 q62 q70 q78 q79 (um) q80 q81 q82 q83 q84 q85 q86 q87 q88 q89 q90 q91 q92 q93 q94 q95 q96 q97 q98 q99 q100 q101 q102 q103 q104 q105 q106 q107 q108 q109 q110 q111 q112 q113 q114 q115 f_46 f_84 f_92 f_100 f_108 f_83 ht5) (gx_invV (As := [Value.int y1, Value.int y2]) (rest := []) hx hb hown hts km_Lw_146 kI_Mo_harm kV_Mo_harm kc_Mo_harm (by decide) (show (parseMethodDescriptor y_Mo_harm.desc).map (fun d => d.parameters.length) = some 2 by decide +kernel) (gx_recv (ci := 8) hK hP rfl f_46) rfl rfl d_Lw_law_798) (gx_cw (z := 0) hts kc_Mo_harm kN_Mo rfl rfl ⟨Nat.le_of_ble_eq_true rfl, Nat.le_of_ble_eq_true rfl⟩) hb hml gx_blind (gx_pre hz hP hK hD hY hS hAz [Value.ref q46, Value.int y1, Value.int y2]) rfl hl.1 (lv_room (Nat.le_of_ble_eq_true rfl)) d_Lw_law_798 ⟨Nat.le_of_ble_eq_true rfl, Nat.le_of_ble_eq_true rfl⟩ (fun v15 st15 t15 L15 h0_15 hW_15 hQ_15 hL_15 => ?_) (fun v15 st15 t15 L15 h0_15 hW_15 hQ_15 hL_15 => ?_)
      · obtain ⟨ws16, hp, hP9, -, hD9, hS9⟩ := gx_back h0_15 hW_15 hQ_15 hL_15 hD hS hA
        clear hQ_15 h0_15 hL_15 hW_15 hP hD hS
        have hP := hP9
        have hD := hD9
        have hS := hS9
        clear hP9 hD9 hS9
        rcases hp with ⟨hv9, e_ws16, f_46_ws16, g15_0⟩ | ⟨hv9, e_ws16, f_46_ws16, g15_0, g15_1⟩ | ⟨hv9, e_ws16, f_46_ws16, g15_0, g15_1⟩
        · cases hv9
          have f_46_ws16 : ws16[46]? = some ((q46, Sum.inr (8, [Value.int 0, Value.int 1, Value.ref q47, Value.ref q48, Value.ref q49, Value.int 0, Value.ref q50, Value.ref q51, Value.ref q52, Value.ref q53, Value.int 0, Value.int 0, Value.int 0, Value.int (-1), Value.int 0, Value.ref q54, Value.ref q62, Value.ref q70, Value.int 0, Value.int 0, Value.int 0, Value.ref q78, Value.ref q79, Value.int 0, Value.int 16, Value.int 4, um, Value.ref q80, Value.ref q81, Value.ref q82, Value.int 0, Value.ref q83, Value.int 0, Value.int 0, Value.int 0])) : Nat × va_E) := f_46_ws16
          replace hlen : ws16.length = 117 := by rw [e_ws16.1, hlen]
          replace hU : gx_g ws ws16 0 [0, 1, 2, 3, 4, 5, 6, 7, 8, 9, 10, 11, 12, 13, 14, 15, 16, 17, 18, 19, 20, 21, 22, 23, 24, 25, 26, 27, 28, 29, 30, 31, 32, 33, 34, 35, 36, 37, 38, 39, 40, 41, 42, 43, 44, 45, 46, 47, 48, 49, 50, 51, 52, 53, 54, 55, 56, 57, 58, 59, 60, 61, 62, 63, 64, 65, 66, 67, 68, 69, 70, 71, 72, 73, 74, 75, 76, 77, 78, 79, 80, 81, 82, 83, 84, 85, 86, 87, 88, 89, 90, 91, 92, 93, 94, 95, 96, 97, 98, 99, 100, 101, 102, 103, 104, 105, 106, 107, 108, 109, 110, 111, 112, 113, 114, 115, 116] := hU.call e_ws16 (by rw [hlen0]; decide)
          exact absurd g15_0 g1_0
        · cases hv9
          have f_46_ws16 : ws16[46]? = some ((q46, Sum.inr (8, [Value.int 0, Value.int 3, Value.ref q47, Value.ref q48, Value.ref q49, Value.int 0, Value.ref q50, Value.ref q51, Value.ref q52, Value.ref q53, Value.int 0, Value.int 0, Value.int 0, Value.int (-1), Value.int 0, Value.ref q54, Value.ref q62, Value.ref q70, Value.int 0, Value.int 0, Value.int 0, Value.ref q78, Value.ref q79, Value.int 0, Value.int 16, Value.int 4, um, Value.ref q80, Value.ref q81, Value.ref q82, Value.int 0, Value.ref q83, Value.int 0, Value.int 0, Value.int 0])) : Nat × va_E) := f_46_ws16
          replace hlen : ws16.length = 117 := by rw [e_ws16.1, hlen]
          replace hU : gx_g ws ws16 0 [0, 1, 2, 3, 4, 5, 6, 7, 8, 9, 10, 11, 12, 13, 14, 15, 16, 17, 18, 19, 20, 21, 22, 23, 24, 25, 26, 27, 28, 29, 30, 31, 32, 33, 34, 35, 36, 37, 38, 39, 40, 41, 42, 43, 44, 45, 46, 47, 48, 49, 50, 51, 52, 53, 54, 55, 56, 57, 58, 59, 60, 61, 62, 63, 64, 65, 66, 67, 68, 69, 70, 71, 72, 73, 74, 75, 76, 77, 78, 79, 80, 81, 82, 83, 84, 85, 86, 87, 88, 89, 90, 91, 92, 93, 94, 95, 96, 97, 98, 99, 100, 101, 102, 103, 104, 105, 106, 107, 108, 109, 110, 111, 112, 113, 114, 115, 116] := hU.call e_ws16 (by rw [hlen0]; decide)
          exact absurd g15_1 g1_1
        · cases hv9
          have f_46_ws16 : ws16[46]? = some ((q46, Sum.inr (8, [Value.int 0, Value.int 1, Value.ref q47, Value.ref q48, Value.ref q49, Value.int 0, Value.ref q50, Value.ref q51, Value.ref q52, Value.ref q53, Value.int 0, Value.int 0, Value.int 0, Value.int (-1), Value.int 0, Value.ref q54, Value.ref q62, Value.ref q70, Value.int 0, Value.int 0, Value.int 0, Value.ref q78, Value.ref q79, Value.int 0, Value.int 16, Value.int 4, um, Value.ref q80, Value.ref q81, Value.ref q82, Value.int 0, Value.ref q83, Value.int 0, Value.int 0, Value.int 0])) : Nat × va_E) := f_46_ws16
          replace hlen : ws16.length = 117 := by rw [e_ws16.1, hlen]
          replace hU : gx_g ws ws16 0 [0, 1, 2, 3, 4, 5, 6, 7, 8, 9, 10, 11, 12, 13, 14, 15, 16, 17, 18, 19, 20, 21, 22, 23, 24, 25, 26, 27, 28, 29, 30, 31, 32, 33, 34, 35, 36, 37, 38, 39, 40, 41, 42, 43, 44, 45, 46, 47, 48, 49, 50, 51, 52, 53, 54, 55, 56, 57, 58, 59, 60, 61, 62, 63, 64, 65, 66, 67, 68, 69, 70, 71, 72, 73, 74, 75, 76, 77, 78, 79, 80, 81, 82, 83, 84, 85, 86, 87, 88, 89, 90, 91, 92, 93, 94, 95, 96, 97, 98, 99, 100, 101, 102, 103, 104, 105, 106, 107, 108, 109, 110, 111, 112, 113, 114, 115, 116] := hU.call e_ws16 (by rw [hlen0]; decide)
          refine W.eq (g2 := F0 m 801 ls []) rfl ?_
          generalize t15.heap = H at hP hS ⊢
          generalize locs ++ L15 = locs at hS ⊢
          refine lv_aload_n hx hb d_Lw_law_801 rfl (lv_at hl 3 rfl) ?_
          refine gx_call (ig := .invokevirtual 98) (c_Mo_thrown l htr D tys z _ ws16 q46 46 (Value.int 0) 1 (Value.ref q47) (Value.ref q48) (Value.ref q49) (Value.int 0) (Value.ref q50) (Value.ref q51) (Value.ref q52) (Value.ref q53) (Value.int 0) (Value.int 0) (Value.int 0) (Value.int (-1)) (Value.int 0) (Value.ref q54) (Value.ref q62) (Value.ref q70) (Value.int 0) (Value.int 0) (Value.int 0) (Value.ref q78) (Value.ref q79) (Value.int 0) (Value.int 16) (Value.int 4) (um) (Value.ref q80) (Value.ref q81) (Value.ref q82) (Value.int 0) (Value.ref q83) (Value.int 0) (Value.int 0) (Value.int 0) f_46_ws16) (gx_invV (As := []) (rest := []) hx hb hown hts km_Lw_98 kI_Mo_thrown kV_Mo_thrown kc_Mo_thrown (by decide) (show (parseMethodDescriptor y_Mo_thrown.desc).map (fun d => d.parameters.length) = some 0 by decide +kernel) (gx_recv (ci := 8) hK hP rfl f_46_ws16) rfl rfl d_Lw_law_802) (gx_cw (z := 0) hts kc_Mo_thrown kN_Mo rfl rfl ⟨Nat.le_of_ble_eq_true rfl, Nat.le_of_ble_eq_true rfl⟩) hb hml gx_blind (gx_pre hz hP hK hD hY hS hAz [Value.ref q46]) rfl hl.1 (lv_room (Nat.le_of_ble_eq_true rfl)) d_Lw_law_802 ⟨Nat.le_of_ble_eq_true rfl, Nat.le_of_ble_eq_true rfl⟩ (fun v17 st17 t17 L17 h0_17 hW_17 hQ_17 hL_17 => ?_) (fun v17 st17 t17 L17 h0_17 hW_17 hQ_17 hL_17 => ?_)
          · obtain ⟨ws18, hp, hP9, -, hD9, hS9⟩ := gx_back h0_17 hW_17 hQ_17 hL_17 hD hS hA
            clear hQ_17 h0_17 hL_17 hW_17 hP hD hS
            have hP := hP9
            have hD := hD9
            have hS := hS9
            clear hP9 hD9 hS9
            rcases hp with ⟨hv9, e_ws18⟩
            cases hv9
            rw [e_ws18] at hP hD
            refine W.eq (g2 := F0 m 805 ls [Value.int 1]) rfl ?_
            generalize t17.heap = H at hP hS ⊢
            generalize locs ++ L17 = locs at hS ⊢
            refine lv_iload hx hb d_Lw_law_805 (lv_at hl 0 rfl) ?_
            refine lv_icmp_eq (tgt := 812) hx hb d_Lw_law_807 (by decide) (fun _ => ?_) (fun c9 => absurd (by decide) c9)
            refine lv_goto (tgt := 1272) hx hb d_Lw_law_812 (by decide) ?_
            refine W.widen (k := 400) (n := 700000) (by decide) (by decide) ?_
            exact k _ _ ls (by rw [hAe]; exact hS) (lv_sub hl [1, 5] rfl)
          · obtain ⟨E9, ws19, ce, hp, hce, hP9, -, hD9, hS9⟩ := gx_backT h0_17 hW_17 hQ_17 hL_17 hD hS hA
            clear hQ_17 h0_17 hL_17 hW_17 hP hD hS
            have hP := hP9
            have hD := hD9
            have hS := hS9
            clear hP9 hD9 hS9
            rcases hp with ⟨hv9, e_ws19⟩
            cases hv9
      · obtain ⟨E9, ws20, ce, hp, hce, hP9, -, hD9, hS9⟩ := gx_backT h0_15 hW_15 hQ_15 hL_15 hD hS hA
        clear hQ_15 h0_15 hL_15 hW_15 hP hD hS
        have hP := hP9
        have hD := hD9
        have hS := hS9
        clear hP9 hD9 hS9
        rcases hp with ⟨hv9, e_ws20, f_46_ws20, g15_0⟩ | ⟨hv9, e_ws20, f_46_ws20, g15_0, g15_1⟩ | ⟨hv9, e_ws20, f_46_ws20, g15_0, g15_1⟩
        · cases hv9
        · cases hv9
        · cases hv9
  · obtain ⟨E9, ws21, ce, hp, hce, hP9, -, hD9, hS9⟩ := gx_backT h0_1 hW_1 hQ_1 hL_1 hD hS hA
    clear hQ_1 h0_1 hL_1 hW_1 hP hD hS
    have hP := hP9
    have hD := hD9
    have hS := hS9
    clear hP9 hD9 hS9
    rcases hp with ⟨hv9, e_ws21, g1_0⟩ | ⟨hv9, e_ws21, g1_0, g1_1⟩ | ⟨hv9, e_ws21, g1_0, g1_1⟩
    · cases hv9
    · cases hv9
    · cases hv9

set_option maxHeartbeats 4000000 in
set_option maxRecDepth 100000 in
theorem law_t14 {p : Program} {e : Env} {s : State} {m : MethodId} {below : List Frame} {meth : Method} {c : Code} {Q : State → Prop} (l : Launch) (htr : l.stackTraces = false) {b : Nat} {xs : Nat → Int32} (hx : p.tables.exec = Jvm.exec) (hb : c.code = code) (hml : c.maxLocals = 7) (hown : s.vm.findClass "CommitLedgerLaw" = some m.cls) (hts1 : ∀ w ∈ lw_tbl, w.before #[Value.ref b] s = true) (hgv : (Jvm.Cond.and given_1 narrow_1).before #[Value.ref b] s = true) (hX : va_X b 4 xs s s.heap) (hbl : b < s.heap.size) (D : va_G) (tys : List (ClassId × FieldType)) (cI cZ cF cM cR cV cJ : ClassId) (q0 q1 q2 q3 q4 q5 q6 q7 q8 q9 q10 q11 q12 q13 q14 q15 q16 q17 q18 q19 q20 q21 q22 q23 q24 q25 q26 q27 q28 q29 q30 q31 q32 q33 q34 q35 q36 q37 q38 q39 q40 q41 q42 q43 q44 q45 q46 q47 q48 q49 q50 q51 q52 q53 q54 q55 q56 q57 q58 q59 q60 q61 q62 q63 q64 q65 q66 q67 q68 q69 q70 q71 q72 q73 q74 q75 q76 q77 q78 q79 q80 q81 q82 q83 q84 q85 q86 q87 q88 q89 q90 q91 q92 q93 q94 q95 q96 q97 q98 q99 q100 q101 q102 q103 q104 q105 q106 q107 q108 q109 q110 q111 q112 q113 q114 q115 q116 : Nat) (u0 u1 um : Value) (ws : va_W) (H : Heap) (locs : List Loc) (ls : Array Slot) (hK : va_K D classes tys s) (htys : tys = [(cI, FieldType.int), (cZ, FieldType.boolean), (cF, FieldType.object "CommitLedger$LedgerFile"), (cM, FieldType.object "CommitLedger$Merge"), (cR, FieldType.object "CommitLedger$Reader"), (cV, FieldType.object "CommitLedgerModel$Version"), (cJ, FieldType.long)]) (hP : va_P D classes ws H) (hD : va_D (fun q : Nat => s.heap.size ≤ q) ws) (hS : va_S (fun q : Nat => s.heap.size ≤ q) s.heap H locs) (hlen : ws.length = 117) (f_0 : ws[0]? = some ((q0, Sum.inr (0, [Value.ref q1, Value.ref q5, Value.ref q8, Value.ref q20, Value.ref q25, Value.ref q12, Value.ref q16, Value.int 0, Value.int 0, Value.int 0, Value.int 16, Value.int 4, Value.int 0, Value.int 0, Value.int 0, Value.int 0, Value.int 0, Value.int (-1)])) : Nat × va_E)) (f_25 : ws[25]? = some ((q25, Sum.inl (cR, 4, Sum.inr (Sum.inr (Sum.inr (Sum.inr (va_up (va_up (va_up (va_up (fun _ => none) 0 (some q26)) 1 (some q31)) 2 (some q36)) 3 (some q41))))))) : Nat × va_E)) (f_26 : ws[26]? = some ((q26, Sum.inr (6, [Value.ref q27, Value.int 0, Value.int 0])) : Nat × va_E)) (f_46 : ws[46]? = some ((q46, Sum.inr (8, [Value.int 0, Value.int 0, Value.ref q47, Value.ref q48, Value.ref q49, Value.int 0, Value.ref q50, Value.ref q51, Value.ref q52, Value.ref q53, Value.int 0, Value.int 0, Value.int 0, Value.int (-1), Value.int 0, Value.ref q54, Value.ref q62, Value.ref q70, Value.int 0, Value.int 0, Value.int 0, Value.ref q78, Value.ref q79, Value.int 0, Value.int 16, Value.int 4, um, Value.ref q80, Value.ref q81, Value.ref q82, Value.int 0, Value.ref q83, Value.int 0, Value.int 0, Value.int 0])) : Nat × va_E)) (f_83 : ws[83]? = some ((q83, Sum.inl (cV, 4, Sum.inr (Sum.inr (Sum.inr (Sum.inr (va_up (va_up (va_up (va_up (fun _ => none) 0 (some q84)) 1 (some q92)) 2 (some q100)) 3 (some q108))))))) : Nat × va_E)) (f_84 : ws[84]? = some ((q84, Sum.inr (9, [Value.ref q85, Value.ref q86, Value.ref q87, Value.ref q88, Value.ref q89, Value.ref q90, Value.ref q91, Value.int 0, Value.int 0, Value.int 0, Value.int 0])) : Nat × va_E)) (hl : lv_has ls 7 [(4, Value.int 0), (3, Value.ref q116), (2, Value.ref q46), (1, Value.ref q0), (0, Value.ref b)])
    (k : ∀ (H : Heap) (locs : List Loc) (ls : Array Slot), va_S (fun q : Nat => s.heap.size ≤ q) s.heap H locs → lv_has ls 7 [(4, Value.int 0), (0, Value.ref b)] → W p l e room_1 s m #[Value.ref b] below meth c H locs 400 700000 Q (F0 m 1272 ls [])) :
    W p l e room_1 s m #[Value.ref b] below meth c H locs 122 677754 Q (F0 m 815 ls []) := by
  have ht0 : tys[0]? = some ((cI, FieldType.int) : ClassId × FieldType) := by rw [htys]; rfl
  have ht1 : tys[1]? = some ((cZ, FieldType.boolean) : ClassId × FieldType) := by rw [htys]; rfl
  have ht2 : tys[2]? = some ((cF, FieldType.object "CommitLedger$LedgerFile") : ClassId × FieldType) := by rw [htys]; rfl
  have ht3 : tys[3]? = some ((cM, FieldType.object "CommitLedger$Merge") : ClassId × FieldType) := by rw [htys]; rfl
  have ht4 : tys[4]? = some ((cR, FieldType.object "CommitLedger$Reader") : ClassId × FieldType) := by rw [htys]; rfl
  have ht5 : tys[5]? = some ((cV, FieldType.object "CommitLedgerModel$Version") : ClassId × FieldType) := by rw [htys]; rfl
  have ht6 : tys[6]? = some ((cJ, FieldType.long) : ClassId × FieldType) := by rw [htys]; rfl
  have hY := gx_Y0 hts1 hgv
  have hts := gx_hts0 hts1 hgv
  obtain ⟨z, hzz⟩ : ∃ x : Nat, x = s.heap.size := ⟨_, rfl⟩
  rw [← hzz] at hY
  have hz : z ≤ s.heap.size := Nat.le_of_eq hzz
  have hAz : ∀ q : Nat, (fun q : Nat => s.heap.size ≤ q) q → z ≤ q := fun q h => by rw [hzz]; exact h
  have hA : ∀ q : Nat, s.heap.size ≤ q → (fun q : Nat => s.heap.size ≤ q) q := fun _ h => h
  have hbA : ¬ (fun q : Nat => s.heap.size ≤ q) b := Nat.not_le.mpr hbl
  have hN : gx_NS (fun q : Nat => s.heap.size ≤ q) s := fun q cell h hc => absurd (Array.getElem?_eq_some_iff.mp hc).1 (Nat.not_lt.mpr h)
  have hlen0 := hlen
  have hU : gx_g ws ws 0 [0, 1, 2, 3, 4, 5, 6, 7, 8, 9, 10, 11, 12, 13, 14, 15, 16, 17, 18, 19, 20, 21, 22, 23, 24, 25, 26, 27, 28, 29, 30, 31, 32, 33, 34, 35, 36, 37, 38, 39, 40, 41, 42, 43, 44, 45, 46, 47, 48, 49, 50, 51, 52, 53, 54, 55, 56, 57, 58, 59, 60, 61, 62, 63, 64, 65, 66, 67, 68, 69, 70, 71, 72, 73, 74, 75, 76, 77, 78, 79, 80, 81, 82, 83, 84, 85, 86, 87, 88, 89, 90, 91, 92, 93, 94, 95, 96, 97, 98, 99, 100, 101, 102, 103, 104, 105, 106, 107, 108, 109, 110, 111, 112, 113, 114, 115, 116] := gx_g.rf
  obtain ⟨y0, hy0⟩ : ∃ y : Int32, y = xs 0 := ⟨_, rfl⟩
  obtain ⟨y1, hy1⟩ : ∃ y : Int32, y = xs 1 := ⟨_, rfl⟩
  obtain ⟨y2, hy2⟩ : ∃ y : Int32, y = xs 2 := ⟨_, rfl⟩
  obtain ⟨y3, hy3⟩ : ∃ y : Int32, y = xs 3 := ⟨_, rfl⟩
  generalize hAe : (fun q : Nat => s.heap.size ≤ q) = A at hD hN hA hAz hS hbA
  refine lv_aload_n hx hb d_Lw_law_815 rfl (lv_at hl 3 rfl) ?_
  refine lv_aload_n hx hb d_Lw_law_816 rfl (lv_at hl 4 rfl) ?_
  refine lv_iload hx hb d_Lw_law_817 (lv_at hl 0 rfl) ?_
  refine lv_iconst (v := 1) hx hb d_Lw_law_819 (by decide) ?_
  refine lv_iadd hx hb d_Lw_law_820 ?_
  refine gx_topi (y := 1) (by decide) ?_
  refine va_sld hx hb hX hbl hbA hS (i := 1) (gx_inl (by decide)) d_Lw_law_821 ?_
  refine gx_topi (y := y1) (by rw [hy1]; rfl) ?_
  refine lv_aload_n hx hb d_Lw_law_822 rfl (lv_at hl 1 rfl) ?_
  refine gx_callH (ig := .invokestatic 147) (c_Lw_reader_v1 l htr D tys z _ ws cR q0 y1 q116 q1 q5 q8 q20 q25 q12 q16 q26 q31 q36 q41 q27 f_0 f_25 f_26 ht4) (gx_invSH (As := [Value.ref q0, Value.int y1, Value.ref q116]) (rest := []) hx hb hown hts km_Lw_147 kS_Lw_reader kN_Lw kc_Lw_reader (by decide) (show (parseMethodDescriptor y_Lw_reader.desc).map (fun d => d.parameters.length) = some 3 by decide +kernel) rfl rfl d_Lw_law_823) (gx_cwH hts kc_Lw_reader kN_Lw rfl rfl ⟨Nat.le_of_ble_eq_true rfl, Nat.le_of_ble_eq_true rfl⟩) hb hml gx_blind (gx_pre hz hP hK hD hY hS hAz [Value.ref q0, Value.int y1, Value.ref q116]) rfl hl.1 (lv_room (Nat.le_of_ble_eq_true rfl)) d_Lw_law_823 ⟨Nat.le_of_ble_eq_true rfl, Nat.le_of_ble_eq_true rfl⟩ (fun v1 st1 t1 L1 h0_1 hW_1 hQ_1 hL_1 => ?_) (fun v1 st1 t1 L1 h0_1 hW_1 hQ_1 hL_1 => ?_)
  · obtain ⟨ws2, hp, hP9, -, hD9, hS9⟩ := gx_back h0_1 hW_1 hQ_1 hL_1 hD hS hA
    clear hQ_1 h0_1 hL_1 hW_1 hP hD hS
    have hP := hP9
    have hD := hD9
    have hS := hS9
    clear hP9 hD9 hS9
    rcases hp with ⟨hv9, e_ws2, g1_0, g1_1, g1_2⟩ | ⟨hv9, e_ws2, g1_0, g1_1, g1_2⟩ | ⟨hv9, e_ws2, g1_0⟩ | ⟨hv9, e_ws2, g1_0, g1_1⟩
    · cases hv9
      rw [e_ws2] at hP hD
      refine W.eq (g2 := F0 m 826 ls [Value.int 3]) rfl ?_
      refine W.widen (k := 124) (n := 677766) (by decide) (by decide) ?_
      generalize t1.heap = H at hP hS ⊢
      generalize locs ++ L1 = locs at hS ⊢
      refine lv_istore (lv' := [(5, Value.int 3), (4, Value.int 0), (3, Value.ref q116), (2, Value.ref q46), (1, Value.ref q0), (0, Value.ref b)]) hx hb d_Lw_law_826 hl (by decide) rfl (fun ls hl => ?_)
      refine lv_aload_n hx hb d_Lw_law_828 rfl (lv_at hl 3 rfl) ?_
      refine lv_aload_n hx hb d_Lw_law_829 rfl (lv_at hl 5 rfl) ?_
      refine lv_iload hx hb d_Lw_law_830 (lv_at hl 1 rfl) ?_
      refine lv_iconst (v := 1) hx hb d_Lw_law_832 (by decide) ?_
      refine lv_iadd hx hb d_Lw_law_833 ?_
      refine gx_topi (y := 1) (by decide) ?_
      refine va_sld hx hb hX hbl hbA hS (i := 1) (gx_inl (by decide)) d_Lw_law_834 ?_
      refine gx_topi (y := y1) (by rw [hy1]; rfl) ?_
      refine gx_call (ig := .invokevirtual 149) (c_Mo_reader_v1 l htr D tys z _ ws cV q46 y1 q47 q48 q49 q50 q51 q52 q53 q54 q62 q70 q78 q79 (um) q80 q81 q82 q83 q84 q85 q86 q87 q88 q89 q90 q91 q92 q100 q108 f_46 f_84 f_83 ht5) (gx_invV (As := [Value.int y1]) (rest := []) hx hb hown hts km_Lw_149 kI_Mo_reader kV_Mo_reader kc_Mo_reader (by decide) (show (parseMethodDescriptor y_Mo_reader.desc).map (fun d => d.parameters.length) = some 1 by decide +kernel) (gx_recv (ci := 8) hK hP rfl f_46) rfl rfl d_Lw_law_835) (gx_cw (z := 0) hts kc_Mo_reader kN_Mo rfl rfl ⟨Nat.le_of_ble_eq_true rfl, Nat.le_of_ble_eq_true rfl⟩) hb hml gx_blind (gx_pre hz hP hK hD hY hS hAz [Value.ref q46, Value.int y1]) rfl hl.1 (lv_room (Nat.le_of_ble_eq_true rfl)) d_Lw_law_835 ⟨Nat.le_of_ble_eq_true rfl, Nat.le_of_ble_eq_true rfl⟩ (fun v3 st3 t3 L3 h0_3 hW_3 hQ_3 hL_3 => ?_) (fun v3 st3 t3 L3 h0_3 hW_3 hQ_3 hL_3 => ?_)
      · obtain ⟨ws4, hp, hP9, -, hD9, hS9⟩ := gx_back h0_3 hW_3 hQ_3 hL_3 hD hS hA
        clear hQ_3 h0_3 hL_3 hW_3 hP hD hS
        have hP := hP9
        have hD := hD9
        have hS := hS9
        clear hP9 hD9 hS9
        rcases hp with ⟨hv9, e_ws4, f_46_ws4, g3_0⟩ | ⟨hv9, e_ws4, f_46_ws4, g3_0, g3_1, g3_2, g3_3⟩ | ⟨hv9, e_ws4, f_46_ws4, g3_0, g3_1, g3_2⟩ | ⟨hv9, e_ws4, f_46_ws4, g3_0, g3_1⟩
        · cases hv9
          have f_46_ws4 : ws4[46]? = some ((q46, Sum.inr (8, [Value.int 0, Value.int 1, Value.ref q47, Value.ref q48, Value.ref q49, Value.int 0, Value.ref q50, Value.ref q51, Value.ref q52, Value.ref q53, Value.int 0, Value.int 0, Value.int 0, Value.int (-1), Value.int 0, Value.ref q54, Value.ref q62, Value.ref q70, Value.int 0, Value.int 0, Value.int 0, Value.ref q78, Value.ref q79, Value.int 0, Value.int 16, Value.int 4, um, Value.ref q80, Value.ref q81, Value.ref q82, Value.int 0, Value.ref q83, Value.int 0, Value.int 0, Value.int 0])) : Nat × va_E) := f_46_ws4
          replace hlen : ws4.length = 117 := by rw [e_ws4.1, hlen]
          replace hU : gx_g ws ws4 0 [0, 1, 2, 3, 4, 5, 6, 7, 8, 9, 10, 11, 12, 13, 14, 15, 16, 17, 18, 19, 20, 21, 22, 23, 24, 25, 26, 27, 28, 29, 30, 31, 32, 33, 34, 35, 36, 37, 38, 39, 40, 41, 42, 43, 44, 45, 46, 47, 48, 49, 50, 51, 52, 53, 54, 55, 56, 57, 58, 59, 60, 61, 62, 63, 64, 65, 66, 67, 68, 69, 70, 71, 72, 73, 74, 75, 76, 77, 78, 79, 80, 81, 82, 83, 84, 85, 86, 87, 88, 89, 90, 91, 92, 93, 94, 95, 96, 97, 98, 99, 100, 101, 102, 103, 104, 105, 106, 107, 108, 109, 110, 111, 112, 113, 114, 115, 116] := hU.call e_ws4 (by rw [hlen0]; decide)
          exact absurd g3_0 g1_0
        · cases hv9
          have f_46_ws4 : ws4[46]? = some ((q46, Sum.inr (8, [Value.int 0, Value.int 3, Value.ref q47, Value.ref q48, Value.ref q49, Value.int 0, Value.ref q50, Value.ref q51, Value.ref q52, Value.ref q53, Value.int 0, Value.int 0, Value.int 0, Value.int (-1), Value.int 0, Value.ref q54, Value.ref q62, Value.ref q70, Value.int 0, Value.int 0, Value.int 0, Value.ref q78, Value.ref q79, Value.int 0, Value.int 16, Value.int 4, um, Value.ref q80, Value.ref q81, Value.ref q82, Value.int 0, Value.ref q83, Value.int 0, Value.int 0, Value.int 0])) : Nat × va_E) := f_46_ws4
          replace hlen : ws4.length = 117 := by rw [e_ws4.1, hlen]
          replace hU : gx_g ws ws4 0 [0, 1, 2, 3, 4, 5, 6, 7, 8, 9, 10, 11, 12, 13, 14, 15, 16, 17, 18, 19, 20, 21, 22, 23, 24, 25, 26, 27, 28, 29, 30, 31, 32, 33, 34, 35, 36, 37, 38, 39, 40, 41, 42, 43, 44, 45, 46, 47, 48, 49, 50, 51, 52, 53, 54, 55, 56, 57, 58, 59, 60, 61, 62, 63, 64, 65, 66, 67, 68, 69, 70, 71, 72, 73, 74, 75, 76, 77, 78, 79, 80, 81, 82, 83, 84, 85, 86, 87, 88, 89, 90, 91, 92, 93, 94, 95, 96, 97, 98, 99, 100, 101, 102, 103, 104, 105, 106, 107, 108, 109, 110, 111, 112, 113, 114, 115, 116] := hU.call e_ws4 (by rw [hlen0]; decide)
          refine W.eq (g2 := F0 m 838 ls [Value.int 0]) rfl ?_
          generalize t3.heap = H at hP hS ⊢
          generalize locs ++ L3 = locs at hS ⊢
          refine lv_istore (lv' := [(6, Value.int 0), (5, Value.int 3), (4, Value.int 0), (3, Value.ref q116), (2, Value.ref q46), (1, Value.ref q0), (0, Value.ref b)]) hx hb d_Lw_law_838 hl (by decide) rfl (fun ls hl => ?_)
          refine lv_aload_n hx hb d_Lw_law_840 rfl (lv_at hl 4 rfl) ?_
          refine gx_call (ig := .invokevirtual 98) (c_Mo_thrown l htr D tys z _ ws4 q46 46 (Value.int 0) 3 (Value.ref q47) (Value.ref q48) (Value.ref q49) (Value.int 0) (Value.ref q50) (Value.ref q51) (Value.ref q52) (Value.ref q53) (Value.int 0) (Value.int 0) (Value.int 0) (Value.int (-1)) (Value.int 0) (Value.ref q54) (Value.ref q62) (Value.ref q70) (Value.int 0) (Value.int 0) (Value.int 0) (Value.ref q78) (Value.ref q79) (Value.int 0) (Value.int 16) (Value.int 4) (um) (Value.ref q80) (Value.ref q81) (Value.ref q82) (Value.int 0) (Value.ref q83) (Value.int 0) (Value.int 0) (Value.int 0) f_46_ws4) (gx_invV (As := []) (rest := []) hx hb hown hts km_Lw_98 kI_Mo_thrown kV_Mo_thrown kc_Mo_thrown (by decide) (show (parseMethodDescriptor y_Mo_thrown.desc).map (fun d => d.parameters.length) = some 0 by decide +kernel) (gx_recv (ci := 8) hK hP rfl f_46_ws4) rfl rfl d_Lw_law_841) (gx_cw (z := 0) hts kc_Mo_thrown kN_Mo rfl rfl ⟨Nat.le_of_ble_eq_true rfl, Nat.le_of_ble_eq_true rfl⟩) hb hml gx_blind (gx_pre hz hP hK hD hY hS hAz [Value.ref q46]) rfl hl.1 (lv_room (Nat.le_of_ble_eq_true rfl)) d_Lw_law_841 ⟨Nat.le_of_ble_eq_true rfl, Nat.le_of_ble_eq_true rfl⟩ (fun v5 st5 t5 L5 h0_5 hW_5 hQ_5 hL_5 => ?_) (fun v5 st5 t5 L5 h0_5 hW_5 hQ_5 hL_5 => ?_)
          · obtain ⟨ws6, hp, hP9, -, hD9, hS9⟩ := gx_back h0_5 hW_5 hQ_5 hL_5 hD hS hA
            clear hQ_5 h0_5 hL_5 hW_5 hP hD hS
            have hP := hP9
            have hD := hD9
            have hS := hS9
            clear hP9 hD9 hS9
            rcases hp with ⟨hv9, e_ws6⟩
            cases hv9
            rw [e_ws6] at hP hD
            refine W.eq (g2 := F0 m 844 ls [Value.int 3]) rfl ?_
            generalize t5.heap = H at hP hS ⊢
            generalize locs ++ L5 = locs at hS ⊢
            refine lv_iload hx hb d_Lw_law_844 (lv_at hl 1 rfl) ?_
            refine lv_icmp_eq (tgt := 851) hx hb d_Lw_law_846 (by decide) (fun _ => ?_) (fun c9 => absurd (by decide) c9)
            refine lv_iload hx hb d_Lw_law_851 (lv_at hl 1 rfl) ?_
            refine lv_if_ne (tgt := 868) hx hb d_Lw_law_853 (by decide) (fun _ => ?_) (fun c9 => absurd c9 (by decide))
            refine lv_goto (tgt := 1272) hx hb d_Lw_law_868 (by decide) ?_
            refine W.widen (k := 400) (n := 700000) (by decide) (by decide) ?_
            exact k _ _ ls (by rw [hAe]; exact hS) (lv_sub hl [2, 6] rfl)
          · obtain ⟨E9, ws7, ce, hp, hce, hP9, -, hD9, hS9⟩ := gx_backT h0_5 hW_5 hQ_5 hL_5 hD hS hA
            clear hQ_5 h0_5 hL_5 hW_5 hP hD hS
            have hP := hP9
            have hD := hD9
            have hS := hS9
            clear hP9 hD9 hS9
            rcases hp with ⟨hv9, e_ws7⟩
            cases hv9
        · cases hv9
          have f_46_ws4 : ws4[46]? = some ((q46, Sum.inr (8, [Value.int 0, Value.int 2, Value.ref q47, Value.ref q48, Value.ref q49, Value.int 0, Value.ref q50, Value.ref q51, Value.ref q52, Value.ref q53, Value.int 0, Value.int 0, Value.int 0, Value.int (-1), Value.int 0, Value.ref q54, Value.ref q62, Value.ref q70, Value.int 0, Value.int 0, Value.int 0, Value.ref q78, Value.ref q79, Value.int 0, Value.int 16, Value.int 4, um, Value.ref q80, Value.ref q81, Value.ref q82, Value.int 0, Value.ref q83, Value.int 0, Value.int 0, Value.int 0])) : Nat × va_E) := f_46_ws4
          replace hlen : ws4.length = 117 := by rw [e_ws4.1, hlen]
          replace hU : gx_g ws ws4 0 [0, 1, 2, 3, 4, 5, 6, 7, 8, 9, 10, 11, 12, 13, 14, 15, 16, 17, 18, 19, 20, 21, 22, 23, 24, 25, 26, 27, 28, 29, 30, 31, 32, 33, 34, 35, 36, 37, 38, 39, 40, 41, 42, 43, 44, 45, 46, 47, 48, 49, 50, 51, 52, 53, 54, 55, 56, 57, 58, 59, 60, 61, 62, 63, 64, 65, 66, 67, 68, 69, 70, 71, 72, 73, 74, 75, 76, 77, 78, 79, 80, 81, 82, 83, 84, 85, 86, 87, 88, 89, 90, 91, 92, 93, 94, 95, 96, 97, 98, 99, 100, 101, 102, 103, 104, 105, 106, 107, 108, 109, 110, 111, 112, 113, 114, 115, 116] := hU.call e_ws4 (by rw [hlen0]; decide)
          exact absurd g3_2 g1_2
        · cases hv9
          have f_46_ws4 : ws4[46]? = some ((q46, Sum.inr (8, [Value.int 0, Value.int 1, Value.ref q47, Value.ref q48, Value.ref q49, Value.int 0, Value.ref q50, Value.ref q51, Value.ref q52, Value.ref q53, Value.int 0, Value.int 0, Value.int 0, Value.int (-1), Value.int 0, Value.ref q54, Value.ref q62, Value.ref q70, Value.int 0, Value.int 0, Value.int 0, Value.ref q78, Value.ref q79, Value.int 0, Value.int 16, Value.int 4, um, Value.ref q80, Value.ref q81, Value.ref q82, Value.int 0, Value.ref q83, Value.int 0, Value.int 0, Value.int 0])) : Nat × va_E) := f_46_ws4
          replace hlen : ws4.length = 117 := by rw [e_ws4.1, hlen]
          replace hU : gx_g ws ws4 0 [0, 1, 2, 3, 4, 5, 6, 7, 8, 9, 10, 11, 12, 13, 14, 15, 16, 17, 18, 19, 20, 21, 22, 23, 24, 25, 26, 27, 28, 29, 30, 31, 32, 33, 34, 35, 36, 37, 38, 39, 40, 41, 42, 43, 44, 45, 46, 47, 48, 49, 50, 51, 52, 53, 54, 55, 56, 57, 58, 59, 60, 61, 62, 63, 64, 65, 66, 67, 68, 69, 70, 71, 72, 73, 74, 75, 76, 77, 78, 79, 80, 81, 82, 83, 84, 85, 86, 87, 88, 89, 90, 91, 92, 93, 94, 95, 96, 97, 98, 99, 100, 101, 102, 103, 104, 105, 106, 107, 108, 109, 110, 111, 112, 113, 114, 115, 116] := hU.call e_ws4 (by rw [hlen0]; decide)
          exact absurd g1_1 g3_1
      · obtain ⟨E9, ws8, ce, hp, hce, hP9, -, hD9, hS9⟩ := gx_backT h0_3 hW_3 hQ_3 hL_3 hD hS hA
        clear hQ_3 h0_3 hL_3 hW_3 hP hD hS
        have hP := hP9
        have hD := hD9
        have hS := hS9
        clear hP9 hD9 hS9
        rcases hp with ⟨hv9, e_ws8, f_46_ws8, g3_0⟩ | ⟨hv9, e_ws8, f_46_ws8, g3_0, g3_1, g3_2, g3_3⟩ | ⟨hv9, e_ws8, f_46_ws8, g3_0, g3_1, g3_2⟩ | ⟨hv9, e_ws8, f_46_ws8, g3_0, g3_1⟩
        · cases hv9
        · cases hv9
        · cases hv9
        · cases hv9
    · cases hv9
      rw [e_ws2] at hP hD
      refine W.eq (g2 := F0 m 826 ls [Value.int 2]) rfl ?_
      refine W.widen (k := 124) (n := 677766) (by decide) (by decide) ?_
      generalize t1.heap = H at hP hS ⊢
      generalize locs ++ L1 = locs at hS ⊢
      refine lv_istore (lv' := [(5, Value.int 2), (4, Value.int 0), (3, Value.ref q116), (2, Value.ref q46), (1, Value.ref q0), (0, Value.ref b)]) hx hb d_Lw_law_826 hl (by decide) rfl (fun ls hl => ?_)
      refine lv_aload_n hx hb d_Lw_law_828 rfl (lv_at hl 3 rfl) ?_
      refine lv_aload_n hx hb d_Lw_law_829 rfl (lv_at hl 5 rfl) ?_
      refine lv_iload hx hb d_Lw_law_830 (lv_at hl 1 rfl) ?_
      refine lv_iconst (v := 1) hx hb d_Lw_law_832 (by decide) ?_
      refine lv_iadd hx hb d_Lw_law_833 ?_
      refine gx_topi (y := 1) (by decide) ?_
      refine va_sld hx hb hX hbl hbA hS (i := 1) (gx_inl (by decide)) d_Lw_law_834 ?_
      refine gx_topi (y := y1) (by rw [hy1]; rfl) ?_
      refine gx_call (ig := .invokevirtual 149) (c_Mo_reader_v1 l htr D tys z _ ws cV q46 y1 q47 q48 q49 q50 q51 q52 q53 q54 q62 q70 q78 q79 (um) q80 q81 q82 q83 q84 q85 q86 q87 q88 q89 q90 q91 q92 q100 q108 f_46 f_84 f_83 ht5) (gx_invV (As := [Value.int y1]) (rest := []) hx hb hown hts km_Lw_149 kI_Mo_reader kV_Mo_reader kc_Mo_reader (by decide) (show (parseMethodDescriptor y_Mo_reader.desc).map (fun d => d.parameters.length) = some 1 by decide +kernel) (gx_recv (ci := 8) hK hP rfl f_46) rfl rfl d_Lw_law_835) (gx_cw (z := 0) hts kc_Mo_reader kN_Mo rfl rfl ⟨Nat.le_of_ble_eq_true rfl, Nat.le_of_ble_eq_true rfl⟩) hb hml gx_blind (gx_pre hz hP hK hD hY hS hAz [Value.ref q46, Value.int y1]) rfl hl.1 (lv_room (Nat.le_of_ble_eq_true rfl)) d_Lw_law_835 ⟨Nat.le_of_ble_eq_true rfl, Nat.le_of_ble_eq_true rfl⟩ (fun v9 st9 t9 L9 h0_9 hW_9 hQ_9 hL_9 => ?_) (fun v9 st9 t9 L9 h0_9 hW_9 hQ_9 hL_9 => ?_)
      · obtain ⟨ws10, hp, hP9, -, hD9, hS9⟩ := gx_back h0_9 hW_9 hQ_9 hL_9 hD hS hA
        clear hQ_9 h0_9 hL_9 hW_9 hP hD hS
        have hP := hP9
        have hD := hD9
        have hS := hS9
        clear hP9 hD9 hS9
        rcases hp with ⟨hv9, e_ws10, f_46_ws10, g9_0⟩ | ⟨hv9, e_ws10, f_46_ws10, g9_0, g9_1, g9_2, g9_3⟩ | ⟨hv9, e_ws10, f_46_ws10, g9_0, g9_1, g9_2⟩ | ⟨hv9, e_ws10, f_46_ws10, g9_0, g9_1⟩
        · cases hv9
          have f_46_ws10 : ws10[46]? = some ((q46, Sum.inr (8, [Value.int 0, Value.int 1, Value.ref q47, Value.ref q48, Value.ref q49, Value.int 0, Value.ref q50, Value.ref q51, Value.ref q52, Value.ref q53, Value.int 0, Value.int 0, Value.int 0, Value.int (-1), Value.int 0, Value.ref q54, Value.ref q62, Value.ref q70, Value.int 0, Value.int 0, Value.int 0, Value.ref q78, Value.ref q79, Value.int 0, Value.int 16, Value.int 4, um, Value.ref q80, Value.ref q81, Value.ref q82, Value.int 0, Value.ref q83, Value.int 0, Value.int 0, Value.int 0])) : Nat × va_E) := f_46_ws10
          replace hlen : ws10.length = 117 := by rw [e_ws10.1, hlen]
          replace hU : gx_g ws ws10 0 [0, 1, 2, 3, 4, 5, 6, 7, 8, 9, 10, 11, 12, 13, 14, 15, 16, 17, 18, 19, 20, 21, 22, 23, 24, 25, 26, 27, 28, 29, 30, 31, 32, 33, 34, 35, 36, 37, 38, 39, 40, 41, 42, 43, 44, 45, 46, 47, 48, 49, 50, 51, 52, 53, 54, 55, 56, 57, 58, 59, 60, 61, 62, 63, 64, 65, 66, 67, 68, 69, 70, 71, 72, 73, 74, 75, 76, 77, 78, 79, 80, 81, 82, 83, 84, 85, 86, 87, 88, 89, 90, 91, 92, 93, 94, 95, 96, 97, 98, 99, 100, 101, 102, 103, 104, 105, 106, 107, 108, 109, 110, 111, 112, 113, 114, 115, 116] := hU.call e_ws10 (by rw [hlen0]; decide)
          exact absurd g9_0 g1_0
        · cases hv9
          have f_46_ws10 : ws10[46]? = some ((q46, Sum.inr (8, [Value.int 0, Value.int 3, Value.ref q47, Value.ref q48, Value.ref q49, Value.int 0, Value.ref q50, Value.ref q51, Value.ref q52, Value.ref q53, Value.int 0, Value.int 0, Value.int 0, Value.int (-1), Value.int 0, Value.ref q54, Value.ref q62, Value.ref q70, Value.int 0, Value.int 0, Value.int 0, Value.ref q78, Value.ref q79, Value.int 0, Value.int 16, Value.int 4, um, Value.ref q80, Value.ref q81, Value.ref q82, Value.int 0, Value.ref q83, Value.int 0, Value.int 0, Value.int 0])) : Nat × va_E) := f_46_ws10
          replace hlen : ws10.length = 117 := by rw [e_ws10.1, hlen]
          replace hU : gx_g ws ws10 0 [0, 1, 2, 3, 4, 5, 6, 7, 8, 9, 10, 11, 12, 13, 14, 15, 16, 17, 18, 19, 20, 21, 22, 23, 24, 25, 26, 27, 28, 29, 30, 31, 32, 33, 34, 35, 36, 37, 38, 39, 40, 41, 42, 43, 44, 45, 46, 47, 48, 49, 50, 51, 52, 53, 54, 55, 56, 57, 58, 59, 60, 61, 62, 63, 64, 65, 66, 67, 68, 69, 70, 71, 72, 73, 74, 75, 76, 77, 78, 79, 80, 81, 82, 83, 84, 85, 86, 87, 88, 89, 90, 91, 92, 93, 94, 95, 96, 97, 98, 99, 100, 101, 102, 103, 104, 105, 106, 107, 108, 109, 110, 111, 112, 113, 114, 115, 116] := hU.call e_ws10 (by rw [hlen0]; decide)
          exact absurd g1_2 g9_2
        · cases hv9
          have f_46_ws10 : ws10[46]? = some ((q46, Sum.inr (8, [Value.int 0, Value.int 2, Value.ref q47, Value.ref q48, Value.ref q49, Value.int 0, Value.ref q50, Value.ref q51, Value.ref q52, Value.ref q53, Value.int 0, Value.int 0, Value.int 0, Value.int (-1), Value.int 0, Value.ref q54, Value.ref q62, Value.ref q70, Value.int 0, Value.int 0, Value.int 0, Value.ref q78, Value.ref q79, Value.int 0, Value.int 16, Value.int 4, um, Value.ref q80, Value.ref q81, Value.ref q82, Value.int 0, Value.ref q83, Value.int 0, Value.int 0, Value.int 0])) : Nat × va_E) := f_46_ws10
          replace hlen : ws10.length = 117 := by rw [e_ws10.1, hlen]
          replace hU : gx_g ws ws10 0 [0, 1, 2, 3, 4, 5, 6, 7, 8, 9, 10, 11, 12, 13, 14, 15, 16, 17, 18, 19, 20, 21, 22, 23, 24, 25, 26, 27, 28, 29, 30, 31, 32, 33, 34, 35, 36, 37, 38, 39, 40, 41, 42, 43, 44, 45, 46, 47, 48, 49, 50, 51, 52, 53, 54, 55, 56, 57, 58, 59, 60, 61, 62, 63, 64, 65, 66, 67, 68, 69, 70, 71, 72, 73, 74, 75, 76, 77, 78, 79, 80, 81, 82, 83, 84, 85, 86, 87, 88, 89, 90, 91, 92, 93, 94, 95, 96, 97, 98, 99, 100, 101, 102, 103, 104, 105, 106, 107, 108, 109, 110, 111, 112, 113, 114, 115, 116] := hU.call e_ws10 (by rw [hlen0]; decide)
          refine W.eq (g2 := F0 m 838 ls [Value.int 0]) rfl ?_
          generalize t9.heap = H at hP hS ⊢
          generalize locs ++ L9 = locs at hS ⊢
          refine lv_istore (lv' := [(6, Value.int 0), (5, Value.int 2), (4, Value.int 0), (3, Value.ref q116), (2, Value.ref q46), (1, Value.ref q0), (0, Value.ref b)]) hx hb d_Lw_law_838 hl (by decide) rfl (fun ls hl => ?_)
          refine lv_aload_n hx hb d_Lw_law_840 rfl (lv_at hl 4 rfl) ?_
          refine gx_call (ig := .invokevirtual 98) (c_Mo_thrown l htr D tys z _ ws10 q46 46 (Value.int 0) 2 (Value.ref q47) (Value.ref q48) (Value.ref q49) (Value.int 0) (Value.ref q50) (Value.ref q51) (Value.ref q52) (Value.ref q53) (Value.int 0) (Value.int 0) (Value.int 0) (Value.int (-1)) (Value.int 0) (Value.ref q54) (Value.ref q62) (Value.ref q70) (Value.int 0) (Value.int 0) (Value.int 0) (Value.ref q78) (Value.ref q79) (Value.int 0) (Value.int 16) (Value.int 4) (um) (Value.ref q80) (Value.ref q81) (Value.ref q82) (Value.int 0) (Value.ref q83) (Value.int 0) (Value.int 0) (Value.int 0) f_46_ws10) (gx_invV (As := []) (rest := []) hx hb hown hts km_Lw_98 kI_Mo_thrown kV_Mo_thrown kc_Mo_thrown (by decide) (show (parseMethodDescriptor y_Mo_thrown.desc).map (fun d => d.parameters.length) = some 0 by decide +kernel) (gx_recv (ci := 8) hK hP rfl f_46_ws10) rfl rfl d_Lw_law_841) (gx_cw (z := 0) hts kc_Mo_thrown kN_Mo rfl rfl ⟨Nat.le_of_ble_eq_true rfl, Nat.le_of_ble_eq_true rfl⟩) hb hml gx_blind (gx_pre hz hP hK hD hY hS hAz [Value.ref q46]) rfl hl.1 (lv_room (Nat.le_of_ble_eq_true rfl)) d_Lw_law_841 ⟨Nat.le_of_ble_eq_true rfl, Nat.le_of_ble_eq_true rfl⟩ (fun v11 st11 t11 L11 h0_11 hW_11 hQ_11 hL_11 => ?_) (fun v11 st11 t11 L11 h0_11 hW_11 hQ_11 hL_11 => ?_)
          · obtain ⟨ws12, hp, hP9, -, hD9, hS9⟩ := gx_back h0_11 hW_11 hQ_11 hL_11 hD hS hA
            clear hQ_11 h0_11 hL_11 hW_11 hP hD hS
            have hP := hP9
            have hD := hD9
            have hS := hS9
            clear hP9 hD9 hS9
            rcases hp with ⟨hv9, e_ws12⟩
            cases hv9
            rw [e_ws12] at hP hD
            refine W.eq (g2 := F0 m 844 ls [Value.int 2]) rfl ?_
            generalize t11.heap = H at hP hS ⊢
            generalize locs ++ L11 = locs at hS ⊢
            refine lv_iload hx hb d_Lw_law_844 (lv_at hl 1 rfl) ?_
            refine lv_icmp_eq (tgt := 851) hx hb d_Lw_law_846 (by decide) (fun _ => ?_) (fun c9 => absurd (by decide) c9)
            refine lv_iload hx hb d_Lw_law_851 (lv_at hl 1 rfl) ?_
            refine lv_if_ne (tgt := 868) hx hb d_Lw_law_853 (by decide) (fun _ => ?_) (fun c9 => absurd c9 (by decide))
            refine lv_goto (tgt := 1272) hx hb d_Lw_law_868 (by decide) ?_
            refine W.widen (k := 400) (n := 700000) (by decide) (by decide) ?_
            exact k _ _ ls (by rw [hAe]; exact hS) (lv_sub hl [2, 6] rfl)
          · obtain ⟨E9, ws13, ce, hp, hce, hP9, -, hD9, hS9⟩ := gx_backT h0_11 hW_11 hQ_11 hL_11 hD hS hA
            clear hQ_11 h0_11 hL_11 hW_11 hP hD hS
            have hP := hP9
            have hD := hD9
            have hS := hS9
            clear hP9 hD9 hS9
            rcases hp with ⟨hv9, e_ws13⟩
            cases hv9
        · cases hv9
          have f_46_ws10 : ws10[46]? = some ((q46, Sum.inr (8, [Value.int 0, Value.int 1, Value.ref q47, Value.ref q48, Value.ref q49, Value.int 0, Value.ref q50, Value.ref q51, Value.ref q52, Value.ref q53, Value.int 0, Value.int 0, Value.int 0, Value.int (-1), Value.int 0, Value.ref q54, Value.ref q62, Value.ref q70, Value.int 0, Value.int 0, Value.int 0, Value.ref q78, Value.ref q79, Value.int 0, Value.int 16, Value.int 4, um, Value.ref q80, Value.ref q81, Value.ref q82, Value.int 0, Value.ref q83, Value.int 0, Value.int 0, Value.int 0])) : Nat × va_E) := f_46_ws10
          replace hlen : ws10.length = 117 := by rw [e_ws10.1, hlen]
          replace hU : gx_g ws ws10 0 [0, 1, 2, 3, 4, 5, 6, 7, 8, 9, 10, 11, 12, 13, 14, 15, 16, 17, 18, 19, 20, 21, 22, 23, 24, 25, 26, 27, 28, 29, 30, 31, 32, 33, 34, 35, 36, 37, 38, 39, 40, 41, 42, 43, 44, 45, 46, 47, 48, 49, 50, 51, 52, 53, 54, 55, 56, 57, 58, 59, 60, 61, 62, 63, 64, 65, 66, 67, 68, 69, 70, 71, 72, 73, 74, 75, 76, 77, 78, 79, 80, 81, 82, 83, 84, 85, 86, 87, 88, 89, 90, 91, 92, 93, 94, 95, 96, 97, 98, 99, 100, 101, 102, 103, 104, 105, 106, 107, 108, 109, 110, 111, 112, 113, 114, 115, 116] := hU.call e_ws10 (by rw [hlen0]; decide)
          exact absurd g1_1 g9_1
      · obtain ⟨E9, ws14, ce, hp, hce, hP9, -, hD9, hS9⟩ := gx_backT h0_9 hW_9 hQ_9 hL_9 hD hS hA
        clear hQ_9 h0_9 hL_9 hW_9 hP hD hS
        have hP := hP9
        have hD := hD9
        have hS := hS9
        clear hP9 hD9 hS9
        rcases hp with ⟨hv9, e_ws14, f_46_ws14, g9_0⟩ | ⟨hv9, e_ws14, f_46_ws14, g9_0, g9_1, g9_2, g9_3⟩ | ⟨hv9, e_ws14, f_46_ws14, g9_0, g9_1, g9_2⟩ | ⟨hv9, e_ws14, f_46_ws14, g9_0, g9_1⟩
        · cases hv9
        · cases hv9
        · cases hv9
        · cases hv9
    · cases hv9
      rw [e_ws2] at hP hD
      refine W.eq (g2 := F0 m 826 ls [Value.int 1]) rfl ?_
      refine W.widen (k := 124) (n := 677766) (by decide) (by decide) ?_
      generalize t1.heap = H at hP hS ⊢
      generalize locs ++ L1 = locs at hS ⊢
      refine lv_istore (lv' := [(5, Value.int 1), (4, Value.int 0), (3, Value.ref q116), (2, Value.ref q46), (1, Value.ref q0), (0, Value.ref b)]) hx hb d_Lw_law_826 hl (by decide) rfl (fun ls hl => ?_)
      refine lv_aload_n hx hb d_Lw_law_828 rfl (lv_at hl 3 rfl) ?_
      refine lv_aload_n hx hb d_Lw_law_829 rfl (lv_at hl 5 rfl) ?_
      refine lv_iload hx hb d_Lw_law_830 (lv_at hl 1 rfl) ?_
      refine lv_iconst (v := 1) hx hb d_Lw_law_832 (by decide) ?_
      refine lv_iadd hx hb d_Lw_law_833 ?_
      refine gx_topi (y := 1) (by decide) ?_
      refine va_sld hx hb hX hbl hbA hS (i := 1) (gx_inl (by decide)) d_Lw_law_834 ?_
      refine gx_topi (y := y1) (by rw [hy1]; rfl) ?_
      refine gx_call (ig := .invokevirtual 149) (c_Mo_reader_v1 l htr D tys z _ ws cV q46 y1 q47 q48 q49 q50 q51 q52 q53 q54 q62 q70 q78 q79 (um) q80 q81 q82 q83 q84 q85 q86 q87 q88 q89 q90 q91 q92 q100 q108 f_46 f_84 f_83 ht5) (gx_invV (As := [Value.int y1]) (rest := []) hx hb hown hts km_Lw_149 kI_Mo_reader kV_Mo_reader kc_Mo_reader (by decide) (show (parseMethodDescriptor y_Mo_reader.desc).map (fun d => d.parameters.length) = some 1 by decide +kernel) (gx_recv (ci := 8) hK hP rfl f_46) rfl rfl d_Lw_law_835) (gx_cw (z := 0) hts kc_Mo_reader kN_Mo rfl rfl ⟨Nat.le_of_ble_eq_true rfl, Nat.le_of_ble_eq_true rfl⟩) hb hml gx_blind (gx_pre hz hP hK hD hY hS hAz [Value.ref q46, Value.int y1]) rfl hl.1 (lv_room (Nat.le_of_ble_eq_true rfl)) d_Lw_law_835 ⟨Nat.le_of_ble_eq_true rfl, Nat.le_of_ble_eq_true rfl⟩ (fun v15 st15 t15 L15 h0_15 hW_15 hQ_15 hL_15 => ?_) (fun v15 st15 t15 L15 h0_15 hW_15 hQ_15 hL_15 => ?_)
      · obtain ⟨ws16, hp, hP9, -, hD9, hS9⟩ := gx_back h0_15 hW_15 hQ_15 hL_15 hD hS hA
        clear hQ_15 h0_15 hL_15 hW_15 hP hD hS
        have hP := hP9
        have hD := hD9
        have hS := hS9
        clear hP9 hD9 hS9
        rcases hp with ⟨hv9, e_ws16, f_46_ws16, g15_0⟩ | ⟨hv9, e_ws16, f_46_ws16, g15_0, g15_1, g15_2, g15_3⟩ | ⟨hv9, e_ws16, f_46_ws16, g15_0, g15_1, g15_2⟩ | ⟨hv9, e_ws16, f_46_ws16, g15_0, g15_1⟩
        · cases hv9
          have f_46_ws16 : ws16[46]? = some ((q46, Sum.inr (8, [Value.int 0, Value.int 1, Value.ref q47, Value.ref q48, Value.ref q49, Value.int 0, Value.ref q50, Value.ref q51, Value.ref q52, Value.ref q53, Value.int 0, Value.int 0, Value.int 0, Value.int (-1), Value.int 0, Value.ref q54, Value.ref q62, Value.ref q70, Value.int 0, Value.int 0, Value.int 0, Value.ref q78, Value.ref q79, Value.int 0, Value.int 16, Value.int 4, um, Value.ref q80, Value.ref q81, Value.ref q82, Value.int 0, Value.ref q83, Value.int 0, Value.int 0, Value.int 0])) : Nat × va_E) := f_46_ws16
          replace hlen : ws16.length = 117 := by rw [e_ws16.1, hlen]
          replace hU : gx_g ws ws16 0 [0, 1, 2, 3, 4, 5, 6, 7, 8, 9, 10, 11, 12, 13, 14, 15, 16, 17, 18, 19, 20, 21, 22, 23, 24, 25, 26, 27, 28, 29, 30, 31, 32, 33, 34, 35, 36, 37, 38, 39, 40, 41, 42, 43, 44, 45, 46, 47, 48, 49, 50, 51, 52, 53, 54, 55, 56, 57, 58, 59, 60, 61, 62, 63, 64, 65, 66, 67, 68, 69, 70, 71, 72, 73, 74, 75, 76, 77, 78, 79, 80, 81, 82, 83, 84, 85, 86, 87, 88, 89, 90, 91, 92, 93, 94, 95, 96, 97, 98, 99, 100, 101, 102, 103, 104, 105, 106, 107, 108, 109, 110, 111, 112, 113, 114, 115, 116] := hU.call e_ws16 (by rw [hlen0]; decide)
          refine W.eq (g2 := F0 m 838 ls [Value.int 0]) rfl ?_
          generalize t15.heap = H at hP hS ⊢
          generalize locs ++ L15 = locs at hS ⊢
          refine lv_istore (lv' := [(6, Value.int 0), (5, Value.int 1), (4, Value.int 0), (3, Value.ref q116), (2, Value.ref q46), (1, Value.ref q0), (0, Value.ref b)]) hx hb d_Lw_law_838 hl (by decide) rfl (fun ls hl => ?_)
          refine lv_aload_n hx hb d_Lw_law_840 rfl (lv_at hl 4 rfl) ?_
          refine gx_call (ig := .invokevirtual 98) (c_Mo_thrown l htr D tys z _ ws16 q46 46 (Value.int 0) 1 (Value.ref q47) (Value.ref q48) (Value.ref q49) (Value.int 0) (Value.ref q50) (Value.ref q51) (Value.ref q52) (Value.ref q53) (Value.int 0) (Value.int 0) (Value.int 0) (Value.int (-1)) (Value.int 0) (Value.ref q54) (Value.ref q62) (Value.ref q70) (Value.int 0) (Value.int 0) (Value.int 0) (Value.ref q78) (Value.ref q79) (Value.int 0) (Value.int 16) (Value.int 4) (um) (Value.ref q80) (Value.ref q81) (Value.ref q82) (Value.int 0) (Value.ref q83) (Value.int 0) (Value.int 0) (Value.int 0) f_46_ws16) (gx_invV (As := []) (rest := []) hx hb hown hts km_Lw_98 kI_Mo_thrown kV_Mo_thrown kc_Mo_thrown (by decide) (show (parseMethodDescriptor y_Mo_thrown.desc).map (fun d => d.parameters.length) = some 0 by decide +kernel) (gx_recv (ci := 8) hK hP rfl f_46_ws16) rfl rfl d_Lw_law_841) (gx_cw (z := 0) hts kc_Mo_thrown kN_Mo rfl rfl ⟨Nat.le_of_ble_eq_true rfl, Nat.le_of_ble_eq_true rfl⟩) hb hml gx_blind (gx_pre hz hP hK hD hY hS hAz [Value.ref q46]) rfl hl.1 (lv_room (Nat.le_of_ble_eq_true rfl)) d_Lw_law_841 ⟨Nat.le_of_ble_eq_true rfl, Nat.le_of_ble_eq_true rfl⟩ (fun v17 st17 t17 L17 h0_17 hW_17 hQ_17 hL_17 => ?_) (fun v17 st17 t17 L17 h0_17 hW_17 hQ_17 hL_17 => ?_)
          · obtain ⟨ws18, hp, hP9, -, hD9, hS9⟩ := gx_back h0_17 hW_17 hQ_17 hL_17 hD hS hA
            clear hQ_17 h0_17 hL_17 hW_17 hP hD hS
            have hP := hP9
            have hD := hD9
            have hS := hS9
            clear hP9 hD9 hS9
            rcases hp with ⟨hv9, e_ws18⟩
            cases hv9
            rw [e_ws18] at hP hD
            refine W.eq (g2 := F0 m 844 ls [Value.int 1]) rfl ?_
            generalize t17.heap = H at hP hS ⊢
            generalize locs ++ L17 = locs at hS ⊢
            refine lv_iload hx hb d_Lw_law_844 (lv_at hl 1 rfl) ?_
            refine lv_icmp_eq (tgt := 851) hx hb d_Lw_law_846 (by decide) (fun _ => ?_) (fun c9 => absurd (by decide) c9)
            refine lv_iload hx hb d_Lw_law_851 (lv_at hl 1 rfl) ?_
            refine lv_if_ne (tgt := 868) hx hb d_Lw_law_853 (by decide) (fun _ => ?_) (fun c9 => absurd c9 (by decide))
            refine lv_goto (tgt := 1272) hx hb d_Lw_law_868 (by decide) ?_
            refine W.widen (k := 400) (n := 700000) (by decide) (by decide) ?_
            exact k _ _ ls (by rw [hAe]; exact hS) (lv_sub hl [2, 6] rfl)
          · obtain ⟨E9, ws19, ce, hp, hce, hP9, -, hD9, hS9⟩ := gx_backT h0_17 hW_17 hQ_17 hL_17 hD hS hA
            clear hQ_17 h0_17 hL_17 hW_17 hP hD hS
            have hP := hP9
            have hD := hD9
            have hS := hS9
            clear hP9 hD9 hS9
            rcases hp with ⟨hv9, e_ws19⟩
            cases hv9
        · cases hv9
          have f_46_ws16 : ws16[46]? = some ((q46, Sum.inr (8, [Value.int 0, Value.int 3, Value.ref q47, Value.ref q48, Value.ref q49, Value.int 0, Value.ref q50, Value.ref q51, Value.ref q52, Value.ref q53, Value.int 0, Value.int 0, Value.int 0, Value.int (-1), Value.int 0, Value.ref q54, Value.ref q62, Value.ref q70, Value.int 0, Value.int 0, Value.int 0, Value.ref q78, Value.ref q79, Value.int 0, Value.int 16, Value.int 4, um, Value.ref q80, Value.ref q81, Value.ref q82, Value.int 0, Value.ref q83, Value.int 0, Value.int 0, Value.int 0])) : Nat × va_E) := f_46_ws16
          replace hlen : ws16.length = 117 := by rw [e_ws16.1, hlen]
          replace hU : gx_g ws ws16 0 [0, 1, 2, 3, 4, 5, 6, 7, 8, 9, 10, 11, 12, 13, 14, 15, 16, 17, 18, 19, 20, 21, 22, 23, 24, 25, 26, 27, 28, 29, 30, 31, 32, 33, 34, 35, 36, 37, 38, 39, 40, 41, 42, 43, 44, 45, 46, 47, 48, 49, 50, 51, 52, 53, 54, 55, 56, 57, 58, 59, 60, 61, 62, 63, 64, 65, 66, 67, 68, 69, 70, 71, 72, 73, 74, 75, 76, 77, 78, 79, 80, 81, 82, 83, 84, 85, 86, 87, 88, 89, 90, 91, 92, 93, 94, 95, 96, 97, 98, 99, 100, 101, 102, 103, 104, 105, 106, 107, 108, 109, 110, 111, 112, 113, 114, 115, 116] := hU.call e_ws16 (by rw [hlen0]; decide)
          exact absurd g1_0 g15_0
        · cases hv9
          have f_46_ws16 : ws16[46]? = some ((q46, Sum.inr (8, [Value.int 0, Value.int 2, Value.ref q47, Value.ref q48, Value.ref q49, Value.int 0, Value.ref q50, Value.ref q51, Value.ref q52, Value.ref q53, Value.int 0, Value.int 0, Value.int 0, Value.int (-1), Value.int 0, Value.ref q54, Value.ref q62, Value.ref q70, Value.int 0, Value.int 0, Value.int 0, Value.ref q78, Value.ref q79, Value.int 0, Value.int 16, Value.int 4, um, Value.ref q80, Value.ref q81, Value.ref q82, Value.int 0, Value.ref q83, Value.int 0, Value.int 0, Value.int 0])) : Nat × va_E) := f_46_ws16
          replace hlen : ws16.length = 117 := by rw [e_ws16.1, hlen]
          replace hU : gx_g ws ws16 0 [0, 1, 2, 3, 4, 5, 6, 7, 8, 9, 10, 11, 12, 13, 14, 15, 16, 17, 18, 19, 20, 21, 22, 23, 24, 25, 26, 27, 28, 29, 30, 31, 32, 33, 34, 35, 36, 37, 38, 39, 40, 41, 42, 43, 44, 45, 46, 47, 48, 49, 50, 51, 52, 53, 54, 55, 56, 57, 58, 59, 60, 61, 62, 63, 64, 65, 66, 67, 68, 69, 70, 71, 72, 73, 74, 75, 76, 77, 78, 79, 80, 81, 82, 83, 84, 85, 86, 87, 88, 89, 90, 91, 92, 93, 94, 95, 96, 97, 98, 99, 100, 101, 102, 103, 104, 105, 106, 107, 108, 109, 110, 111, 112, 113, 114, 115, 116] := hU.call e_ws16 (by rw [hlen0]; decide)
          exact absurd g1_0 g15_0
        · cases hv9
          have f_46_ws16 : ws16[46]? = some ((q46, Sum.inr (8, [Value.int 0, Value.int 1, Value.ref q47, Value.ref q48, Value.ref q49, Value.int 0, Value.ref q50, Value.ref q51, Value.ref q52, Value.ref q53, Value.int 0, Value.int 0, Value.int 0, Value.int (-1), Value.int 0, Value.ref q54, Value.ref q62, Value.ref q70, Value.int 0, Value.int 0, Value.int 0, Value.ref q78, Value.ref q79, Value.int 0, Value.int 16, Value.int 4, um, Value.ref q80, Value.ref q81, Value.ref q82, Value.int 0, Value.ref q83, Value.int 0, Value.int 0, Value.int 0])) : Nat × va_E) := f_46_ws16
          replace hlen : ws16.length = 117 := by rw [e_ws16.1, hlen]
          replace hU : gx_g ws ws16 0 [0, 1, 2, 3, 4, 5, 6, 7, 8, 9, 10, 11, 12, 13, 14, 15, 16, 17, 18, 19, 20, 21, 22, 23, 24, 25, 26, 27, 28, 29, 30, 31, 32, 33, 34, 35, 36, 37, 38, 39, 40, 41, 42, 43, 44, 45, 46, 47, 48, 49, 50, 51, 52, 53, 54, 55, 56, 57, 58, 59, 60, 61, 62, 63, 64, 65, 66, 67, 68, 69, 70, 71, 72, 73, 74, 75, 76, 77, 78, 79, 80, 81, 82, 83, 84, 85, 86, 87, 88, 89, 90, 91, 92, 93, 94, 95, 96, 97, 98, 99, 100, 101, 102, 103, 104, 105, 106, 107, 108, 109, 110, 111, 112, 113, 114, 115, 116] := hU.call e_ws16 (by rw [hlen0]; decide)
          exact absurd g1_0 g15_0
      · obtain ⟨E9, ws20, ce, hp, hce, hP9, -, hD9, hS9⟩ := gx_backT h0_15 hW_15 hQ_15 hL_15 hD hS hA
        clear hQ_15 h0_15 hL_15 hW_15 hP hD hS
        have hP := hP9
        have hD := hD9
        have hS := hS9
        clear hP9 hD9 hS9
        rcases hp with ⟨hv9, e_ws20, f_46_ws20, g15_0⟩ | ⟨hv9, e_ws20, f_46_ws20, g15_0, g15_1, g15_2, g15_3⟩ | ⟨hv9, e_ws20, f_46_ws20, g15_0, g15_1, g15_2⟩ | ⟨hv9, e_ws20, f_46_ws20, g15_0, g15_1⟩
        · cases hv9
        · cases hv9
        · cases hv9
        · cases hv9
    · cases hv9
      rw [e_ws2] at hP hD
      refine W.eq (g2 := F0 m 826 ls [Value.int 1]) rfl ?_
      refine W.widen (k := 124) (n := 677766) (by decide) (by decide) ?_
      generalize t1.heap = H at hP hS ⊢
      generalize locs ++ L1 = locs at hS ⊢
      refine lv_istore (lv' := [(5, Value.int 1), (4, Value.int 0), (3, Value.ref q116), (2, Value.ref q46), (1, Value.ref q0), (0, Value.ref b)]) hx hb d_Lw_law_826 hl (by decide) rfl (fun ls hl => ?_)
      refine lv_aload_n hx hb d_Lw_law_828 rfl (lv_at hl 3 rfl) ?_
      refine lv_aload_n hx hb d_Lw_law_829 rfl (lv_at hl 5 rfl) ?_
      refine lv_iload hx hb d_Lw_law_830 (lv_at hl 1 rfl) ?_
      refine lv_iconst (v := 1) hx hb d_Lw_law_832 (by decide) ?_
      refine lv_iadd hx hb d_Lw_law_833 ?_
      refine gx_topi (y := 1) (by decide) ?_
      refine va_sld hx hb hX hbl hbA hS (i := 1) (gx_inl (by decide)) d_Lw_law_834 ?_
      refine gx_topi (y := y1) (by rw [hy1]; rfl) ?_
      refine gx_call (ig := .invokevirtual 149) (c_Mo_reader_v1 l htr D tys z _ ws cV q46 y1 q47 q48 q49 q50 q51 q52 q53 q54 q62 q70 q78 q79 (um) q80 q81 q82 q83 q84 q85 q86 q87 q88 q89 q90 q91 q92 q100 q108 f_46 f_84 f_83 ht5) (gx_invV (As := [Value.int y1]) (rest := []) hx hb hown hts km_Lw_149 kI_Mo_reader kV_Mo_reader kc_Mo_reader (by decide) (show (parseMethodDescriptor y_Mo_reader.desc).map (fun d => d.parameters.length) = some 1 by decide +kernel) (gx_recv (ci := 8) hK hP rfl f_46) rfl rfl d_Lw_law_835) (gx_cw (z := 0) hts kc_Mo_reader kN_Mo rfl rfl ⟨Nat.le_of_ble_eq_true rfl, Nat.le_of_ble_eq_true rfl⟩) hb hml gx_blind (gx_pre hz hP hK hD hY hS hAz [Value.ref q46, Value.int y1]) rfl hl.1 (lv_room (Nat.le_of_ble_eq_true rfl)) d_Lw_law_835 ⟨Nat.le_of_ble_eq_true rfl, Nat.le_of_ble_eq_true rfl⟩ (fun v21 st21 t21 L21 h0_21 hW_21 hQ_21 hL_21 => ?_) (fun v21 st21 t21 L21 h0_21 hW_21 hQ_21 hL_21 => ?_)
      · obtain ⟨ws22, hp, hP9, -, hD9, hS9⟩ := gx_back h0_21 hW_21 hQ_21 hL_21 hD hS hA
        clear hQ_21 h0_21 hL_21 hW_21 hP hD hS
        have hP := hP9
        have hD := hD9
        have hS := hS9
        clear hP9 hD9 hS9
        rcases hp with ⟨hv9, e_ws22, f_46_ws22, g21_0⟩ | ⟨hv9, e_ws22, f_46_ws22, g21_0, g21_1, g21_2, g21_3⟩ | ⟨hv9, e_ws22, f_46_ws22, g21_0, g21_1, g21_2⟩ | ⟨hv9, e_ws22, f_46_ws22, g21_0, g21_1⟩
        · cases hv9
          have f_46_ws22 : ws22[46]? = some ((q46, Sum.inr (8, [Value.int 0, Value.int 1, Value.ref q47, Value.ref q48, Value.ref q49, Value.int 0, Value.ref q50, Value.ref q51, Value.ref q52, Value.ref q53, Value.int 0, Value.int 0, Value.int 0, Value.int (-1), Value.int 0, Value.ref q54, Value.ref q62, Value.ref q70, Value.int 0, Value.int 0, Value.int 0, Value.ref q78, Value.ref q79, Value.int 0, Value.int 16, Value.int 4, um, Value.ref q80, Value.ref q81, Value.ref q82, Value.int 0, Value.ref q83, Value.int 0, Value.int 0, Value.int 0])) : Nat × va_E) := f_46_ws22
          replace hlen : ws22.length = 117 := by rw [e_ws22.1, hlen]
          replace hU : gx_g ws ws22 0 [0, 1, 2, 3, 4, 5, 6, 7, 8, 9, 10, 11, 12, 13, 14, 15, 16, 17, 18, 19, 20, 21, 22, 23, 24, 25, 26, 27, 28, 29, 30, 31, 32, 33, 34, 35, 36, 37, 38, 39, 40, 41, 42, 43, 44, 45, 46, 47, 48, 49, 50, 51, 52, 53, 54, 55, 56, 57, 58, 59, 60, 61, 62, 63, 64, 65, 66, 67, 68, 69, 70, 71, 72, 73, 74, 75, 76, 77, 78, 79, 80, 81, 82, 83, 84, 85, 86, 87, 88, 89, 90, 91, 92, 93, 94, 95, 96, 97, 98, 99, 100, 101, 102, 103, 104, 105, 106, 107, 108, 109, 110, 111, 112, 113, 114, 115, 116] := hU.call e_ws22 (by rw [hlen0]; decide)
          exact absurd g21_0 g1_0
        · cases hv9
          have f_46_ws22 : ws22[46]? = some ((q46, Sum.inr (8, [Value.int 0, Value.int 3, Value.ref q47, Value.ref q48, Value.ref q49, Value.int 0, Value.ref q50, Value.ref q51, Value.ref q52, Value.ref q53, Value.int 0, Value.int 0, Value.int 0, Value.int (-1), Value.int 0, Value.ref q54, Value.ref q62, Value.ref q70, Value.int 0, Value.int 0, Value.int 0, Value.ref q78, Value.ref q79, Value.int 0, Value.int 16, Value.int 4, um, Value.ref q80, Value.ref q81, Value.ref q82, Value.int 0, Value.ref q83, Value.int 0, Value.int 0, Value.int 0])) : Nat × va_E) := f_46_ws22
          replace hlen : ws22.length = 117 := by rw [e_ws22.1, hlen]
          replace hU : gx_g ws ws22 0 [0, 1, 2, 3, 4, 5, 6, 7, 8, 9, 10, 11, 12, 13, 14, 15, 16, 17, 18, 19, 20, 21, 22, 23, 24, 25, 26, 27, 28, 29, 30, 31, 32, 33, 34, 35, 36, 37, 38, 39, 40, 41, 42, 43, 44, 45, 46, 47, 48, 49, 50, 51, 52, 53, 54, 55, 56, 57, 58, 59, 60, 61, 62, 63, 64, 65, 66, 67, 68, 69, 70, 71, 72, 73, 74, 75, 76, 77, 78, 79, 80, 81, 82, 83, 84, 85, 86, 87, 88, 89, 90, 91, 92, 93, 94, 95, 96, 97, 98, 99, 100, 101, 102, 103, 104, 105, 106, 107, 108, 109, 110, 111, 112, 113, 114, 115, 116] := hU.call e_ws22 (by rw [hlen0]; decide)
          exact absurd g21_1 g1_1
        · cases hv9
          have f_46_ws22 : ws22[46]? = some ((q46, Sum.inr (8, [Value.int 0, Value.int 2, Value.ref q47, Value.ref q48, Value.ref q49, Value.int 0, Value.ref q50, Value.ref q51, Value.ref q52, Value.ref q53, Value.int 0, Value.int 0, Value.int 0, Value.int (-1), Value.int 0, Value.ref q54, Value.ref q62, Value.ref q70, Value.int 0, Value.int 0, Value.int 0, Value.ref q78, Value.ref q79, Value.int 0, Value.int 16, Value.int 4, um, Value.ref q80, Value.ref q81, Value.ref q82, Value.int 0, Value.ref q83, Value.int 0, Value.int 0, Value.int 0])) : Nat × va_E) := f_46_ws22
          replace hlen : ws22.length = 117 := by rw [e_ws22.1, hlen]
          replace hU : gx_g ws ws22 0 [0, 1, 2, 3, 4, 5, 6, 7, 8, 9, 10, 11, 12, 13, 14, 15, 16, 17, 18, 19, 20, 21, 22, 23, 24, 25, 26, 27, 28, 29, 30, 31, 32, 33, 34, 35, 36, 37, 38, 39, 40, 41, 42, 43, 44, 45, 46, 47, 48, 49, 50, 51, 52, 53, 54, 55, 56, 57, 58, 59, 60, 61, 62, 63, 64, 65, 66, 67, 68, 69, 70, 71, 72, 73, 74, 75, 76, 77, 78, 79, 80, 81, 82, 83, 84, 85, 86, 87, 88, 89, 90, 91, 92, 93, 94, 95, 96, 97, 98, 99, 100, 101, 102, 103, 104, 105, 106, 107, 108, 109, 110, 111, 112, 113, 114, 115, 116] := hU.call e_ws22 (by rw [hlen0]; decide)
          exact absurd g21_1 g1_1
        · cases hv9
          have f_46_ws22 : ws22[46]? = some ((q46, Sum.inr (8, [Value.int 0, Value.int 1, Value.ref q47, Value.ref q48, Value.ref q49, Value.int 0, Value.ref q50, Value.ref q51, Value.ref q52, Value.ref q53, Value.int 0, Value.int 0, Value.int 0, Value.int (-1), Value.int 0, Value.ref q54, Value.ref q62, Value.ref q70, Value.int 0, Value.int 0, Value.int 0, Value.ref q78, Value.ref q79, Value.int 0, Value.int 16, Value.int 4, um, Value.ref q80, Value.ref q81, Value.ref q82, Value.int 0, Value.ref q83, Value.int 0, Value.int 0, Value.int 0])) : Nat × va_E) := f_46_ws22
          replace hlen : ws22.length = 117 := by rw [e_ws22.1, hlen]
          replace hU : gx_g ws ws22 0 [0, 1, 2, 3, 4, 5, 6, 7, 8, 9, 10, 11, 12, 13, 14, 15, 16, 17, 18, 19, 20, 21, 22, 23, 24, 25, 26, 27, 28, 29, 30, 31, 32, 33, 34, 35, 36, 37, 38, 39, 40, 41, 42, 43, 44, 45, 46, 47, 48, 49, 50, 51, 52, 53, 54, 55, 56, 57, 58, 59, 60, 61, 62, 63, 64, 65, 66, 67, 68, 69, 70, 71, 72, 73, 74, 75, 76, 77, 78, 79, 80, 81, 82, 83, 84, 85, 86, 87, 88, 89, 90, 91, 92, 93, 94, 95, 96, 97, 98, 99, 100, 101, 102, 103, 104, 105, 106, 107, 108, 109, 110, 111, 112, 113, 114, 115, 116] := hU.call e_ws22 (by rw [hlen0]; decide)
          refine W.eq (g2 := F0 m 838 ls [Value.int 0]) rfl ?_
          generalize t21.heap = H at hP hS ⊢
          generalize locs ++ L21 = locs at hS ⊢
          refine lv_istore (lv' := [(6, Value.int 0), (5, Value.int 1), (4, Value.int 0), (3, Value.ref q116), (2, Value.ref q46), (1, Value.ref q0), (0, Value.ref b)]) hx hb d_Lw_law_838 hl (by decide) rfl (fun ls hl => ?_)
          refine lv_aload_n hx hb d_Lw_law_840 rfl (lv_at hl 4 rfl) ?_
          refine gx_call (ig := .invokevirtual 98) (c_Mo_thrown l htr D tys z _ ws22 q46 46 (Value.int 0) 1 (Value.ref q47) (Value.ref q48) (Value.ref q49) (Value.int 0) (Value.ref q50) (Value.ref q51) (Value.ref q52) (Value.ref q53) (Value.int 0) (Value.int 0) (Value.int 0) (Value.int (-1)) (Value.int 0) (Value.ref q54) (Value.ref q62) (Value.ref q70) (Value.int 0) (Value.int 0) (Value.int 0) (Value.ref q78) (Value.ref q79) (Value.int 0) (Value.int 16) (Value.int 4) (um) (Value.ref q80) (Value.ref q81) (Value.ref q82) (Value.int 0) (Value.ref q83) (Value.int 0) (Value.int 0) (Value.int 0) f_46_ws22) (gx_invV (As := []) (rest := []) hx hb hown hts km_Lw_98 kI_Mo_thrown kV_Mo_thrown kc_Mo_thrown (by decide) (show (parseMethodDescriptor y_Mo_thrown.desc).map (fun d => d.parameters.length) = some 0 by decide +kernel) (gx_recv (ci := 8) hK hP rfl f_46_ws22) rfl rfl d_Lw_law_841) (gx_cw (z := 0) hts kc_Mo_thrown kN_Mo rfl rfl ⟨Nat.le_of_ble_eq_true rfl, Nat.le_of_ble_eq_true rfl⟩) hb hml gx_blind (gx_pre hz hP hK hD hY hS hAz [Value.ref q46]) rfl hl.1 (lv_room (Nat.le_of_ble_eq_true rfl)) d_Lw_law_841 ⟨Nat.le_of_ble_eq_true rfl, Nat.le_of_ble_eq_true rfl⟩ (fun v23 st23 t23 L23 h0_23 hW_23 hQ_23 hL_23 => ?_) (fun v23 st23 t23 L23 h0_23 hW_23 hQ_23 hL_23 => ?_)
          · obtain ⟨ws24, hp, hP9, -, hD9, hS9⟩ := gx_back h0_23 hW_23 hQ_23 hL_23 hD hS hA
            clear hQ_23 h0_23 hL_23 hW_23 hP hD hS
            have hP := hP9
            have hD := hD9
            have hS := hS9
            clear hP9 hD9 hS9
            rcases hp with ⟨hv9, e_ws24⟩
            cases hv9
            rw [e_ws24] at hP hD
            refine W.eq (g2 := F0 m 844 ls [Value.int 1]) rfl ?_
            generalize t23.heap = H at hP hS ⊢
            generalize locs ++ L23 = locs at hS ⊢
            refine lv_iload hx hb d_Lw_law_844 (lv_at hl 1 rfl) ?_
            refine lv_icmp_eq (tgt := 851) hx hb d_Lw_law_846 (by decide) (fun _ => ?_) (fun c9 => absurd (by decide) c9)
            refine lv_iload hx hb d_Lw_law_851 (lv_at hl 1 rfl) ?_
            refine lv_if_ne (tgt := 868) hx hb d_Lw_law_853 (by decide) (fun _ => ?_) (fun c9 => absurd c9 (by decide))
            refine lv_goto (tgt := 1272) hx hb d_Lw_law_868 (by decide) ?_
            refine W.widen (k := 400) (n := 700000) (by decide) (by decide) ?_
            exact k _ _ ls (by rw [hAe]; exact hS) (lv_sub hl [2, 6] rfl)
          · obtain ⟨E9, ws25, ce, hp, hce, hP9, -, hD9, hS9⟩ := gx_backT h0_23 hW_23 hQ_23 hL_23 hD hS hA
            clear hQ_23 h0_23 hL_23 hW_23 hP hD hS
            have hP := hP9
            have hD := hD9
            have hS := hS9
            clear hP9 hD9 hS9
            rcases hp with ⟨hv9, e_ws25⟩
            cases hv9
      · obtain ⟨E9, ws26, ce, hp, hce, hP9, -, hD9, hS9⟩ := gx_backT h0_21 hW_21 hQ_21 hL_21 hD hS hA
        clear hQ_21 h0_21 hL_21 hW_21 hP hD hS
        have hP := hP9
        have hD := hD9
        have hS := hS9
        clear hP9 hD9 hS9
        rcases hp with ⟨hv9, e_ws26, f_46_ws26, g21_0⟩ | ⟨hv9, e_ws26, f_46_ws26, g21_0, g21_1, g21_2, g21_3⟩ | ⟨hv9, e_ws26, f_46_ws26, g21_0, g21_1, g21_2⟩ | ⟨hv9, e_ws26, f_46_ws26, g21_0, g21_1⟩
        · cases hv9
        · cases hv9
        · cases hv9
        · cases hv9
  · obtain ⟨E9, ws27, ce, hp, hce, hP9, -, hD9, hS9⟩ := gx_backT h0_1 hW_1 hQ_1 hL_1 hD hS hA
    clear hQ_1 h0_1 hL_1 hW_1 hP hD hS
    have hP := hP9
    have hD := hD9
    have hS := hS9
    clear hP9 hD9 hS9
    rcases hp with ⟨hv9, e_ws27, g1_0, g1_1, g1_2⟩ | ⟨hv9, e_ws27, g1_0, g1_1, g1_2⟩ | ⟨hv9, e_ws27, g1_0⟩ | ⟨hv9, e_ws27, g1_0, g1_1⟩
    · cases hv9
    · cases hv9
    · cases hv9
    · cases hv9

set_option maxHeartbeats 4000000 in
set_option maxRecDepth 100000 in
theorem law_t15 {p : Program} {e : Env} {s : State} {m : MethodId} {below : List Frame} {meth : Method} {c : Code} {Q : State → Prop} (l : Launch) (htr : l.stackTraces = false) {b : Nat} {xs : Nat → Int32} (hx : p.tables.exec = Jvm.exec) (hb : c.code = code) (hml : c.maxLocals = 7) (hown : s.vm.findClass "CommitLedgerLaw" = some m.cls) (hts1 : ∀ w ∈ lw_tbl, w.before #[Value.ref b] s = true) (hgv : (Jvm.Cond.and given_1 narrow_1).before #[Value.ref b] s = true) (hX : va_X b 4 xs s s.heap) (hbl : b < s.heap.size) (D : va_G) (tys : List (ClassId × FieldType)) (cI cZ cF cM cR cV cJ : ClassId) (q0 q1 q2 q3 q4 q5 q6 q7 q8 q9 q10 q11 q12 q13 q14 q15 q16 q17 q18 q19 q20 q21 q22 q23 q24 q25 q26 q27 q28 q29 q30 q31 q32 q33 q34 q35 q36 q37 q38 q39 q40 q41 q42 q43 q44 q45 q46 q47 q48 q49 q50 q51 q52 q53 q54 q55 q56 q57 q58 q59 q60 q61 q62 q63 q64 q65 q66 q67 q68 q69 q70 q71 q72 q73 q74 q75 q76 q77 q78 q79 q80 q81 q82 q83 q84 q85 q86 q87 q88 q89 q90 q91 q92 q93 q94 q95 q96 q97 q98 q99 q100 q101 q102 q103 q104 q105 q106 q107 q108 q109 q110 q111 q112 q113 q114 q115 q116 : Nat) (u0 u1 um : Value) (ws : va_W) (H : Heap) (locs : List Loc) (ls : Array Slot) (hK : va_K D classes tys s) (htys : tys = [(cI, FieldType.int), (cZ, FieldType.boolean), (cF, FieldType.object "CommitLedger$LedgerFile"), (cM, FieldType.object "CommitLedger$Merge"), (cR, FieldType.object "CommitLedger$Reader"), (cV, FieldType.object "CommitLedgerModel$Version"), (cJ, FieldType.long)]) (hP : va_P D classes ws H) (hD : va_D (fun q : Nat => s.heap.size ≤ q) ws) (hS : va_S (fun q : Nat => s.heap.size ≤ q) s.heap H locs) (hlen : ws.length = 117) (f_0 : ws[0]? = some ((q0, Sum.inr (0, [Value.ref q1, Value.ref q5, Value.ref q8, Value.ref q20, Value.ref q25, Value.ref q12, Value.ref q16, Value.int 0, Value.int 0, Value.int 0, Value.int 16, Value.int 4, Value.int 0, Value.int 0, Value.int 0, Value.int 0, Value.int 0, Value.int (-1)])) : Nat × va_E)) (f_25 : ws[25]? = some ((q25, Sum.inl (cR, 4, Sum.inr (Sum.inr (Sum.inr (Sum.inr (va_up (va_up (va_up (va_up (fun _ => none) 0 (some q26)) 1 (some q31)) 2 (some q36)) 3 (some q41))))))) : Nat × va_E)) (f_26 : ws[26]? = some ((q26, Sum.inr (6, [Value.ref q27, Value.int 0, Value.int 0])) : Nat × va_E)) (f_31 : ws[31]? = some ((q31, Sum.inr (6, [Value.ref q32, Value.int 0, Value.int 0])) : Nat × va_E)) (f_36 : ws[36]? = some ((q36, Sum.inr (6, [Value.ref q37, Value.int 0, Value.int 0])) : Nat × va_E)) (f_41 : ws[41]? = some ((q41, Sum.inr (6, [Value.ref q42, Value.int 0, Value.int 0])) : Nat × va_E)) (f_46 : ws[46]? = some ((q46, Sum.inr (8, [Value.int 0, Value.int 0, Value.ref q47, Value.ref q48, Value.ref q49, Value.int 0, Value.ref q50, Value.ref q51, Value.ref q52, Value.ref q53, Value.int 0, Value.int 0, Value.int 0, Value.int (-1), Value.int 0, Value.ref q54, Value.ref q62, Value.ref q70, Value.int 0, Value.int 0, Value.int 0, Value.ref q78, Value.ref q79, Value.int 0, Value.int 16, Value.int 4, um, Value.ref q80, Value.ref q81, Value.ref q82, Value.int 0, Value.ref q83, Value.int 0, Value.int 0, Value.int 0])) : Nat × va_E)) (f_83 : ws[83]? = some ((q83, Sum.inl (cV, 4, Sum.inr (Sum.inr (Sum.inr (Sum.inr (va_up (va_up (va_up (va_up (fun _ => none) 0 (some q84)) 1 (some q92)) 2 (some q100)) 3 (some q108))))))) : Nat × va_E)) (f_84 : ws[84]? = some ((q84, Sum.inr (9, [Value.ref q85, Value.ref q86, Value.ref q87, Value.ref q88, Value.ref q89, Value.ref q90, Value.ref q91, Value.int 0, Value.int 0, Value.int 0, Value.int 0])) : Nat × va_E)) (f_92 : ws[92]? = some ((q92, Sum.inr (9, [Value.ref q93, Value.ref q94, Value.ref q95, Value.ref q96, Value.ref q97, Value.ref q98, Value.ref q99, Value.int 0, Value.int 0, Value.int 0, Value.int 0])) : Nat × va_E)) (f_100 : ws[100]? = some ((q100, Sum.inr (9, [Value.ref q101, Value.ref q102, Value.ref q103, Value.ref q104, Value.ref q105, Value.ref q106, Value.ref q107, Value.int 0, Value.int 0, Value.int 0, Value.int 0])) : Nat × va_E)) (f_108 : ws[108]? = some ((q108, Sum.inr (9, [Value.ref q109, Value.ref q110, Value.ref q111, Value.ref q112, Value.ref q113, Value.ref q114, Value.ref q115, Value.int 0, Value.int 0, Value.int 0, Value.int 0])) : Nat × va_E)) (hl : lv_has ls 7 [(4, Value.int 0), (3, Value.ref q116), (2, Value.ref q46), (1, Value.ref q0), (0, Value.ref b)])
    (k : ∀ (H : Heap) (locs : List Loc) (ls : Array Slot), va_S (fun q : Nat => s.heap.size ≤ q) s.heap H locs → lv_has ls 7 [(4, Value.int 0), (0, Value.ref b)] → W p l e room_1 s m #[Value.ref b] below meth c H locs 400 700000 Q (F0 m 1272 ls [])) :
    W p l e room_1 s m #[Value.ref b] below meth c H locs 122 677754 Q (F0 m 871 ls []) := by
  have ht0 : tys[0]? = some ((cI, FieldType.int) : ClassId × FieldType) := by rw [htys]; rfl
  have ht1 : tys[1]? = some ((cZ, FieldType.boolean) : ClassId × FieldType) := by rw [htys]; rfl
  have ht2 : tys[2]? = some ((cF, FieldType.object "CommitLedger$LedgerFile") : ClassId × FieldType) := by rw [htys]; rfl
  have ht3 : tys[3]? = some ((cM, FieldType.object "CommitLedger$Merge") : ClassId × FieldType) := by rw [htys]; rfl
  have ht4 : tys[4]? = some ((cR, FieldType.object "CommitLedger$Reader") : ClassId × FieldType) := by rw [htys]; rfl
  have ht5 : tys[5]? = some ((cV, FieldType.object "CommitLedgerModel$Version") : ClassId × FieldType) := by rw [htys]; rfl
  have ht6 : tys[6]? = some ((cJ, FieldType.long) : ClassId × FieldType) := by rw [htys]; rfl
  have hY := gx_Y0 hts1 hgv
  have hts := gx_hts0 hts1 hgv
  obtain ⟨z, hzz⟩ : ∃ x : Nat, x = s.heap.size := ⟨_, rfl⟩
  rw [← hzz] at hY
  have hz : z ≤ s.heap.size := Nat.le_of_eq hzz
  have hAz : ∀ q : Nat, (fun q : Nat => s.heap.size ≤ q) q → z ≤ q := fun q h => by rw [hzz]; exact h
  have hA : ∀ q : Nat, s.heap.size ≤ q → (fun q : Nat => s.heap.size ≤ q) q := fun _ h => h
  have hbA : ¬ (fun q : Nat => s.heap.size ≤ q) b := Nat.not_le.mpr hbl
  have hN : gx_NS (fun q : Nat => s.heap.size ≤ q) s := fun q cell h hc => absurd (Array.getElem?_eq_some_iff.mp hc).1 (Nat.not_lt.mpr h)
  have hlen0 := hlen
  have hU : gx_g ws ws 0 [0, 1, 2, 3, 4, 5, 6, 7, 8, 9, 10, 11, 12, 13, 14, 15, 16, 17, 18, 19, 20, 21, 22, 23, 24, 25, 26, 27, 28, 29, 30, 31, 32, 33, 34, 35, 36, 37, 38, 39, 40, 41, 42, 43, 44, 45, 46, 47, 48, 49, 50, 51, 52, 53, 54, 55, 56, 57, 58, 59, 60, 61, 62, 63, 64, 65, 66, 67, 68, 69, 70, 71, 72, 73, 74, 75, 76, 77, 78, 79, 80, 81, 82, 83, 84, 85, 86, 87, 88, 89, 90, 91, 92, 93, 94, 95, 96, 97, 98, 99, 100, 101, 102, 103, 104, 105, 106, 107, 108, 109, 110, 111, 112, 113, 114, 115, 116] := gx_g.rf
  obtain ⟨y0, hy0⟩ : ∃ y : Int32, y = xs 0 := ⟨_, rfl⟩
  obtain ⟨y1, hy1⟩ : ∃ y : Int32, y = xs 1 := ⟨_, rfl⟩
  obtain ⟨y2, hy2⟩ : ∃ y : Int32, y = xs 2 := ⟨_, rfl⟩
  obtain ⟨y3, hy3⟩ : ∃ y : Int32, y = xs 3 := ⟨_, rfl⟩
  generalize hAe : (fun q : Nat => s.heap.size ≤ q) = A at hD hN hA hAz hS hbA
  refine lv_aload_n hx hb d_Lw_law_871 rfl (lv_at hl 3 rfl) ?_
  refine lv_aload_n hx hb d_Lw_law_872 rfl (lv_at hl 4 rfl) ?_
  refine lv_iload hx hb d_Lw_law_873 (lv_at hl 0 rfl) ?_
  refine lv_iconst (v := 1) hx hb d_Lw_law_875 (by decide) ?_
  refine lv_iadd hx hb d_Lw_law_876 ?_
  refine gx_topi (y := 1) (by decide) ?_
  refine va_sld hx hb hX hbl hbA hS (i := 1) (gx_inl (by decide)) d_Lw_law_877 ?_
  refine gx_topi (y := y1) (by rw [hy1]; rfl) ?_
  refine gx_callH (ig := .invokestatic 150) (c_Lw_release_v1 l htr D tys z _ ws cR q0 y1 q1 q5 q8 q20 q25 q12 q16 q26 q31 q36 q41 q27 q32 q37 q42 f_0 f_25 f_26 f_31 f_36 f_41 ht4) (gx_invSH (As := [Value.ref q0, Value.int y1]) (rest := []) hx hb hown hts km_Lw_150 kS_Lw_release kN_Lw kc_Lw_release (by decide) (show (parseMethodDescriptor y_Lw_release.desc).map (fun d => d.parameters.length) = some 2 by decide +kernel) rfl rfl d_Lw_law_878) (gx_cwH hts kc_Lw_release kN_Lw rfl rfl ⟨Nat.le_of_ble_eq_true rfl, Nat.le_of_ble_eq_true rfl⟩) hb hml gx_blind (gx_pre hz hP hK hD hY hS hAz [Value.ref q0, Value.int y1]) rfl hl.1 (lv_room (Nat.le_of_ble_eq_true rfl)) d_Lw_law_878 ⟨Nat.le_of_ble_eq_true rfl, Nat.le_of_ble_eq_true rfl⟩ (fun v1 st1 t1 L1 h0_1 hW_1 hQ_1 hL_1 => ?_) (fun v1 st1 t1 L1 h0_1 hW_1 hQ_1 hL_1 => ?_)
  · obtain ⟨ws2, hp, hP9, -, hD9, hS9⟩ := gx_back h0_1 hW_1 hQ_1 hL_1 hD hS hA
    clear hQ_1 h0_1 hL_1 hW_1 hP hD hS
    have hP := hP9
    have hD := hD9
    have hS := hS9
    clear hP9 hD9 hS9
    rcases hp with ⟨hv9, e_ws2⟩
    cases hv9
    rw [e_ws2] at hP hD
    refine W.eq (g2 := F0 m 881 ls [Value.int 1]) rfl ?_
    refine W.widen (k := 123) (n := 677760) (by decide) (by decide) ?_
    generalize t1.heap = H at hP hS ⊢
    generalize locs ++ L1 = locs at hS ⊢
    refine lv_istore (lv' := [(5, Value.int 1), (4, Value.int 0), (3, Value.ref q116), (2, Value.ref q46), (1, Value.ref q0), (0, Value.ref b)]) hx hb d_Lw_law_881 hl (by decide) rfl (fun ls hl => ?_)
    refine lv_aload_n hx hb d_Lw_law_883 rfl (lv_at hl 3 rfl) ?_
    refine lv_aload_n hx hb d_Lw_law_884 rfl (lv_at hl 5 rfl) ?_
    refine lv_iload hx hb d_Lw_law_885 (lv_at hl 1 rfl) ?_
    refine lv_iconst (v := 1) hx hb d_Lw_law_887 (by decide) ?_
    refine lv_iadd hx hb d_Lw_law_888 ?_
    refine gx_topi (y := 1) (by decide) ?_
    refine va_sld hx hb hX hbl hbA hS (i := 1) (gx_inl (by decide)) d_Lw_law_889 ?_
    refine gx_topi (y := y1) (by rw [hy1]; rfl) ?_
    refine gx_call (ig := .invokevirtual 152) (c_Mo_release_v1 l htr D tys z _ ws cV q46 y1 q47 q48 q49 q50 q51 q52 q53 q54 q62 q70 q78 q79 (um) q80 q81 q82 q83 q84 q85 q86 q87 q88 q89 q90 q91 q92 q93 q94 q95 q96 q97 q98 q99 q100 q101 q102 q103 q104 q105 q106 q107 q108 q109 q110 q111 q112 q113 q114 q115 f_46 f_84 f_92 f_100 f_108 f_83 ht5) (gx_invV (As := [Value.int y1]) (rest := []) hx hb hown hts km_Lw_152 kI_Mo_release kV_Mo_release kc_Mo_release (by decide) (show (parseMethodDescriptor y_Mo_release.desc).map (fun d => d.parameters.length) = some 1 by decide +kernel) (gx_recv (ci := 8) hK hP rfl f_46) rfl rfl d_Lw_law_890) (gx_cw (z := 0) hts kc_Mo_release kN_Mo rfl rfl ⟨Nat.le_of_ble_eq_true rfl, Nat.le_of_ble_eq_true rfl⟩) hb hml gx_blind (gx_pre hz hP hK hD hY hS hAz [Value.ref q46, Value.int y1]) rfl hl.1 (lv_room (Nat.le_of_ble_eq_true rfl)) d_Lw_law_890 ⟨Nat.le_of_ble_eq_true rfl, Nat.le_of_ble_eq_true rfl⟩ (fun v3 st3 t3 L3 h0_3 hW_3 hQ_3 hL_3 => ?_) (fun v3 st3 t3 L3 h0_3 hW_3 hQ_3 hL_3 => ?_)
    · obtain ⟨ws4, hp, hP9, -, hD9, hS9⟩ := gx_back h0_3 hW_3 hQ_3 hL_3 hD hS hA
      clear hQ_3 h0_3 hL_3 hW_3 hP hD hS
      have hP := hP9
      have hD := hD9
      have hS := hS9
      clear hP9 hD9 hS9
      rcases hp with ⟨hv9, e_ws4, f_46_ws4⟩
      cases hv9
      have f_46_ws4 : ws4[46]? = some ((q46, Sum.inr (8, [Value.int 0, Value.int 1, Value.ref q47, Value.ref q48, Value.ref q49, Value.int 0, Value.ref q50, Value.ref q51, Value.ref q52, Value.ref q53, Value.int 0, Value.int 0, Value.int 0, Value.int (-1), Value.int 0, Value.ref q54, Value.ref q62, Value.ref q70, Value.int 0, Value.int 0, Value.int 0, Value.ref q78, Value.ref q79, Value.int 0, Value.int 16, Value.int 4, um, Value.ref q80, Value.ref q81, Value.ref q82, Value.int 0, Value.ref q83, Value.int 0, Value.int 0, Value.int 0])) : Nat × va_E) := f_46_ws4
      replace hlen : ws4.length = 117 := by rw [e_ws4.1, hlen]
      replace hU : gx_g ws ws4 0 [0, 1, 2, 3, 4, 5, 6, 7, 8, 9, 10, 11, 12, 13, 14, 15, 16, 17, 18, 19, 20, 21, 22, 23, 24, 25, 26, 27, 28, 29, 30, 31, 32, 33, 34, 35, 36, 37, 38, 39, 40, 41, 42, 43, 44, 45, 46, 47, 48, 49, 50, 51, 52, 53, 54, 55, 56, 57, 58, 59, 60, 61, 62, 63, 64, 65, 66, 67, 68, 69, 70, 71, 72, 73, 74, 75, 76, 77, 78, 79, 80, 81, 82, 83, 84, 85, 86, 87, 88, 89, 90, 91, 92, 93, 94, 95, 96, 97, 98, 99, 100, 101, 102, 103, 104, 105, 106, 107, 108, 109, 110, 111, 112, 113, 114, 115, 116] := hU.call e_ws4 (by rw [hlen0]; decide)
      refine W.eq (g2 := F0 m 893 ls []) rfl ?_
      generalize t3.heap = H at hP hS ⊢
      generalize locs ++ L3 = locs at hS ⊢
      refine lv_aload_n hx hb d_Lw_law_893 rfl (lv_at hl 3 rfl) ?_
      refine gx_call (ig := .invokevirtual 98) (c_Mo_thrown l htr D tys z _ ws4 q46 46 (Value.int 0) 1 (Value.ref q47) (Value.ref q48) (Value.ref q49) (Value.int 0) (Value.ref q50) (Value.ref q51) (Value.ref q52) (Value.ref q53) (Value.int 0) (Value.int 0) (Value.int 0) (Value.int (-1)) (Value.int 0) (Value.ref q54) (Value.ref q62) (Value.ref q70) (Value.int 0) (Value.int 0) (Value.int 0) (Value.ref q78) (Value.ref q79) (Value.int 0) (Value.int 16) (Value.int 4) (um) (Value.ref q80) (Value.ref q81) (Value.ref q82) (Value.int 0) (Value.ref q83) (Value.int 0) (Value.int 0) (Value.int 0) f_46_ws4) (gx_invV (As := []) (rest := []) hx hb hown hts km_Lw_98 kI_Mo_thrown kV_Mo_thrown kc_Mo_thrown (by decide) (show (parseMethodDescriptor y_Mo_thrown.desc).map (fun d => d.parameters.length) = some 0 by decide +kernel) (gx_recv (ci := 8) hK hP rfl f_46_ws4) rfl rfl d_Lw_law_894) (gx_cw (z := 0) hts kc_Mo_thrown kN_Mo rfl rfl ⟨Nat.le_of_ble_eq_true rfl, Nat.le_of_ble_eq_true rfl⟩) hb hml gx_blind (gx_pre hz hP hK hD hY hS hAz [Value.ref q46]) rfl hl.1 (lv_room (Nat.le_of_ble_eq_true rfl)) d_Lw_law_894 ⟨Nat.le_of_ble_eq_true rfl, Nat.le_of_ble_eq_true rfl⟩ (fun v5 st5 t5 L5 h0_5 hW_5 hQ_5 hL_5 => ?_) (fun v5 st5 t5 L5 h0_5 hW_5 hQ_5 hL_5 => ?_)
      · obtain ⟨ws6, hp, hP9, -, hD9, hS9⟩ := gx_back h0_5 hW_5 hQ_5 hL_5 hD hS hA
        clear hQ_5 h0_5 hL_5 hW_5 hP hD hS
        have hP := hP9
        have hD := hD9
        have hS := hS9
        clear hP9 hD9 hS9
        rcases hp with ⟨hv9, e_ws6⟩
        cases hv9
        rw [e_ws6] at hP hD
        refine W.eq (g2 := F0 m 897 ls [Value.int 1]) rfl ?_
        generalize t5.heap = H at hP hS ⊢
        generalize locs ++ L5 = locs at hS ⊢
        refine lv_iload hx hb d_Lw_law_897 (lv_at hl 0 rfl) ?_
        refine lv_icmp_eq (tgt := 904) hx hb d_Lw_law_899 (by decide) (fun _ => ?_) (fun c9 => absurd (by decide) c9)
        refine lv_goto (tgt := 1272) hx hb d_Lw_law_904 (by decide) ?_
        refine W.widen (k := 400) (n := 700000) (by decide) (by decide) ?_
        exact k _ _ ls (by rw [hAe]; exact hS) (lv_sub hl [1, 5] rfl)
      · obtain ⟨E9, ws7, ce, hp, hce, hP9, -, hD9, hS9⟩ := gx_backT h0_5 hW_5 hQ_5 hL_5 hD hS hA
        clear hQ_5 h0_5 hL_5 hW_5 hP hD hS
        have hP := hP9
        have hD := hD9
        have hS := hS9
        clear hP9 hD9 hS9
        rcases hp with ⟨hv9, e_ws7⟩
        cases hv9
    · obtain ⟨E9, ws8, ce, hp, hce, hP9, -, hD9, hS9⟩ := gx_backT h0_3 hW_3 hQ_3 hL_3 hD hS hA
      clear hQ_3 h0_3 hL_3 hW_3 hP hD hS
      have hP := hP9
      have hD := hD9
      have hS := hS9
      clear hP9 hD9 hS9
      rcases hp with ⟨hv9, e_ws8, f_46_ws8⟩
      cases hv9
  · obtain ⟨E9, ws9, ce, hp, hce, hP9, -, hD9, hS9⟩ := gx_backT h0_1 hW_1 hQ_1 hL_1 hD hS hA
    clear hQ_1 h0_1 hL_1 hW_1 hP hD hS
    have hP := hP9
    have hD := hD9
    have hS := hS9
    clear hP9 hD9 hS9
    rcases hp with ⟨hv9, e_ws9⟩
    cases hv9

set_option maxHeartbeats 4000000 in
set_option maxRecDepth 100000 in
theorem law_t16 {p : Program} {e : Env} {s : State} {m : MethodId} {below : List Frame} {meth : Method} {c : Code} {Q : State → Prop} (l : Launch) (htr : l.stackTraces = false) {b : Nat} {xs : Nat → Int32} (hx : p.tables.exec = Jvm.exec) (hb : c.code = code) (hml : c.maxLocals = 7) (hown : s.vm.findClass "CommitLedgerLaw" = some m.cls) (hts1 : ∀ w ∈ lw_tbl, w.before #[Value.ref b] s = true) (hgv : (Jvm.Cond.and given_1 narrow_1).before #[Value.ref b] s = true) (hX : va_X b 4 xs s s.heap) (hbl : b < s.heap.size) (D : va_G) (tys : List (ClassId × FieldType)) (cI cZ cF cM cR cV cJ : ClassId) (q0 q1 q2 q3 q4 q5 q6 q7 q8 q9 q10 q11 q12 q13 q14 q15 q16 q17 q18 q19 q20 q21 q22 q23 q24 q25 q26 q27 q28 q29 q30 q31 q32 q33 q34 q35 q36 q37 q38 q39 q40 q41 q42 q43 q44 q45 q46 q47 q48 q49 q50 q51 q52 q53 q54 q55 q56 q57 q58 q59 q60 q61 q62 q63 q64 q65 q66 q67 q68 q69 q70 q71 q72 q73 q74 q75 q76 q77 q78 q79 q80 q81 q82 q83 q84 q85 q86 q87 q88 q89 q90 q91 q92 q93 q94 q95 q96 q97 q98 q99 q100 q101 q102 q103 q104 q105 q106 q107 q108 q109 q110 q111 q112 q113 q114 q115 q116 : Nat) (u0 u1 um : Value) (ws : va_W) (H : Heap) (locs : List Loc) (ls : Array Slot) (hK : va_K D classes tys s) (htys : tys = [(cI, FieldType.int), (cZ, FieldType.boolean), (cF, FieldType.object "CommitLedger$LedgerFile"), (cM, FieldType.object "CommitLedger$Merge"), (cR, FieldType.object "CommitLedger$Reader"), (cV, FieldType.object "CommitLedgerModel$Version"), (cJ, FieldType.long)]) (hP : va_P D classes ws H) (hD : va_D (fun q : Nat => s.heap.size ≤ q) ws) (hS : va_S (fun q : Nat => s.heap.size ≤ q) s.heap H locs) (hlen : ws.length = 117) (f_0 : ws[0]? = some ((q0, Sum.inr (0, [Value.ref q1, Value.ref q5, Value.ref q8, Value.ref q20, Value.ref q25, Value.ref q12, Value.ref q16, Value.int 0, Value.int 0, Value.int 0, Value.int 16, Value.int 4, Value.int 0, Value.int 0, Value.int 0, Value.int 0, Value.int 0, Value.int (-1)])) : Nat × va_E)) (f_25 : ws[25]? = some ((q25, Sum.inl (cR, 4, Sum.inr (Sum.inr (Sum.inr (Sum.inr (va_up (va_up (va_up (va_up (fun _ => none) 0 (some q26)) 1 (some q31)) 2 (some q36)) 3 (some q41))))))) : Nat × va_E)) (f_26 : ws[26]? = some ((q26, Sum.inr (6, [Value.ref q27, Value.int 0, Value.int 0])) : Nat × va_E)) (f_31 : ws[31]? = some ((q31, Sum.inr (6, [Value.ref q32, Value.int 0, Value.int 0])) : Nat × va_E)) (f_36 : ws[36]? = some ((q36, Sum.inr (6, [Value.ref q37, Value.int 0, Value.int 0])) : Nat × va_E)) (f_41 : ws[41]? = some ((q41, Sum.inr (6, [Value.ref q42, Value.int 0, Value.int 0])) : Nat × va_E)) (f_46 : ws[46]? = some ((q46, Sum.inr (8, [Value.int 0, Value.int 0, Value.ref q47, Value.ref q48, Value.ref q49, Value.int 0, Value.ref q50, Value.ref q51, Value.ref q52, Value.ref q53, Value.int 0, Value.int 0, Value.int 0, Value.int (-1), Value.int 0, Value.ref q54, Value.ref q62, Value.ref q70, Value.int 0, Value.int 0, Value.int 0, Value.ref q78, Value.ref q79, Value.int 0, Value.int 16, Value.int 4, um, Value.ref q80, Value.ref q81, Value.ref q82, Value.int 0, Value.ref q83, Value.int 0, Value.int 0, Value.int 0])) : Nat × va_E)) (f_83 : ws[83]? = some ((q83, Sum.inl (cV, 4, Sum.inr (Sum.inr (Sum.inr (Sum.inr (va_up (va_up (va_up (va_up (fun _ => none) 0 (some q84)) 1 (some q92)) 2 (some q100)) 3 (some q108))))))) : Nat × va_E)) (f_84 : ws[84]? = some ((q84, Sum.inr (9, [Value.ref q85, Value.ref q86, Value.ref q87, Value.ref q88, Value.ref q89, Value.ref q90, Value.ref q91, Value.int 0, Value.int 0, Value.int 0, Value.int 0])) : Nat × va_E)) (f_87 : ws[87]? = some ((q87, Sum.inl (cI, 4098, Sum.inl (fun _ => 0))) : Nat × va_E)) (f_92 : ws[92]? = some ((q92, Sum.inr (9, [Value.ref q93, Value.ref q94, Value.ref q95, Value.ref q96, Value.ref q97, Value.ref q98, Value.ref q99, Value.int 0, Value.int 0, Value.int 0, Value.int 0])) : Nat × va_E)) (f_100 : ws[100]? = some ((q100, Sum.inr (9, [Value.ref q101, Value.ref q102, Value.ref q103, Value.ref q104, Value.ref q105, Value.ref q106, Value.ref q107, Value.int 0, Value.int 0, Value.int 0, Value.int 0])) : Nat × va_E)) (f_108 : ws[108]? = some ((q108, Sum.inr (9, [Value.ref q109, Value.ref q110, Value.ref q111, Value.ref q112, Value.ref q113, Value.ref q114, Value.ref q115, Value.int 0, Value.int 0, Value.int 0, Value.int 0])) : Nat × va_E)) (hl : lv_has ls 7 [(4, Value.int 0), (3, Value.ref q116), (2, Value.ref q46), (1, Value.ref q0), (0, Value.ref b)])
    (k : ∀ (H : Heap) (locs : List Loc) (ls : Array Slot), va_S (fun q : Nat => s.heap.size ≤ q) s.heap H locs → lv_has ls 7 [(4, Value.int 0), (0, Value.ref b)] → W p l e room_1 s m #[Value.ref b] below meth c H locs 400 700000 Q (F0 m 1272 ls [])) :
    W p l e room_1 s m #[Value.ref b] below meth c H locs 122 677754 Q (F0 m 907 ls []) := by
  have ht0 : tys[0]? = some ((cI, FieldType.int) : ClassId × FieldType) := by rw [htys]; rfl
  have ht1 : tys[1]? = some ((cZ, FieldType.boolean) : ClassId × FieldType) := by rw [htys]; rfl
  have ht2 : tys[2]? = some ((cF, FieldType.object "CommitLedger$LedgerFile") : ClassId × FieldType) := by rw [htys]; rfl
  have ht3 : tys[3]? = some ((cM, FieldType.object "CommitLedger$Merge") : ClassId × FieldType) := by rw [htys]; rfl
  have ht4 : tys[4]? = some ((cR, FieldType.object "CommitLedger$Reader") : ClassId × FieldType) := by rw [htys]; rfl
  have ht5 : tys[5]? = some ((cV, FieldType.object "CommitLedgerModel$Version") : ClassId × FieldType) := by rw [htys]; rfl
  have ht6 : tys[6]? = some ((cJ, FieldType.long) : ClassId × FieldType) := by rw [htys]; rfl
  have hY := gx_Y0 hts1 hgv
  have hts := gx_hts0 hts1 hgv
  obtain ⟨z, hzz⟩ : ∃ x : Nat, x = s.heap.size := ⟨_, rfl⟩
  rw [← hzz] at hY
  have hz : z ≤ s.heap.size := Nat.le_of_eq hzz
  have hAz : ∀ q : Nat, (fun q : Nat => s.heap.size ≤ q) q → z ≤ q := fun q h => by rw [hzz]; exact h
  have hA : ∀ q : Nat, s.heap.size ≤ q → (fun q : Nat => s.heap.size ≤ q) q := fun _ h => h
  have hbA : ¬ (fun q : Nat => s.heap.size ≤ q) b := Nat.not_le.mpr hbl
  have hN : gx_NS (fun q : Nat => s.heap.size ≤ q) s := fun q cell h hc => absurd (Array.getElem?_eq_some_iff.mp hc).1 (Nat.not_lt.mpr h)
  have hlen0 := hlen
  have hU : gx_g ws ws 0 [0, 1, 2, 3, 4, 5, 6, 7, 8, 9, 10, 11, 12, 13, 14, 15, 16, 17, 18, 19, 20, 21, 22, 23, 24, 25, 26, 27, 28, 29, 30, 31, 32, 33, 34, 35, 36, 37, 38, 39, 40, 41, 42, 43, 44, 45, 46, 47, 48, 49, 50, 51, 52, 53, 54, 55, 56, 57, 58, 59, 60, 61, 62, 63, 64, 65, 66, 67, 68, 69, 70, 71, 72, 73, 74, 75, 76, 77, 78, 79, 80, 81, 82, 83, 84, 85, 86, 87, 88, 89, 90, 91, 92, 93, 94, 95, 96, 97, 98, 99, 100, 101, 102, 103, 104, 105, 106, 107, 108, 109, 110, 111, 112, 113, 114, 115, 116] := gx_g.rf
  obtain ⟨y0, hy0⟩ : ∃ y : Int32, y = xs 0 := ⟨_, rfl⟩
  obtain ⟨y1, hy1⟩ : ∃ y : Int32, y = xs 1 := ⟨_, rfl⟩
  obtain ⟨y2, hy2⟩ : ∃ y : Int32, y = xs 2 := ⟨_, rfl⟩
  obtain ⟨y3, hy3⟩ : ∃ y : Int32, y = xs 3 := ⟨_, rfl⟩
  generalize hAe : (fun q : Nat => s.heap.size ≤ q) = A at hD hN hA hAz hS hbA
  refine lv_aload_n hx hb d_Lw_law_907 rfl (lv_at hl 3 rfl) ?_
  refine lv_aload_n hx hb d_Lw_law_908 rfl (lv_at hl 4 rfl) ?_
  refine lv_iload hx hb d_Lw_law_909 (lv_at hl 0 rfl) ?_
  refine lv_iconst (v := 1) hx hb d_Lw_law_911 (by decide) ?_
  refine lv_iadd hx hb d_Lw_law_912 ?_
  refine gx_topi (y := 1) (by decide) ?_
  refine va_sld hx hb hX hbl hbA hS (i := 1) (gx_inl (by decide)) d_Lw_law_913 ?_
  refine gx_topi (y := y1) (by rw [hy1]; rfl) ?_
  refine lv_aload_n hx hb d_Lw_law_914 rfl (lv_at hl 4 rfl) ?_
  refine lv_iload hx hb d_Lw_law_915 (lv_at hl 0 rfl) ?_
  refine lv_iconst (v := 2) hx hb d_Lw_law_917 (by decide) ?_
  refine lv_iadd hx hb d_Lw_law_918 ?_
  refine gx_topi (y := 2) (by decide) ?_
  refine va_sld hx hb hX hbl hbA hS (i := 2) (gx_inl (by decide)) d_Lw_law_919 ?_
  refine gx_topi (y := y2) (by rw [hy2]; rfl) ?_
  refine lv_aload_n hx hb d_Lw_law_920 rfl (lv_at hl 1 rfl) ?_
  refine gx_callH (ig := .invokestatic 153) (c_Lw_value_v1 l htr D tys z _ ws cR q0 y1 y2 q116 q1 q5 q8 q20 q25 q12 q16 q26 q31 q36 q41 q27 q32 q37 q42 f_0 f_25 f_26 f_31 f_36 f_41 ht4) (gx_invSH (As := [Value.ref q0, Value.int y1, Value.int y2, Value.ref q116]) (rest := []) hx hb hown hts km_Lw_153 kS_Lw_value kN_Lw kc_Lw_value (by decide) (show (parseMethodDescriptor y_Lw_value.desc).map (fun d => d.parameters.length) = some 4 by decide +kernel) rfl rfl d_Lw_law_921) (gx_cwH hts kc_Lw_value kN_Lw rfl rfl ⟨Nat.le_of_ble_eq_true rfl, Nat.le_of_ble_eq_true rfl⟩) hb hml gx_blind (gx_pre hz hP hK hD hY hS hAz [Value.ref q0, Value.int y1, Value.int y2, Value.ref q116]) rfl hl.1 (lv_room (Nat.le_of_ble_eq_true rfl)) d_Lw_law_921 ⟨Nat.le_of_ble_eq_true rfl, Nat.le_of_ble_eq_true rfl⟩ (fun v1 st1 t1 L1 h0_1 hW_1 hQ_1 hL_1 => ?_) (fun v1 st1 t1 L1 h0_1 hW_1 hQ_1 hL_1 => ?_)
  · obtain ⟨ws2, hp, hP9, -, hD9, hS9⟩ := gx_back h0_1 hW_1 hQ_1 hL_1 hD hS hA
    clear hQ_1 h0_1 hL_1 hW_1 hP hD hS
    have hP := hP9
    have hD := hD9
    have hS := hS9
    clear hP9 hD9 hS9
    rcases hp with ⟨hv9, e_ws2⟩
    cases hv9
    rw [e_ws2] at hP hD
    refine W.eq (g2 := F0 m 924 ls [Value.int 1]) rfl ?_
    refine W.widen (k := 123) (n := 677760) (by decide) (by decide) ?_
    generalize t1.heap = H at hP hS ⊢
    generalize locs ++ L1 = locs at hS ⊢
    refine lv_istore (lv' := [(5, Value.int 1), (4, Value.int 0), (3, Value.ref q116), (2, Value.ref q46), (1, Value.ref q0), (0, Value.ref b)]) hx hb d_Lw_law_924 hl (by decide) rfl (fun ls hl => ?_)
    refine lv_aload_n hx hb d_Lw_law_926 rfl (lv_at hl 3 rfl) ?_
    refine lv_aload_n hx hb d_Lw_law_927 rfl (lv_at hl 5 rfl) ?_
    refine lv_iload hx hb d_Lw_law_928 (lv_at hl 1 rfl) ?_
    refine lv_iconst (v := 1) hx hb d_Lw_law_930 (by decide) ?_
    refine lv_iadd hx hb d_Lw_law_931 ?_
    refine gx_topi (y := 1) (by decide) ?_
    refine va_sld hx hb hX hbl hbA hS (i := 1) (gx_inl (by decide)) d_Lw_law_932 ?_
    refine gx_topi (y := y1) (by rw [hy1]; rfl) ?_
    refine lv_aload_n hx hb d_Lw_law_933 rfl (lv_at hl 5 rfl) ?_
    refine lv_iload hx hb d_Lw_law_934 (lv_at hl 1 rfl) ?_
    refine lv_iconst (v := 2) hx hb d_Lw_law_936 (by decide) ?_
    refine lv_iadd hx hb d_Lw_law_937 ?_
    refine gx_topi (y := 2) (by decide) ?_
    refine va_sld hx hb hX hbl hbA hS (i := 2) (gx_inl (by decide)) d_Lw_law_938 ?_
    refine gx_topi (y := y2) (by rw [hy2]; rfl) ?_
    refine gx_call (ig := .invokevirtual 156) (c_Mo_value_v1 l htr D tys z _ ws cI cV q46 y1 y2 q47 q48 q49 q50 q51 q52 q53 q54 q62 q70 q78 q79 (um) q80 q81 q82 q83 q84 q85 q86 q87 q88 q89 q90 q91 q92 q93 q94 q95 q96 q97 q98 q99 q100 q101 q102 q103 q104 q105 q106 q107 q108 q109 q110 q111 q112 q113 q114 q115 f_46 f_84 f_87 f_92 f_100 f_108 f_83 ht0 ht5) (gx_invV (As := [Value.int y1, Value.int y2]) (rest := []) hx hb hown hts km_Lw_156 kI_Mo_value kV_Mo_value kc_Mo_value (by decide) (show (parseMethodDescriptor y_Mo_value.desc).map (fun d => d.parameters.length) = some 2 by decide +kernel) (gx_recv (ci := 8) hK hP rfl f_46) rfl rfl d_Lw_law_939) (gx_cw (z := 0) hts kc_Mo_value kN_Mo rfl rfl ⟨Nat.le_of_ble_eq_true rfl, Nat.le_of_ble_eq_true rfl⟩) hb hml gx_blind (gx_pre hz hP hK hD hY hS hAz [Value.ref q46, Value.int y1, Value.int y2]) rfl hl.1 (lv_room (Nat.le_of_ble_eq_true rfl)) d_Lw_law_939 ⟨Nat.le_of_ble_eq_true rfl, Nat.le_of_ble_eq_true rfl⟩ (fun v3 st3 t3 L3 h0_3 hW_3 hQ_3 hL_3 => ?_) (fun v3 st3 t3 L3 h0_3 hW_3 hQ_3 hL_3 => ?_)
    · obtain ⟨ws4, hp, hP9, -, hD9, hS9⟩ := gx_back h0_3 hW_3 hQ_3 hL_3 hD hS hA
      clear hQ_3 h0_3 hL_3 hW_3 hP hD hS
      have hP := hP9
      have hD := hD9
      have hS := hS9
      clear hP9 hD9 hS9
      rcases hp with ⟨hv9, e_ws4, f_46_ws4⟩
      cases hv9
      have f_46_ws4 : ws4[46]? = some ((q46, Sum.inr (8, [Value.int 0, Value.int 1, Value.ref q47, Value.ref q48, Value.ref q49, Value.int 0, Value.ref q50, Value.ref q51, Value.ref q52, Value.ref q53, Value.int 0, Value.int 0, Value.int 0, Value.int (-1), Value.int 0, Value.ref q54, Value.ref q62, Value.ref q70, Value.int 0, Value.int 0, Value.int 0, Value.ref q78, Value.ref q79, Value.int 0, Value.int 16, Value.int 4, um, Value.ref q80, Value.ref q81, Value.ref q82, Value.int 0, Value.ref q83, Value.int 0, Value.int 0, Value.int 0])) : Nat × va_E) := f_46_ws4
      replace hlen : ws4.length = 117 := by rw [e_ws4.1, hlen]
      replace hU : gx_g ws ws4 0 [0, 1, 2, 3, 4, 5, 6, 7, 8, 9, 10, 11, 12, 13, 14, 15, 16, 17, 18, 19, 20, 21, 22, 23, 24, 25, 26, 27, 28, 29, 30, 31, 32, 33, 34, 35, 36, 37, 38, 39, 40, 41, 42, 43, 44, 45, 46, 47, 48, 49, 50, 51, 52, 53, 54, 55, 56, 57, 58, 59, 60, 61, 62, 63, 64, 65, 66, 67, 68, 69, 70, 71, 72, 73, 74, 75, 76, 77, 78, 79, 80, 81, 82, 83, 84, 85, 86, 87, 88, 89, 90, 91, 92, 93, 94, 95, 96, 97, 98, 99, 100, 101, 102, 103, 104, 105, 106, 107, 108, 109, 110, 111, 112, 113, 114, 115, 116] := hU.call e_ws4 (by rw [hlen0]; decide)
      refine W.eq (g2 := F0 m 942 ls [Value.int 0]) rfl ?_
      generalize t3.heap = H at hP hS ⊢
      generalize locs ++ L3 = locs at hS ⊢
      refine lv_istore (lv' := [(6, Value.int 0), (5, Value.int 1), (4, Value.int 0), (3, Value.ref q116), (2, Value.ref q46), (1, Value.ref q0), (0, Value.ref b)]) hx hb d_Lw_law_942 hl (by decide) rfl (fun ls hl => ?_)
      refine lv_aload_n hx hb d_Lw_law_944 rfl (lv_at hl 4 rfl) ?_
      refine gx_call (ig := .invokevirtual 98) (c_Mo_thrown l htr D tys z _ ws4 q46 46 (Value.int 0) 1 (Value.ref q47) (Value.ref q48) (Value.ref q49) (Value.int 0) (Value.ref q50) (Value.ref q51) (Value.ref q52) (Value.ref q53) (Value.int 0) (Value.int 0) (Value.int 0) (Value.int (-1)) (Value.int 0) (Value.ref q54) (Value.ref q62) (Value.ref q70) (Value.int 0) (Value.int 0) (Value.int 0) (Value.ref q78) (Value.ref q79) (Value.int 0) (Value.int 16) (Value.int 4) (um) (Value.ref q80) (Value.ref q81) (Value.ref q82) (Value.int 0) (Value.ref q83) (Value.int 0) (Value.int 0) (Value.int 0) f_46_ws4) (gx_invV (As := []) (rest := []) hx hb hown hts km_Lw_98 kI_Mo_thrown kV_Mo_thrown kc_Mo_thrown (by decide) (show (parseMethodDescriptor y_Mo_thrown.desc).map (fun d => d.parameters.length) = some 0 by decide +kernel) (gx_recv (ci := 8) hK hP rfl f_46_ws4) rfl rfl d_Lw_law_945) (gx_cw (z := 0) hts kc_Mo_thrown kN_Mo rfl rfl ⟨Nat.le_of_ble_eq_true rfl, Nat.le_of_ble_eq_true rfl⟩) hb hml gx_blind (gx_pre hz hP hK hD hY hS hAz [Value.ref q46]) rfl hl.1 (lv_room (Nat.le_of_ble_eq_true rfl)) d_Lw_law_945 ⟨Nat.le_of_ble_eq_true rfl, Nat.le_of_ble_eq_true rfl⟩ (fun v5 st5 t5 L5 h0_5 hW_5 hQ_5 hL_5 => ?_) (fun v5 st5 t5 L5 h0_5 hW_5 hQ_5 hL_5 => ?_)
      · obtain ⟨ws6, hp, hP9, -, hD9, hS9⟩ := gx_back h0_5 hW_5 hQ_5 hL_5 hD hS hA
        clear hQ_5 h0_5 hL_5 hW_5 hP hD hS
        have hP := hP9
        have hD := hD9
        have hS := hS9
        clear hP9 hD9 hS9
        rcases hp with ⟨hv9, e_ws6⟩
        cases hv9
        rw [e_ws6] at hP hD
        refine W.eq (g2 := F0 m 948 ls [Value.int 1]) rfl ?_
        generalize t5.heap = H at hP hS ⊢
        generalize locs ++ L5 = locs at hS ⊢
        refine lv_iload hx hb d_Lw_law_948 (lv_at hl 1 rfl) ?_
        refine lv_icmp_eq (tgt := 955) hx hb d_Lw_law_950 (by decide) (fun _ => ?_) (fun c9 => absurd (by decide) c9)
        refine lv_iload hx hb d_Lw_law_955 (lv_at hl 1 rfl) ?_
        refine lv_if_ne (tgt := 972) hx hb d_Lw_law_957 (by decide) (fun _ => ?_) (fun c9 => absurd c9 (by decide))
        refine lv_goto (tgt := 1272) hx hb d_Lw_law_972 (by decide) ?_
        refine W.widen (k := 400) (n := 700000) (by decide) (by decide) ?_
        exact k _ _ ls (by rw [hAe]; exact hS) (lv_sub hl [2, 6] rfl)
      · obtain ⟨E9, ws7, ce, hp, hce, hP9, -, hD9, hS9⟩ := gx_backT h0_5 hW_5 hQ_5 hL_5 hD hS hA
        clear hQ_5 h0_5 hL_5 hW_5 hP hD hS
        have hP := hP9
        have hD := hD9
        have hS := hS9
        clear hP9 hD9 hS9
        rcases hp with ⟨hv9, e_ws7⟩
        cases hv9
    · obtain ⟨E9, ws8, ce, hp, hce, hP9, -, hD9, hS9⟩ := gx_backT h0_3 hW_3 hQ_3 hL_3 hD hS hA
      clear hQ_3 h0_3 hL_3 hW_3 hP hD hS
      have hP := hP9
      have hD := hD9
      have hS := hS9
      clear hP9 hD9 hS9
      rcases hp with ⟨hv9, e_ws8, f_46_ws8⟩
      cases hv9
  · obtain ⟨E9, ws9, ce, hp, hce, hP9, -, hD9, hS9⟩ := gx_backT h0_1 hW_1 hQ_1 hL_1 hD hS hA
    clear hQ_1 h0_1 hL_1 hW_1 hP hD hS
    have hP := hP9
    have hD := hD9
    have hS := hS9
    clear hP9 hD9 hS9
    rcases hp with ⟨hv9, e_ws9⟩
    cases hv9

set_option maxHeartbeats 4000000 in
set_option maxRecDepth 100000 in
theorem law_t17 {p : Program} {e : Env} {s : State} {m : MethodId} {below : List Frame} {meth : Method} {c : Code} {Q : State → Prop} (l : Launch) (htr : l.stackTraces = false) {b : Nat} {xs : Nat → Int32} (hx : p.tables.exec = Jvm.exec) (hb : c.code = code) (hml : c.maxLocals = 7) (hown : s.vm.findClass "CommitLedgerLaw" = some m.cls) (hts1 : ∀ w ∈ lw_tbl, w.before #[Value.ref b] s = true) (hgv : (Jvm.Cond.and given_1 narrow_1).before #[Value.ref b] s = true) (hX : va_X b 4 xs s s.heap) (hbl : b < s.heap.size) (D : va_G) (tys : List (ClassId × FieldType)) (cI cZ cF cM cR cV cJ : ClassId) (q0 q1 q2 q3 q4 q5 q6 q7 q8 q9 q10 q11 q12 q13 q14 q15 q16 q17 q18 q19 q20 q21 q22 q23 q24 q25 q26 q27 q28 q29 q30 q31 q32 q33 q34 q35 q36 q37 q38 q39 q40 q41 q42 q43 q44 q45 q46 q47 q48 q49 q50 q51 q52 q53 q54 q55 q56 q57 q58 q59 q60 q61 q62 q63 q64 q65 q66 q67 q68 q69 q70 q71 q72 q73 q74 q75 q76 q77 q78 q79 q80 q81 q82 q83 q84 q85 q86 q87 q88 q89 q90 q91 q92 q93 q94 q95 q96 q97 q98 q99 q100 q101 q102 q103 q104 q105 q106 q107 q108 q109 q110 q111 q112 q113 q114 q115 q116 : Nat) (u0 u1 um : Value) (ws : va_W) (H : Heap) (locs : List Loc) (ls : Array Slot) (hK : va_K D classes tys s) (htys : tys = [(cI, FieldType.int), (cZ, FieldType.boolean), (cF, FieldType.object "CommitLedger$LedgerFile"), (cM, FieldType.object "CommitLedger$Merge"), (cR, FieldType.object "CommitLedger$Reader"), (cV, FieldType.object "CommitLedgerModel$Version"), (cJ, FieldType.long)]) (hP : va_P D classes ws H) (hD : va_D (fun q : Nat => s.heap.size ≤ q) ws) (hS : va_S (fun q : Nat => s.heap.size ≤ q) s.heap H locs) (hlen : ws.length = 117) (f_0 : ws[0]? = some ((q0, Sum.inr (0, [Value.ref q1, Value.ref q5, Value.ref q8, Value.ref q20, Value.ref q25, Value.ref q12, Value.ref q16, Value.int 0, Value.int 0, Value.int 0, Value.int 16, Value.int 4, Value.int 0, Value.int 0, Value.int 0, Value.int 0, Value.int 0, Value.int (-1)])) : Nat × va_E)) (f_25 : ws[25]? = some ((q25, Sum.inl (cR, 4, Sum.inr (Sum.inr (Sum.inr (Sum.inr (va_up (va_up (va_up (va_up (fun _ => none) 0 (some q26)) 1 (some q31)) 2 (some q36)) 3 (some q41))))))) : Nat × va_E)) (f_26 : ws[26]? = some ((q26, Sum.inr (6, [Value.ref q27, Value.int 0, Value.int 0])) : Nat × va_E)) (f_31 : ws[31]? = some ((q31, Sum.inr (6, [Value.ref q32, Value.int 0, Value.int 0])) : Nat × va_E)) (f_36 : ws[36]? = some ((q36, Sum.inr (6, [Value.ref q37, Value.int 0, Value.int 0])) : Nat × va_E)) (f_41 : ws[41]? = some ((q41, Sum.inr (6, [Value.ref q42, Value.int 0, Value.int 0])) : Nat × va_E)) (f_46 : ws[46]? = some ((q46, Sum.inr (8, [Value.int 0, Value.int 0, Value.ref q47, Value.ref q48, Value.ref q49, Value.int 0, Value.ref q50, Value.ref q51, Value.ref q52, Value.ref q53, Value.int 0, Value.int 0, Value.int 0, Value.int (-1), Value.int 0, Value.ref q54, Value.ref q62, Value.ref q70, Value.int 0, Value.int 0, Value.int 0, Value.ref q78, Value.ref q79, Value.int 0, Value.int 16, Value.int 4, um, Value.ref q80, Value.ref q81, Value.ref q82, Value.int 0, Value.ref q83, Value.int 0, Value.int 0, Value.int 0])) : Nat × va_E)) (f_83 : ws[83]? = some ((q83, Sum.inl (cV, 4, Sum.inr (Sum.inr (Sum.inr (Sum.inr (va_up (va_up (va_up (va_up (fun _ => none) 0 (some q84)) 1 (some q92)) 2 (some q100)) 3 (some q108))))))) : Nat × va_E)) (f_84 : ws[84]? = some ((q84, Sum.inr (9, [Value.ref q85, Value.ref q86, Value.ref q87, Value.ref q88, Value.ref q89, Value.ref q90, Value.ref q91, Value.int 0, Value.int 0, Value.int 0, Value.int 0])) : Nat × va_E)) (f_87 : ws[87]? = some ((q87, Sum.inl (cI, 4098, Sum.inl (fun _ => 0))) : Nat × va_E)) (f_92 : ws[92]? = some ((q92, Sum.inr (9, [Value.ref q93, Value.ref q94, Value.ref q95, Value.ref q96, Value.ref q97, Value.ref q98, Value.ref q99, Value.int 0, Value.int 0, Value.int 0, Value.int 0])) : Nat × va_E)) (f_100 : ws[100]? = some ((q100, Sum.inr (9, [Value.ref q101, Value.ref q102, Value.ref q103, Value.ref q104, Value.ref q105, Value.ref q106, Value.ref q107, Value.int 0, Value.int 0, Value.int 0, Value.int 0])) : Nat × va_E)) (f_108 : ws[108]? = some ((q108, Sum.inr (9, [Value.ref q109, Value.ref q110, Value.ref q111, Value.ref q112, Value.ref q113, Value.ref q114, Value.ref q115, Value.int 0, Value.int 0, Value.int 0, Value.int 0])) : Nat × va_E)) (hl : lv_has ls 7 [(4, Value.int 0), (3, Value.ref q116), (2, Value.ref q46), (1, Value.ref q0), (0, Value.ref b)])
    (k : ∀ (H : Heap) (locs : List Loc) (ls : Array Slot), va_S (fun q : Nat => s.heap.size ≤ q) s.heap H locs → lv_has ls 7 [(4, Value.int 0), (0, Value.ref b)] → W p l e room_1 s m #[Value.ref b] below meth c H locs 400 700000 Q (F0 m 1272 ls [])) :
    W p l e room_1 s m #[Value.ref b] below meth c H locs 122 677754 Q (F0 m 975 ls []) := by
  have ht0 : tys[0]? = some ((cI, FieldType.int) : ClassId × FieldType) := by rw [htys]; rfl
  have ht1 : tys[1]? = some ((cZ, FieldType.boolean) : ClassId × FieldType) := by rw [htys]; rfl
  have ht2 : tys[2]? = some ((cF, FieldType.object "CommitLedger$LedgerFile") : ClassId × FieldType) := by rw [htys]; rfl
  have ht3 : tys[3]? = some ((cM, FieldType.object "CommitLedger$Merge") : ClassId × FieldType) := by rw [htys]; rfl
  have ht4 : tys[4]? = some ((cR, FieldType.object "CommitLedger$Reader") : ClassId × FieldType) := by rw [htys]; rfl
  have ht5 : tys[5]? = some ((cV, FieldType.object "CommitLedgerModel$Version") : ClassId × FieldType) := by rw [htys]; rfl
  have ht6 : tys[6]? = some ((cJ, FieldType.long) : ClassId × FieldType) := by rw [htys]; rfl
  have hY := gx_Y0 hts1 hgv
  have hts := gx_hts0 hts1 hgv
  obtain ⟨z, hzz⟩ : ∃ x : Nat, x = s.heap.size := ⟨_, rfl⟩
  rw [← hzz] at hY
  have hz : z ≤ s.heap.size := Nat.le_of_eq hzz
  have hAz : ∀ q : Nat, (fun q : Nat => s.heap.size ≤ q) q → z ≤ q := fun q h => by rw [hzz]; exact h
  have hA : ∀ q : Nat, s.heap.size ≤ q → (fun q : Nat => s.heap.size ≤ q) q := fun _ h => h
  have hbA : ¬ (fun q : Nat => s.heap.size ≤ q) b := Nat.not_le.mpr hbl
  have hN : gx_NS (fun q : Nat => s.heap.size ≤ q) s := fun q cell h hc => absurd (Array.getElem?_eq_some_iff.mp hc).1 (Nat.not_lt.mpr h)
  have hlen0 := hlen
  have hU : gx_g ws ws 0 [0, 1, 2, 3, 4, 5, 6, 7, 8, 9, 10, 11, 12, 13, 14, 15, 16, 17, 18, 19, 20, 21, 22, 23, 24, 25, 26, 27, 28, 29, 30, 31, 32, 33, 34, 35, 36, 37, 38, 39, 40, 41, 42, 43, 44, 45, 46, 47, 48, 49, 50, 51, 52, 53, 54, 55, 56, 57, 58, 59, 60, 61, 62, 63, 64, 65, 66, 67, 68, 69, 70, 71, 72, 73, 74, 75, 76, 77, 78, 79, 80, 81, 82, 83, 84, 85, 86, 87, 88, 89, 90, 91, 92, 93, 94, 95, 96, 97, 98, 99, 100, 101, 102, 103, 104, 105, 106, 107, 108, 109, 110, 111, 112, 113, 114, 115, 116] := gx_g.rf
  obtain ⟨y0, hy0⟩ : ∃ y : Int32, y = xs 0 := ⟨_, rfl⟩
  obtain ⟨y1, hy1⟩ : ∃ y : Int32, y = xs 1 := ⟨_, rfl⟩
  obtain ⟨y2, hy2⟩ : ∃ y : Int32, y = xs 2 := ⟨_, rfl⟩
  obtain ⟨y3, hy3⟩ : ∃ y : Int32, y = xs 3 := ⟨_, rfl⟩
  generalize hAe : (fun q : Nat => s.heap.size ≤ q) = A at hD hN hA hAz hS hbA
  refine lv_aload_n hx hb d_Lw_law_975 rfl (lv_at hl 3 rfl) ?_
  refine lv_aload_n hx hb d_Lw_law_976 rfl (lv_at hl 4 rfl) ?_
  refine lv_iload hx hb d_Lw_law_977 (lv_at hl 0 rfl) ?_
  refine lv_iconst (v := 1) hx hb d_Lw_law_979 (by decide) ?_
  refine lv_iadd hx hb d_Lw_law_980 ?_
  refine gx_topi (y := 1) (by decide) ?_
  refine va_sld hx hb hX hbl hbA hS (i := 1) (gx_inl (by decide)) d_Lw_law_981 ?_
  refine gx_topi (y := y1) (by rw [hy1]; rfl) ?_
  refine lv_aload_n hx hb d_Lw_law_982 rfl (lv_at hl 4 rfl) ?_
  refine lv_iload hx hb d_Lw_law_983 (lv_at hl 0 rfl) ?_
  refine lv_iconst (v := 2) hx hb d_Lw_law_985 (by decide) ?_
  refine lv_iadd hx hb d_Lw_law_986 ?_
  refine gx_topi (y := 2) (by decide) ?_
  refine va_sld hx hb hX hbl hbA hS (i := 2) (gx_inl (by decide)) d_Lw_law_987 ?_
  refine gx_topi (y := y2) (by rw [hy2]; rfl) ?_
  refine lv_aload_n hx hb d_Lw_law_988 rfl (lv_at hl 1 rfl) ?_
  refine gx_callH (ig := .invokestatic 157) (c_Lw_many_v1 l htr D tys z _ ws cR q0 y1 y2 q116 q1 q5 q8 q20 q25 q12 q16 q26 q31 q36 q41 q27 q32 q37 q42 f_0 f_25 f_26 f_31 f_36 f_41 ht4) (gx_invSH (As := [Value.ref q0, Value.int y1, Value.int y2, Value.ref q116]) (rest := []) hx hb hown hts km_Lw_157 kS_Lw_many kN_Lw kc_Lw_many (by decide) (show (parseMethodDescriptor y_Lw_many.desc).map (fun d => d.parameters.length) = some 4 by decide +kernel) rfl rfl d_Lw_law_989) (gx_cwH hts kc_Lw_many kN_Lw rfl rfl ⟨Nat.le_of_ble_eq_true rfl, Nat.le_of_ble_eq_true rfl⟩) hb hml gx_blind (gx_pre hz hP hK hD hY hS hAz [Value.ref q0, Value.int y1, Value.int y2, Value.ref q116]) rfl hl.1 (lv_room (Nat.le_of_ble_eq_true rfl)) d_Lw_law_989 ⟨Nat.le_of_ble_eq_true rfl, Nat.le_of_ble_eq_true rfl⟩ (fun v1 st1 t1 L1 h0_1 hW_1 hQ_1 hL_1 => ?_) (fun v1 st1 t1 L1 h0_1 hW_1 hQ_1 hL_1 => ?_)
  · obtain ⟨ws2, hp, hP9, -, hD9, hS9⟩ := gx_back h0_1 hW_1 hQ_1 hL_1 hD hS hA
    clear hQ_1 h0_1 hL_1 hW_1 hP hD hS
    have hP := hP9
    have hD := hD9
    have hS := hS9
    clear hP9 hD9 hS9
    rcases hp with ⟨hv9, e_ws2⟩
    cases hv9
    rw [e_ws2] at hP hD
    refine W.eq (g2 := F0 m 992 ls [Value.int 1]) rfl ?_
    refine W.widen (k := 123) (n := 677760) (by decide) (by decide) ?_
    generalize t1.heap = H at hP hS ⊢
    generalize locs ++ L1 = locs at hS ⊢
    refine lv_istore (lv' := [(5, Value.int 1), (4, Value.int 0), (3, Value.ref q116), (2, Value.ref q46), (1, Value.ref q0), (0, Value.ref b)]) hx hb d_Lw_law_992 hl (by decide) rfl (fun ls hl => ?_)
    refine lv_aload_n hx hb d_Lw_law_994 rfl (lv_at hl 3 rfl) ?_
    refine lv_aload_n hx hb d_Lw_law_995 rfl (lv_at hl 5 rfl) ?_
    refine lv_iload hx hb d_Lw_law_996 (lv_at hl 1 rfl) ?_
    refine lv_iconst (v := 1) hx hb d_Lw_law_998 (by decide) ?_
    refine lv_iadd hx hb d_Lw_law_999 ?_
    refine gx_topi (y := 1) (by decide) ?_
    refine va_sld hx hb hX hbl hbA hS (i := 1) (gx_inl (by decide)) d_Lw_law_1000 ?_
    refine gx_topi (y := y1) (by rw [hy1]; rfl) ?_
    refine lv_aload_n hx hb d_Lw_law_1001 rfl (lv_at hl 5 rfl) ?_
    refine lv_iload hx hb d_Lw_law_1002 (lv_at hl 1 rfl) ?_
    refine lv_iconst (v := 2) hx hb d_Lw_law_1004 (by decide) ?_
    refine lv_iadd hx hb d_Lw_law_1005 ?_
    refine gx_topi (y := 2) (by decide) ?_
    refine va_sld hx hb hX hbl hbA hS (i := 2) (gx_inl (by decide)) d_Lw_law_1006 ?_
    refine gx_topi (y := y2) (by rw [hy2]; rfl) ?_
    refine gx_call (ig := .invokevirtual 159) (c_Mo_many_v1 l htr D tys z _ ws cI cV q46 y1 y2 q47 q48 q49 q50 q51 q52 q53 q54 q62 q70 q78 q79 (um) q80 q81 q82 q83 q84 q85 q86 q87 q88 q89 q90 q91 q92 q93 q94 q95 q96 q97 q98 q99 q100 q101 q102 q103 q104 q105 q106 q107 q108 q109 q110 q111 q112 q113 q114 q115 f_46 f_84 f_87 f_92 f_100 f_108 f_83 ht0 ht5) (gx_invV (As := [Value.int y1, Value.int y2]) (rest := []) hx hb hown hts km_Lw_159 kI_Mo_many kV_Mo_many kc_Mo_many (by decide) (show (parseMethodDescriptor y_Mo_many.desc).map (fun d => d.parameters.length) = some 2 by decide +kernel) (gx_recv (ci := 8) hK hP rfl f_46) rfl rfl d_Lw_law_1007) (gx_cw (z := 0) hts kc_Mo_many kN_Mo rfl rfl ⟨Nat.le_of_ble_eq_true rfl, Nat.le_of_ble_eq_true rfl⟩) hb hml gx_blind (gx_pre hz hP hK hD hY hS hAz [Value.ref q46, Value.int y1, Value.int y2]) rfl hl.1 (lv_room (Nat.le_of_ble_eq_true rfl)) d_Lw_law_1007 ⟨Nat.le_of_ble_eq_true rfl, Nat.le_of_ble_eq_true rfl⟩ (fun v3 st3 t3 L3 h0_3 hW_3 hQ_3 hL_3 => ?_) (fun v3 st3 t3 L3 h0_3 hW_3 hQ_3 hL_3 => ?_)
    · obtain ⟨ws4, hp, hP9, -, hD9, hS9⟩ := gx_back h0_3 hW_3 hQ_3 hL_3 hD hS hA
      clear hQ_3 h0_3 hL_3 hW_3 hP hD hS
      have hP := hP9
      have hD := hD9
      have hS := hS9
      clear hP9 hD9 hS9
      rcases hp with ⟨hv9, e_ws4, f_46_ws4⟩
      cases hv9
      have f_46_ws4 : ws4[46]? = some ((q46, Sum.inr (8, [Value.int 0, Value.int 1, Value.ref q47, Value.ref q48, Value.ref q49, Value.int 0, Value.ref q50, Value.ref q51, Value.ref q52, Value.ref q53, Value.int 0, Value.int 0, Value.int 0, Value.int (-1), Value.int 0, Value.ref q54, Value.ref q62, Value.ref q70, Value.int 0, Value.int 0, Value.int 0, Value.ref q78, Value.ref q79, Value.int 0, Value.int 16, Value.int 4, um, Value.ref q80, Value.ref q81, Value.ref q82, Value.int 0, Value.ref q83, Value.int 0, Value.int 0, Value.int 0])) : Nat × va_E) := f_46_ws4
      replace hlen : ws4.length = 117 := by rw [e_ws4.1, hlen]
      replace hU : gx_g ws ws4 0 [0, 1, 2, 3, 4, 5, 6, 7, 8, 9, 10, 11, 12, 13, 14, 15, 16, 17, 18, 19, 20, 21, 22, 23, 24, 25, 26, 27, 28, 29, 30, 31, 32, 33, 34, 35, 36, 37, 38, 39, 40, 41, 42, 43, 44, 45, 46, 47, 48, 49, 50, 51, 52, 53, 54, 55, 56, 57, 58, 59, 60, 61, 62, 63, 64, 65, 66, 67, 68, 69, 70, 71, 72, 73, 74, 75, 76, 77, 78, 79, 80, 81, 82, 83, 84, 85, 86, 87, 88, 89, 90, 91, 92, 93, 94, 95, 96, 97, 98, 99, 100, 101, 102, 103, 104, 105, 106, 107, 108, 109, 110, 111, 112, 113, 114, 115, 116] := hU.call e_ws4 (by rw [hlen0]; decide)
      refine W.eq (g2 := F0 m 1010 ls [Value.int 0]) rfl ?_
      generalize t3.heap = H at hP hS ⊢
      generalize locs ++ L3 = locs at hS ⊢
      refine lv_istore (lv' := [(6, Value.int 0), (5, Value.int 1), (4, Value.int 0), (3, Value.ref q116), (2, Value.ref q46), (1, Value.ref q0), (0, Value.ref b)]) hx hb d_Lw_law_1010 hl (by decide) rfl (fun ls hl => ?_)
      refine lv_aload_n hx hb d_Lw_law_1012 rfl (lv_at hl 4 rfl) ?_
      refine gx_call (ig := .invokevirtual 98) (c_Mo_thrown l htr D tys z _ ws4 q46 46 (Value.int 0) 1 (Value.ref q47) (Value.ref q48) (Value.ref q49) (Value.int 0) (Value.ref q50) (Value.ref q51) (Value.ref q52) (Value.ref q53) (Value.int 0) (Value.int 0) (Value.int 0) (Value.int (-1)) (Value.int 0) (Value.ref q54) (Value.ref q62) (Value.ref q70) (Value.int 0) (Value.int 0) (Value.int 0) (Value.ref q78) (Value.ref q79) (Value.int 0) (Value.int 16) (Value.int 4) (um) (Value.ref q80) (Value.ref q81) (Value.ref q82) (Value.int 0) (Value.ref q83) (Value.int 0) (Value.int 0) (Value.int 0) f_46_ws4) (gx_invV (As := []) (rest := []) hx hb hown hts km_Lw_98 kI_Mo_thrown kV_Mo_thrown kc_Mo_thrown (by decide) (show (parseMethodDescriptor y_Mo_thrown.desc).map (fun d => d.parameters.length) = some 0 by decide +kernel) (gx_recv (ci := 8) hK hP rfl f_46_ws4) rfl rfl d_Lw_law_1013) (gx_cw (z := 0) hts kc_Mo_thrown kN_Mo rfl rfl ⟨Nat.le_of_ble_eq_true rfl, Nat.le_of_ble_eq_true rfl⟩) hb hml gx_blind (gx_pre hz hP hK hD hY hS hAz [Value.ref q46]) rfl hl.1 (lv_room (Nat.le_of_ble_eq_true rfl)) d_Lw_law_1013 ⟨Nat.le_of_ble_eq_true rfl, Nat.le_of_ble_eq_true rfl⟩ (fun v5 st5 t5 L5 h0_5 hW_5 hQ_5 hL_5 => ?_) (fun v5 st5 t5 L5 h0_5 hW_5 hQ_5 hL_5 => ?_)
      · obtain ⟨ws6, hp, hP9, -, hD9, hS9⟩ := gx_back h0_5 hW_5 hQ_5 hL_5 hD hS hA
        clear hQ_5 h0_5 hL_5 hW_5 hP hD hS
        have hP := hP9
        have hD := hD9
        have hS := hS9
        clear hP9 hD9 hS9
        rcases hp with ⟨hv9, e_ws6⟩
        cases hv9
        rw [e_ws6] at hP hD
        refine W.eq (g2 := F0 m 1016 ls [Value.int 1]) rfl ?_
        generalize t5.heap = H at hP hS ⊢
        generalize locs ++ L5 = locs at hS ⊢
        refine lv_iload hx hb d_Lw_law_1016 (lv_at hl 1 rfl) ?_
        refine lv_icmp_eq (tgt := 1023) hx hb d_Lw_law_1018 (by decide) (fun _ => ?_) (fun c9 => absurd (by decide) c9)
        refine lv_iload hx hb d_Lw_law_1023 (lv_at hl 1 rfl) ?_
        refine lv_if_ne (tgt := 1040) hx hb d_Lw_law_1025 (by decide) (fun _ => ?_) (fun c9 => absurd c9 (by decide))
        refine lv_goto (tgt := 1272) hx hb d_Lw_law_1040 (by decide) ?_
        refine W.widen (k := 400) (n := 700000) (by decide) (by decide) ?_
        exact k _ _ ls (by rw [hAe]; exact hS) (lv_sub hl [2, 6] rfl)
      · obtain ⟨E9, ws7, ce, hp, hce, hP9, -, hD9, hS9⟩ := gx_backT h0_5 hW_5 hQ_5 hL_5 hD hS hA
        clear hQ_5 h0_5 hL_5 hW_5 hP hD hS
        have hP := hP9
        have hD := hD9
        have hS := hS9
        clear hP9 hD9 hS9
        rcases hp with ⟨hv9, e_ws7⟩
        cases hv9
    · obtain ⟨E9, ws8, ce, hp, hce, hP9, -, hD9, hS9⟩ := gx_backT h0_3 hW_3 hQ_3 hL_3 hD hS hA
      clear hQ_3 h0_3 hL_3 hW_3 hP hD hS
      have hP := hP9
      have hD := hD9
      have hS := hS9
      clear hP9 hD9 hS9
      rcases hp with ⟨hv9, e_ws8, f_46_ws8⟩
      cases hv9
  · obtain ⟨E9, ws9, ce, hp, hce, hP9, -, hD9, hS9⟩ := gx_backT h0_1 hW_1 hQ_1 hL_1 hD hS hA
    clear hQ_1 h0_1 hL_1 hW_1 hP hD hS
    have hP := hP9
    have hD := hD9
    have hS := hS9
    clear hP9 hD9 hS9
    rcases hp with ⟨hv9, e_ws9⟩
    cases hv9

set_option maxHeartbeats 4000000 in
set_option maxRecDepth 100000 in
theorem law_t18 {p : Program} {e : Env} {s : State} {m : MethodId} {below : List Frame} {meth : Method} {c : Code} {Q : State → Prop} (l : Launch) (htr : l.stackTraces = false) {b : Nat} {xs : Nat → Int32} (hx : p.tables.exec = Jvm.exec) (hb : c.code = code) (hml : c.maxLocals = 7) (hown : s.vm.findClass "CommitLedgerLaw" = some m.cls) (hts1 : ∀ w ∈ lw_tbl, w.before #[Value.ref b] s = true) (hgv : (Jvm.Cond.and given_1 narrow_1).before #[Value.ref b] s = true) (hX : va_X b 4 xs s s.heap) (hbl : b < s.heap.size) (D : va_G) (tys : List (ClassId × FieldType)) (cI cZ cF cM cR cV cJ : ClassId) (q0 q1 q2 q3 q4 q5 q6 q7 q8 q9 q10 q11 q12 q13 q14 q15 q16 q17 q18 q19 q20 q21 q22 q23 q24 q25 q26 q27 q28 q29 q30 q31 q32 q33 q34 q35 q36 q37 q38 q39 q40 q41 q42 q43 q44 q45 q46 q47 q48 q49 q50 q51 q52 q53 q54 q55 q56 q57 q58 q59 q60 q61 q62 q63 q64 q65 q66 q67 q68 q69 q70 q71 q72 q73 q74 q75 q76 q77 q78 q79 q80 q81 q82 q83 q84 q85 q86 q87 q88 q89 q90 q91 q92 q93 q94 q95 q96 q97 q98 q99 q100 q101 q102 q103 q104 q105 q106 q107 q108 q109 q110 q111 q112 q113 q114 q115 q116 : Nat) (u0 u1 um : Value) (ws : va_W) (H : Heap) (locs : List Loc) (ls : Array Slot) (hK : va_K D classes tys s) (htys : tys = [(cI, FieldType.int), (cZ, FieldType.boolean), (cF, FieldType.object "CommitLedger$LedgerFile"), (cM, FieldType.object "CommitLedger$Merge"), (cR, FieldType.object "CommitLedger$Reader"), (cV, FieldType.object "CommitLedgerModel$Version"), (cJ, FieldType.long)]) (hP : va_P D classes ws H) (hD : va_D (fun q : Nat => s.heap.size ≤ q) ws) (hS : va_S (fun q : Nat => s.heap.size ≤ q) s.heap H locs) (hlen : ws.length = 117) (f_0 : ws[0]? = some ((q0, Sum.inr (0, [Value.ref q1, Value.ref q5, Value.ref q8, Value.ref q20, Value.ref q25, Value.ref q12, Value.ref q16, Value.int 0, Value.int 0, Value.int 0, Value.int 16, Value.int 4, Value.int 0, Value.int 0, Value.int 0, Value.int 0, Value.int 0, Value.int (-1)])) : Nat × va_E)) (f_25 : ws[25]? = some ((q25, Sum.inl (cR, 4, Sum.inr (Sum.inr (Sum.inr (Sum.inr (va_up (va_up (va_up (va_up (fun _ => none) 0 (some q26)) 1 (some q31)) 2 (some q36)) 3 (some q41))))))) : Nat × va_E)) (f_26 : ws[26]? = some ((q26, Sum.inr (6, [Value.ref q27, Value.int 0, Value.int 0])) : Nat × va_E)) (f_31 : ws[31]? = some ((q31, Sum.inr (6, [Value.ref q32, Value.int 0, Value.int 0])) : Nat × va_E)) (f_36 : ws[36]? = some ((q36, Sum.inr (6, [Value.ref q37, Value.int 0, Value.int 0])) : Nat × va_E)) (f_41 : ws[41]? = some ((q41, Sum.inr (6, [Value.ref q42, Value.int 0, Value.int 0])) : Nat × va_E)) (f_46 : ws[46]? = some ((q46, Sum.inr (8, [Value.int 0, Value.int 0, Value.ref q47, Value.ref q48, Value.ref q49, Value.int 0, Value.ref q50, Value.ref q51, Value.ref q52, Value.ref q53, Value.int 0, Value.int 0, Value.int 0, Value.int (-1), Value.int 0, Value.ref q54, Value.ref q62, Value.ref q70, Value.int 0, Value.int 0, Value.int 0, Value.ref q78, Value.ref q79, Value.int 0, Value.int 16, Value.int 4, um, Value.ref q80, Value.ref q81, Value.ref q82, Value.int 0, Value.ref q83, Value.int 0, Value.int 0, Value.int 0])) : Nat × va_E)) (f_83 : ws[83]? = some ((q83, Sum.inl (cV, 4, Sum.inr (Sum.inr (Sum.inr (Sum.inr (va_up (va_up (va_up (va_up (fun _ => none) 0 (some q84)) 1 (some q92)) 2 (some q100)) 3 (some q108))))))) : Nat × va_E)) (f_84 : ws[84]? = some ((q84, Sum.inr (9, [Value.ref q85, Value.ref q86, Value.ref q87, Value.ref q88, Value.ref q89, Value.ref q90, Value.ref q91, Value.int 0, Value.int 0, Value.int 0, Value.int 0])) : Nat × va_E)) (f_87 : ws[87]? = some ((q87, Sum.inl (cI, 4098, Sum.inl (fun _ => 0))) : Nat × va_E)) (f_92 : ws[92]? = some ((q92, Sum.inr (9, [Value.ref q93, Value.ref q94, Value.ref q95, Value.ref q96, Value.ref q97, Value.ref q98, Value.ref q99, Value.int 0, Value.int 0, Value.int 0, Value.int 0])) : Nat × va_E)) (f_100 : ws[100]? = some ((q100, Sum.inr (9, [Value.ref q101, Value.ref q102, Value.ref q103, Value.ref q104, Value.ref q105, Value.ref q106, Value.ref q107, Value.int 0, Value.int 0, Value.int 0, Value.int 0])) : Nat × va_E)) (f_108 : ws[108]? = some ((q108, Sum.inr (9, [Value.ref q109, Value.ref q110, Value.ref q111, Value.ref q112, Value.ref q113, Value.ref q114, Value.ref q115, Value.int 0, Value.int 0, Value.int 0, Value.int 0])) : Nat × va_E)) (hl : lv_has ls 7 [(4, Value.int 0), (3, Value.ref q116), (2, Value.ref q46), (1, Value.ref q0), (0, Value.ref b)])
    (k : ∀ (H : Heap) (locs : List Loc) (ls : Array Slot), va_S (fun q : Nat => s.heap.size ≤ q) s.heap H locs → lv_has ls 7 [(4, Value.int 0), (0, Value.ref b)] → W p l e room_1 s m #[Value.ref b] below meth c H locs 400 700000 Q (F0 m 1272 ls [])) :
    W p l e room_1 s m #[Value.ref b] below meth c H locs 122 677754 Q (F0 m 1043 ls []) := by
  have ht0 : tys[0]? = some ((cI, FieldType.int) : ClassId × FieldType) := by rw [htys]; rfl
  have ht1 : tys[1]? = some ((cZ, FieldType.boolean) : ClassId × FieldType) := by rw [htys]; rfl
  have ht2 : tys[2]? = some ((cF, FieldType.object "CommitLedger$LedgerFile") : ClassId × FieldType) := by rw [htys]; rfl
  have ht3 : tys[3]? = some ((cM, FieldType.object "CommitLedger$Merge") : ClassId × FieldType) := by rw [htys]; rfl
  have ht4 : tys[4]? = some ((cR, FieldType.object "CommitLedger$Reader") : ClassId × FieldType) := by rw [htys]; rfl
  have ht5 : tys[5]? = some ((cV, FieldType.object "CommitLedgerModel$Version") : ClassId × FieldType) := by rw [htys]; rfl
  have ht6 : tys[6]? = some ((cJ, FieldType.long) : ClassId × FieldType) := by rw [htys]; rfl
  have hY := gx_Y0 hts1 hgv
  have hts := gx_hts0 hts1 hgv
  obtain ⟨z, hzz⟩ : ∃ x : Nat, x = s.heap.size := ⟨_, rfl⟩
  rw [← hzz] at hY
  have hz : z ≤ s.heap.size := Nat.le_of_eq hzz
  have hAz : ∀ q : Nat, (fun q : Nat => s.heap.size ≤ q) q → z ≤ q := fun q h => by rw [hzz]; exact h
  have hA : ∀ q : Nat, s.heap.size ≤ q → (fun q : Nat => s.heap.size ≤ q) q := fun _ h => h
  have hbA : ¬ (fun q : Nat => s.heap.size ≤ q) b := Nat.not_le.mpr hbl
  have hN : gx_NS (fun q : Nat => s.heap.size ≤ q) s := fun q cell h hc => absurd (Array.getElem?_eq_some_iff.mp hc).1 (Nat.not_lt.mpr h)
  have hlen0 := hlen
  have hU : gx_g ws ws 0 [0, 1, 2, 3, 4, 5, 6, 7, 8, 9, 10, 11, 12, 13, 14, 15, 16, 17, 18, 19, 20, 21, 22, 23, 24, 25, 26, 27, 28, 29, 30, 31, 32, 33, 34, 35, 36, 37, 38, 39, 40, 41, 42, 43, 44, 45, 46, 47, 48, 49, 50, 51, 52, 53, 54, 55, 56, 57, 58, 59, 60, 61, 62, 63, 64, 65, 66, 67, 68, 69, 70, 71, 72, 73, 74, 75, 76, 77, 78, 79, 80, 81, 82, 83, 84, 85, 86, 87, 88, 89, 90, 91, 92, 93, 94, 95, 96, 97, 98, 99, 100, 101, 102, 103, 104, 105, 106, 107, 108, 109, 110, 111, 112, 113, 114, 115, 116] := gx_g.rf
  obtain ⟨y0, hy0⟩ : ∃ y : Int32, y = xs 0 := ⟨_, rfl⟩
  obtain ⟨y1, hy1⟩ : ∃ y : Int32, y = xs 1 := ⟨_, rfl⟩
  obtain ⟨y2, hy2⟩ : ∃ y : Int32, y = xs 2 := ⟨_, rfl⟩
  obtain ⟨y3, hy3⟩ : ∃ y : Int32, y = xs 3 := ⟨_, rfl⟩
  generalize hAe : (fun q : Nat => s.heap.size ≤ q) = A at hD hN hA hAz hS hbA
  refine lv_aload_n hx hb d_Lw_law_1043 rfl (lv_at hl 3 rfl) ?_
  refine lv_aload_n hx hb d_Lw_law_1044 rfl (lv_at hl 4 rfl) ?_
  refine lv_iload hx hb d_Lw_law_1045 (lv_at hl 0 rfl) ?_
  refine lv_iconst (v := 1) hx hb d_Lw_law_1047 (by decide) ?_
  refine lv_iadd hx hb d_Lw_law_1048 ?_
  refine gx_topi (y := 1) (by decide) ?_
  refine va_sld hx hb hX hbl hbA hS (i := 1) (gx_inl (by decide)) d_Lw_law_1049 ?_
  refine gx_topi (y := y1) (by rw [hy1]; rfl) ?_
  refine lv_aload_n hx hb d_Lw_law_1050 rfl (lv_at hl 4 rfl) ?_
  refine lv_iload hx hb d_Lw_law_1051 (lv_at hl 0 rfl) ?_
  refine lv_iconst (v := 2) hx hb d_Lw_law_1053 (by decide) ?_
  refine lv_iadd hx hb d_Lw_law_1054 ?_
  refine gx_topi (y := 2) (by decide) ?_
  refine va_sld hx hb hX hbl hbA hS (i := 2) (gx_inl (by decide)) d_Lw_law_1055 ?_
  refine gx_topi (y := y2) (by rw [hy2]; rfl) ?_
  refine lv_aload_n hx hb d_Lw_law_1056 rfl (lv_at hl 1 rfl) ?_
  refine gx_callH (ig := .invokestatic 160) (c_Lw_serial_v1 l htr D tys z _ ws cR q0 y1 y2 q116 q1 q5 q8 q20 q25 q12 q16 q26 q31 q36 q41 q27 q32 q37 q42 f_0 f_25 f_26 f_31 f_36 f_41 ht4) (gx_invSH (As := [Value.ref q0, Value.int y1, Value.int y2, Value.ref q116]) (rest := []) hx hb hown hts km_Lw_160 kS_Lw_serial kN_Lw kc_Lw_serial (by decide) (show (parseMethodDescriptor y_Lw_serial.desc).map (fun d => d.parameters.length) = some 4 by decide +kernel) rfl rfl d_Lw_law_1057) (gx_cwH hts kc_Lw_serial kN_Lw rfl rfl ⟨Nat.le_of_ble_eq_true rfl, Nat.le_of_ble_eq_true rfl⟩) hb hml gx_blind (gx_pre hz hP hK hD hY hS hAz [Value.ref q0, Value.int y1, Value.int y2, Value.ref q116]) rfl hl.1 (lv_room (Nat.le_of_ble_eq_true rfl)) d_Lw_law_1057 ⟨Nat.le_of_ble_eq_true rfl, Nat.le_of_ble_eq_true rfl⟩ (fun v1 st1 t1 L1 h0_1 hW_1 hQ_1 hL_1 => ?_) (fun v1 st1 t1 L1 h0_1 hW_1 hQ_1 hL_1 => ?_)
  · obtain ⟨ws2, hp, hP9, -, hD9, hS9⟩ := gx_back h0_1 hW_1 hQ_1 hL_1 hD hS hA
    clear hQ_1 h0_1 hL_1 hW_1 hP hD hS
    have hP := hP9
    have hD := hD9
    have hS := hS9
    clear hP9 hD9 hS9
    rcases hp with ⟨hv9, e_ws2⟩
    cases hv9
    rw [e_ws2] at hP hD
    refine W.eq (g2 := F0 m 1060 ls [Value.int 1]) rfl ?_
    refine W.widen (k := 123) (n := 677760) (by decide) (by decide) ?_
    generalize t1.heap = H at hP hS ⊢
    generalize locs ++ L1 = locs at hS ⊢
    refine lv_istore (lv' := [(5, Value.int 1), (4, Value.int 0), (3, Value.ref q116), (2, Value.ref q46), (1, Value.ref q0), (0, Value.ref b)]) hx hb d_Lw_law_1060 hl (by decide) rfl (fun ls hl => ?_)
    refine lv_aload_n hx hb d_Lw_law_1062 rfl (lv_at hl 3 rfl) ?_
    refine lv_aload_n hx hb d_Lw_law_1063 rfl (lv_at hl 5 rfl) ?_
    refine lv_iload hx hb d_Lw_law_1064 (lv_at hl 1 rfl) ?_
    refine lv_iconst (v := 1) hx hb d_Lw_law_1066 (by decide) ?_
    refine lv_iadd hx hb d_Lw_law_1067 ?_
    refine gx_topi (y := 1) (by decide) ?_
    refine va_sld hx hb hX hbl hbA hS (i := 1) (gx_inl (by decide)) d_Lw_law_1068 ?_
    refine gx_topi (y := y1) (by rw [hy1]; rfl) ?_
    refine lv_aload_n hx hb d_Lw_law_1069 rfl (lv_at hl 5 rfl) ?_
    refine lv_iload hx hb d_Lw_law_1070 (lv_at hl 1 rfl) ?_
    refine lv_iconst (v := 2) hx hb d_Lw_law_1072 (by decide) ?_
    refine lv_iadd hx hb d_Lw_law_1073 ?_
    refine gx_topi (y := 2) (by decide) ?_
    refine va_sld hx hb hX hbl hbA hS (i := 2) (gx_inl (by decide)) d_Lw_law_1074 ?_
    refine gx_topi (y := y2) (by rw [hy2]; rfl) ?_
    refine gx_call (ig := .invokevirtual 162) (c_Mo_serial_v1 l htr D tys z _ ws cI cV q46 y1 y2 q47 q48 q49 q50 q51 q52 q53 q54 q62 q70 q78 q79 (um) q80 q81 q82 q83 q84 q85 q86 q87 q88 q89 q90 q91 q92 q93 q94 q95 q96 q97 q98 q99 q100 q101 q102 q103 q104 q105 q106 q107 q108 q109 q110 q111 q112 q113 q114 q115 f_46 f_84 f_87 f_92 f_100 f_108 f_83 ht0 ht5) (gx_invV (As := [Value.int y1, Value.int y2]) (rest := []) hx hb hown hts km_Lw_162 kI_Mo_serial kV_Mo_serial kc_Mo_serial (by decide) (show (parseMethodDescriptor y_Mo_serial.desc).map (fun d => d.parameters.length) = some 2 by decide +kernel) (gx_recv (ci := 8) hK hP rfl f_46) rfl rfl d_Lw_law_1075) (gx_cw (z := 0) hts kc_Mo_serial kN_Mo rfl rfl ⟨Nat.le_of_ble_eq_true rfl, Nat.le_of_ble_eq_true rfl⟩) hb hml gx_blind (gx_pre hz hP hK hD hY hS hAz [Value.ref q46, Value.int y1, Value.int y2]) rfl hl.1 (lv_room (Nat.le_of_ble_eq_true rfl)) d_Lw_law_1075 ⟨Nat.le_of_ble_eq_true rfl, Nat.le_of_ble_eq_true rfl⟩ (fun v3 st3 t3 L3 h0_3 hW_3 hQ_3 hL_3 => ?_) (fun v3 st3 t3 L3 h0_3 hW_3 hQ_3 hL_3 => ?_)
    · obtain ⟨ws4, hp, hP9, -, hD9, hS9⟩ := gx_back h0_3 hW_3 hQ_3 hL_3 hD hS hA
      clear hQ_3 h0_3 hL_3 hW_3 hP hD hS
      have hP := hP9
      have hD := hD9
      have hS := hS9
      clear hP9 hD9 hS9
      rcases hp with ⟨hv9, e_ws4, f_46_ws4⟩
      cases hv9
      have f_46_ws4 : ws4[46]? = some ((q46, Sum.inr (8, [Value.int 0, Value.int 1, Value.ref q47, Value.ref q48, Value.ref q49, Value.int 0, Value.ref q50, Value.ref q51, Value.ref q52, Value.ref q53, Value.int 0, Value.int 0, Value.int 0, Value.int (-1), Value.int 0, Value.ref q54, Value.ref q62, Value.ref q70, Value.int 0, Value.int 0, Value.int 0, Value.ref q78, Value.ref q79, Value.int 0, Value.int 16, Value.int 4, um, Value.ref q80, Value.ref q81, Value.ref q82, Value.int 0, Value.ref q83, Value.int 0, Value.int 0, Value.int 0])) : Nat × va_E) := f_46_ws4
      replace hlen : ws4.length = 117 := by rw [e_ws4.1, hlen]
      replace hU : gx_g ws ws4 0 [0, 1, 2, 3, 4, 5, 6, 7, 8, 9, 10, 11, 12, 13, 14, 15, 16, 17, 18, 19, 20, 21, 22, 23, 24, 25, 26, 27, 28, 29, 30, 31, 32, 33, 34, 35, 36, 37, 38, 39, 40, 41, 42, 43, 44, 45, 46, 47, 48, 49, 50, 51, 52, 53, 54, 55, 56, 57, 58, 59, 60, 61, 62, 63, 64, 65, 66, 67, 68, 69, 70, 71, 72, 73, 74, 75, 76, 77, 78, 79, 80, 81, 82, 83, 84, 85, 86, 87, 88, 89, 90, 91, 92, 93, 94, 95, 96, 97, 98, 99, 100, 101, 102, 103, 104, 105, 106, 107, 108, 109, 110, 111, 112, 113, 114, 115, 116] := hU.call e_ws4 (by rw [hlen0]; decide)
      refine W.eq (g2 := F0 m 1078 ls [Value.int 0]) rfl ?_
      generalize t3.heap = H at hP hS ⊢
      generalize locs ++ L3 = locs at hS ⊢
      refine lv_istore (lv' := [(6, Value.int 0), (5, Value.int 1), (4, Value.int 0), (3, Value.ref q116), (2, Value.ref q46), (1, Value.ref q0), (0, Value.ref b)]) hx hb d_Lw_law_1078 hl (by decide) rfl (fun ls hl => ?_)
      refine lv_aload_n hx hb d_Lw_law_1080 rfl (lv_at hl 4 rfl) ?_
      refine gx_call (ig := .invokevirtual 98) (c_Mo_thrown l htr D tys z _ ws4 q46 46 (Value.int 0) 1 (Value.ref q47) (Value.ref q48) (Value.ref q49) (Value.int 0) (Value.ref q50) (Value.ref q51) (Value.ref q52) (Value.ref q53) (Value.int 0) (Value.int 0) (Value.int 0) (Value.int (-1)) (Value.int 0) (Value.ref q54) (Value.ref q62) (Value.ref q70) (Value.int 0) (Value.int 0) (Value.int 0) (Value.ref q78) (Value.ref q79) (Value.int 0) (Value.int 16) (Value.int 4) (um) (Value.ref q80) (Value.ref q81) (Value.ref q82) (Value.int 0) (Value.ref q83) (Value.int 0) (Value.int 0) (Value.int 0) f_46_ws4) (gx_invV (As := []) (rest := []) hx hb hown hts km_Lw_98 kI_Mo_thrown kV_Mo_thrown kc_Mo_thrown (by decide) (show (parseMethodDescriptor y_Mo_thrown.desc).map (fun d => d.parameters.length) = some 0 by decide +kernel) (gx_recv (ci := 8) hK hP rfl f_46_ws4) rfl rfl d_Lw_law_1081) (gx_cw (z := 0) hts kc_Mo_thrown kN_Mo rfl rfl ⟨Nat.le_of_ble_eq_true rfl, Nat.le_of_ble_eq_true rfl⟩) hb hml gx_blind (gx_pre hz hP hK hD hY hS hAz [Value.ref q46]) rfl hl.1 (lv_room (Nat.le_of_ble_eq_true rfl)) d_Lw_law_1081 ⟨Nat.le_of_ble_eq_true rfl, Nat.le_of_ble_eq_true rfl⟩ (fun v5 st5 t5 L5 h0_5 hW_5 hQ_5 hL_5 => ?_) (fun v5 st5 t5 L5 h0_5 hW_5 hQ_5 hL_5 => ?_)
      · obtain ⟨ws6, hp, hP9, -, hD9, hS9⟩ := gx_back h0_5 hW_5 hQ_5 hL_5 hD hS hA
        clear hQ_5 h0_5 hL_5 hW_5 hP hD hS
        have hP := hP9
        have hD := hD9
        have hS := hS9
        clear hP9 hD9 hS9
        rcases hp with ⟨hv9, e_ws6⟩
        cases hv9
        rw [e_ws6] at hP hD
        refine W.eq (g2 := F0 m 1084 ls [Value.int 1]) rfl ?_
        generalize t5.heap = H at hP hS ⊢
        generalize locs ++ L5 = locs at hS ⊢
        refine lv_iload hx hb d_Lw_law_1084 (lv_at hl 1 rfl) ?_
        refine lv_icmp_eq (tgt := 1091) hx hb d_Lw_law_1086 (by decide) (fun _ => ?_) (fun c9 => absurd (by decide) c9)
        refine lv_iload hx hb d_Lw_law_1091 (lv_at hl 1 rfl) ?_
        refine lv_if_ne (tgt := 1108) hx hb d_Lw_law_1093 (by decide) (fun _ => ?_) (fun c9 => absurd c9 (by decide))
        refine lv_goto (tgt := 1272) hx hb d_Lw_law_1108 (by decide) ?_
        refine W.widen (k := 400) (n := 700000) (by decide) (by decide) ?_
        exact k _ _ ls (by rw [hAe]; exact hS) (lv_sub hl [2, 6] rfl)
      · obtain ⟨E9, ws7, ce, hp, hce, hP9, -, hD9, hS9⟩ := gx_backT h0_5 hW_5 hQ_5 hL_5 hD hS hA
        clear hQ_5 h0_5 hL_5 hW_5 hP hD hS
        have hP := hP9
        have hD := hD9
        have hS := hS9
        clear hP9 hD9 hS9
        rcases hp with ⟨hv9, e_ws7⟩
        cases hv9
    · obtain ⟨E9, ws8, ce, hp, hce, hP9, -, hD9, hS9⟩ := gx_backT h0_3 hW_3 hQ_3 hL_3 hD hS hA
      clear hQ_3 h0_3 hL_3 hW_3 hP hD hS
      have hP := hP9
      have hD := hD9
      have hS := hS9
      clear hP9 hD9 hS9
      rcases hp with ⟨hv9, e_ws8, f_46_ws8⟩
      cases hv9
  · obtain ⟨E9, ws9, ce, hp, hce, hP9, -, hD9, hS9⟩ := gx_backT h0_1 hW_1 hQ_1 hL_1 hD hS hA
    clear hQ_1 h0_1 hL_1 hW_1 hP hD hS
    have hP := hP9
    have hD := hD9
    have hS := hS9
    clear hP9 hD9 hS9
    rcases hp with ⟨hv9, e_ws9⟩
    cases hv9

set_option maxHeartbeats 4000000 in
set_option maxRecDepth 100000 in
theorem law_t19 {p : Program} {e : Env} {s : State} {m : MethodId} {below : List Frame} {meth : Method} {c : Code} {Q : State → Prop} (l : Launch) (htr : l.stackTraces = false) {b : Nat} {xs : Nat → Int32} (hx : p.tables.exec = Jvm.exec) (hb : c.code = code) (hml : c.maxLocals = 7) (hown : s.vm.findClass "CommitLedgerLaw" = some m.cls) (hts1 : ∀ w ∈ lw_tbl, w.before #[Value.ref b] s = true) (hgv : (Jvm.Cond.and given_1 narrow_1).before #[Value.ref b] s = true) (hX : va_X b 4 xs s s.heap) (hbl : b < s.heap.size) (D : va_G) (tys : List (ClassId × FieldType)) (cI cZ cF cM cR cV cJ : ClassId) (q0 q1 q2 q3 q4 q5 q6 q7 q8 q9 q10 q11 q12 q13 q14 q15 q16 q17 q18 q19 q20 q21 q22 q23 q24 q25 q26 q27 q28 q29 q30 q31 q32 q33 q34 q35 q36 q37 q38 q39 q40 q41 q42 q43 q44 q45 q46 q47 q48 q49 q50 q51 q52 q53 q54 q55 q56 q57 q58 q59 q60 q61 q62 q63 q64 q65 q66 q67 q68 q69 q70 q71 q72 q73 q74 q75 q76 q77 q78 q79 q80 q81 q82 q83 q84 q85 q86 q87 q88 q89 q90 q91 q92 q93 q94 q95 q96 q97 q98 q99 q100 q101 q102 q103 q104 q105 q106 q107 q108 q109 q110 q111 q112 q113 q114 q115 q116 : Nat) (u0 u1 um : Value) (ws : va_W) (H : Heap) (locs : List Loc) (ls : Array Slot) (hK : va_K D classes tys s) (htys : tys = [(cI, FieldType.int), (cZ, FieldType.boolean), (cF, FieldType.object "CommitLedger$LedgerFile"), (cM, FieldType.object "CommitLedger$Merge"), (cR, FieldType.object "CommitLedger$Reader"), (cV, FieldType.object "CommitLedgerModel$Version"), (cJ, FieldType.long)]) (hP : va_P D classes ws H) (hD : va_D (fun q : Nat => s.heap.size ≤ q) ws) (hS : va_S (fun q : Nat => s.heap.size ≤ q) s.heap H locs) (hlen : ws.length = 117) (f_0 : ws[0]? = some ((q0, Sum.inr (0, [Value.ref q1, Value.ref q5, Value.ref q8, Value.ref q20, Value.ref q25, Value.ref q12, Value.ref q16, Value.int 0, Value.int 0, Value.int 0, Value.int 16, Value.int 4, Value.int 0, Value.int 0, Value.int 0, Value.int 0, Value.int 0, Value.int (-1)])) : Nat × va_E)) (f_25 : ws[25]? = some ((q25, Sum.inl (cR, 4, Sum.inr (Sum.inr (Sum.inr (Sum.inr (va_up (va_up (va_up (va_up (fun _ => none) 0 (some q26)) 1 (some q31)) 2 (some q36)) 3 (some q41))))))) : Nat × va_E)) (f_26 : ws[26]? = some ((q26, Sum.inr (6, [Value.ref q27, Value.int 0, Value.int 0])) : Nat × va_E)) (f_31 : ws[31]? = some ((q31, Sum.inr (6, [Value.ref q32, Value.int 0, Value.int 0])) : Nat × va_E)) (f_36 : ws[36]? = some ((q36, Sum.inr (6, [Value.ref q37, Value.int 0, Value.int 0])) : Nat × va_E)) (f_41 : ws[41]? = some ((q41, Sum.inr (6, [Value.ref q42, Value.int 0, Value.int 0])) : Nat × va_E)) (f_46 : ws[46]? = some ((q46, Sum.inr (8, [Value.int 0, Value.int 0, Value.ref q47, Value.ref q48, Value.ref q49, Value.int 0, Value.ref q50, Value.ref q51, Value.ref q52, Value.ref q53, Value.int 0, Value.int 0, Value.int 0, Value.int (-1), Value.int 0, Value.ref q54, Value.ref q62, Value.ref q70, Value.int 0, Value.int 0, Value.int 0, Value.ref q78, Value.ref q79, Value.int 0, Value.int 16, Value.int 4, um, Value.ref q80, Value.ref q81, Value.ref q82, Value.int 0, Value.ref q83, Value.int 0, Value.int 0, Value.int 0])) : Nat × va_E)) (f_83 : ws[83]? = some ((q83, Sum.inl (cV, 4, Sum.inr (Sum.inr (Sum.inr (Sum.inr (va_up (va_up (va_up (va_up (fun _ => none) 0 (some q84)) 1 (some q92)) 2 (some q100)) 3 (some q108))))))) : Nat × va_E)) (f_84 : ws[84]? = some ((q84, Sum.inr (9, [Value.ref q85, Value.ref q86, Value.ref q87, Value.ref q88, Value.ref q89, Value.ref q90, Value.ref q91, Value.int 0, Value.int 0, Value.int 0, Value.int 0])) : Nat × va_E)) (f_92 : ws[92]? = some ((q92, Sum.inr (9, [Value.ref q93, Value.ref q94, Value.ref q95, Value.ref q96, Value.ref q97, Value.ref q98, Value.ref q99, Value.int 0, Value.int 0, Value.int 0, Value.int 0])) : Nat × va_E)) (f_100 : ws[100]? = some ((q100, Sum.inr (9, [Value.ref q101, Value.ref q102, Value.ref q103, Value.ref q104, Value.ref q105, Value.ref q106, Value.ref q107, Value.int 0, Value.int 0, Value.int 0, Value.int 0])) : Nat × va_E)) (f_108 : ws[108]? = some ((q108, Sum.inr (9, [Value.ref q109, Value.ref q110, Value.ref q111, Value.ref q112, Value.ref q113, Value.ref q114, Value.ref q115, Value.int 0, Value.int 0, Value.int 0, Value.int 0])) : Nat × va_E)) (hl : lv_has ls 7 [(4, Value.int 0), (3, Value.ref q116), (2, Value.ref q46), (1, Value.ref q0), (0, Value.ref b)])
    (k : ∀ (H : Heap) (locs : List Loc) (ls : Array Slot), va_S (fun q : Nat => s.heap.size ≤ q) s.heap H locs → lv_has ls 7 [(4, Value.int 0), (0, Value.ref b)] → W p l e room_1 s m #[Value.ref b] below meth c H locs 400 700000 Q (F0 m 1272 ls [])) :
    W p l e room_1 s m #[Value.ref b] below meth c H locs 122 677754 Q (F0 m 1111 ls []) := by
  have ht0 : tys[0]? = some ((cI, FieldType.int) : ClassId × FieldType) := by rw [htys]; rfl
  have ht1 : tys[1]? = some ((cZ, FieldType.boolean) : ClassId × FieldType) := by rw [htys]; rfl
  have ht2 : tys[2]? = some ((cF, FieldType.object "CommitLedger$LedgerFile") : ClassId × FieldType) := by rw [htys]; rfl
  have ht3 : tys[3]? = some ((cM, FieldType.object "CommitLedger$Merge") : ClassId × FieldType) := by rw [htys]; rfl
  have ht4 : tys[4]? = some ((cR, FieldType.object "CommitLedger$Reader") : ClassId × FieldType) := by rw [htys]; rfl
  have ht5 : tys[5]? = some ((cV, FieldType.object "CommitLedgerModel$Version") : ClassId × FieldType) := by rw [htys]; rfl
  have ht6 : tys[6]? = some ((cJ, FieldType.long) : ClassId × FieldType) := by rw [htys]; rfl
  have hY := gx_Y0 hts1 hgv
  have hts := gx_hts0 hts1 hgv
  obtain ⟨z, hzz⟩ : ∃ x : Nat, x = s.heap.size := ⟨_, rfl⟩
  rw [← hzz] at hY
  have hz : z ≤ s.heap.size := Nat.le_of_eq hzz
  have hAz : ∀ q : Nat, (fun q : Nat => s.heap.size ≤ q) q → z ≤ q := fun q h => by rw [hzz]; exact h
  have hA : ∀ q : Nat, s.heap.size ≤ q → (fun q : Nat => s.heap.size ≤ q) q := fun _ h => h
  have hbA : ¬ (fun q : Nat => s.heap.size ≤ q) b := Nat.not_le.mpr hbl
  have hN : gx_NS (fun q : Nat => s.heap.size ≤ q) s := fun q cell h hc => absurd (Array.getElem?_eq_some_iff.mp hc).1 (Nat.not_lt.mpr h)
  have hlen0 := hlen
  have hU : gx_g ws ws 0 [0, 1, 2, 3, 4, 5, 6, 7, 8, 9, 10, 11, 12, 13, 14, 15, 16, 17, 18, 19, 20, 21, 22, 23, 24, 25, 26, 27, 28, 29, 30, 31, 32, 33, 34, 35, 36, 37, 38, 39, 40, 41, 42, 43, 44, 45, 46, 47, 48, 49, 50, 51, 52, 53, 54, 55, 56, 57, 58, 59, 60, 61, 62, 63, 64, 65, 66, 67, 68, 69, 70, 71, 72, 73, 74, 75, 76, 77, 78, 79, 80, 81, 82, 83, 84, 85, 86, 87, 88, 89, 90, 91, 92, 93, 94, 95, 96, 97, 98, 99, 100, 101, 102, 103, 104, 105, 106, 107, 108, 109, 110, 111, 112, 113, 114, 115, 116] := gx_g.rf
  obtain ⟨y0, hy0⟩ : ∃ y : Int32, y = xs 0 := ⟨_, rfl⟩
  obtain ⟨y1, hy1⟩ : ∃ y : Int32, y = xs 1 := ⟨_, rfl⟩
  obtain ⟨y2, hy2⟩ : ∃ y : Int32, y = xs 2 := ⟨_, rfl⟩
  obtain ⟨y3, hy3⟩ : ∃ y : Int32, y = xs 3 := ⟨_, rfl⟩
  generalize hAe : (fun q : Nat => s.heap.size ≤ q) = A at hD hN hA hAz hS hbA
  refine lv_aload_n hx hb d_Lw_law_1111 rfl (lv_at hl 3 rfl) ?_
  refine lv_aload_n hx hb d_Lw_law_1112 rfl (lv_at hl 4 rfl) ?_
  refine lv_iload hx hb d_Lw_law_1113 (lv_at hl 0 rfl) ?_
  refine lv_iconst (v := 1) hx hb d_Lw_law_1115 (by decide) ?_
  refine lv_iadd hx hb d_Lw_law_1116 ?_
  refine gx_topi (y := 1) (by decide) ?_
  refine va_sld hx hb hX hbl hbA hS (i := 1) (gx_inl (by decide)) d_Lw_law_1117 ?_
  refine gx_topi (y := y1) (by rw [hy1]; rfl) ?_
  refine lv_aload_n hx hb d_Lw_law_1118 rfl (lv_at hl 4 rfl) ?_
  refine lv_iload hx hb d_Lw_law_1119 (lv_at hl 0 rfl) ?_
  refine lv_iconst (v := 2) hx hb d_Lw_law_1121 (by decide) ?_
  refine lv_iadd hx hb d_Lw_law_1122 ?_
  refine gx_topi (y := 2) (by decide) ?_
  refine va_sld hx hb hX hbl hbA hS (i := 2) (gx_inl (by decide)) d_Lw_law_1123 ?_
  refine gx_topi (y := y2) (by rw [hy2]; rfl) ?_
  refine lv_aload_n hx hb d_Lw_law_1124 rfl (lv_at hl 1 rfl) ?_
  refine gx_callH (ig := .invokestatic 163) (c_Lw_seen_v1 l htr D tys z _ ws cR q0 y1 y2 q116 q1 q5 q8 q20 q25 q12 q16 q26 q31 q36 q41 q27 q32 q37 q42 f_0 f_25 f_26 f_31 f_36 f_41 ht4) (gx_invSH (As := [Value.ref q0, Value.int y1, Value.int y2, Value.ref q116]) (rest := []) hx hb hown hts km_Lw_163 kS_Lw_seen kN_Lw kc_Lw_seen (by decide) (show (parseMethodDescriptor y_Lw_seen.desc).map (fun d => d.parameters.length) = some 4 by decide +kernel) rfl rfl d_Lw_law_1125) (gx_cwH hts kc_Lw_seen kN_Lw rfl rfl ⟨Nat.le_of_ble_eq_true rfl, Nat.le_of_ble_eq_true rfl⟩) hb hml gx_blind (gx_pre hz hP hK hD hY hS hAz [Value.ref q0, Value.int y1, Value.int y2, Value.ref q116]) rfl hl.1 (lv_room (Nat.le_of_ble_eq_true rfl)) d_Lw_law_1125 ⟨Nat.le_of_ble_eq_true rfl, Nat.le_of_ble_eq_true rfl⟩ (fun v1 st1 t1 L1 h0_1 hW_1 hQ_1 hL_1 => ?_) (fun v1 st1 t1 L1 h0_1 hW_1 hQ_1 hL_1 => ?_)
  · obtain ⟨ws2, hp, hP9, -, hD9, hS9⟩ := gx_back h0_1 hW_1 hQ_1 hL_1 hD hS hA
    clear hQ_1 h0_1 hL_1 hW_1 hP hD hS
    have hP := hP9
    have hD := hD9
    have hS := hS9
    clear hP9 hD9 hS9
    rcases hp with ⟨hv9, e_ws2, g1_0, g1_1⟩ | ⟨hv9, e_ws2, g1_0⟩ | ⟨hv9, e_ws2, g1_0, g1_1⟩
    · cases hv9
      rw [e_ws2] at hP hD
      refine W.eq (g2 := F0 m 1128 ls [Value.int 2]) rfl ?_
      refine W.widen (k := 124) (n := 677766) (by decide) (by decide) ?_
      generalize t1.heap = H at hP hS ⊢
      generalize locs ++ L1 = locs at hS ⊢
      refine lv_istore (lv' := [(5, Value.int 2), (4, Value.int 0), (3, Value.ref q116), (2, Value.ref q46), (1, Value.ref q0), (0, Value.ref b)]) hx hb d_Lw_law_1128 hl (by decide) rfl (fun ls hl => ?_)
      refine lv_aload_n hx hb d_Lw_law_1130 rfl (lv_at hl 3 rfl) ?_
      refine lv_aload_n hx hb d_Lw_law_1131 rfl (lv_at hl 5 rfl) ?_
      refine lv_iload hx hb d_Lw_law_1132 (lv_at hl 1 rfl) ?_
      refine lv_iconst (v := 1) hx hb d_Lw_law_1134 (by decide) ?_
      refine lv_iadd hx hb d_Lw_law_1135 ?_
      refine gx_topi (y := 1) (by decide) ?_
      refine va_sld hx hb hX hbl hbA hS (i := 1) (gx_inl (by decide)) d_Lw_law_1136 ?_
      refine gx_topi (y := y1) (by rw [hy1]; rfl) ?_
      refine lv_aload_n hx hb d_Lw_law_1137 rfl (lv_at hl 5 rfl) ?_
      refine lv_iload hx hb d_Lw_law_1138 (lv_at hl 1 rfl) ?_
      refine lv_iconst (v := 2) hx hb d_Lw_law_1140 (by decide) ?_
      refine lv_iadd hx hb d_Lw_law_1141 ?_
      refine gx_topi (y := 2) (by decide) ?_
      refine va_sld hx hb hX hbl hbA hS (i := 2) (gx_inl (by decide)) d_Lw_law_1142 ?_
      refine gx_topi (y := y2) (by rw [hy2]; rfl) ?_
      refine gx_call (ig := .invokevirtual 165) (c_Mo_seen_v1 l htr D tys z _ ws cV q46 y1 y2 q47 q48 q49 q50 q51 q52 q53 q54 q62 q70 q78 q79 (um) q80 q81 q82 q83 q84 q85 q86 q87 q88 q89 q90 q91 q92 q93 q94 q95 q96 q97 q98 q99 q100 q101 q102 q103 q104 q105 q106 q107 q108 q109 q110 q111 q112 q113 q114 q115 f_46 f_84 f_92 f_100 f_108 f_83 ht5) (gx_invV (As := [Value.int y1, Value.int y2]) (rest := []) hx hb hown hts km_Lw_165 kI_Mo_seen kV_Mo_seen kc_Mo_seen (by decide) (show (parseMethodDescriptor y_Mo_seen.desc).map (fun d => d.parameters.length) = some 2 by decide +kernel) (gx_recv (ci := 8) hK hP rfl f_46) rfl rfl d_Lw_law_1143) (gx_cw (z := 0) hts kc_Mo_seen kN_Mo rfl rfl ⟨Nat.le_of_ble_eq_true rfl, Nat.le_of_ble_eq_true rfl⟩) hb hml gx_blind (gx_pre hz hP hK hD hY hS hAz [Value.ref q46, Value.int y1, Value.int y2]) rfl hl.1 (lv_room (Nat.le_of_ble_eq_true rfl)) d_Lw_law_1143 ⟨Nat.le_of_ble_eq_true rfl, Nat.le_of_ble_eq_true rfl⟩ (fun v3 st3 t3 L3 h0_3 hW_3 hQ_3 hL_3 => ?_) (fun v3 st3 t3 L3 h0_3 hW_3 hQ_3 hL_3 => ?_)
      · obtain ⟨ws4, hp, hP9, -, hD9, hS9⟩ := gx_back h0_3 hW_3 hQ_3 hL_3 hD hS hA
        clear hQ_3 h0_3 hL_3 hW_3 hP hD hS
        have hP := hP9
        have hD := hD9
        have hS := hS9
        clear hP9 hD9 hS9
        rcases hp with ⟨hv9, e_ws4, f_46_ws4, g3_0⟩ | ⟨hv9, e_ws4, f_46_ws4, g3_0, g3_1⟩ | ⟨hv9, e_ws4, f_46_ws4, g3_0, g3_1⟩
        · cases hv9
          have f_46_ws4 : ws4[46]? = some ((q46, Sum.inr (8, [Value.int 0, Value.int 1, Value.ref q47, Value.ref q48, Value.ref q49, Value.int 0, Value.ref q50, Value.ref q51, Value.ref q52, Value.ref q53, Value.int 0, Value.int 0, Value.int 0, Value.int (-1), Value.int 0, Value.ref q54, Value.ref q62, Value.ref q70, Value.int 0, Value.int 0, Value.int 0, Value.ref q78, Value.ref q79, Value.int 0, Value.int 16, Value.int 4, um, Value.ref q80, Value.ref q81, Value.ref q82, Value.int 0, Value.ref q83, Value.int 0, Value.int 0, Value.int 0])) : Nat × va_E) := f_46_ws4
          replace hlen : ws4.length = 117 := by rw [e_ws4.1, hlen]
          replace hU : gx_g ws ws4 0 [0, 1, 2, 3, 4, 5, 6, 7, 8, 9, 10, 11, 12, 13, 14, 15, 16, 17, 18, 19, 20, 21, 22, 23, 24, 25, 26, 27, 28, 29, 30, 31, 32, 33, 34, 35, 36, 37, 38, 39, 40, 41, 42, 43, 44, 45, 46, 47, 48, 49, 50, 51, 52, 53, 54, 55, 56, 57, 58, 59, 60, 61, 62, 63, 64, 65, 66, 67, 68, 69, 70, 71, 72, 73, 74, 75, 76, 77, 78, 79, 80, 81, 82, 83, 84, 85, 86, 87, 88, 89, 90, 91, 92, 93, 94, 95, 96, 97, 98, 99, 100, 101, 102, 103, 104, 105, 106, 107, 108, 109, 110, 111, 112, 113, 114, 115, 116] := hU.call e_ws4 (by rw [hlen0]; decide)
          exact absurd g3_0 g1_0
        · cases hv9
          have f_46_ws4 : ws4[46]? = some ((q46, Sum.inr (8, [Value.int 0, Value.int 2, Value.ref q47, Value.ref q48, Value.ref q49, Value.int 0, Value.ref q50, Value.ref q51, Value.ref q52, Value.ref q53, Value.int 0, Value.int 0, Value.int 0, Value.int (-1), Value.int 0, Value.ref q54, Value.ref q62, Value.ref q70, Value.int 0, Value.int 0, Value.int 0, Value.ref q78, Value.ref q79, Value.int 0, Value.int 16, Value.int 4, um, Value.ref q80, Value.ref q81, Value.ref q82, Value.int 0, Value.ref q83, Value.int 0, Value.int 0, Value.int 0])) : Nat × va_E) := f_46_ws4
          replace hlen : ws4.length = 117 := by rw [e_ws4.1, hlen]
          replace hU : gx_g ws ws4 0 [0, 1, 2, 3, 4, 5, 6, 7, 8, 9, 10, 11, 12, 13, 14, 15, 16, 17, 18, 19, 20, 21, 22, 23, 24, 25, 26, 27, 28, 29, 30, 31, 32, 33, 34, 35, 36, 37, 38, 39, 40, 41, 42, 43, 44, 45, 46, 47, 48, 49, 50, 51, 52, 53, 54, 55, 56, 57, 58, 59, 60, 61, 62, 63, 64, 65, 66, 67, 68, 69, 70, 71, 72, 73, 74, 75, 76, 77, 78, 79, 80, 81, 82, 83, 84, 85, 86, 87, 88, 89, 90, 91, 92, 93, 94, 95, 96, 97, 98, 99, 100, 101, 102, 103, 104, 105, 106, 107, 108, 109, 110, 111, 112, 113, 114, 115, 116] := hU.call e_ws4 (by rw [hlen0]; decide)
          refine W.eq (g2 := F0 m 1146 ls [Value.int 0]) rfl ?_
          generalize t3.heap = H at hP hS ⊢
          generalize locs ++ L3 = locs at hS ⊢
          refine lv_istore (lv' := [(6, Value.int 0), (5, Value.int 2), (4, Value.int 0), (3, Value.ref q116), (2, Value.ref q46), (1, Value.ref q0), (0, Value.ref b)]) hx hb d_Lw_law_1146 hl (by decide) rfl (fun ls hl => ?_)
          refine lv_aload_n hx hb d_Lw_law_1148 rfl (lv_at hl 4 rfl) ?_
          refine gx_call (ig := .invokevirtual 98) (c_Mo_thrown l htr D tys z _ ws4 q46 46 (Value.int 0) 2 (Value.ref q47) (Value.ref q48) (Value.ref q49) (Value.int 0) (Value.ref q50) (Value.ref q51) (Value.ref q52) (Value.ref q53) (Value.int 0) (Value.int 0) (Value.int 0) (Value.int (-1)) (Value.int 0) (Value.ref q54) (Value.ref q62) (Value.ref q70) (Value.int 0) (Value.int 0) (Value.int 0) (Value.ref q78) (Value.ref q79) (Value.int 0) (Value.int 16) (Value.int 4) (um) (Value.ref q80) (Value.ref q81) (Value.ref q82) (Value.int 0) (Value.ref q83) (Value.int 0) (Value.int 0) (Value.int 0) f_46_ws4) (gx_invV (As := []) (rest := []) hx hb hown hts km_Lw_98 kI_Mo_thrown kV_Mo_thrown kc_Mo_thrown (by decide) (show (parseMethodDescriptor y_Mo_thrown.desc).map (fun d => d.parameters.length) = some 0 by decide +kernel) (gx_recv (ci := 8) hK hP rfl f_46_ws4) rfl rfl d_Lw_law_1149) (gx_cw (z := 0) hts kc_Mo_thrown kN_Mo rfl rfl ⟨Nat.le_of_ble_eq_true rfl, Nat.le_of_ble_eq_true rfl⟩) hb hml gx_blind (gx_pre hz hP hK hD hY hS hAz [Value.ref q46]) rfl hl.1 (lv_room (Nat.le_of_ble_eq_true rfl)) d_Lw_law_1149 ⟨Nat.le_of_ble_eq_true rfl, Nat.le_of_ble_eq_true rfl⟩ (fun v5 st5 t5 L5 h0_5 hW_5 hQ_5 hL_5 => ?_) (fun v5 st5 t5 L5 h0_5 hW_5 hQ_5 hL_5 => ?_)
          · obtain ⟨ws6, hp, hP9, -, hD9, hS9⟩ := gx_back h0_5 hW_5 hQ_5 hL_5 hD hS hA
            clear hQ_5 h0_5 hL_5 hW_5 hP hD hS
            have hP := hP9
            have hD := hD9
            have hS := hS9
            clear hP9 hD9 hS9
            rcases hp with ⟨hv9, e_ws6⟩
            cases hv9
            rw [e_ws6] at hP hD
            refine W.eq (g2 := F0 m 1152 ls [Value.int 2]) rfl ?_
            generalize t5.heap = H at hP hS ⊢
            generalize locs ++ L5 = locs at hS ⊢
            refine lv_iload hx hb d_Lw_law_1152 (lv_at hl 1 rfl) ?_
            refine lv_icmp_eq (tgt := 1159) hx hb d_Lw_law_1154 (by decide) (fun _ => ?_) (fun c9 => absurd (by decide) c9)
            refine lv_iload hx hb d_Lw_law_1159 (lv_at hl 1 rfl) ?_
            refine lv_if_ne (tgt := 1176) hx hb d_Lw_law_1161 (by decide) (fun _ => ?_) (fun c9 => absurd c9 (by decide))
            refine lv_goto (tgt := 1272) hx hb d_Lw_law_1176 (by decide) ?_
            refine W.widen (k := 400) (n := 700000) (by decide) (by decide) ?_
            exact k _ _ ls (by rw [hAe]; exact hS) (lv_sub hl [2, 6] rfl)
          · obtain ⟨E9, ws7, ce, hp, hce, hP9, -, hD9, hS9⟩ := gx_backT h0_5 hW_5 hQ_5 hL_5 hD hS hA
            clear hQ_5 h0_5 hL_5 hW_5 hP hD hS
            have hP := hP9
            have hD := hD9
            have hS := hS9
            clear hP9 hD9 hS9
            rcases hp with ⟨hv9, e_ws7⟩
            cases hv9
        · cases hv9
          have f_46_ws4 : ws4[46]? = some ((q46, Sum.inr (8, [Value.int 0, Value.int 1, Value.ref q47, Value.ref q48, Value.ref q49, Value.int 0, Value.ref q50, Value.ref q51, Value.ref q52, Value.ref q53, Value.int 0, Value.int 0, Value.int 0, Value.int (-1), Value.int 0, Value.ref q54, Value.ref q62, Value.ref q70, Value.int 0, Value.int 0, Value.int 0, Value.ref q78, Value.ref q79, Value.int 0, Value.int 16, Value.int 4, um, Value.ref q80, Value.ref q81, Value.ref q82, Value.int 0, Value.ref q83, Value.int 0, Value.int 0, Value.int 0])) : Nat × va_E) := f_46_ws4
          replace hlen : ws4.length = 117 := by rw [e_ws4.1, hlen]
          replace hU : gx_g ws ws4 0 [0, 1, 2, 3, 4, 5, 6, 7, 8, 9, 10, 11, 12, 13, 14, 15, 16, 17, 18, 19, 20, 21, 22, 23, 24, 25, 26, 27, 28, 29, 30, 31, 32, 33, 34, 35, 36, 37, 38, 39, 40, 41, 42, 43, 44, 45, 46, 47, 48, 49, 50, 51, 52, 53, 54, 55, 56, 57, 58, 59, 60, 61, 62, 63, 64, 65, 66, 67, 68, 69, 70, 71, 72, 73, 74, 75, 76, 77, 78, 79, 80, 81, 82, 83, 84, 85, 86, 87, 88, 89, 90, 91, 92, 93, 94, 95, 96, 97, 98, 99, 100, 101, 102, 103, 104, 105, 106, 107, 108, 109, 110, 111, 112, 113, 114, 115, 116] := hU.call e_ws4 (by rw [hlen0]; decide)
          exact absurd g1_1 g3_1
      · obtain ⟨E9, ws8, ce, hp, hce, hP9, -, hD9, hS9⟩ := gx_backT h0_3 hW_3 hQ_3 hL_3 hD hS hA
        clear hQ_3 h0_3 hL_3 hW_3 hP hD hS
        have hP := hP9
        have hD := hD9
        have hS := hS9
        clear hP9 hD9 hS9
        rcases hp with ⟨hv9, e_ws8, f_46_ws8, g3_0⟩ | ⟨hv9, e_ws8, f_46_ws8, g3_0, g3_1⟩ | ⟨hv9, e_ws8, f_46_ws8, g3_0, g3_1⟩
        · cases hv9
        · cases hv9
        · cases hv9
    · cases hv9
      rw [e_ws2] at hP hD
      refine W.eq (g2 := F0 m 1128 ls [Value.int 1]) rfl ?_
      refine W.widen (k := 124) (n := 677766) (by decide) (by decide) ?_
      generalize t1.heap = H at hP hS ⊢
      generalize locs ++ L1 = locs at hS ⊢
      refine lv_istore (lv' := [(5, Value.int 1), (4, Value.int 0), (3, Value.ref q116), (2, Value.ref q46), (1, Value.ref q0), (0, Value.ref b)]) hx hb d_Lw_law_1128 hl (by decide) rfl (fun ls hl => ?_)
      refine lv_aload_n hx hb d_Lw_law_1130 rfl (lv_at hl 3 rfl) ?_
      refine lv_aload_n hx hb d_Lw_law_1131 rfl (lv_at hl 5 rfl) ?_
      refine lv_iload hx hb d_Lw_law_1132 (lv_at hl 1 rfl) ?_
      refine lv_iconst (v := 1) hx hb d_Lw_law_1134 (by decide) ?_
      refine lv_iadd hx hb d_Lw_law_1135 ?_
      refine gx_topi (y := 1) (by decide) ?_
      refine va_sld hx hb hX hbl hbA hS (i := 1) (gx_inl (by decide)) d_Lw_law_1136 ?_
      refine gx_topi (y := y1) (by rw [hy1]; rfl) ?_
      refine lv_aload_n hx hb d_Lw_law_1137 rfl (lv_at hl 5 rfl) ?_
      refine lv_iload hx hb d_Lw_law_1138 (lv_at hl 1 rfl) ?_
      refine lv_iconst (v := 2) hx hb d_Lw_law_1140 (by decide) ?_
      refine lv_iadd hx hb d_Lw_law_1141 ?_
      refine gx_topi (y := 2) (by decide) ?_
      refine va_sld hx hb hX hbl hbA hS (i := 2) (gx_inl (by decide)) d_Lw_law_1142 ?_
      refine gx_topi (y := y2) (by rw [hy2]; rfl) ?_
      refine gx_call (ig := .invokevirtual 165) (c_Mo_seen_v1 l htr D tys z _ ws cV q46 y1 y2 q47 q48 q49 q50 q51 q52 q53 q54 q62 q70 q78 q79 (um) q80 q81 q82 q83 q84 q85 q86 q87 q88 q89 q90 q91 q92 q93 q94 q95 q96 q97 q98 q99 q100 q101 q102 q103 q104 q105 q106 q107 q108 q109 q110 q111 q112 q113 q114 q115 f_46 f_84 f_92 f_100 f_108 f_83 ht5) (gx_invV (As := [Value.int y1, Value.int y2]) (rest := []) hx hb hown hts km_Lw_165 kI_Mo_seen kV_Mo_seen kc_Mo_seen (by decide) (show (parseMethodDescriptor y_Mo_seen.desc).map (fun d => d.parameters.length) = some 2 by decide +kernel) (gx_recv (ci := 8) hK hP rfl f_46) rfl rfl d_Lw_law_1143) (gx_cw (z := 0) hts kc_Mo_seen kN_Mo rfl rfl ⟨Nat.le_of_ble_eq_true rfl, Nat.le_of_ble_eq_true rfl⟩) hb hml gx_blind (gx_pre hz hP hK hD hY hS hAz [Value.ref q46, Value.int y1, Value.int y2]) rfl hl.1 (lv_room (Nat.le_of_ble_eq_true rfl)) d_Lw_law_1143 ⟨Nat.le_of_ble_eq_true rfl, Nat.le_of_ble_eq_true rfl⟩ (fun v9 st9 t9 L9 h0_9 hW_9 hQ_9 hL_9 => ?_) (fun v9 st9 t9 L9 h0_9 hW_9 hQ_9 hL_9 => ?_)
      · obtain ⟨ws10, hp, hP9, -, hD9, hS9⟩ := gx_back h0_9 hW_9 hQ_9 hL_9 hD hS hA
        clear hQ_9 h0_9 hL_9 hW_9 hP hD hS
        have hP := hP9
        have hD := hD9
        have hS := hS9
        clear hP9 hD9 hS9
        rcases hp with ⟨hv9, e_ws10, f_46_ws10, g9_0⟩ | ⟨hv9, e_ws10, f_46_ws10, g9_0, g9_1⟩ | ⟨hv9, e_ws10, f_46_ws10, g9_0, g9_1⟩
        · cases hv9
          have f_46_ws10 : ws10[46]? = some ((q46, Sum.inr (8, [Value.int 0, Value.int 1, Value.ref q47, Value.ref q48, Value.ref q49, Value.int 0, Value.ref q50, Value.ref q51, Value.ref q52, Value.ref q53, Value.int 0, Value.int 0, Value.int 0, Value.int (-1), Value.int 0, Value.ref q54, Value.ref q62, Value.ref q70, Value.int 0, Value.int 0, Value.int 0, Value.ref q78, Value.ref q79, Value.int 0, Value.int 16, Value.int 4, um, Value.ref q80, Value.ref q81, Value.ref q82, Value.int 0, Value.ref q83, Value.int 0, Value.int 0, Value.int 0])) : Nat × va_E) := f_46_ws10
          replace hlen : ws10.length = 117 := by rw [e_ws10.1, hlen]
          replace hU : gx_g ws ws10 0 [0, 1, 2, 3, 4, 5, 6, 7, 8, 9, 10, 11, 12, 13, 14, 15, 16, 17, 18, 19, 20, 21, 22, 23, 24, 25, 26, 27, 28, 29, 30, 31, 32, 33, 34, 35, 36, 37, 38, 39, 40, 41, 42, 43, 44, 45, 46, 47, 48, 49, 50, 51, 52, 53, 54, 55, 56, 57, 58, 59, 60, 61, 62, 63, 64, 65, 66, 67, 68, 69, 70, 71, 72, 73, 74, 75, 76, 77, 78, 79, 80, 81, 82, 83, 84, 85, 86, 87, 88, 89, 90, 91, 92, 93, 94, 95, 96, 97, 98, 99, 100, 101, 102, 103, 104, 105, 106, 107, 108, 109, 110, 111, 112, 113, 114, 115, 116] := hU.call e_ws10 (by rw [hlen0]; decide)
          refine W.eq (g2 := F0 m 1146 ls [Value.int 0]) rfl ?_
          generalize t9.heap = H at hP hS ⊢
          generalize locs ++ L9 = locs at hS ⊢
          refine lv_istore (lv' := [(6, Value.int 0), (5, Value.int 1), (4, Value.int 0), (3, Value.ref q116), (2, Value.ref q46), (1, Value.ref q0), (0, Value.ref b)]) hx hb d_Lw_law_1146 hl (by decide) rfl (fun ls hl => ?_)
          refine lv_aload_n hx hb d_Lw_law_1148 rfl (lv_at hl 4 rfl) ?_
          refine gx_call (ig := .invokevirtual 98) (c_Mo_thrown l htr D tys z _ ws10 q46 46 (Value.int 0) 1 (Value.ref q47) (Value.ref q48) (Value.ref q49) (Value.int 0) (Value.ref q50) (Value.ref q51) (Value.ref q52) (Value.ref q53) (Value.int 0) (Value.int 0) (Value.int 0) (Value.int (-1)) (Value.int 0) (Value.ref q54) (Value.ref q62) (Value.ref q70) (Value.int 0) (Value.int 0) (Value.int 0) (Value.ref q78) (Value.ref q79) (Value.int 0) (Value.int 16) (Value.int 4) (um) (Value.ref q80) (Value.ref q81) (Value.ref q82) (Value.int 0) (Value.ref q83) (Value.int 0) (Value.int 0) (Value.int 0) f_46_ws10) (gx_invV (As := []) (rest := []) hx hb hown hts km_Lw_98 kI_Mo_thrown kV_Mo_thrown kc_Mo_thrown (by decide) (show (parseMethodDescriptor y_Mo_thrown.desc).map (fun d => d.parameters.length) = some 0 by decide +kernel) (gx_recv (ci := 8) hK hP rfl f_46_ws10) rfl rfl d_Lw_law_1149) (gx_cw (z := 0) hts kc_Mo_thrown kN_Mo rfl rfl ⟨Nat.le_of_ble_eq_true rfl, Nat.le_of_ble_eq_true rfl⟩) hb hml gx_blind (gx_pre hz hP hK hD hY hS hAz [Value.ref q46]) rfl hl.1 (lv_room (Nat.le_of_ble_eq_true rfl)) d_Lw_law_1149 ⟨Nat.le_of_ble_eq_true rfl, Nat.le_of_ble_eq_true rfl⟩ (fun v11 st11 t11 L11 h0_11 hW_11 hQ_11 hL_11 => ?_) (fun v11 st11 t11 L11 h0_11 hW_11 hQ_11 hL_11 => ?_)
          · obtain ⟨ws12, hp, hP9, -, hD9, hS9⟩ := gx_back h0_11 hW_11 hQ_11 hL_11 hD hS hA
            clear hQ_11 h0_11 hL_11 hW_11 hP hD hS
            have hP := hP9
            have hD := hD9
            have hS := hS9
            clear hP9 hD9 hS9
            rcases hp with ⟨hv9, e_ws12⟩
            cases hv9
            rw [e_ws12] at hP hD
            refine W.eq (g2 := F0 m 1152 ls [Value.int 1]) rfl ?_
            generalize t11.heap = H at hP hS ⊢
            generalize locs ++ L11 = locs at hS ⊢
            refine lv_iload hx hb d_Lw_law_1152 (lv_at hl 1 rfl) ?_
            refine lv_icmp_eq (tgt := 1159) hx hb d_Lw_law_1154 (by decide) (fun _ => ?_) (fun c9 => absurd (by decide) c9)
            refine lv_iload hx hb d_Lw_law_1159 (lv_at hl 1 rfl) ?_
            refine lv_if_ne (tgt := 1176) hx hb d_Lw_law_1161 (by decide) (fun _ => ?_) (fun c9 => absurd c9 (by decide))
            refine lv_goto (tgt := 1272) hx hb d_Lw_law_1176 (by decide) ?_
            refine W.widen (k := 400) (n := 700000) (by decide) (by decide) ?_
            exact k _ _ ls (by rw [hAe]; exact hS) (lv_sub hl [2, 6] rfl)
          · obtain ⟨E9, ws13, ce, hp, hce, hP9, -, hD9, hS9⟩ := gx_backT h0_11 hW_11 hQ_11 hL_11 hD hS hA
            clear hQ_11 h0_11 hL_11 hW_11 hP hD hS
            have hP := hP9
            have hD := hD9
            have hS := hS9
            clear hP9 hD9 hS9
            rcases hp with ⟨hv9, e_ws13⟩
            cases hv9
        · cases hv9
          have f_46_ws10 : ws10[46]? = some ((q46, Sum.inr (8, [Value.int 0, Value.int 2, Value.ref q47, Value.ref q48, Value.ref q49, Value.int 0, Value.ref q50, Value.ref q51, Value.ref q52, Value.ref q53, Value.int 0, Value.int 0, Value.int 0, Value.int (-1), Value.int 0, Value.ref q54, Value.ref q62, Value.ref q70, Value.int 0, Value.int 0, Value.int 0, Value.ref q78, Value.ref q79, Value.int 0, Value.int 16, Value.int 4, um, Value.ref q80, Value.ref q81, Value.ref q82, Value.int 0, Value.ref q83, Value.int 0, Value.int 0, Value.int 0])) : Nat × va_E) := f_46_ws10
          replace hlen : ws10.length = 117 := by rw [e_ws10.1, hlen]
          replace hU : gx_g ws ws10 0 [0, 1, 2, 3, 4, 5, 6, 7, 8, 9, 10, 11, 12, 13, 14, 15, 16, 17, 18, 19, 20, 21, 22, 23, 24, 25, 26, 27, 28, 29, 30, 31, 32, 33, 34, 35, 36, 37, 38, 39, 40, 41, 42, 43, 44, 45, 46, 47, 48, 49, 50, 51, 52, 53, 54, 55, 56, 57, 58, 59, 60, 61, 62, 63, 64, 65, 66, 67, 68, 69, 70, 71, 72, 73, 74, 75, 76, 77, 78, 79, 80, 81, 82, 83, 84, 85, 86, 87, 88, 89, 90, 91, 92, 93, 94, 95, 96, 97, 98, 99, 100, 101, 102, 103, 104, 105, 106, 107, 108, 109, 110, 111, 112, 113, 114, 115, 116] := hU.call e_ws10 (by rw [hlen0]; decide)
          exact absurd g1_0 g9_0
        · cases hv9
          have f_46_ws10 : ws10[46]? = some ((q46, Sum.inr (8, [Value.int 0, Value.int 1, Value.ref q47, Value.ref q48, Value.ref q49, Value.int 0, Value.ref q50, Value.ref q51, Value.ref q52, Value.ref q53, Value.int 0, Value.int 0, Value.int 0, Value.int (-1), Value.int 0, Value.ref q54, Value.ref q62, Value.ref q70, Value.int 0, Value.int 0, Value.int 0, Value.ref q78, Value.ref q79, Value.int 0, Value.int 16, Value.int 4, um, Value.ref q80, Value.ref q81, Value.ref q82, Value.int 0, Value.ref q83, Value.int 0, Value.int 0, Value.int 0])) : Nat × va_E) := f_46_ws10
          replace hlen : ws10.length = 117 := by rw [e_ws10.1, hlen]
          replace hU : gx_g ws ws10 0 [0, 1, 2, 3, 4, 5, 6, 7, 8, 9, 10, 11, 12, 13, 14, 15, 16, 17, 18, 19, 20, 21, 22, 23, 24, 25, 26, 27, 28, 29, 30, 31, 32, 33, 34, 35, 36, 37, 38, 39, 40, 41, 42, 43, 44, 45, 46, 47, 48, 49, 50, 51, 52, 53, 54, 55, 56, 57, 58, 59, 60, 61, 62, 63, 64, 65, 66, 67, 68, 69, 70, 71, 72, 73, 74, 75, 76, 77, 78, 79, 80, 81, 82, 83, 84, 85, 86, 87, 88, 89, 90, 91, 92, 93, 94, 95, 96, 97, 98, 99, 100, 101, 102, 103, 104, 105, 106, 107, 108, 109, 110, 111, 112, 113, 114, 115, 116] := hU.call e_ws10 (by rw [hlen0]; decide)
          exact absurd g1_0 g9_0
      · obtain ⟨E9, ws14, ce, hp, hce, hP9, -, hD9, hS9⟩ := gx_backT h0_9 hW_9 hQ_9 hL_9 hD hS hA
        clear hQ_9 h0_9 hL_9 hW_9 hP hD hS
        have hP := hP9
        have hD := hD9
        have hS := hS9
        clear hP9 hD9 hS9
        rcases hp with ⟨hv9, e_ws14, f_46_ws14, g9_0⟩ | ⟨hv9, e_ws14, f_46_ws14, g9_0, g9_1⟩ | ⟨hv9, e_ws14, f_46_ws14, g9_0, g9_1⟩
        · cases hv9
        · cases hv9
        · cases hv9
    · cases hv9
      rw [e_ws2] at hP hD
      refine W.eq (g2 := F0 m 1128 ls [Value.int 1]) rfl ?_
      refine W.widen (k := 124) (n := 677766) (by decide) (by decide) ?_
      generalize t1.heap = H at hP hS ⊢
      generalize locs ++ L1 = locs at hS ⊢
      refine lv_istore (lv' := [(5, Value.int 1), (4, Value.int 0), (3, Value.ref q116), (2, Value.ref q46), (1, Value.ref q0), (0, Value.ref b)]) hx hb d_Lw_law_1128 hl (by decide) rfl (fun ls hl => ?_)
      refine lv_aload_n hx hb d_Lw_law_1130 rfl (lv_at hl 3 rfl) ?_
      refine lv_aload_n hx hb d_Lw_law_1131 rfl (lv_at hl 5 rfl) ?_
      refine lv_iload hx hb d_Lw_law_1132 (lv_at hl 1 rfl) ?_
      refine lv_iconst (v := 1) hx hb d_Lw_law_1134 (by decide) ?_
      refine lv_iadd hx hb d_Lw_law_1135 ?_
      refine gx_topi (y := 1) (by decide) ?_
      refine va_sld hx hb hX hbl hbA hS (i := 1) (gx_inl (by decide)) d_Lw_law_1136 ?_
      refine gx_topi (y := y1) (by rw [hy1]; rfl) ?_
      refine lv_aload_n hx hb d_Lw_law_1137 rfl (lv_at hl 5 rfl) ?_
      refine lv_iload hx hb d_Lw_law_1138 (lv_at hl 1 rfl) ?_
      refine lv_iconst (v := 2) hx hb d_Lw_law_1140 (by decide) ?_
      refine lv_iadd hx hb d_Lw_law_1141 ?_
      refine gx_topi (y := 2) (by decide) ?_
      refine va_sld hx hb hX hbl hbA hS (i := 2) (gx_inl (by decide)) d_Lw_law_1142 ?_
      refine gx_topi (y := y2) (by rw [hy2]; rfl) ?_
      refine gx_call (ig := .invokevirtual 165) (c_Mo_seen_v1 l htr D tys z _ ws cV q46 y1 y2 q47 q48 q49 q50 q51 q52 q53 q54 q62 q70 q78 q79 (um) q80 q81 q82 q83 q84 q85 q86 q87 q88 q89 q90 q91 q92 q93 q94 q95 q96 q97 q98 q99 q100 q101 q102 q103 q104 q105 q106 q107 q108 q109 q110 q111 q112 q113 q114 q115 f_46 f_84 f_92 f_100 f_108 f_83 ht5) (gx_invV (As := [Value.int y1, Value.int y2]) (rest := []) hx hb hown hts km_Lw_165 kI_Mo_seen kV_Mo_seen kc_Mo_seen (by decide) (show (parseMethodDescriptor y_Mo_seen.desc).map (fun d => d.parameters.length) = some 2 by decide +kernel) (gx_recv (ci := 8) hK hP rfl f_46) rfl rfl d_Lw_law_1143) (gx_cw (z := 0) hts kc_Mo_seen kN_Mo rfl rfl ⟨Nat.le_of_ble_eq_true rfl, Nat.le_of_ble_eq_true rfl⟩) hb hml gx_blind (gx_pre hz hP hK hD hY hS hAz [Value.ref q46, Value.int y1, Value.int y2]) rfl hl.1 (lv_room (Nat.le_of_ble_eq_true rfl)) d_Lw_law_1143 ⟨Nat.le_of_ble_eq_true rfl, Nat.le_of_ble_eq_true rfl⟩ (fun v15 st15 t15 L15 h0_15 hW_15 hQ_15 hL_15 => ?_) (fun v15 st15 t15 L15 h0_15 hW_15 hQ_15 hL_15 => ?_)
      · obtain ⟨ws16, hp, hP9, -, hD9, hS9⟩ := gx_back h0_15 hW_15 hQ_15 hL_15 hD hS hA
        clear hQ_15 h0_15 hL_15 hW_15 hP hD hS
        have hP := hP9
        have hD := hD9
        have hS := hS9
        clear hP9 hD9 hS9
        rcases hp with ⟨hv9, e_ws16, f_46_ws16, g15_0⟩ | ⟨hv9, e_ws16, f_46_ws16, g15_0, g15_1⟩ | ⟨hv9, e_ws16, f_46_ws16, g15_0, g15_1⟩
        · cases hv9
          have f_46_ws16 : ws16[46]? = some ((q46, Sum.inr (8, [Value.int 0, Value.int 1, Value.ref q47, Value.ref q48, Value.ref q49, Value.int 0, Value.ref q50, Value.ref q51, Value.ref q52, Value.ref q53, Value.int 0, Value.int 0, Value.int 0, Value.int (-1), Value.int 0, Value.ref q54, Value.ref q62, Value.ref q70, Value.int 0, Value.int 0, Value.int 0, Value.ref q78, Value.ref q79, Value.int 0, Value.int 16, Value.int 4, um, Value.ref q80, Value.ref q81, Value.ref q82, Value.int 0, Value.ref q83, Value.int 0, Value.int 0, Value.int 0])) : Nat × va_E) := f_46_ws16
          replace hlen : ws16.length = 117 := by rw [e_ws16.1, hlen]
          replace hU : gx_g ws ws16 0 [0, 1, 2, 3, 4, 5, 6, 7, 8, 9, 10, 11, 12, 13, 14, 15, 16, 17, 18, 19, 20, 21, 22, 23, 24, 25, 26, 27, 28, 29, 30, 31, 32, 33, 34, 35, 36, 37, 38, 39, 40, 41, 42, 43, 44, 45, 46, 47, 48, 49, 50, 51, 52, 53, 54, 55, 56, 57, 58, 59, 60, 61, 62, 63, 64, 65, 66, 67, 68, 69, 70, 71, 72, 73, 74, 75, 76, 77, 78, 79, 80, 81, 82, 83, 84, 85, 86, 87, 88, 89, 90, 91, 92, 93, 94, 95, 96, 97, 98, 99, 100, 101, 102, 103, 104, 105, 106, 107, 108, 109, 110, 111, 112, 113, 114, 115, 116] := hU.call e_ws16 (by rw [hlen0]; decide)
          exact absurd g15_0 g1_0
        · cases hv9
          have f_46_ws16 : ws16[46]? = some ((q46, Sum.inr (8, [Value.int 0, Value.int 2, Value.ref q47, Value.ref q48, Value.ref q49, Value.int 0, Value.ref q50, Value.ref q51, Value.ref q52, Value.ref q53, Value.int 0, Value.int 0, Value.int 0, Value.int (-1), Value.int 0, Value.ref q54, Value.ref q62, Value.ref q70, Value.int 0, Value.int 0, Value.int 0, Value.ref q78, Value.ref q79, Value.int 0, Value.int 16, Value.int 4, um, Value.ref q80, Value.ref q81, Value.ref q82, Value.int 0, Value.ref q83, Value.int 0, Value.int 0, Value.int 0])) : Nat × va_E) := f_46_ws16
          replace hlen : ws16.length = 117 := by rw [e_ws16.1, hlen]
          replace hU : gx_g ws ws16 0 [0, 1, 2, 3, 4, 5, 6, 7, 8, 9, 10, 11, 12, 13, 14, 15, 16, 17, 18, 19, 20, 21, 22, 23, 24, 25, 26, 27, 28, 29, 30, 31, 32, 33, 34, 35, 36, 37, 38, 39, 40, 41, 42, 43, 44, 45, 46, 47, 48, 49, 50, 51, 52, 53, 54, 55, 56, 57, 58, 59, 60, 61, 62, 63, 64, 65, 66, 67, 68, 69, 70, 71, 72, 73, 74, 75, 76, 77, 78, 79, 80, 81, 82, 83, 84, 85, 86, 87, 88, 89, 90, 91, 92, 93, 94, 95, 96, 97, 98, 99, 100, 101, 102, 103, 104, 105, 106, 107, 108, 109, 110, 111, 112, 113, 114, 115, 116] := hU.call e_ws16 (by rw [hlen0]; decide)
          exact absurd g15_1 g1_1
        · cases hv9
          have f_46_ws16 : ws16[46]? = some ((q46, Sum.inr (8, [Value.int 0, Value.int 1, Value.ref q47, Value.ref q48, Value.ref q49, Value.int 0, Value.ref q50, Value.ref q51, Value.ref q52, Value.ref q53, Value.int 0, Value.int 0, Value.int 0, Value.int (-1), Value.int 0, Value.ref q54, Value.ref q62, Value.ref q70, Value.int 0, Value.int 0, Value.int 0, Value.ref q78, Value.ref q79, Value.int 0, Value.int 16, Value.int 4, um, Value.ref q80, Value.ref q81, Value.ref q82, Value.int 0, Value.ref q83, Value.int 0, Value.int 0, Value.int 0])) : Nat × va_E) := f_46_ws16
          replace hlen : ws16.length = 117 := by rw [e_ws16.1, hlen]
          replace hU : gx_g ws ws16 0 [0, 1, 2, 3, 4, 5, 6, 7, 8, 9, 10, 11, 12, 13, 14, 15, 16, 17, 18, 19, 20, 21, 22, 23, 24, 25, 26, 27, 28, 29, 30, 31, 32, 33, 34, 35, 36, 37, 38, 39, 40, 41, 42, 43, 44, 45, 46, 47, 48, 49, 50, 51, 52, 53, 54, 55, 56, 57, 58, 59, 60, 61, 62, 63, 64, 65, 66, 67, 68, 69, 70, 71, 72, 73, 74, 75, 76, 77, 78, 79, 80, 81, 82, 83, 84, 85, 86, 87, 88, 89, 90, 91, 92, 93, 94, 95, 96, 97, 98, 99, 100, 101, 102, 103, 104, 105, 106, 107, 108, 109, 110, 111, 112, 113, 114, 115, 116] := hU.call e_ws16 (by rw [hlen0]; decide)
          refine W.eq (g2 := F0 m 1146 ls [Value.int 0]) rfl ?_
          generalize t15.heap = H at hP hS ⊢
          generalize locs ++ L15 = locs at hS ⊢
          refine lv_istore (lv' := [(6, Value.int 0), (5, Value.int 1), (4, Value.int 0), (3, Value.ref q116), (2, Value.ref q46), (1, Value.ref q0), (0, Value.ref b)]) hx hb d_Lw_law_1146 hl (by decide) rfl (fun ls hl => ?_)
          refine lv_aload_n hx hb d_Lw_law_1148 rfl (lv_at hl 4 rfl) ?_
          refine gx_call (ig := .invokevirtual 98) (c_Mo_thrown l htr D tys z _ ws16 q46 46 (Value.int 0) 1 (Value.ref q47) (Value.ref q48) (Value.ref q49) (Value.int 0) (Value.ref q50) (Value.ref q51) (Value.ref q52) (Value.ref q53) (Value.int 0) (Value.int 0) (Value.int 0) (Value.int (-1)) (Value.int 0) (Value.ref q54) (Value.ref q62) (Value.ref q70) (Value.int 0) (Value.int 0) (Value.int 0) (Value.ref q78) (Value.ref q79) (Value.int 0) (Value.int 16) (Value.int 4) (um) (Value.ref q80) (Value.ref q81) (Value.ref q82) (Value.int 0) (Value.ref q83) (Value.int 0) (Value.int 0) (Value.int 0) f_46_ws16) (gx_invV (As := []) (rest := []) hx hb hown hts km_Lw_98 kI_Mo_thrown kV_Mo_thrown kc_Mo_thrown (by decide) (show (parseMethodDescriptor y_Mo_thrown.desc).map (fun d => d.parameters.length) = some 0 by decide +kernel) (gx_recv (ci := 8) hK hP rfl f_46_ws16) rfl rfl d_Lw_law_1149) (gx_cw (z := 0) hts kc_Mo_thrown kN_Mo rfl rfl ⟨Nat.le_of_ble_eq_true rfl, Nat.le_of_ble_eq_true rfl⟩) hb hml gx_blind (gx_pre hz hP hK hD hY hS hAz [Value.ref q46]) rfl hl.1 (lv_room (Nat.le_of_ble_eq_true rfl)) d_Lw_law_1149 ⟨Nat.le_of_ble_eq_true rfl, Nat.le_of_ble_eq_true rfl⟩ (fun v17 st17 t17 L17 h0_17 hW_17 hQ_17 hL_17 => ?_) (fun v17 st17 t17 L17 h0_17 hW_17 hQ_17 hL_17 => ?_)
          · obtain ⟨ws18, hp, hP9, -, hD9, hS9⟩ := gx_back h0_17 hW_17 hQ_17 hL_17 hD hS hA
            clear hQ_17 h0_17 hL_17 hW_17 hP hD hS
            have hP := hP9
            have hD := hD9
            have hS := hS9
            clear hP9 hD9 hS9
            rcases hp with ⟨hv9, e_ws18⟩
            cases hv9
            rw [e_ws18] at hP hD
            refine W.eq (g2 := F0 m 1152 ls [Value.int 1]) rfl ?_
            generalize t17.heap = H at hP hS ⊢
            generalize locs ++ L17 = locs at hS ⊢
            refine lv_iload hx hb d_Lw_law_1152 (lv_at hl 1 rfl) ?_
            refine lv_icmp_eq (tgt := 1159) hx hb d_Lw_law_1154 (by decide) (fun _ => ?_) (fun c9 => absurd (by decide) c9)
            refine lv_iload hx hb d_Lw_law_1159 (lv_at hl 1 rfl) ?_
            refine lv_if_ne (tgt := 1176) hx hb d_Lw_law_1161 (by decide) (fun _ => ?_) (fun c9 => absurd c9 (by decide))
            refine lv_goto (tgt := 1272) hx hb d_Lw_law_1176 (by decide) ?_
            refine W.widen (k := 400) (n := 700000) (by decide) (by decide) ?_
            exact k _ _ ls (by rw [hAe]; exact hS) (lv_sub hl [2, 6] rfl)
          · obtain ⟨E9, ws19, ce, hp, hce, hP9, -, hD9, hS9⟩ := gx_backT h0_17 hW_17 hQ_17 hL_17 hD hS hA
            clear hQ_17 h0_17 hL_17 hW_17 hP hD hS
            have hP := hP9
            have hD := hD9
            have hS := hS9
            clear hP9 hD9 hS9
            rcases hp with ⟨hv9, e_ws19⟩
            cases hv9
      · obtain ⟨E9, ws20, ce, hp, hce, hP9, -, hD9, hS9⟩ := gx_backT h0_15 hW_15 hQ_15 hL_15 hD hS hA
        clear hQ_15 h0_15 hL_15 hW_15 hP hD hS
        have hP := hP9
        have hD := hD9
        have hS := hS9
        clear hP9 hD9 hS9
        rcases hp with ⟨hv9, e_ws20, f_46_ws20, g15_0⟩ | ⟨hv9, e_ws20, f_46_ws20, g15_0, g15_1⟩ | ⟨hv9, e_ws20, f_46_ws20, g15_0, g15_1⟩
        · cases hv9
        · cases hv9
        · cases hv9
  · obtain ⟨E9, ws21, ce, hp, hce, hP9, -, hD9, hS9⟩ := gx_backT h0_1 hW_1 hQ_1 hL_1 hD hS hA
    clear hQ_1 h0_1 hL_1 hW_1 hP hD hS
    have hP := hP9
    have hD := hD9
    have hS := hS9
    clear hP9 hD9 hS9
    rcases hp with ⟨hv9, e_ws21, g1_0, g1_1⟩ | ⟨hv9, e_ws21, g1_0⟩ | ⟨hv9, e_ws21, g1_0, g1_1⟩
    · cases hv9
    · cases hv9
    · cases hv9
