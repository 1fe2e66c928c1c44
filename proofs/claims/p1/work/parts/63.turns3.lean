/-! THE TURNS OF THE LAW on new objects; rows printed by an own text program -/
set_option maxHeartbeats 4000000 in
set_option maxRecDepth 100000 in
theorem law_t20 {p : Program} {e : Env} {s : State} {m : MethodId} {below : List Frame} {meth : Method} {c : Code} {Q : State → Prop} (l : Launch) (htr : l.stackTraces = false) {b : Nat} {xs : Nat → Int32} (hx : p.tables.exec = Jvm.exec) (hb : c.code = code) (hml : c.maxLocals = 7) (hown : s.vm.findClass "CommitLedgerLaw" = some m.cls) (hts1 : ∀ w ∈ lw_tbl, w.before #[Value.ref b] s = true) (hgv : (Jvm.Cond.and given_1 narrow_1).before #[Value.ref b] s = true) (hX : va_X b 4 xs s s.heap) (hbl : b < s.heap.size) (D : va_G) (tys : List (ClassId × FieldType)) (cI cZ cF cM cR cV cJ : ClassId) (q0 q1 q2 q3 q4 q5 q6 q7 q8 q9 q10 q11 q12 q13 q14 q15 q16 q17 q18 q19 q20 q21 q22 q23 q24 q25 q26 q27 q28 q29 q30 q31 q32 q33 q34 q35 q36 q37 q38 q39 q40 q41 q42 q43 q44 q45 q46 q47 q48 q49 q50 q51 q52 q53 q54 q55 q56 q57 q58 q59 q60 q61 q62 q63 q64 q65 q66 q67 q68 q69 q70 q71 q72 q73 q74 q75 q76 q77 q78 q79 q80 q81 q82 q83 q84 q85 q86 q87 q88 q89 q90 q91 q92 q93 q94 q95 q96 q97 q98 q99 q100 q101 q102 q103 q104 q105 q106 q107 q108 q109 q110 q111 q112 q113 q114 q115 q116 : Nat) (u0 u1 um : Value) (ws : va_W) (H : Heap) (locs : List Loc) (ls : Array Slot) (hK : va_K D classes tys s) (htys : tys = [(cI, FieldType.int), (cZ, FieldType.boolean), (cF, FieldType.object "CommitLedger$LedgerFile"), (cM, FieldType.object "CommitLedger$Merge"), (cR, FieldType.object "CommitLedger$Reader"), (cV, FieldType.object "CommitLedgerModel$Version"), (cJ, FieldType.long)]) (hP : va_P D classes ws H) (hD : va_D (fun q : Nat => s.heap.size ≤ q) ws) (hS : va_S (fun q : Nat => s.heap.size ≤ q) s.heap H locs) (hlen : ws.length = 117) (f_0 : ws[0]? = some ((q0, Sum.inr (0, [Value.ref q1, Value.ref q5, Value.ref q8, Value.ref q20, Value.ref q25, Value.ref q12, Value.ref q16, Value.int 0, Value.int 0, Value.int 0, Value.int 16, Value.int 4, Value.int 0, Value.int 0, Value.int 0, Value.int 0, Value.int 0, Value.int (-1)])) : Nat × va_E)) (f_46 : ws[46]? = some ((q46, Sum.inr (8, [Value.int 0, Value.int 0, Value.ref q47, Value.ref q48, Value.ref q49, Value.int 0, Value.ref q50, Value.ref q51, Value.ref q52, Value.ref q53, Value.int 0, Value.int 0, Value.int 0, Value.int (-1), Value.int 0, Value.ref q54, Value.ref q62, Value.ref q70, Value.int 0, Value.int 0, Value.int 0, Value.ref q78, Value.ref q79, Value.int 0, Value.int 16, Value.int 4, um, Value.ref q80, Value.ref q81, Value.ref q82, Value.int 0, Value.ref q83, Value.int 0, Value.int 0, Value.int 0])) : Nat × va_E)) (hl : lv_has ls 7 [(4, Value.int 0), (3, Value.ref q116), (2, Value.ref q46), (1, Value.ref q0), (0, Value.ref b)])
    (k : ∀ (H : Heap) (locs : List Loc) (ls : Array Slot), va_S (fun q : Nat => s.heap.size ≤ q) s.heap H locs → lv_has ls 7 [(4, Value.int 0), (0, Value.ref b)] → W p l e room_1 s m #[Value.ref b] below meth c H locs 400 700000 Q (F0 m 1272 ls [])) :
    W p l e room_1 s m #[Value.ref b] below meth c H locs 122 677754 Q (F0 m 1179 ls []) := by
  have ht0 : tys[0]? = some ((cI, FieldType.int) : ClassId × FieldType) := by rw [htys]; rfl
  have ht1 : tys[1]? = some ((cZ, FieldType.boolean) : ClassId × FieldType) := by rw [htys]; rfl
  have ht2 : tys[2]? = some ((cF, FieldType.object "CommitLedger$LedgerFile") : ClassId × FieldType) := by rw [htys]; rfl
  have ht3 : tys[3]? = some ((cM, FieldType.object "CommitLedger$Merge") : ClassId × FieldType) := by rw [htys]; rfl
  have ht4 : tys[4]? = some ((cR, FieldType.object "CommitLedger$Reader") : ClassId × FieldType) := by rw [htys]; rfl
  have ht5 : tys[5]? = some ((cV, FieldType.object "CommitLedgerModel$Version") : ClassId × FieldType) := by rw [htys]; rfl
  have ht6 : tys[6]? = some ((cJ, FieldType.long) : ClassId × FieldType) := by rw [htys]; rfl
  have hY := gx_Y0 hts1 hgv
  have hts := gx_hts0 hts1 hgv
  obtain ⟨z, hzz⟩ : ∃ x : Nat, x = s.heap.size := ⟨_, rfl⟩
  rw [← hzz] at hY
  have hz : z ≤ s.heap.size := Nat.le_of_eq hzz
  have hAz : ∀ q : Nat, (fun q : Nat => s.heap.size ≤ q) q → z ≤ q := fun q h => by rw [hzz]; exact h
  have hA : ∀ q : Nat, s.heap.size ≤ q → (fun q : Nat => s.heap.size ≤ q) q := fun _ h => h
  have hbA : ¬ (fun q : Nat => s.heap.size ≤ q) b := Nat.not_le.mpr hbl
  have hN : gx_NS (fun q : Nat => s.heap.size ≤ q) s := fun q cell h hc => absurd (Array.getElem?_eq_some_iff.mp hc).1 (Nat.not_lt.mpr h)
  have hlen0 := hlen
  have hU : gx_g ws ws 0 [0, 1, 2, 3, 4, 5, 6, 7, 8, 9, 10, 11, 12, 13, 14, 15, 16, 17, 18, 19, 20, 21, 22, 23, 24, 25, 26, 27, 28, 29, 30, 31, 32, 33, 34, 35, 36, 37, 38, 39, 40, 41, 42, 43, 44, 45, 46, 47, 48, 49, 50, 51, 52, 53, 54, 55, 56, 57, 58, 59, 60, 61, 62, 63, 64, 65, 66, 67, 68, 69, 70, 71, 72, 73, 74, 75, 76, 77, 78, 79, 80, 81, 82, 83, 84, 85, 86, 87, 88, 89, 90, 91, 92, 93, 94, 95, 96, 97, 98, 99, 100, 101, 102, 103, 104, 105, 106, 107, 108, 109, 110, 111, 112, 113, 114, 115, 116] := gx_g.rf
  obtain ⟨y0, hy0⟩ : ∃ y : Int32, y = xs 0 := ⟨_, rfl⟩
  obtain ⟨y1, hy1⟩ : ∃ y : Int32, y = xs 1 := ⟨_, rfl⟩
  obtain ⟨y2, hy2⟩ : ∃ y : Int32, y = xs 2 := ⟨_, rfl⟩
  obtain ⟨y3, hy3⟩ : ∃ y : Int32, y = xs 3 := ⟨_, rfl⟩
  generalize hAe : (fun q : Nat => s.heap.size ≤ q) = A at hD hN hA hAz hS hbA
  refine lv_aload_n hx hb d_Lw_law_1179 rfl (lv_at hl 3 rfl) ?_
  refine lv_aload_n hx hb d_Lw_law_1180 rfl (lv_at hl 4 rfl) ?_
  refine lv_iload hx hb d_Lw_law_1181 (lv_at hl 0 rfl) ?_
  refine lv_iconst (v := 1) hx hb d_Lw_law_1183 (by decide) ?_
  refine lv_iadd hx hb d_Lw_law_1184 ?_
  refine gx_topi (y := 1) (by decide) ?_
  refine va_sld hx hb hX hbl hbA hS (i := 1) (gx_inl (by decide)) d_Lw_law_1185 ?_
  refine gx_topi (y := y1) (by rw [hy1]; rfl) ?_
  refine lv_aload_n hx hb d_Lw_law_1186 rfl (lv_at hl 4 rfl) ?_
  refine lv_iload hx hb d_Lw_law_1187 (lv_at hl 0 rfl) ?_
  refine lv_iconst (v := 2) hx hb d_Lw_law_1189 (by decide) ?_
  refine lv_iadd hx hb d_Lw_law_1190 ?_
  refine gx_topi (y := 2) (by decide) ?_
  refine va_sld hx hb hX hbl hbA hS (i := 2) (gx_inl (by decide)) d_Lw_law_1191 ?_
  refine gx_topi (y := y2) (by rw [hy2]; rfl) ?_
  refine lv_aload_n hx hb d_Lw_law_1192 rfl (lv_at hl 1 rfl) ?_
  refine gx_callH (ig := .invokestatic 166) (c_Lw_segment_v1 l htr D tys z _ ws q0 y1 y2 q116 q1 q5 q8 q20 q25 q12 q16 f_0) (gx_invSH (As := [Value.ref q0, Value.int y1, Value.int y2, Value.ref q116]) (rest := []) hx hb hown hts km_Lw_166 kS_Lw_segment kN_Lw kc_Lw_segment (by decide) (show (parseMethodDescriptor y_Lw_segment.desc).map (fun d => d.parameters.length) = some 4 by decide +kernel) rfl rfl d_Lw_law_1193) (gx_cwH hts kc_Lw_segment kN_Lw rfl rfl ⟨Nat.le_of_ble_eq_true rfl, Nat.le_of_ble_eq_true rfl⟩) hb hml gx_blind (gx_pre hz hP hK hD hY hS hAz [Value.ref q0, Value.int y1, Value.int y2, Value.ref q116]) rfl hl.1 (lv_room (Nat.le_of_ble_eq_true rfl)) d_Lw_law_1193 ⟨Nat.le_of_ble_eq_true rfl, Nat.le_of_ble_eq_true rfl⟩ (fun v1 st1 t1 L1 h0_1 hW_1 hQ_1 hL_1 => ?_) (fun v1 st1 t1 L1 h0_1 hW_1 hQ_1 hL_1 => ?_)
  · obtain ⟨ws2, hp, hP9, -, hD9, hS9⟩ := gx_back h0_1 hW_1 hQ_1 hL_1 hD hS hA
    clear hQ_1 h0_1 hL_1 hW_1 hP hD hS
    have hP := hP9
    have hD := hD9
    have hS := hS9
    clear hP9 hD9 hS9
    rcases hp with ⟨hv9, e_ws2, g1_0, g1_1⟩ | ⟨hv9, e_ws2, g1_0⟩ | ⟨hv9, e_ws2, g1_0, g1_1⟩
    · cases hv9
      rw [e_ws2] at hP hD
      refine W.eq (g2 := F0 m 1196 ls [Value.int 2]) rfl ?_
      refine W.widen (k := 124) (n := 677766) (by decide) (by decide) ?_
      generalize t1.heap = H at hP hS ⊢
      generalize locs ++ L1 = locs at hS ⊢
      refine lv_istore (lv' := [(5, Value.int 2), (4, Value.int 0), (3, Value.ref q116), (2, Value.ref q46), (1, Value.ref q0), (0, Value.ref b)]) hx hb d_Lw_law_1196 hl (by decide) rfl (fun ls hl => ?_)
      refine lv_aload_n hx hb d_Lw_law_1198 rfl (lv_at hl 3 rfl) ?_
      refine lv_aload_n hx hb d_Lw_law_1199 rfl (lv_at hl 5 rfl) ?_
      refine lv_iload hx hb d_Lw_law_1200 (lv_at hl 1 rfl) ?_
      refine lv_iconst (v := 1) hx hb d_Lw_law_1202 (by decide) ?_
      refine lv_iadd hx hb d_Lw_law_1203 ?_
      refine gx_topi (y := 1) (by decide) ?_
      refine va_sld hx hb hX hbl hbA hS (i := 1) (gx_inl (by decide)) d_Lw_law_1204 ?_
      refine gx_topi (y := y1) (by rw [hy1]; rfl) ?_
      refine lv_aload_n hx hb d_Lw_law_1205 rfl (lv_at hl 5 rfl) ?_
      refine lv_iload hx hb d_Lw_law_1206 (lv_at hl 1 rfl) ?_
      refine lv_iconst (v := 2) hx hb d_Lw_law_1208 (by decide) ?_
      refine lv_iadd hx hb d_Lw_law_1209 ?_
      refine gx_topi (y := 2) (by decide) ?_
      refine va_sld hx hb hX hbl hbA hS (i := 2) (gx_inl (by decide)) d_Lw_law_1210 ?_
      refine gx_topi (y := y2) (by rw [hy2]; rfl) ?_
      refine gx_call (ig := .invokevirtual 168) (c_Mo_segment_v1 l htr D tys z _ ws q46 y1 y2 q47 q48 q49 q50 q51 q52 q53 q54 q62 q70 q78 q79 (um) q80 q81 q82 q83 f_46) (gx_invV (As := [Value.int y1, Value.int y2]) (rest := []) hx hb hown hts km_Lw_168 kI_Mo_segment kV_Mo_segment kc_Mo_segment (by decide) (show (parseMethodDescriptor y_Mo_segment.desc).map (fun d => d.parameters.length) = some 2 by decide +kernel) (gx_recv (ci := 8) hK hP rfl f_46) rfl rfl d_Lw_law_1211) (gx_cw (z := 0) hts kc_Mo_segment kN_Mo rfl rfl ⟨Nat.le_of_ble_eq_true rfl, Nat.le_of_ble_eq_true rfl⟩) hb hml gx_blind (gx_pre hz hP hK hD hY hS hAz [Value.ref q46, Value.int y1, Value.int y2]) rfl hl.1 (lv_room (Nat.le_of_ble_eq_true rfl)) d_Lw_law_1211 ⟨Nat.le_of_ble_eq_true rfl, Nat.le_of_ble_eq_true rfl⟩ (fun v3 st3 t3 L3 h0_3 hW_3 hQ_3 hL_3 => ?_) (fun v3 st3 t3 L3 h0_3 hW_3 hQ_3 hL_3 => ?_)
      · obtain ⟨ws4, hp, hP9, -, hD9, hS9⟩ := gx_back h0_3 hW_3 hQ_3 hL_3 hD hS hA
        clear hQ_3 h0_3 hL_3 hW_3 hP hD hS
        have hP := hP9
        have hD := hD9
        have hS := hS9
        clear hP9 hD9 hS9
        rcases hp with ⟨hv9, e_ws4, f_46_ws4, g3_0⟩ | ⟨hv9, e_ws4, f_46_ws4, g3_0, g3_1⟩ | ⟨hv9, e_ws4, f_46_ws4, g3_0, g3_1⟩
        · cases hv9
          have f_46_ws4 : ws4[46]? = some ((q46, Sum.inr (8, [Value.int 0, Value.int 1, Value.ref q47, Value.ref q48, Value.ref q49, Value.int 0, Value.ref q50, Value.ref q51, Value.ref q52, Value.ref q53, Value.int 0, Value.int 0, Value.int 0, Value.int (-1), Value.int 0, Value.ref q54, Value.ref q62, Value.ref q70, Value.int 0, Value.int 0, Value.int 0, Value.ref q78, Value.ref q79, Value.int 0, Value.int 16, Value.int 4, um, Value.ref q80, Value.ref q81, Value.ref q82, Value.int 0, Value.ref q83, Value.int 0, Value.int 0, Value.int 0])) : Nat × va_E) := f_46_ws4
          replace hlen : ws4.length = 117 := by rw [e_ws4.1, hlen]
          replace hU : gx_g ws ws4 0 [0, 1, 2, 3, 4, 5, 6, 7, 8, 9, 10, 11, 12, 13, 14, 15, 16, 17, 18, 19, 20, 21, 22, 23, 24, 25, 26, 27, 28, 29, 30, 31, 32, 33, 34, 35, 36, 37, 38, 39, 40, 41, 42, 43, 44, 45, 46, 47, 48, 49, 50, 51, 52, 53, 54, 55, 56, 57, 58, 59, 60, 61, 62, 63, 64, 65, 66, 67, 68, 69, 70, 71, 72, 73, 74, 75, 76, 77, 78, 79, 80, 81, 82, 83, 84, 85, 86, 87, 88, 89, 90, 91, 92, 93, 94, 95, 96, 97, 98, 99, 100, 101, 102, 103, 104, 105, 106, 107, 108, 109, 110, 111, 112, 113, 114, 115, 116] := hU.call e_ws4 (by rw [hlen0]; decide)
          exact absurd g3_0 g1_0
        · cases hv9
          have f_46_ws4 : ws4[46]? = some ((q46, Sum.inr (8, [Value.int 0, Value.int 2, Value.ref q47, Value.ref q48, Value.ref q49, Value.int 0, Value.ref q50, Value.ref q51, Value.ref q52, Value.ref q53, Value.int 0, Value.int 0, Value.int 0, Value.int (-1), Value.int 0, Value.ref q54, Value.ref q62, Value.ref q70, Value.int 0, Value.int 0, Value.int 0, Value.ref q78, Value.ref q79, Value.int 0, Value.int 16, Value.int 4, um, Value.ref q80, Value.ref q81, Value.ref q82, Value.int 0, Value.ref q83, Value.int 0, Value.int 0, Value.int 0])) : Nat × va_E) := f_46_ws4
          replace hlen : ws4.length = 117 := by rw [e_ws4.1, hlen]
          replace hU : gx_g ws ws4 0 [0, 1, 2, 3, 4, 5, 6, 7, 8, 9, 10, 11, 12, 13, 14, 15, 16, 17, 18, 19, 20, 21, 22, 23, 24, 25, 26, 27, 28, 29, 30, 31, 32, 33, 34, 35, 36, 37, 38, 39, 40, 41, 42, 43, 44, 45, 46, 47, 48, 49, 50, 51, 52, 53, 54, 55, 56, 57, 58, 59, 60, 61, 62, 63, 64, 65, 66, 67, 68, 69, 70, 71, 72, 73, 74, 75, 76, 77, 78, 79, 80, 81, 82, 83, 84, 85, 86, 87, 88, 89, 90, 91, 92, 93, 94, 95, 96, 97, 98, 99, 100, 101, 102, 103, 104, 105, 106, 107, 108, 109, 110, 111, 112, 113, 114, 115, 116] := hU.call e_ws4 (by rw [hlen0]; decide)
          refine W.eq (g2 := F0 m 1214 ls [Value.int 0]) rfl ?_
          generalize t3.heap = H at hP hS ⊢
          generalize locs ++ L3 = locs at hS ⊢
          refine lv_istore (lv' := [(6, Value.int 0), (5, Value.int 2), (4, Value.int 0), (3, Value.ref q116), (2, Value.ref q46), (1, Value.ref q0), (0, Value.ref b)]) hx hb d_Lw_law_1214 hl (by decide) rfl (fun ls hl => ?_)
          refine lv_aload_n hx hb d_Lw_law_1216 rfl (lv_at hl 4 rfl) ?_
          refine gx_call (ig := .invokevirtual 98) (c_Mo_thrown l htr D tys z _ ws4 q46 46 (Value.int 0) 2 (Value.ref q47) (Value.ref q48) (Value.ref q49) (Value.int 0) (Value.ref q50) (Value.ref q51) (Value.ref q52) (Value.ref q53) (Value.int 0) (Value.int 0) (Value.int 0) (Value.int (-1)) (Value.int 0) (Value.ref q54) (Value.ref q62) (Value.ref q70) (Value.int 0) (Value.int 0) (Value.int 0) (Value.ref q78) (Value.ref q79) (Value.int 0) (Value.int 16) (Value.int 4) (um) (Value.ref q80) (Value.ref q81) (Value.ref q82) (Value.int 0) (Value.ref q83) (Value.int 0) (Value.int 0) (Value.int 0) f_46_ws4) (gx_invV (As := []) (rest := []) hx hb hown hts km_Lw_98 kI_Mo_thrown kV_Mo_thrown kc_Mo_thrown (by decide) (show (parseMethodDescriptor y_Mo_thrown.desc).map (fun d => d.parameters.length) = some 0 by decide +kernel) (gx_recv (ci := 8) hK hP rfl f_46_ws4) rfl rfl d_Lw_law_1217) (gx_cw (z := 0) hts kc_Mo_thrown kN_Mo rfl rfl ⟨Nat.le_of_ble_eq_true rfl, Nat.le_of_ble_eq_true rfl⟩) hb hml gx_blind (gx_pre hz hP hK hD hY hS hAz [Value.ref q46]) rfl hl.1 (lv_room (Nat.le_of_ble_eq_true rfl)) d_Lw_law_1217 ⟨Nat.le_of_ble_eq_true rfl, Nat.le_of_ble_eq_true rfl⟩ (fun v5 st5 t5 L5 h0_5 hW_5 hQ_5 hL_5 => ?_) (fun v5 st5 t5 L5 h0_5 hW_5 hQ_5 hL_5 => ?_)
          · obtain ⟨ws6, hp, hP9, -, hD9, hS9⟩ := gx_back h0_5 hW_5 hQ_5 hL_5 hD hS hA
            clear hQ_5 h0_5 hL_5 hW_5 hP hD hS
            have hP := hP9
            have hD := hD9
            have hS := hS9
            clear hP9 hD9 hS9
            rcases hp with ⟨hv9, e_ws6⟩
            cases hv9
            rw [e_ws6] at hP hD
            refine W.eq (g2 := F0 m 1220 ls [Value.int 2]) rfl ?_
            generalize t5.heap = H at hP hS ⊢
            generalize locs ++ L5 = locs at hS ⊢
            refine lv_iload hx hb d_Lw_law_1220 (lv_at hl 1 rfl) ?_
            refine lv_icmp_eq (tgt := 1227) hx hb d_Lw_law_1222 (by decide) (fun _ => ?_) (fun c9 => absurd (by decide) c9)
            refine lv_iload hx hb d_Lw_law_1227 (lv_at hl 1 rfl) ?_
            refine lv_if_ne (tgt := 1244) hx hb d_Lw_law_1229 (by decide) (fun _ => ?_) (fun c9 => absurd c9 (by decide))
            refine lv_goto (tgt := 1272) hx hb d_Lw_law_1244 (by decide) ?_
            refine W.widen (k := 400) (n := 700000) (by decide) (by decide) ?_
            exact k _ _ ls (by rw [hAe]; exact hS) (lv_sub hl [2, 6] rfl)
          · obtain ⟨E9, ws7, ce, hp, hce, hP9, -, hD9, hS9⟩ := gx_backT h0_5 hW_5 hQ_5 hL_5 hD hS hA
            clear hQ_5 h0_5 hL_5 hW_5 hP hD hS
            have hP := hP9
            have hD := hD9
            have hS := hS9
            clear hP9 hD9 hS9
            rcases hp with ⟨hv9, e_ws7⟩
            cases hv9
        · cases hv9
          have f_46_ws4 : ws4[46]? = some ((q46, Sum.inr (8, [Value.int 0, Value.int 1, Value.ref q47, Value.ref q48, Value.ref q49, Value.int 0, Value.ref q50, Value.ref q51, Value.ref q52, Value.ref q53, Value.int 0, Value.int 0, Value.int 0, Value.int (-1), Value.int 0, Value.ref q54, Value.ref q62, Value.ref q70, Value.int 0, Value.int 0, Value.int 0, Value.ref q78, Value.ref q79, Value.int 0, Value.int 16, Value.int 4, um, Value.ref q80, Value.ref q81, Value.ref q82, Value.int 0, Value.ref q83, Value.int 0, Value.int 0, Value.int 0])) : Nat × va_E) := f_46_ws4
          replace hlen : ws4.length = 117 := by rw [e_ws4.1, hlen]
          replace hU : gx_g ws ws4 0 [0, 1, 2, 3, 4, 5, 6, 7, 8, 9, 10, 11, 12, 13, 14, 15, 16, 17, 18, 19, 20, 21, 22, 23, 24, 25, 26, 27, 28, 29, 30, 31, 32, 33, 34, 35, 36, 37, 38, 39, 40, 41, 42, 43, 44, 45, 46, 47, 48, 49, 50, 51, 52, 53, 54, 55, 56, 57, 58, 59, 60, 61, 62, 63, 64, 65, 66, 67, 68, 69, 70, 71, 72, 73, 74, 75, 76, 77, 78, 79, 80, 81, 82, 83, 84, 85, 86, 87, 88, 89, 90, 91, 92, 93, 94, 95, 96, 97, 98, 99, 100, 101, 102, 103, 104, 105, 106, 107, 108, 109, 110, 111, 112, 113, 114, 115, 116] := hU.call e_ws4 (by rw [hlen0]; decide)
          exact absurd g1_1 g3_1
      · obtain ⟨E9, ws8, ce, hp, hce, hP9, -, hD9, hS9⟩ := gx_backT h0_3 hW_3 hQ_3 hL_3 hD hS hA
        clear hQ_3 h0_3 hL_3 hW_3 hP hD hS
        have hP := hP9
        have hD := hD9
        have hS := hS9
        clear hP9 hD9 hS9
        rcases hp with ⟨hv9, e_ws8, f_46_ws8, g3_0⟩ | ⟨hv9, e_ws8, f_46_ws8, g3_0, g3_1⟩ | ⟨hv9, e_ws8, f_46_ws8, g3_0, g3_1⟩
        · cases hv9
        · cases hv9
        · cases hv9
    · cases hv9
      rw [e_ws2] at hP hD
      refine W.eq (g2 := F0 m 1196 ls [Value.int 1]) rfl ?_
      refine W.widen (k := 124) (n := 677766) (by decide) (by decide) ?_
      generalize t1.heap = H at hP hS ⊢
      generalize locs ++ L1 = locs at hS ⊢
      refine lv_istore (lv' := [(5, Value.int 1), (4, Value.int 0), (3, Value.ref q116), (2, Value.ref q46), (1, Value.ref q0), (0, Value.ref b)]) hx hb d_Lw_law_1196 hl (by decide) rfl (fun ls hl => ?_)
      refine lv_aload_n hx hb d_Lw_law_1198 rfl (lv_at hl 3 rfl) ?_
      refine lv_aload_n hx hb d_Lw_law_1199 rfl (lv_at hl 5 rfl) ?_
      refine lv_iload hx hb d_Lw_law_1200 (lv_at hl 1 rfl) ?_
      refine lv_iconst (v := 1) hx hb d_Lw_law_1202 (by decide) ?_
      refine lv_iadd hx hb d_Lw_law_1203 ?_
      refine gx_topi (y := 1) (by decide) ?_
      refine va_sld hx hb hX hbl hbA hS (i := 1) (gx_inl (by decide)) d_Lw_law_1204 ?_
      refine gx_topi (y := y1) (by rw [hy1]; rfl) ?_
      refine lv_aload_n hx hb d_Lw_law_1205 rfl (lv_at hl 5 rfl) ?_
      refine lv_iload hx hb d_Lw_law_1206 (lv_at hl 1 rfl) ?_
      refine lv_iconst (v := 2) hx hb d_Lw_law_1208 (by decide) ?_
      refine lv_iadd hx hb d_Lw_law_1209 ?_
      refine gx_topi (y := 2) (by decide) ?_
      refine va_sld hx hb hX hbl hbA hS (i := 2) (gx_inl (by decide)) d_Lw_law_1210 ?_
      refine gx_topi (y := y2) (by rw [hy2]; rfl) ?_
      refine gx_call (ig := .invokevirtual 168) (c_Mo_segment_v1 l htr D tys z _ ws q46 y1 y2 q47 q48 q49 q50 q51 q52 q53 q54 q62 q70 q78 q79 (um) q80 q81 q82 q83 f_46) (gx_invV (As := [Value.int y1, Value.int y2]) (rest := []) hx hb hown hts km_Lw_168 kI_Mo_segment kV_Mo_segment kc_Mo_segment (by decide) (show (parseMethodDescriptor y_Mo_segment.desc).map (fun d => d.parameters.length) = some 2 by decide +kernel) (gx_recv (ci := 8) hK hP rfl f_46) rfl rfl d_Lw_law_1211) (gx_cw (z := 0) hts kc_Mo_segment kN_Mo rfl rfl ⟨Nat.le_of_ble_eq_true rfl, Nat.le_of_ble_eq_true rfl⟩) hb hml gx_blind (gx_pre hz hP hK hD hY hS hAz [Value.ref q46, Value.int y1, Value.int y2]) rfl hl.1 (lv_room (Nat.le_of_ble_eq_true rfl)) d_Lw_law_1211 ⟨Nat.le_of_ble_eq_true rfl, Nat.le_of_ble_eq_true rfl⟩ (fun v9 st9 t9 L9 h0_9 hW_9 hQ_9 hL_9 => ?_) (fun v9 st9 t9 L9 h0_9 hW_9 hQ_9 hL_9 => ?_)
      · obtain ⟨ws10, hp, hP9, -, hD9, hS9⟩ := gx_back h0_9 hW_9 hQ_9 hL_9 hD hS hA
        clear hQ_9 h0_9 hL_9 hW_9 hP hD hS
        have hP := hP9
        have hD := hD9
        have hS := hS9
        clear hP9 hD9 hS9
        rcases hp with ⟨hv9, e_ws10, f_46_ws10, g9_0⟩ | ⟨hv9, e_ws10, f_46_ws10, g9_0, g9_1⟩ | ⟨hv9, e_ws10, f_46_ws10, g9_0, g9_1⟩
        · cases hv9
          have f_46_ws10 : ws10[46]? = some ((q46, Sum.inr (8, [Value.int 0, Value.int 1, Value.ref q47, Value.ref q48, Value.ref q49, Value.int 0, Value.ref q50, Value.ref q51, Value.ref q52, Value.ref q53, Value.int 0, Value.int 0, Value.int 0, Value.int (-1), Value.int 0, Value.ref q54, Value.ref q62, Value.ref q70, Value.int 0, Value.int 0, Value.int 0, Value.ref q78, Value.ref q79, Value.int 0, Value.int 16, Value.int 4, um, Value.ref q80, Value.ref q81, Value.ref q82, Value.int 0, Value.ref q83, Value.int 0, Value.int 0, Value.int 0])) : Nat × va_E) := f_46_ws10
          replace hlen : ws10.length = 117 := by rw [e_ws10.1, hlen]
          replace hU : gx_g ws ws10 0 [0, 1, 2, 3, 4, 5, 6, 7, 8, 9, 10, 11, 12, 13, 14, 15, 16, 17, 18, 19, 20, 21, 22, 23, 24, 25, 26, 27, 28, 29, 30, 31, 32, 33, 34, 35, 36, 37, 38, 39, 40, 41, 42, 43, 44, 45, 46, 47, 48, 49, 50, 51, 52, 53, 54, 55, 56, 57, 58, 59, 60, 61, 62, 63, 64, 65, 66, 67, 68, 69, 70, 71, 72, 73, 74, 75, 76, 77, 78, 79, 80, 81, 82, 83, 84, 85, 86, 87, 88, 89, 90, 91, 92, 93, 94, 95, 96, 97, 98, 99, 100, 101, 102, 103, 104, 105, 106, 107, 108, 109, 110, 111, 112, 113, 114, 115, 116] := hU.call e_ws10 (by rw [hlen0]; decide)
          refine W.eq (g2 := F0 m 1214 ls [Value.int 0]) rfl ?_
          generalize t9.heap = H at hP hS ⊢
          generalize locs ++ L9 = locs at hS ⊢
          refine lv_istore (lv' := [(6, Value.int 0), (5, Value.int 1), (4, Value.int 0), (3, Value.ref q116), (2, Value.ref q46), (1, Value.ref q0), (0, Value.ref b)]) hx hb d_Lw_law_1214 hl (by decide) rfl (fun ls hl => ?_)
          refine lv_aload_n hx hb d_Lw_law_1216 rfl (lv_at hl 4 rfl) ?_
          refine gx_call (ig := .invokevirtual 98) (c_Mo_thrown l htr D tys z _ ws10 q46 46 (Value.int 0) 1 (Value.ref q47) (Value.ref q48) (Value.ref q49) (Value.int 0) (Value.ref q50) (Value.ref q51) (Value.ref q52) (Value.ref q53) (Value.int 0) (Value.int 0) (Value.int 0) (Value.int (-1)) (Value.int 0) (Value.ref q54) (Value.ref q62) (Value.ref q70) (Value.int 0) (Value.int 0) (Value.int 0) (Value.ref q78) (Value.ref q79) (Value.int 0) (Value.int 16) (Value.int 4) (um) (Value.ref q80) (Value.ref q81) (Value.ref q82) (Value.int 0) (Value.ref q83) (Value.int 0) (Value.int 0) (Value.int 0) f_46_ws10) (gx_invV (As := []) (rest := []) hx hb hown hts km_Lw_98 kI_Mo_thrown kV_Mo_thrown kc_Mo_thrown (by decide) (show (parseMethodDescriptor y_Mo_thrown.desc).map (fun d => d.parameters.length) = some 0 by decide +kernel) (gx_recv (ci := 8) hK hP rfl f_46_ws10) rfl rfl d_Lw_law_1217) (gx_cw (z := 0) hts kc_Mo_thrown kN_Mo rfl rfl ⟨Nat.le_of_ble_eq_true rfl, Nat.le_of_ble_eq_true rfl⟩) hb hml gx_blind (gx_pre hz hP hK hD hY hS hAz [Value.ref q46]) rfl hl.1 (lv_room (Nat.le_of_ble_eq_true rfl)) d_Lw_law_1217 ⟨Nat.le_of_ble_eq_true rfl, Nat.le_of_ble_eq_true rfl⟩ (fun v11 st11 t11 L11 h0_11 hW_11 hQ_11 hL_11 => ?_) (fun v11 st11 t11 L11 h0_11 hW_11 hQ_11 hL_11 => ?_)
          · obtain ⟨ws12, hp, hP9, -, hD9, hS9⟩ := gx_back h0_11 hW_11 hQ_11 hL_11 hD hS hA
            clear hQ_11 h0_11 hL_11 hW_11 hP hD hS
            have hP := hP9
            have hD := hD9
            have hS := hS9
            clear hP9 hD9 hS9
            rcases hp with ⟨hv9, e_ws12⟩
            cases hv9
            rw [e_ws12] at hP hD
            refine W.eq (g2 := F0 m 1220 ls [Value.int 1]) rfl ?_
            generalize t11.heap = H at hP hS ⊢
            generalize locs ++ L11 = locs at hS ⊢
            refine lv_iload hx hb d_Lw_law_1220 (lv_at hl 1 rfl) ?_
            refine lv_icmp_eq (tgt := 1227) hx hb d_Lw_law_1222 (by decide) (fun _ => ?_) (fun c9 => absurd (by decide) c9)
            refine lv_iload hx hb d_Lw_law_1227 (lv_at hl 1 rfl) ?_
            refine lv_if_ne (tgt := 1244) hx hb d_Lw_law_1229 (by decide) (fun _ => ?_) (fun c9 => absurd c9 (by decide))
            refine lv_goto (tgt := 1272) hx hb d_Lw_law_1244 (by decide) ?_
            refine W.widen (k := 400) (n := 700000) (by decide) (by decide) ?_
            exact k _ _ ls (by rw [hAe]; exact hS) (lv_sub hl [2, 6] rfl)
          · obtain ⟨E9, ws13, ce, hp, hce, hP9, -, hD9, hS9⟩ := gx_backT h0_11 hW_11 hQ_11 hL_11 hD hS hA
            clear hQ_11 h0_11 hL_11 hW_11 hP hD hS
            have hP := hP9
            have hD := hD9
            have hS := hS9
            clear hP9 hD9 hS9
            rcases hp with ⟨hv9, e_ws13⟩
            cases hv9
        · cases hv9
          have f_46_ws10 : ws10[46]? = some ((q46, Sum.inr (8, [Value.int 0, Value.int 2, Value.ref q47, Value.ref q48, Value.ref q49, Value.int 0, Value.ref q50, Value.ref q51, Value.ref q52, Value.ref q53, Value.int 0, Value.int 0, Value.int 0, Value.int (-1), Value.int 0, Value.ref q54, Value.ref q62, Value.ref q70, Value.int 0, Value.int 0, Value.int 0, Value.ref q78, Value.ref q79, Value.int 0, Value.int 16, Value.int 4, um, Value.ref q80, Value.ref q81, Value.ref q82, Value.int 0, Value.ref q83, Value.int 0, Value.int 0, Value.int 0])) : Nat × va_E) := f_46_ws10
          replace hlen : ws10.length = 117 := by rw [e_ws10.1, hlen]
          replace hU : gx_g ws ws10 0 [0, 1, 2, 3, 4, 5, 6, 7, 8, 9, 10, 11, 12, 13, 14, 15, 16, 17, 18, 19, 20, 21, 22, 23, 24, 25, 26, 27, 28, 29, 30, 31, 32, 33, 34, 35, 36, 37, 38, 39, 40, 41, 42, 43, 44, 45, 46, 47, 48, 49, 50, 51, 52, 53, 54, 55, 56, 57, 58, 59, 60, 61, 62, 63, 64, 65, 66, 67, 68, 69, 70, 71, 72, 73, 74, 75, 76, 77, 78, 79, 80, 81, 82, 83, 84, 85, 86, 87, 88, 89, 90, 91, 92, 93, 94, 95, 96, 97, 98, 99, 100, 101, 102, 103, 104, 105, 106, 107, 108, 109, 110, 111, 112, 113, 114, 115, 116] := hU.call e_ws10 (by rw [hlen0]; decide)
          exact absurd g1_0 g9_0
        · cases hv9
          have f_46_ws10 : ws10[46]? = some ((q46, Sum.inr (8, [Value.int 0, Value.int 1, Value.ref q47, Value.ref q48, Value.ref q49, Value.int 0, Value.ref q50, Value.ref q51, Value.ref q52, Value.ref q53, Value.int 0, Value.int 0, Value.int 0, Value.int (-1), Value.int 0, Value.ref q54, Value.ref q62, Value.ref q70, Value.int 0, Value.int 0, Value.int 0, Value.ref q78, Value.ref q79, Value.int 0, Value.int 16, Value.int 4, um, Value.ref q80, Value.ref q81, Value.ref q82, Value.int 0, Value.ref q83, Value.int 0, Value.int 0, Value.int 0])) : Nat × va_E) := f_46_ws10
          replace hlen : ws10.length = 117 := by rw [e_ws10.1, hlen]
          replace hU : gx_g ws ws10 0 [0, 1, 2, 3, 4, 5, 6, 7, 8, 9, 10, 11, 12, 13, 14, 15, 16, 17, 18, 19, 20, 21, 22, 23, 24, 25, 26, 27, 28, 29, 30, 31, 32, 33, 34, 35, 36, 37, 38, 39, 40, 41, 42, 43, 44, 45, 46, 47, 48, 49, 50, 51, 52, 53, 54, 55, 56, 57, 58, 59, 60, 61, 62, 63, 64, 65, 66, 67, 68, 69, 70, 71, 72, 73, 74, 75, 76, 77, 78, 79, 80, 81, 82, 83, 84, 85, 86, 87, 88, 89, 90, 91, 92, 93, 94, 95, 96, 97, 98, 99, 100, 101, 102, 103, 104, 105, 106, 107, 108, 109, 110, 111, 112, 113, 114, 115, 116] := hU.call e_ws10 (by rw [hlen0]; decide)
          exact absurd g1_0 g9_0
      · obtain ⟨E9, ws14, ce, hp, hce, hP9, -, hD9, hS9⟩ := gx_backT h0_9 hW_9 hQ_9 hL_9 hD hS hA
        clear hQ_9 h0_9 hL_9 hW_9 hP hD hS
        have hP := hP9
        have hD := hD9
        have hS := hS9
        clear hP9 hD9 hS9
        rcases hp with ⟨hv9, e_ws14, f_46_ws14, g9_0⟩ | ⟨hv9, e_ws14, f_46_ws14, g9_0, g9_1⟩ | ⟨hv9, e_ws14, f_46_ws14, g9_0, g9_1⟩
        · cases hv9
        · cases hv9
        · cases hv9
    · cases hv9
      rw [e_ws2] at hP hD
      refine W.eq (g2 := F0 m 1196 ls [Value.int 1]) rfl ?_
      refine W.widen (k := 124) (n := 677766) (by decide) (by decide) ?_
      generalize t1.heap = H at hP hS ⊢
      generalize locs ++ L1 = locs at hS ⊢
      refine lv_istore (lv' := [(5, Value.int 1), (4, Value.int 0), (3, Value.ref q116), (2, Value.ref q46), (1, Value.ref q0), (0, Value.ref b)]) hx hb d_Lw_law_1196 hl (by decide) rfl (fun ls hl => ?_)
      refine lv_aload_n hx hb d_Lw_law_1198 rfl (lv_at hl 3 rfl) ?_
      refine lv_aload_n hx hb d_Lw_law_1199 rfl (lv_at hl 5 rfl) ?_
      refine lv_iload hx hb d_Lw_law_1200 (lv_at hl 1 rfl) ?_
      refine lv_iconst (v := 1) hx hb d_Lw_law_1202 (by decide) ?_
      refine lv_iadd hx hb d_Lw_law_1203 ?_
      refine gx_topi (y := 1) (by decide) ?_
      refine va_sld hx hb hX hbl hbA hS (i := 1) (gx_inl (by decide)) d_Lw_law_1204 ?_
      refine gx_topi (y := y1) (by rw [hy1]; rfl) ?_
      refine lv_aload_n hx hb d_Lw_law_1205 rfl (lv_at hl 5 rfl) ?_
      refine lv_iload hx hb d_Lw_law_1206 (lv_at hl 1 rfl) ?_
      refine lv_iconst (v := 2) hx hb d_Lw_law_1208 (by decide) ?_
      refine lv_iadd hx hb d_Lw_law_1209 ?_
      refine gx_topi (y := 2) (by decide) ?_
      refine va_sld hx hb hX hbl hbA hS (i := 2) (gx_inl (by decide)) d_Lw_law_1210 ?_
      refine gx_topi (y := y2) (by rw [hy2]; rfl) ?_
      refine gx_call (ig := .invokevirtual 168) (c_Mo_segment_v1 l htr D tys z _ ws q46 y1 y2 q47 q48 q49 q50 q51 q52 q53 q54 q62 q70 q78 q79 (um) q80 q81 q82 q83 f_46) (gx_invV (As := [Value.int y1, Value.int y2]) (rest := []) hx hb hown hts km_Lw_168 kI_Mo_segment kV_Mo_segment kc_Mo_segment (by decide) (show (parseMethodDescriptor y_Mo_segment.desc).map (fun d => d.parameters.length) = some 2 by decide +kernel) (gx_recv (ci := 8) hK hP rfl f_46) rfl rfl d_Lw_law_1211) (gx_cw (z := 0) hts kc_Mo_segment kN_Mo rfl rfl ⟨Nat.le_of_ble_eq_true rfl, Nat.le_of_ble_eq_true rfl⟩) hb hml gx_blind (gx_pre hz hP hK hD hY hS hAz [Value.ref q46, Value.int y1, Value.int y2]) rfl hl.1 (lv_room (Nat.le_of_ble_eq_true rfl)) d_Lw_law_1211 ⟨Nat.le_of_ble_eq_true rfl, Nat.le_of_ble_eq_true rfl⟩ (fun v15 st15 t15 L15 h0_15 hW_15 hQ_15 hL_15 => ?_) (fun v15 st15 t15 L15 h0_15 hW_15 hQ_15 hL_15 => ?_)
      · obtain ⟨ws16, hp, hP9, -, hD9, hS9⟩ := gx_back h0_15 hW_15 hQ_15 hL_15 hD hS hA
        clear hQ_15 h0_15 hL_15 hW_15 hP hD hS
        have hP := hP9
        have hD := hD9
        have hS := hS9
        clear hP9 hD9 hS9
        rcases hp with ⟨hv9, e_ws16, f_46_ws16, g15_0⟩ | ⟨hv9, e_ws16, f_46_ws16, g15_0, g15_1⟩ | ⟨hv9, e_ws16, f_46_ws16, g15_0, g15_1⟩
        · cases hv9
          have f_46_ws16 : ws16[46]? = some ((q46, Sum.inr (8, [Value.int 0, Value.int 1, Value.ref q47, Value.ref q48, Value.ref q49, Value.int 0, Value.ref q50, Value.ref q51, Value.ref q52, Value.ref q53, Value.int 0, Value.int 0, Value.int 0, Value.int (-1), Value.int 0, Value.ref q54, Value.ref q62, Value.ref q70, Value.int 0, Value.int 0, Value.int 0, Value.ref q78, Value.ref q79, Value.int 0, Value.int 16, Value.int 4, um, Value.ref q80, Value.ref q81, Value.ref q82, Value.int 0, Value.ref q83, Value.int 0, Value.int 0, Value.int 0])) : Nat × va_E) := f_46_ws16
          replace hlen : ws16.length = 117 := by rw [e_ws16.1, hlen]
          replace hU : gx_g ws ws16 0 [0, 1, 2, 3, 4, 5, 6, 7, 8, 9, 10, 11, 12, 13, 14, 15, 16, 17, 18, 19, 20, 21, 22, 23, 24, 25, 26, 27, 28, 29, 30, 31, 32, 33, 34, 35, 36, 37, 38, 39, 40, 41, 42, 43, 44, 45, 46, 47, 48, 49, 50, 51, 52, 53, 54, 55, 56, 57, 58, 59, 60, 61, 62, 63, 64, 65, 66, 67, 68, 69, 70, 71, 72, 73, 74, 75, 76, 77, 78, 79, 80, 81, 82, 83, 84, 85, 86, 87, 88, 89, 90, 91, 92, 93, 94, 95, 96, 97, 98, 99, 100, 101, 102, 103, 104, 105, 106, 107, 108, 109, 110, 111, 112, 113, 114, 115, 116] := hU.call e_ws16 (by rw [hlen0]; decide)
          exact absurd g15_0 g1_0
        · cases hv9
          have f_46_ws16 : ws16[46]? = some ((q46, Sum.inr (8, [Value.int 0, Value.int 2, Value.ref q47, Value.ref q48, Value.ref q49, Value.int 0, Value.ref q50, Value.ref q51, Value.ref q52, Value.ref q53, Value.int 0, Value.int 0, Value.int 0, Value.int (-1), Value.int 0, Value.ref q54, Value.ref q62, Value.ref q70, Value.int 0, Value.int 0, Value.int 0, Value.ref q78, Value.ref q79, Value.int 0, Value.int 16, Value.int 4, um, Value.ref q80, Value.ref q81, Value.ref q82, Value.int 0, Value.ref q83, Value.int 0, Value.int 0, Value.int 0])) : Nat × va_E) := f_46_ws16
          replace hlen : ws16.length = 117 := by rw [e_ws16.1, hlen]
          replace hU : gx_g ws ws16 0 [0, 1, 2, 3, 4, 5, 6, 7, 8, 9, 10, 11, 12, 13, 14, 15, 16, 17, 18, 19, 20, 21, 22, 23, 24, 25, 26, 27, 28, 29, 30, 31, 32, 33, 34, 35, 36, 37, 38, 39, 40, 41, 42, 43, 44, 45, 46, 47, 48, 49, 50, 51, 52, 53, 54, 55, 56, 57, 58, 59, 60, 61, 62, 63, 64, 65, 66, 67, 68, 69, 70, 71, 72, 73, 74, 75, 76, 77, 78, 79, 80, 81, 82, 83, 84, 85, 86, 87, 88, 89, 90, 91, 92, 93, 94, 95, 96, 97, 98, 99, 100, 101, 102, 103, 104, 105, 106, 107, 108, 109, 110, 111, 112, 113, 114, 115, 116] := hU.call e_ws16 (by rw [hlen0]; decide)
          exact absurd g15_1 g1_1
        · cases hv9
          have f_46_ws16 : ws16[46]? = some ((q46, Sum.inr (8, [Value.int 0, Value.int 1, Value.ref q47, Value.ref q48, Value.ref q49, Value.int 0, Value.ref q50, Value.ref q51, Value.ref q52, Value.ref q53, Value.int 0, Value.int 0, Value.int 0, Value.int (-1), Value.int 0, Value.ref q54, Value.ref q62, Value.ref q70, Value.int 0, Value.int 0, Value.int 0, Value.ref q78, Value.ref q79, Value.int 0, Value.int 16, Value.int 4, um, Value.ref q80, Value.ref q81, Value.ref q82, Value.int 0, Value.ref q83, Value.int 0, Value.int 0, Value.int 0])) : Nat × va_E) := f_46_ws16
          replace hlen : ws16.length = 117 := by rw [e_ws16.1, hlen]
          replace hU : gx_g ws ws16 0 [0, 1, 2, 3, 4, 5, 6, 7, 8, 9, 10, 11, 12, 13, 14, 15, 16, 17, 18, 19, 20, 21, 22, 23, 24, 25, 26, 27, 28, 29, 30, 31, 32, 33, 34, 35, 36, 37, 38, 39, 40, 41, 42, 43, 44, 45, 46, 47, 48, 49, 50, 51, 52, 53, 54, 55, 56, 57, 58, 59, 60, 61, 62, 63, 64, 65, 66, 67, 68, 69, 70, 71, 72, 73, 74, 75, 76, 77, 78, 79, 80, 81, 82, 83, 84, 85, 86, 87, 88, 89, 90, 91, 92, 93, 94, 95, 96, 97, 98, 99, 100, 101, 102, 103, 104, 105, 106, 107, 108, 109, 110, 111, 112, 113, 114, 115, 116] := hU.call e_ws16 (by rw [hlen0]; decide)
          refine W.eq (g2 := F0 m 1214 ls [Value.int 0]) rfl ?_
          generalize t15.heap = H at hP hS ⊢
          generalize locs ++ L15 = locs at hS ⊢
          refine lv_istore (lv' := [(6, Value.int 0), (5, Value.int 1), (4, Value.int 0), (3, Value.ref q116), (2, Value.ref q46), (1, Value.ref q0), (0, Value.ref b)]) hx hb d_Lw_law_1214 hl (by decide) rfl (fun ls hl => ?_)
          refine lv_aload_n hx hb d_Lw_law_1216 rfl (lv_at hl 4 rfl) ?_
          refine gx_call (ig := .invokevirtual 98) (c_Mo_thrown l htr D tys z _ ws16 q46 46 (Value.int 0) 1 (Value.ref q47) (Value.ref q48) (Value.ref q49) (Value.int 0) (Value.ref q50) (Value.ref q51) (Value.ref q52) (Value.ref q53) (Value.int 0) (Value.int 0) (Value.int 0) (Value.int (-1)) (Value.int 0) (Value.ref q54) (Value.ref q62) (Value.ref q70) (Value.int 0) (Value.int 0) (Value.int 0) (Value.ref q78) (Value.ref q79) (Value.int 0) (Value.int 16) (Value.int 4) (um) (Value.ref q80) (Value.ref q81) (Value.ref q82) (Value.int 0) (Value.ref q83) (Value.int 0) (Value.int 0) (Value.int 0) f_46_ws16) (gx_invV (As := []) (rest := []) hx hb hown hts km_Lw_98 kI_Mo_thrown kV_Mo_thrown kc_Mo_thrown (by decide) (show (parseMethodDescriptor y_Mo_thrown.desc).map (fun d => d.parameters.length) = some 0 by decide +kernel) (gx_recv (ci := 8) hK hP rfl f_46_ws16) rfl rfl d_Lw_law_1217) (gx_cw (z := 0) hts kc_Mo_thrown kN_Mo rfl rfl ⟨Nat.le_of_ble_eq_true rfl, Nat.le_of_ble_eq_true rfl⟩) hb hml gx_blind (gx_pre hz hP hK hD hY hS hAz [Value.ref q46]) rfl hl.1 (lv_room (Nat.le_of_ble_eq_true rfl)) d_Lw_law_1217 ⟨Nat.le_of_ble_eq_true rfl, Nat.le_of_ble_eq_true rfl⟩ (fun v17 st17 t17 L17 h0_17 hW_17 hQ_17 hL_17 => ?_) (fun v17 st17 t17 L17 h0_17 hW_17 hQ_17 hL_17 => ?_)
          · obtain ⟨ws18, hp, hP9, -, hD9, hS9⟩ := gx_back h0_17 hW_17 hQ_17 hL_17 hD hS hA
            clear hQ_17 h0_17 hL_17 hW_17 hP hD hS
            have hP := hP9
            have hD := hD9
            have hS := hS9
            clear hP9 hD9 hS9
            rcases hp with ⟨hv9, e_ws18⟩
            cases hv9
            rw [e_ws18] at hP hD
            refine W.eq (g2 := F0 m 1220 ls [Value.int 1]) rfl ?_
            generalize t17.heap = H at hP hS ⊢
            generalize locs ++ L17 = locs at hS ⊢
            refine lv_iload hx hb d_Lw_law_1220 (lv_at hl 1 rfl) ?_
            refine lv_icmp_eq (tgt := 1227) hx hb d_Lw_law_1222 (by decide) (fun _ => ?_) (fun c9 => absurd (by decide) c9)
            refine lv_iload hx hb d_Lw_law_1227 (lv_at hl 1 rfl) ?_
            refine lv_if_ne (tgt := 1244) hx hb d_Lw_law_1229 (by decide) (fun _ => ?_) (fun c9 => absurd c9 (by decide))
            refine lv_goto (tgt := 1272) hx hb d_Lw_law_1244 (by decide) ?_
            refine W.widen (k := 400) (n := 700000) (by decide) (by decide) ?_
            exact k _ _ ls (by rw [hAe]; exact hS) (lv_sub hl [2, 6] rfl)
          · obtain ⟨E9, ws19, ce, hp, hce, hP9, -, hD9, hS9⟩ := gx_backT h0_17 hW_17 hQ_17 hL_17 hD hS hA
            clear hQ_17 h0_17 hL_17 hW_17 hP hD hS
            have hP := hP9
            have hD := hD9
            have hS := hS9
            clear hP9 hD9 hS9
            rcases hp with ⟨hv9, e_ws19⟩
            cases hv9
      · obtain ⟨E9, ws20, ce, hp, hce, hP9, -, hD9, hS9⟩ := gx_backT h0_15 hW_15 hQ_15 hL_15 hD hS hA
        clear hQ_15 h0_15 hL_15 hW_15 hP hD hS
        have hP := hP9
        have hD := hD9
        have hS := hS9
        clear hP9 hD9 hS9
        rcases hp with ⟨hv9, e_ws20, f_46_ws20, g15_0⟩ | ⟨hv9, e_ws20, f_46_ws20, g15_0, g15_1⟩ | ⟨hv9, e_ws20, f_46_ws20, g15_0, g15_1⟩
        · cases hv9
        · cases hv9
        · cases hv9
  · obtain ⟨E9, ws21, ce, hp, hce, hP9, -, hD9, hS9⟩ := gx_backT h0_1 hW_1 hQ_1 hL_1 hD hS hA
    clear hQ_1 h0_1 hL_1 hW_1 hP hD hS
    have hP := hP9
    have hD := hD9
    have hS := hS9
    clear hP9 hD9 hS9
    rcases hp with ⟨hv9, e_ws21, g1_0, g1_1⟩ | ⟨hv9, e_ws21, g1_0⟩ | ⟨hv9, e_ws21, g1_0, g1_1⟩
    · cases hv9
    · cases hv9
    · cases hv9

set_option maxHeartbeats 4000000 in
set_option maxRecDepth 100000 in
theorem law_t21 {p : Program} {e : Env} {s : State} {m : MethodId} {below : List Frame} {meth : Method} {c : Code} {Q : State → Prop} (l : Launch) (htr : l.stackTraces = false) {b : Nat} {xs : Nat → Int32} (hx : p.tables.exec = Jvm.exec) (hb : c.code = code) (hml : c.maxLocals = 7) (hown : s.vm.findClass "CommitLedgerLaw" = some m.cls) (hts1 : ∀ w ∈ lw_tbl, w.before #[Value.ref b] s = true) (hgv : (Jvm.Cond.and given_1 narrow_1).before #[Value.ref b] s = true) (hX : va_X b 4 xs s s.heap) (hbl : b < s.heap.size) (D : va_G) (tys : List (ClassId × FieldType)) (cI cZ cF cM cR cV cJ : ClassId) (q0 q1 q2 q3 q4 q5 q6 q7 q8 q9 q10 q11 q12 q13 q14 q15 q16 q17 q18 q19 q20 q21 q22 q23 q24 q25 q26 q27 q28 q29 q30 q31 q32 q33 q34 q35 q36 q37 q38 q39 q40 q41 q42 q43 q44 q45 q46 q47 q48 q49 q50 q51 q52 q53 q54 q55 q56 q57 q58 q59 q60 q61 q62 q63 q64 q65 q66 q67 q68 q69 q70 q71 q72 q73 q74 q75 q76 q77 q78 q79 q80 q81 q82 q83 q84 q85 q86 q87 q88 q89 q90 q91 q92 q93 q94 q95 q96 q97 q98 q99 q100 q101 q102 q103 q104 q105 q106 q107 q108 q109 q110 q111 q112 q113 q114 q115 q116 : Nat) (u0 u1 um : Value) (ws : va_W) (H : Heap) (locs : List Loc) (ls : Array Slot) (hK : va_K D classes tys s) (htys : tys = [(cI, FieldType.int), (cZ, FieldType.boolean), (cF, FieldType.object "CommitLedger$LedgerFile"), (cM, FieldType.object "CommitLedger$Merge"), (cR, FieldType.object "CommitLedger$Reader"), (cV, FieldType.object "CommitLedgerModel$Version"), (cJ, FieldType.long)]) (hP : va_P D classes ws H) (hD : va_D (fun q : Nat => s.heap.size ≤ q) ws) (hS : va_S (fun q : Nat => s.heap.size ≤ q) s.heap H locs) (hlen : ws.length = 117) (f_0 : ws[0]? = some ((q0, Sum.inr (0, [Value.ref q1, Value.ref q5, Value.ref q8, Value.ref q20, Value.ref q25, Value.ref q12, Value.ref q16, Value.int 0, Value.int 0, Value.int 0, Value.int 16, Value.int 4, Value.int 0, Value.int 0, Value.int 0, Value.int 0, Value.int 0, Value.int (-1)])) : Nat × va_E)) (f_5 : ws[5]? = some ((q5, Sum.inr (2, [Value.ref q6, Value.ref q7, Value.int 0, Value.int 0])) : Nat × va_E)) (f_6 : ws[6]? = some ((q6, Sum.inr (3, [u0, Value.int 0, Value.int 0])) : Nat × va_E)) (f_25 : ws[25]? = some ((q25, Sum.inl (cR, 4, Sum.inr (Sum.inr (Sum.inr (Sum.inr (va_up (va_up (va_up (va_up (fun _ => none) 0 (some q26)) 1 (some q31)) 2 (some q36)) 3 (some q41))))))) : Nat × va_E)) (f_26 : ws[26]? = some ((q26, Sum.inr (6, [Value.ref q27, Value.int 0, Value.int 0])) : Nat × va_E)) (f_31 : ws[31]? = some ((q31, Sum.inr (6, [Value.ref q32, Value.int 0, Value.int 0])) : Nat × va_E)) (f_36 : ws[36]? = some ((q36, Sum.inr (6, [Value.ref q37, Value.int 0, Value.int 0])) : Nat × va_E)) (f_41 : ws[41]? = some ((q41, Sum.inr (6, [Value.ref q42, Value.int 0, Value.int 0])) : Nat × va_E)) (f_46 : ws[46]? = some ((q46, Sum.inr (8, [Value.int 0, Value.int 0, Value.ref q47, Value.ref q48, Value.ref q49, Value.int 0, Value.ref q50, Value.ref q51, Value.ref q52, Value.ref q53, Value.int 0, Value.int 0, Value.int 0, Value.int (-1), Value.int 0, Value.ref q54, Value.ref q62, Value.ref q70, Value.int 0, Value.int 0, Value.int 0, Value.ref q78, Value.ref q79, Value.int 0, Value.int 16, Value.int 4, um, Value.ref q80, Value.ref q81, Value.ref q82, Value.int 0, Value.ref q83, Value.int 0, Value.int 0, Value.int 0])) : Nat × va_E)) (f_83 : ws[83]? = some ((q83, Sum.inl (cV, 4, Sum.inr (Sum.inr (Sum.inr (Sum.inr (va_up (va_up (va_up (va_up (fun _ => none) 0 (some q84)) 1 (some q92)) 2 (some q100)) 3 (some q108))))))) : Nat × va_E)) (f_84 : ws[84]? = some ((q84, Sum.inr (9, [Value.ref q85, Value.ref q86, Value.ref q87, Value.ref q88, Value.ref q89, Value.ref q90, Value.ref q91, Value.int 0, Value.int 0, Value.int 0, Value.int 0])) : Nat × va_E)) (f_92 : ws[92]? = some ((q92, Sum.inr (9, [Value.ref q93, Value.ref q94, Value.ref q95, Value.ref q96, Value.ref q97, Value.ref q98, Value.ref q99, Value.int 0, Value.int 0, Value.int 0, Value.int 0])) : Nat × va_E)) (f_100 : ws[100]? = some ((q100, Sum.inr (9, [Value.ref q101, Value.ref q102, Value.ref q103, Value.ref q104, Value.ref q105, Value.ref q106, Value.ref q107, Value.int 0, Value.int 0, Value.int 0, Value.int 0])) : Nat × va_E)) (f_108 : ws[108]? = some ((q108, Sum.inr (9, [Value.ref q109, Value.ref q110, Value.ref q111, Value.ref q112, Value.ref q113, Value.ref q114, Value.ref q115, Value.int 0, Value.int 0, Value.int 0, Value.int 0])) : Nat × va_E)) (hl : lv_has ls 7 [(4, Value.int 0), (3, Value.ref q116), (2, Value.ref q46), (1, Value.ref q0), (0, Value.ref b)])
    (k : ∀ (H : Heap) (locs : List Loc) (ls : Array Slot), va_S (fun q : Nat => s.heap.size ≤ q) s.heap H locs → lv_has ls 7 [(4, Value.int 0), (0, Value.ref b)] → W p l e room_1 s m #[Value.ref b] below meth c H locs 400 700000 Q (F0 m 1272 ls [])) :
    W p l e room_1 s m #[Value.ref b] below meth c H locs 122 677754 Q (F0 m 1247 ls []) := by
  have ht0 : tys[0]? = some ((cI, FieldType.int) : ClassId × FieldType) := by rw [htys]; rfl
  have ht1 : tys[1]? = some ((cZ, FieldType.boolean) : ClassId × FieldType) := by rw [htys]; rfl
  have ht2 : tys[2]? = some ((cF, FieldType.object "CommitLedger$LedgerFile") : ClassId × FieldType) := by rw [htys]; rfl
  have ht3 : tys[3]? = some ((cM, FieldType.object "CommitLedger$Merge") : ClassId × FieldType) := by rw [htys]; rfl
  have ht4 : tys[4]? = some ((cR, FieldType.object "CommitLedger$Reader") : ClassId × FieldType) := by rw [htys]; rfl
  have ht5 : tys[5]? = some ((cV, FieldType.object "CommitLedgerModel$Version") : ClassId × FieldType) := by rw [htys]; rfl
  have ht6 : tys[6]? = some ((cJ, FieldType.long) : ClassId × FieldType) := by rw [htys]; rfl
  have hY := gx_Y0 hts1 hgv
  have hts := gx_hts0 hts1 hgv
  obtain ⟨z, hzz⟩ : ∃ x : Nat, x = s.heap.size := ⟨_, rfl⟩
  rw [← hzz] at hY
  have hz : z ≤ s.heap.size := Nat.le_of_eq hzz
  have hAz : ∀ q : Nat, (fun q : Nat => s.heap.size ≤ q) q → z ≤ q := fun q h => by rw [hzz]; exact h
  have hA : ∀ q : Nat, s.heap.size ≤ q → (fun q : Nat => s.heap.size ≤ q) q := fun _ h => h
  have hbA : ¬ (fun q : Nat => s.heap.size ≤ q) b := Nat.not_le.mpr hbl
  have hN : gx_NS (fun q : Nat => s.heap.size ≤ q) s := fun q cell h hc => absurd (Array.getElem?_eq_some_iff.mp hc).1 (Nat.not_lt.mpr h)
  have hlen0 := hlen
  have hU : gx_g ws ws 0 [0, 1, 2, 3, 4, 5, 6, 7, 8, 9, 10, 11, 12, 13, 14, 15, 16, 17, 18, 19, 20, 21, 22, 23, 24, 25, 26, 27, 28, 29, 30, 31, 32, 33, 34, 35, 36, 37, 38, 39, 40, 41, 42, 43, 44, 45, 46, 47, 48, 49, 50, 51, 52, 53, 54, 55, 56, 57, 58, 59, 60, 61, 62, 63, 64, 65, 66, 67, 68, 69, 70, 71, 72, 73, 74, 75, 76, 77, 78, 79, 80, 81, 82, 83, 84, 85, 86, 87, 88, 89, 90, 91, 92, 93, 94, 95, 96, 97, 98, 99, 100, 101, 102, 103, 104, 105, 106, 107, 108, 109, 110, 111, 112, 113, 114, 115, 116] := gx_g.rf
  obtain ⟨y0, hy0⟩ : ∃ y : Int32, y = xs 0 := ⟨_, rfl⟩
  obtain ⟨y1, hy1⟩ : ∃ y : Int32, y = xs 1 := ⟨_, rfl⟩
  obtain ⟨y2, hy2⟩ : ∃ y : Int32, y = xs 2 := ⟨_, rfl⟩
  obtain ⟨y3, hy3⟩ : ∃ y : Int32, y = xs 3 := ⟨_, rfl⟩
  generalize hAe : (fun q : Nat => s.heap.size ≤ q) = A at hD hN hA hAz hS hbA
  refine lv_aload_n hx hb d_Lw_law_1247 rfl (lv_at hl 3 rfl) ?_
  refine lv_aload_n hx hb d_Lw_law_1248 rfl (lv_at hl 4 rfl) ?_
  refine lv_iload hx hb d_Lw_law_1249 (lv_at hl 0 rfl) ?_
  refine lv_iconst (v := 1) hx hb d_Lw_law_1251 (by decide) ?_
  refine lv_iadd hx hb d_Lw_law_1252 ?_
  refine gx_topi (y := 1) (by decide) ?_
  refine va_sld hx hb hX hbl hbA hS (i := 1) (gx_inl (by decide)) d_Lw_law_1253 ?_
  refine gx_topi (y := y1) (by rw [hy1]; rfl) ?_
  refine gx_call (ig := .invokevirtual 169) (c_Le_count_v1 l htr D tys z _ ws cR q0 y1 q1 q5 q8 q20 q25 q12 q16 q6 q7 (u0) q26 q31 q36 q41 q27 q32 q37 q42 f_0 f_5 f_6 f_25 f_26 f_31 f_36 f_41 ht4) (gx_invV (As := [Value.int y1]) (rest := []) hx hb hown hts km_Lw_169 kI_Le_count kV_Le_count kc_Le_count (by decide) (show (parseMethodDescriptor y_Le_count.desc).map (fun d => d.parameters.length) = some 1 by decide +kernel) (gx_recv (ci := 0) hK hP rfl f_0) rfl rfl d_Lw_law_1254) (gx_cw (z := 0) hts kc_Le_count kN_Le rfl rfl ⟨Nat.le_of_ble_eq_true rfl, Nat.le_of_ble_eq_true rfl⟩) hb hml gx_blind (gx_pre hz hP hK hD hY hS hAz [Value.ref q0, Value.int y1]) rfl hl.1 (lv_room (Nat.le_of_ble_eq_true rfl)) d_Lw_law_1254 ⟨Nat.le_of_ble_eq_true rfl, Nat.le_of_ble_eq_true rfl⟩ (fun v1 st1 t1 L1 h0_1 hW_1 hQ_1 hL_1 => ?_) (fun v1 st1 t1 L1 h0_1 hW_1 hQ_1 hL_1 => ?_)
  · obtain ⟨ws2, hp, hP9, -, hD9, hS9⟩ := gx_back h0_1 hW_1 hQ_1 hL_1 hD hS hA
    clear hQ_1 h0_1 hL_1 hW_1 hP hD hS
    have hP := hP9
    have hD := hD9
    have hS := hS9
    clear hP9 hD9 hS9
    rcases hp with ⟨hv9, e_ws2, g1_0⟩ | ⟨hv9, e_ws2, g1_0, g1_1⟩ | ⟨hv9, e_ws2, g1_0, g1_1, g1_2⟩ | ⟨hv9, e_ws2, g1_0, g1_1, g1_2, g1_3⟩ | ⟨hv9, e_ws2, g1_0, g1_1, g1_2, g1_3, g1_4⟩ | ⟨hv9, e_ws2, g1_0, g1_1, g1_2, g1_3, g1_4, g1_5⟩ | ⟨hv9, e_ws2, g1_0, g1_1, g1_2, g1_3, g1_4, g1_5, g1_6⟩ | ⟨hv9, e_ws2, g1_0, g1_1, g1_2, g1_3, g1_4, g1_5, g1_6⟩
    · cases hv9
      rw [e_ws2] at hP hD
      refine W.eq (g2 := F0 m 1257 ls [Value.int 0]) rfl ?_
      generalize t1.heap = H at hP hS ⊢
      generalize locs ++ L1 = locs at hS ⊢
      refine lv_aload_n hx hb d_Lw_law_1257 rfl (lv_at hl 2 rfl) ?_
      refine lv_aload_n hx hb d_Lw_law_1258 rfl (lv_at hl 4 rfl) ?_
      refine lv_iload hx hb d_Lw_law_1259 (lv_at hl 0 rfl) ?_
      refine lv_iconst (v := 1) hx hb d_Lw_law_1261 (by decide) ?_
      refine lv_iadd hx hb d_Lw_law_1262 ?_
      refine gx_topi (y := 1) (by decide) ?_
      refine va_sld hx hb hX hbl hbA hS (i := 1) (gx_inl (by decide)) d_Lw_law_1263 ?_
      refine gx_topi (y := y1) (by rw [hy1]; rfl) ?_
      refine gx_call (ig := .invokevirtual 172) (c_Mo_count_v1 l htr D tys z _ ws cV q46 y1 q47 q48 q49 q50 q51 q52 q53 q54 q62 q70 q78 q79 (um) q80 q81 q82 q83 q84 q85 q86 q87 q88 q89 q90 q91 q92 q93 q94 q95 q96 q97 q98 q99 q100 q101 q102 q103 q104 q105 q106 q107 q108 q109 q110 q111 q112 q113 q114 q115 f_46 f_84 f_92 f_100 f_108 f_83 ht5) (gx_invV (As := [Value.int y1]) (rest := [Value.int 0]) hx hb hown hts km_Lw_172 kI_Mo_count kV_Mo_count kc_Mo_count (by decide) (show (parseMethodDescriptor y_Mo_count.desc).map (fun d => d.parameters.length) = some 1 by decide +kernel) (gx_recv (ci := 8) hK hP rfl f_46) rfl rfl d_Lw_law_1264) (gx_cw (z := 0) hts kc_Mo_count kN_Mo rfl rfl ⟨Nat.le_of_ble_eq_true rfl, Nat.le_of_ble_eq_true rfl⟩) hb hml gx_blind (gx_pre hz hP hK hD hY hS hAz [Value.ref q46, Value.int y1]) rfl hl.1 (lv_room (Nat.le_of_ble_eq_true rfl)) d_Lw_law_1264 ⟨Nat.le_of_ble_eq_true rfl, Nat.le_of_ble_eq_true rfl⟩ (fun v3 st3 t3 L3 h0_3 hW_3 hQ_3 hL_3 => ?_) (fun v3 st3 t3 L3 h0_3 hW_3 hQ_3 hL_3 => ?_)
      · obtain ⟨ws4, hp, hP9, -, hD9, hS9⟩ := gx_back h0_3 hW_3 hQ_3 hL_3 hD hS hA
        clear hQ_3 h0_3 hL_3 hW_3 hP hD hS
        have hP := hP9
        have hD := hD9
        have hS := hS9
        clear hP9 hD9 hS9
        rcases hp with ⟨hv9, e_ws4, f_46_ws4, g3_0⟩ | ⟨hv9, e_ws4, f_46_ws4, g3_0, g3_1⟩ | ⟨hv9, e_ws4, f_46_ws4, g3_0, g3_1, g3_2⟩ | ⟨hv9, e_ws4, f_46_ws4, g3_0, g3_1, g3_2, g3_3⟩ | ⟨hv9, e_ws4, f_46_ws4, g3_0, g3_1, g3_2, g3_3, g3_4⟩ | ⟨hv9, e_ws4, f_46_ws4, g3_0, g3_1, g3_2, g3_3, g3_4, g3_5⟩ | ⟨hv9, e_ws4, f_46_ws4, g3_0, g3_1, g3_2, g3_3, g3_4, g3_5, g3_6⟩ | ⟨hv9, e_ws4, f_46_ws4, g3_0, g3_1, g3_2, g3_3, g3_4, g3_5, g3_6, g3_7⟩ | ⟨hv9, e_ws4, f_46_ws4, g3_0, g3_1, g3_2, g3_3, g3_4, g3_5, g3_6, g3_7, g3_8⟩ | ⟨hv9, e_ws4, f_46_ws4, g3_0, g3_1, g3_2, g3_3, g3_4, g3_5, g3_6, g3_7, g3_8, g3_9⟩ | ⟨hv9, e_ws4, f_46_ws4, g3_0, g3_1, g3_2, g3_3, g3_4, g3_5, g3_6, g3_7, g3_8, g3_9, g3_10⟩ | ⟨hv9, e_ws4, f_46_ws4, g3_0, g3_1, g3_2, g3_3, g3_4, g3_5, g3_6, g3_7, g3_8, g3_9, g3_10, g3_11⟩ | ⟨hv9, e_ws4, f_46_ws4, g3_0, g3_1, g3_2, g3_3, g3_4, g3_5, g3_6, g3_7, g3_8, g3_9, g3_10, g3_11⟩
        · cases hv9
          have f_46_ws4 : ws4[46]? = some ((q46, Sum.inr (8, [Value.int 0, Value.int 0, Value.ref q47, Value.ref q48, Value.ref q49, Value.int 0, Value.ref q50, Value.ref q51, Value.ref q52, Value.ref q53, Value.int 0, Value.int 0, Value.int 0, Value.int (-1), Value.int 0, Value.ref q54, Value.ref q62, Value.ref q70, Value.int 0, Value.int 0, Value.int 0, Value.ref q78, Value.ref q79, Value.int 0, Value.int 16, Value.int 4, um, Value.ref q80, Value.ref q81, Value.ref q82, Value.int 0, Value.ref q83, Value.int 0, Value.int 0, Value.int 0])) : Nat × va_E) := f_46_ws4
          replace hlen : ws4.length = 117 := by rw [e_ws4.1, hlen]
          replace hU : gx_g ws ws4 0 [0, 1, 2, 3, 4, 5, 6, 7, 8, 9, 10, 11, 12, 13, 14, 15, 16, 17, 18, 19, 20, 21, 22, 23, 24, 25, 26, 27, 28, 29, 30, 31, 32, 33, 34, 35, 36, 37, 38, 39, 40, 41, 42, 43, 44, 45, 46, 47, 48, 49, 50, 51, 52, 53, 54, 55, 56, 57, 58, 59, 60, 61, 62, 63, 64, 65, 66, 67, 68, 69, 70, 71, 72, 73, 74, 75, 76, 77, 78, 79, 80, 81, 82, 83, 84, 85, 86, 87, 88, 89, 90, 91, 92, 93, 94, 95, 96, 97, 98, 99, 100, 101, 102, 103, 104, 105, 106, 107, 108, 109, 110, 111, 112, 113, 114, 115, 116] := hU.call e_ws4 (by rw [hlen0]; decide)
          refine W.eq (g2 := F0 m 1267 ls [Value.int 0, Value.int 0]) rfl ?_
          generalize t3.heap = H at hP hS ⊢
          generalize locs ++ L3 = locs at hS ⊢
          refine lv_icmp_eq (tgt := 1272) hx hb d_Lw_law_1267 (by decide) (fun _ => ?_) (fun c9 => absurd (by decide) c9)
          refine W.widen (k := 400) (n := 700000) (by decide) (by decide) ?_
          exact k _ _ ls (by rw [hAe]; exact hS) (lv_sub hl [0, 4] rfl)
        · cases hv9
          have f_46_ws4 : ws4[46]? = some ((q46, Sum.inr (8, [Value.int 0, Value.int 0, Value.ref q47, Value.ref q48, Value.ref q49, Value.int 0, Value.ref q50, Value.ref q51, Value.ref q52, Value.ref q53, Value.int 0, Value.int 0, Value.int 0, Value.int (-1), Value.int 0, Value.ref q54, Value.ref q62, Value.ref q70, Value.int 0, Value.int 0, Value.int 0, Value.ref q78, Value.ref q79, Value.int 0, Value.int 16, Value.int 4, um, Value.ref q80, Value.ref q81, Value.ref q82, Value.int 0, Value.ref q83, Value.int 0, Value.int 0, Value.int 0])) : Nat × va_E) := f_46_ws4
          replace hlen : ws4.length = 117 := by rw [e_ws4.1, hlen]
          replace hU : gx_g ws ws4 0 [0, 1, 2, 3, 4, 5, 6, 7, 8, 9, 10, 11, 12, 13, 14, 15, 16, 17, 18, 19, 20, 21, 22, 23, 24, 25, 26, 27, 28, 29, 30, 31, 32, 33, 34, 35, 36, 37, 38, 39, 40, 41, 42, 43, 44, 45, 46, 47, 48, 49, 50, 51, 52, 53, 54, 55, 56, 57, 58, 59, 60, 61, 62, 63, 64, 65, 66, 67, 68, 69, 70, 71, 72, 73, 74, 75, 76, 77, 78, 79, 80, 81, 82, 83, 84, 85, 86, 87, 88, 89, 90, 91, 92, 93, 94, 95, 96, 97, 98, 99, 100, 101, 102, 103, 104, 105, 106, 107, 108, 109, 110, 111, 112, 113, 114, 115, 116] := hU.call e_ws4 (by rw [hlen0]; decide)
          exact absurd g1_0 g3_0
        · cases hv9
          have f_46_ws4 : ws4[46]? = some ((q46, Sum.inr (8, [Value.int 0, Value.int 0, Value.ref q47, Value.ref q48, Value.ref q49, Value.int 0, Value.ref q50, Value.ref q51, Value.ref q52, Value.ref q53, Value.int 0, Value.int 0, Value.int 0, Value.int (-1), Value.int 0, Value.ref q54, Value.ref q62, Value.ref q70, Value.int 0, Value.int 0, Value.int 0, Value.ref q78, Value.ref q79, Value.int 0, Value.int 16, Value.int 4, um, Value.ref q80, Value.ref q81, Value.ref q82, Value.int 0, Value.ref q83, Value.int 0, Value.int 0, Value.int 0])) : Nat × va_E) := f_46_ws4
          replace hlen : ws4.length = 117 := by rw [e_ws4.1, hlen]
          replace hU : gx_g ws ws4 0 [0, 1, 2, 3, 4, 5, 6, 7, 8, 9, 10, 11, 12, 13, 14, 15, 16, 17, 18, 19, 20, 21, 22, 23, 24, 25, 26, 27, 28, 29, 30, 31, 32, 33, 34, 35, 36, 37, 38, 39, 40, 41, 42, 43, 44, 45, 46, 47, 48, 49, 50, 51, 52, 53, 54, 55, 56, 57, 58, 59, 60, 61, 62, 63, 64, 65, 66, 67, 68, 69, 70, 71, 72, 73, 74, 75, 76, 77, 78, 79, 80, 81, 82, 83, 84, 85, 86, 87, 88, 89, 90, 91, 92, 93, 94, 95, 96, 97, 98, 99, 100, 101, 102, 103, 104, 105, 106, 107, 108, 109, 110, 111, 112, 113, 114, 115, 116] := hU.call e_ws4 (by rw [hlen0]; decide)
          exact absurd g1_0 g3_0
        · cases hv9
          have f_46_ws4 : ws4[46]? = some ((q46, Sum.inr (8, [Value.int 0, Value.int 0, Value.ref q47, Value.ref q48, Value.ref q49, Value.int 0, Value.ref q50, Value.ref q51, Value.ref q52, Value.ref q53, Value.int 0, Value.int 0, Value.int 0, Value.int (-1), Value.int 0, Value.ref q54, Value.ref q62, Value.ref q70, Value.int 0, Value.int 0, Value.int 0, Value.ref q78, Value.ref q79, Value.int 0, Value.int 16, Value.int 4, um, Value.ref q80, Value.ref q81, Value.ref q82, Value.int 0, Value.ref q83, Value.int 0, Value.int 0, Value.int 0])) : Nat × va_E) := f_46_ws4
          replace hlen : ws4.length = 117 := by rw [e_ws4.1, hlen]
          replace hU : gx_g ws ws4 0 [0, 1, 2, 3, 4, 5, 6, 7, 8, 9, 10, 11, 12, 13, 14, 15, 16, 17, 18, 19, 20, 21, 22, 23, 24, 25, 26, 27, 28, 29, 30, 31, 32, 33, 34, 35, 36, 37, 38, 39, 40, 41, 42, 43, 44, 45, 46, 47, 48, 49, 50, 51, 52, 53, 54, 55, 56, 57, 58, 59, 60, 61, 62, 63, 64, 65, 66, 67, 68, 69, 70, 71, 72, 73, 74, 75, 76, 77, 78, 79, 80, 81, 82, 83, 84, 85, 86, 87, 88, 89, 90, 91, 92, 93, 94, 95, 96, 97, 98, 99, 100, 101, 102, 103, 104, 105, 106, 107, 108, 109, 110, 111, 112, 113, 114, 115, 116] := hU.call e_ws4 (by rw [hlen0]; decide)
          exact absurd g1_0 g3_0
        · cases hv9
          have f_46_ws4 : ws4[46]? = some ((q46, Sum.inr (8, [Value.int 0, Value.int 0, Value.ref q47, Value.ref q48, Value.ref q49, Value.int 0, Value.ref q50, Value.ref q51, Value.ref q52, Value.ref q53, Value.int 0, Value.int 0, Value.int 0, Value.int (-1), Value.int 0, Value.ref q54, Value.ref q62, Value.ref q70, Value.int 0, Value.int 0, Value.int 0, Value.ref q78, Value.ref q79, Value.int 0, Value.int 16, Value.int 4, um, Value.ref q80, Value.ref q81, Value.ref q82, Value.int 0, Value.ref q83, Value.int 0, Value.int 0, Value.int 0])) : Nat × va_E) := f_46_ws4
          replace hlen : ws4.length = 117 := by rw [e_ws4.1, hlen]
          replace hU : gx_g ws ws4 0 [0, 1, 2, 3, 4, 5, 6, 7, 8, 9, 10, 11, 12, 13, 14, 15, 16, 17, 18, 19, 20, 21, 22, 23, 24, 25, 26, 27, 28, 29, 30, 31, 32, 33, 34, 35, 36, 37, 38, 39, 40, 41, 42, 43, 44, 45, 46, 47, 48, 49, 50, 51, 52, 53, 54, 55, 56, 57, 58, 59, 60, 61, 62, 63, 64, 65, 66, 67, 68, 69, 70, 71, 72, 73, 74, 75, 76, 77, 78, 79, 80, 81, 82, 83, 84, 85, 86, 87, 88, 89, 90, 91, 92, 93, 94, 95, 96, 97, 98, 99, 100, 101, 102, 103, 104, 105, 106, 107, 108, 109, 110, 111, 112, 113, 114, 115, 116] := hU.call e_ws4 (by rw [hlen0]; decide)
          exact absurd g1_0 g3_0
        · cases hv9
          have f_46_ws4 : ws4[46]? = some ((q46, Sum.inr (8, [Value.int 0, Value.int 0, Value.ref q47, Value.ref q48, Value.ref q49, Value.int 0, Value.ref q50, Value.ref q51, Value.ref q52, Value.ref q53, Value.int 0, Value.int 0, Value.int 0, Value.int (-1), Value.int 0, Value.ref q54, Value.ref q62, Value.ref q70, Value.int 0, Value.int 0, Value.int 0, Value.ref q78, Value.ref q79, Value.int 0, Value.int 16, Value.int 4, um, Value.ref q80, Value.ref q81, Value.ref q82, Value.int 0, Value.ref q83, Value.int 0, Value.int 0, Value.int 0])) : Nat × va_E) := f_46_ws4
          replace hlen : ws4.length = 117 := by rw [e_ws4.1, hlen]
          replace hU : gx_g ws ws4 0 [0, 1, 2, 3, 4, 5, 6, 7, 8, 9, 10, 11, 12, 13, 14, 15, 16, 17, 18, 19, 20, 21, 22, 23, 24, 25, 26, 27, 28, 29, 30, 31, 32, 33, 34, 35, 36, 37, 38, 39, 40, 41, 42, 43, 44, 45, 46, 47, 48, 49, 50, 51, 52, 53, 54, 55, 56, 57, 58, 59, 60, 61, 62, 63, 64, 65, 66, 67, 68, 69, 70, 71, 72, 73, 74, 75, 76, 77, 78, 79, 80, 81, 82, 83, 84, 85, 86, 87, 88, 89, 90, 91, 92, 93, 94, 95, 96, 97, 98, 99, 100, 101, 102, 103, 104, 105, 106, 107, 108, 109, 110, 111, 112, 113, 114, 115, 116] := hU.call e_ws4 (by rw [hlen0]; decide)
          exact absurd g1_0 g3_0
        · cases hv9
          have f_46_ws4 : ws4[46]? = some ((q46, Sum.inr (8, [Value.int 0, Value.int 0, Value.ref q47, Value.ref q48, Value.ref q49, Value.int 0, Value.ref q50, Value.ref q51, Value.ref q52, Value.ref q53, Value.int 0, Value.int 0, Value.int 0, Value.int (-1), Value.int 0, Value.ref q54, Value.ref q62, Value.ref q70, Value.int 0, Value.int 0, Value.int 0, Value.ref q78, Value.ref q79, Value.int 0, Value.int 16, Value.int 4, um, Value.ref q80, Value.ref q81, Value.ref q82, Value.int 0, Value.ref q83, Value.int 0, Value.int 0, Value.int 0])) : Nat × va_E) := f_46_ws4
          replace hlen : ws4.length = 117 := by rw [e_ws4.1, hlen]
          replace hU : gx_g ws ws4 0 [0, 1, 2, 3, 4, 5, 6, 7, 8, 9, 10, 11, 12, 13, 14, 15, 16, 17, 18, 19, 20, 21, 22, 23, 24, 25, 26, 27, 28, 29, 30, 31, 32, 33, 34, 35, 36, 37, 38, 39, 40, 41, 42, 43, 44, 45, 46, 47, 48, 49, 50, 51, 52, 53, 54, 55, 56, 57, 58, 59, 60, 61, 62, 63, 64, 65, 66, 67, 68, 69, 70, 71, 72, 73, 74, 75, 76, 77, 78, 79, 80, 81, 82, 83, 84, 85, 86, 87, 88, 89, 90, 91, 92, 93, 94, 95, 96, 97, 98, 99, 100, 101, 102, 103, 104, 105, 106, 107, 108, 109, 110, 111, 112, 113, 114, 115, 116] := hU.call e_ws4 (by rw [hlen0]; decide)
          exact absurd g1_0 g3_0
        · cases hv9
          have f_46_ws4 : ws4[46]? = some ((q46, Sum.inr (8, [Value.int 0, Value.int 0, Value.ref q47, Value.ref q48, Value.ref q49, Value.int 0, Value.ref q50, Value.ref q51, Value.ref q52, Value.ref q53, Value.int 0, Value.int 0, Value.int 0, Value.int (-1), Value.int 0, Value.ref q54, Value.ref q62, Value.ref q70, Value.int 0, Value.int 0, Value.int 0, Value.ref q78, Value.ref q79, Value.int 0, Value.int 16, Value.int 4, um, Value.ref q80, Value.ref q81, Value.ref q82, Value.int 0, Value.ref q83, Value.int 0, Value.int 0, Value.int 0])) : Nat × va_E) := f_46_ws4
          replace hlen : ws4.length = 117 := by rw [e_ws4.1, hlen]
          replace hU : gx_g ws ws4 0 [0, 1, 2, 3, 4, 5, 6, 7, 8, 9, 10, 11, 12, 13, 14, 15, 16, 17, 18, 19, 20, 21, 22, 23, 24, 25, 26, 27, 28, 29, 30, 31, 32, 33, 34, 35, 36, 37, 38, 39, 40, 41, 42, 43, 44, 45, 46, 47, 48, 49, 50, 51, 52, 53, 54, 55, 56, 57, 58, 59, 60, 61, 62, 63, 64, 65, 66, 67, 68, 69, 70, 71, 72, 73, 74, 75, 76, 77, 78, 79, 80, 81, 82, 83, 84, 85, 86, 87, 88, 89, 90, 91, 92, 93, 94, 95, 96, 97, 98, 99, 100, 101, 102, 103, 104, 105, 106, 107, 108, 109, 110, 111, 112, 113, 114, 115, 116] := hU.call e_ws4 (by rw [hlen0]; decide)
          exact absurd g1_0 g3_0
        · cases hv9
          have f_46_ws4 : ws4[46]? = some ((q46, Sum.inr (8, [Value.int 0, Value.int 0, Value.ref q47, Value.ref q48, Value.ref q49, Value.int 0, Value.ref q50, Value.ref q51, Value.ref q52, Value.ref q53, Value.int 0, Value.int 0, Value.int 0, Value.int (-1), Value.int 0, Value.ref q54, Value.ref q62, Value.ref q70, Value.int 0, Value.int 0, Value.int 0, Value.ref q78, Value.ref q79, Value.int 0, Value.int 16, Value.int 4, um, Value.ref q80, Value.ref q81, Value.ref q82, Value.int 0, Value.ref q83, Value.int 0, Value.int 0, Value.int 0])) : Nat × va_E) := f_46_ws4
          replace hlen : ws4.length = 117 := by rw [e_ws4.1, hlen]
          replace hU : gx_g ws ws4 0 [0, 1, 2, 3, 4, 5, 6, 7, 8, 9, 10, 11, 12, 13, 14, 15, 16, 17, 18, 19, 20, 21, 22, 23, 24, 25, 26, 27, 28, 29, 30, 31, 32, 33, 34, 35, 36, 37, 38, 39, 40, 41, 42, 43, 44, 45, 46, 47, 48, 49, 50, 51, 52, 53, 54, 55, 56, 57, 58, 59, 60, 61, 62, 63, 64, 65, 66, 67, 68, 69, 70, 71, 72, 73, 74, 75, 76, 77, 78, 79, 80, 81, 82, 83, 84, 85, 86, 87, 88, 89, 90, 91, 92, 93, 94, 95, 96, 97, 98, 99, 100, 101, 102, 103, 104, 105, 106, 107, 108, 109, 110, 111, 112, 113, 114, 115, 116] := hU.call e_ws4 (by rw [hlen0]; decide)
          exact absurd g1_0 g3_0
        · cases hv9
          have f_46_ws4 : ws4[46]? = some ((q46, Sum.inr (8, [Value.int 0, Value.int 0, Value.ref q47, Value.ref q48, Value.ref q49, Value.int 0, Value.ref q50, Value.ref q51, Value.ref q52, Value.ref q53, Value.int 0, Value.int 0, Value.int 0, Value.int (-1), Value.int 0, Value.ref q54, Value.ref q62, Value.ref q70, Value.int 0, Value.int 0, Value.int 0, Value.ref q78, Value.ref q79, Value.int 0, Value.int 16, Value.int 4, um, Value.ref q80, Value.ref q81, Value.ref q82, Value.int 0, Value.ref q83, Value.int 0, Value.int 0, Value.int 0])) : Nat × va_E) := f_46_ws4
          replace hlen : ws4.length = 117 := by rw [e_ws4.1, hlen]
          replace hU : gx_g ws ws4 0 [0, 1, 2, 3, 4, 5, 6, 7, 8, 9, 10, 11, 12, 13, 14, 15, 16, 17, 18, 19, 20, 21, 22, 23, 24, 25, 26, 27, 28, 29, 30, 31, 32, 33, 34, 35, 36, 37, 38, 39, 40, 41, 42, 43, 44, 45, 46, 47, 48, 49, 50, 51, 52, 53, 54, 55, 56, 57, 58, 59, 60, 61, 62, 63, 64, 65, 66, 67, 68, 69, 70, 71, 72, 73, 74, 75, 76, 77, 78, 79, 80, 81, 82, 83, 84, 85, 86, 87, 88, 89, 90, 91, 92, 93, 94, 95, 96, 97, 98, 99, 100, 101, 102, 103, 104, 105, 106, 107, 108, 109, 110, 111, 112, 113, 114, 115, 116] := hU.call e_ws4 (by rw [hlen0]; decide)
          exact absurd g1_0 g3_0
        · cases hv9
          have f_46_ws4 : ws4[46]? = some ((q46, Sum.inr (8, [Value.int 0, Value.int 0, Value.ref q47, Value.ref q48, Value.ref q49, Value.int 0, Value.ref q50, Value.ref q51, Value.ref q52, Value.ref q53, Value.int 0, Value.int 0, Value.int 0, Value.int (-1), Value.int 0, Value.ref q54, Value.ref q62, Value.ref q70, Value.int 0, Value.int 0, Value.int 0, Value.ref q78, Value.ref q79, Value.int 0, Value.int 16, Value.int 4, um, Value.ref q80, Value.ref q81, Value.ref q82, Value.int 0, Value.ref q83, Value.int 0, Value.int 0, Value.int 0])) : Nat × va_E) := f_46_ws4
          replace hlen : ws4.length = 117 := by rw [e_ws4.1, hlen]
          replace hU : gx_g ws ws4 0 [0, 1, 2, 3, 4, 5, 6, 7, 8, 9, 10, 11, 12, 13, 14, 15, 16, 17, 18, 19, 20, 21, 22, 23, 24, 25, 26, 27, 28, 29, 30, 31, 32, 33, 34, 35, 36, 37, 38, 39, 40, 41, 42, 43, 44, 45, 46, 47, 48, 49, 50, 51, 52, 53, 54, 55, 56, 57, 58, 59, 60, 61, 62, 63, 64, 65, 66, 67, 68, 69, 70, 71, 72, 73, 74, 75, 76, 77, 78, 79, 80, 81, 82, 83, 84, 85, 86, 87, 88, 89, 90, 91, 92, 93, 94, 95, 96, 97, 98, 99, 100, 101, 102, 103, 104, 105, 106, 107, 108, 109, 110, 111, 112, 113, 114, 115, 116] := hU.call e_ws4 (by rw [hlen0]; decide)
          exact absurd g1_0 g3_0
        · cases hv9
          have f_46_ws4 : ws4[46]? = some ((q46, Sum.inr (8, [Value.int 0, Value.int 0, Value.ref q47, Value.ref q48, Value.ref q49, Value.int 0, Value.ref q50, Value.ref q51, Value.ref q52, Value.ref q53, Value.int 0, Value.int 0, Value.int 0, Value.int (-1), Value.int 0, Value.ref q54, Value.ref q62, Value.ref q70, Value.int 0, Value.int 0, Value.int 0, Value.ref q78, Value.ref q79, Value.int 0, Value.int 16, Value.int 4, um, Value.ref q80, Value.ref q81, Value.ref q82, Value.int 0, Value.ref q83, Value.int 0, Value.int 0, Value.int 0])) : Nat × va_E) := f_46_ws4
          replace hlen : ws4.length = 117 := by rw [e_ws4.1, hlen]
          replace hU : gx_g ws ws4 0 [0, 1, 2, 3, 4, 5, 6, 7, 8, 9, 10, 11, 12, 13, 14, 15, 16, 17, 18, 19, 20, 21, 22, 23, 24, 25, 26, 27, 28, 29, 30, 31, 32, 33, 34, 35, 36, 37, 38, 39, 40, 41, 42, 43, 44, 45, 46, 47, 48, 49, 50, 51, 52, 53, 54, 55, 56, 57, 58, 59, 60, 61, 62, 63, 64, 65, 66, 67, 68, 69, 70, 71, 72, 73, 74, 75, 76, 77, 78, 79, 80, 81, 82, 83, 84, 85, 86, 87, 88, 89, 90, 91, 92, 93, 94, 95, 96, 97, 98, 99, 100, 101, 102, 103, 104, 105, 106, 107, 108, 109, 110, 111, 112, 113, 114, 115, 116] := hU.call e_ws4 (by rw [hlen0]; decide)
          exact absurd g1_0 g3_0
        · cases hv9
          have f_46_ws4 : ws4[46]? = some ((q46, Sum.inr (8, [Value.int 0, Value.int 0, Value.ref q47, Value.ref q48, Value.ref q49, Value.int 0, Value.ref q50, Value.ref q51, Value.ref q52, Value.ref q53, Value.int 0, Value.int 0, Value.int 0, Value.int (-1), Value.int 0, Value.ref q54, Value.ref q62, Value.ref q70, Value.int 0, Value.int 0, Value.int 0, Value.ref q78, Value.ref q79, Value.int 0, Value.int 16, Value.int 4, um, Value.ref q80, Value.ref q81, Value.ref q82, Value.int 0, Value.ref q83, Value.int 0, Value.int 0, Value.int 0])) : Nat × va_E) := f_46_ws4
          replace hlen : ws4.length = 117 := by rw [e_ws4.1, hlen]
          replace hU : gx_g ws ws4 0 [0, 1, 2, 3, 4, 5, 6, 7, 8, 9, 10, 11, 12, 13, 14, 15, 16, 17, 18, 19, 20, 21, 22, 23, 24, 25, 26, 27, 28, 29, 30, 31, 32, 33, 34, 35, 36, 37, 38, 39, 40, 41, 42, 43, 44, 45, 46, 47, 48, 49, 50, 51, 52, 53, 54, 55, 56, 57, 58, 59, 60, 61, 62, 63, 64, 65, 66, 67, 68, 69, 70, 71, 72, 73, 74, 75, 76, 77, 78, 79, 80, 81, 82, 83, 84, 85, 86, 87, 88, 89, 90, 91, 92, 93, 94, 95, 96, 97, 98, 99, 100, 101, 102, 103, 104, 105, 106, 107, 108, 109, 110, 111, 112, 113, 114, 115, 116] := hU.call e_ws4 (by rw [hlen0]; decide)
          exact absurd g1_0 g3_0
      · obtain ⟨E9, ws5, ce, hp, hce, hP9, -, hD9, hS9⟩ := gx_backT h0_3 hW_3 hQ_3 hL_3 hD hS hA
        clear hQ_3 h0_3 hL_3 hW_3 hP hD hS
        have hP := hP9
        have hD := hD9
        have hS := hS9
        clear hP9 hD9 hS9
        rcases hp with ⟨hv9, e_ws5, f_46_ws5, g3_0⟩ | ⟨hv9, e_ws5, f_46_ws5, g3_0, g3_1⟩ | ⟨hv9, e_ws5, f_46_ws5, g3_0, g3_1, g3_2⟩ | ⟨hv9, e_ws5, f_46_ws5, g3_0, g3_1, g3_2, g3_3⟩ | ⟨hv9, e_ws5, f_46_ws5, g3_0, g3_1, g3_2, g3_3, g3_4⟩ | ⟨hv9, e_ws5, f_46_ws5, g3_0, g3_1, g3_2, g3_3, g3_4, g3_5⟩ | ⟨hv9, e_ws5, f_46_ws5, g3_0, g3_1, g3_2, g3_3, g3_4, g3_5, g3_6⟩ | ⟨hv9, e_ws5, f_46_ws5, g3_0, g3_1, g3_2, g3_3, g3_4, g3_5, g3_6, g3_7⟩ | ⟨hv9, e_ws5, f_46_ws5, g3_0, g3_1, g3_2, g3_3, g3_4, g3_5, g3_6, g3_7, g3_8⟩ | ⟨hv9, e_ws5, f_46_ws5, g3_0, g3_1, g3_2, g3_3, g3_4, g3_5, g3_6, g3_7, g3_8, g3_9⟩ | ⟨hv9, e_ws5, f_46_ws5, g3_0, g3_1, g3_2, g3_3, g3_4, g3_5, g3_6, g3_7, g3_8, g3_9, g3_10⟩ | ⟨hv9, e_ws5, f_46_ws5, g3_0, g3_1, g3_2, g3_3, g3_4, g3_5, g3_6, g3_7, g3_8, g3_9, g3_10, g3_11⟩ | ⟨hv9, e_ws5, f_46_ws5, g3_0, g3_1, g3_2, g3_3, g3_4, g3_5, g3_6, g3_7, g3_8, g3_9, g3_10, g3_11⟩
        · cases hv9
        · cases hv9
        · cases hv9
        · cases hv9
        · cases hv9
        · cases hv9
        · cases hv9
        · cases hv9
        · cases hv9
        · cases hv9
        · cases hv9
        · cases hv9
        · cases hv9
    · cases hv9
      rw [e_ws2] at hP hD
      refine W.eq (g2 := F0 m 1257 ls [Value.int 0]) rfl ?_
      generalize t1.heap = H at hP hS ⊢
      generalize locs ++ L1 = locs at hS ⊢
      refine lv_aload_n hx hb d_Lw_law_1257 rfl (lv_at hl 2 rfl) ?_
      refine lv_aload_n hx hb d_Lw_law_1258 rfl (lv_at hl 4 rfl) ?_
      refine lv_iload hx hb d_Lw_law_1259 (lv_at hl 0 rfl) ?_
      refine lv_iconst (v := 1) hx hb d_Lw_law_1261 (by decide) ?_
      refine lv_iadd hx hb d_Lw_law_1262 ?_
      refine gx_topi (y := 1) (by decide) ?_
      refine va_sld hx hb hX hbl hbA hS (i := 1) (gx_inl (by decide)) d_Lw_law_1263 ?_
      refine gx_topi (y := y1) (by rw [hy1]; rfl) ?_
      refine gx_call (ig := .invokevirtual 172) (c_Mo_count_v1 l htr D tys z _ ws cV q46 y1 q47 q48 q49 q50 q51 q52 q53 q54 q62 q70 q78 q79 (um) q80 q81 q82 q83 q84 q85 q86 q87 q88 q89 q90 q91 q92 q93 q94 q95 q96 q97 q98 q99 q100 q101 q102 q103 q104 q105 q106 q107 q108 q109 q110 q111 q112 q113 q114 q115 f_46 f_84 f_92 f_100 f_108 f_83 ht5) (gx_invV (As := [Value.int y1]) (rest := [Value.int 0]) hx hb hown hts km_Lw_172 kI_Mo_count kV_Mo_count kc_Mo_count (by decide) (show (parseMethodDescriptor y_Mo_count.desc).map (fun d => d.parameters.length) = some 1 by decide +kernel) (gx_recv (ci := 8) hK hP rfl f_46) rfl rfl d_Lw_law_1264) (gx_cw (z := 0) hts kc_Mo_count kN_Mo rfl rfl ⟨Nat.le_of_ble_eq_true rfl, Nat.le_of_ble_eq_true rfl⟩) hb hml gx_blind (gx_pre hz hP hK hD hY hS hAz [Value.ref q46, Value.int y1]) rfl hl.1 (lv_room (Nat.le_of_ble_eq_true rfl)) d_Lw_law_1264 ⟨Nat.le_of_ble_eq_true rfl, Nat.le_of_ble_eq_true rfl⟩ (fun v6 st6 t6 L6 h0_6 hW_6 hQ_6 hL_6 => ?_) (fun v6 st6 t6 L6 h0_6 hW_6 hQ_6 hL_6 => ?_)
      · obtain ⟨ws7, hp, hP9, -, hD9, hS9⟩ := gx_back h0_6 hW_6 hQ_6 hL_6 hD hS hA
        clear hQ_6 h0_6 hL_6 hW_6 hP hD hS
        have hP := hP9
        have hD := hD9
        have hS := hS9
        clear hP9 hD9 hS9
        rcases hp with ⟨hv9, e_ws7, f_46_ws7, g6_0⟩ | ⟨hv9, e_ws7, f_46_ws7, g6_0, g6_1⟩ | ⟨hv9, e_ws7, f_46_ws7, g6_0, g6_1, g6_2⟩ | ⟨hv9, e_ws7, f_46_ws7, g6_0, g6_1, g6_2, g6_3⟩ | ⟨hv9, e_ws7, f_46_ws7, g6_0, g6_1, g6_2, g6_3, g6_4⟩ | ⟨hv9, e_ws7, f_46_ws7, g6_0, g6_1, g6_2, g6_3, g6_4, g6_5⟩ | ⟨hv9, e_ws7, f_46_ws7, g6_0, g6_1, g6_2, g6_3, g6_4, g6_5, g6_6⟩ | ⟨hv9, e_ws7, f_46_ws7, g6_0, g6_1, g6_2, g6_3, g6_4, g6_5, g6_6, g6_7⟩ | ⟨hv9, e_ws7, f_46_ws7, g6_0, g6_1, g6_2, g6_3, g6_4, g6_5, g6_6, g6_7, g6_8⟩ | ⟨hv9, e_ws7, f_46_ws7, g6_0, g6_1, g6_2, g6_3, g6_4, g6_5, g6_6, g6_7, g6_8, g6_9⟩ | ⟨hv9, e_ws7, f_46_ws7, g6_0, g6_1, g6_2, g6_3, g6_4, g6_5, g6_6, g6_7, g6_8, g6_9, g6_10⟩ | ⟨hv9, e_ws7, f_46_ws7, g6_0, g6_1, g6_2, g6_3, g6_4, g6_5, g6_6, g6_7, g6_8, g6_9, g6_10, g6_11⟩ | ⟨hv9, e_ws7, f_46_ws7, g6_0, g6_1, g6_2, g6_3, g6_4, g6_5, g6_6, g6_7, g6_8, g6_9, g6_10, g6_11⟩
        · cases hv9
          have f_46_ws7 : ws7[46]? = some ((q46, Sum.inr (8, [Value.int 0, Value.int 0, Value.ref q47, Value.ref q48, Value.ref q49, Value.int 0, Value.ref q50, Value.ref q51, Value.ref q52, Value.ref q53, Value.int 0, Value.int 0, Value.int 0, Value.int (-1), Value.int 0, Value.ref q54, Value.ref q62, Value.ref q70, Value.int 0, Value.int 0, Value.int 0, Value.ref q78, Value.ref q79, Value.int 0, Value.int 16, Value.int 4, um, Value.ref q80, Value.ref q81, Value.ref q82, Value.int 0, Value.ref q83, Value.int 0, Value.int 0, Value.int 0])) : Nat × va_E) := f_46_ws7
          replace hlen : ws7.length = 117 := by rw [e_ws7.1, hlen]
          replace hU : gx_g ws ws7 0 [0, 1, 2, 3, 4, 5, 6, 7, 8, 9, 10, 11, 12, 13, 14, 15, 16, 17, 18, 19, 20, 21, 22, 23, 24, 25, 26, 27, 28, 29, 30, 31, 32, 33, 34, 35, 36, 37, 38, 39, 40, 41, 42, 43, 44, 45, 46, 47, 48, 49, 50, 51, 52, 53, 54, 55, 56, 57, 58, 59, 60, 61, 62, 63, 64, 65, 66, 67, 68, 69, 70, 71, 72, 73, 74, 75, 76, 77, 78, 79, 80, 81, 82, 83, 84, 85, 86, 87, 88, 89, 90, 91, 92, 93, 94, 95, 96, 97, 98, 99, 100, 101, 102, 103, 104, 105, 106, 107, 108, 109, 110, 111, 112, 113, 114, 115, 116] := hU.call e_ws7 (by rw [hlen0]; decide)
          exact absurd g6_0 g1_0
        · cases hv9
          have f_46_ws7 : ws7[46]? = some ((q46, Sum.inr (8, [Value.int 0, Value.int 0, Value.ref q47, Value.ref q48, Value.ref q49, Value.int 0, Value.ref q50, Value.ref q51, Value.ref q52, Value.ref q53, Value.int 0, Value.int 0, Value.int 0, Value.int (-1), Value.int 0, Value.ref q54, Value.ref q62, Value.ref q70, Value.int 0, Value.int 0, Value.int 0, Value.ref q78, Value.ref q79, Value.int 0, Value.int 16, Value.int 4, um, Value.ref q80, Value.ref q81, Value.ref q82, Value.int 0, Value.ref q83, Value.int 0, Value.int 0, Value.int 0])) : Nat × va_E) := f_46_ws7
          replace hlen : ws7.length = 117 := by rw [e_ws7.1, hlen]
          replace hU : gx_g ws ws7 0 [0, 1, 2, 3, 4, 5, 6, 7, 8, 9, 10, 11, 12, 13, 14, 15, 16, 17, 18, 19, 20, 21, 22, 23, 24, 25, 26, 27, 28, 29, 30, 31, 32, 33, 34, 35, 36, 37, 38, 39, 40, 41, 42, 43, 44, 45, 46, 47, 48, 49, 50, 51, 52, 53, 54, 55, 56, 57, 58, 59, 60, 61, 62, 63, 64, 65, 66, 67, 68, 69, 70, 71, 72, 73, 74, 75, 76, 77, 78, 79, 80, 81, 82, 83, 84, 85, 86, 87, 88, 89, 90, 91, 92, 93, 94, 95, 96, 97, 98, 99, 100, 101, 102, 103, 104, 105, 106, 107, 108, 109, 110, 111, 112, 113, 114, 115, 116] := hU.call e_ws7 (by rw [hlen0]; decide)
          refine W.eq (g2 := F0 m 1267 ls [Value.int 0, Value.int 0]) rfl ?_
          generalize t6.heap = H at hP hS ⊢
          generalize locs ++ L6 = locs at hS ⊢
          refine lv_icmp_eq (tgt := 1272) hx hb d_Lw_law_1267 (by decide) (fun _ => ?_) (fun c9 => absurd (by decide) c9)
          refine W.widen (k := 400) (n := 700000) (by decide) (by decide) ?_
          exact k _ _ ls (by rw [hAe]; exact hS) (lv_sub hl [0, 4] rfl)
        · cases hv9
          have f_46_ws7 : ws7[46]? = some ((q46, Sum.inr (8, [Value.int 0, Value.int 0, Value.ref q47, Value.ref q48, Value.ref q49, Value.int 0, Value.ref q50, Value.ref q51, Value.ref q52, Value.ref q53, Value.int 0, Value.int 0, Value.int 0, Value.int (-1), Value.int 0, Value.ref q54, Value.ref q62, Value.ref q70, Value.int 0, Value.int 0, Value.int 0, Value.ref q78, Value.ref q79, Value.int 0, Value.int 16, Value.int 4, um, Value.ref q80, Value.ref q81, Value.ref q82, Value.int 0, Value.ref q83, Value.int 0, Value.int 0, Value.int 0])) : Nat × va_E) := f_46_ws7
          replace hlen : ws7.length = 117 := by rw [e_ws7.1, hlen]
          replace hU : gx_g ws ws7 0 [0, 1, 2, 3, 4, 5, 6, 7, 8, 9, 10, 11, 12, 13, 14, 15, 16, 17, 18, 19, 20, 21, 22, 23, 24, 25, 26, 27, 28, 29, 30, 31, 32, 33, 34, 35, 36, 37, 38, 39, 40, 41, 42, 43, 44, 45, 46, 47, 48, 49, 50, 51, 52, 53, 54, 55, 56, 57, 58, 59, 60, 61, 62, 63, 64, 65, 66, 67, 68, 69, 70, 71, 72, 73, 74, 75, 76, 77, 78, 79, 80, 81, 82, 83, 84, 85, 86, 87, 88, 89, 90, 91, 92, 93, 94, 95, 96, 97, 98, 99, 100, 101, 102, 103, 104, 105, 106, 107, 108, 109, 110, 111, 112, 113, 114, 115, 116] := hU.call e_ws7 (by rw [hlen0]; decide)
          exact absurd g1_1 g6_1
        · cases hv9
          have f_46_ws7 : ws7[46]? = some ((q46, Sum.inr (8, [Value.int 0, Value.int 0, Value.ref q47, Value.ref q48, Value.ref q49, Value.int 0, Value.ref q50, Value.ref q51, Value.ref q52, Value.ref q53, Value.int 0, Value.int 0, Value.int 0, Value.int (-1), Value.int 0, Value.ref q54, Value.ref q62, Value.ref q70, Value.int 0, Value.int 0, Value.int 0, Value.ref q78, Value.ref q79, Value.int 0, Value.int 16, Value.int 4, um, Value.ref q80, Value.ref q81, Value.ref q82, Value.int 0, Value.ref q83, Value.int 0, Value.int 0, Value.int 0])) : Nat × va_E) := f_46_ws7
          replace hlen : ws7.length = 117 := by rw [e_ws7.1, hlen]
          replace hU : gx_g ws ws7 0 [0, 1, 2, 3, 4, 5, 6, 7, 8, 9, 10, 11, 12, 13, 14, 15, 16, 17, 18, 19, 20, 21, 22, 23, 24, 25, 26, 27, 28, 29, 30, 31, 32, 33, 34, 35, 36, 37, 38, 39, 40, 41, 42, 43, 44, 45, 46, 47, 48, 49, 50, 51, 52, 53, 54, 55, 56, 57, 58, 59, 60, 61, 62, 63, 64, 65, 66, 67, 68, 69, 70, 71, 72, 73, 74, 75, 76, 77, 78, 79, 80, 81, 82, 83, 84, 85, 86, 87, 88, 89, 90, 91, 92, 93, 94, 95, 96, 97, 98, 99, 100, 101, 102, 103, 104, 105, 106, 107, 108, 109, 110, 111, 112, 113, 114, 115, 116] := hU.call e_ws7 (by rw [hlen0]; decide)
          exact absurd g1_1 g6_1
        · cases hv9
          have f_46_ws7 : ws7[46]? = some ((q46, Sum.inr (8, [Value.int 0, Value.int 0, Value.ref q47, Value.ref q48, Value.ref q49, Value.int 0, Value.ref q50, Value.ref q51, Value.ref q52, Value.ref q53, Value.int 0, Value.int 0, Value.int 0, Value.int (-1), Value.int 0, Value.ref q54, Value.ref q62, Value.ref q70, Value.int 0, Value.int 0, Value.int 0, Value.ref q78, Value.ref q79, Value.int 0, Value.int 16, Value.int 4, um, Value.ref q80, Value.ref q81, Value.ref q82, Value.int 0, Value.ref q83, Value.int 0, Value.int 0, Value.int 0])) : Nat × va_E) := f_46_ws7
          replace hlen : ws7.length = 117 := by rw [e_ws7.1, hlen]
          replace hU : gx_g ws ws7 0 [0, 1, 2, 3, 4, 5, 6, 7, 8, 9, 10, 11, 12, 13, 14, 15, 16, 17, 18, 19, 20, 21, 22, 23, 24, 25, 26, 27, 28, 29, 30, 31, 32, 33, 34, 35, 36, 37, 38, 39, 40, 41, 42, 43, 44, 45, 46, 47, 48, 49, 50, 51, 52, 53, 54, 55, 56, 57, 58, 59, 60, 61, 62, 63, 64, 65, 66, 67, 68, 69, 70, 71, 72, 73, 74, 75, 76, 77, 78, 79, 80, 81, 82, 83, 84, 85, 86, 87, 88, 89, 90, 91, 92, 93, 94, 95, 96, 97, 98, 99, 100, 101, 102, 103, 104, 105, 106, 107, 108, 109, 110, 111, 112, 113, 114, 115, 116] := hU.call e_ws7 (by rw [hlen0]; decide)
          exact absurd g1_1 g6_1
        · cases hv9
          have f_46_ws7 : ws7[46]? = some ((q46, Sum.inr (8, [Value.int 0, Value.int 0, Value.ref q47, Value.ref q48, Value.ref q49, Value.int 0, Value.ref q50, Value.ref q51, Value.ref q52, Value.ref q53, Value.int 0, Value.int 0, Value.int 0, Value.int (-1), Value.int 0, Value.ref q54, Value.ref q62, Value.ref q70, Value.int 0, Value.int 0, Value.int 0, Value.ref q78, Value.ref q79, Value.int 0, Value.int 16, Value.int 4, um, Value.ref q80, Value.ref q81, Value.ref q82, Value.int 0, Value.ref q83, Value.int 0, Value.int 0, Value.int 0])) : Nat × va_E) := f_46_ws7
          replace hlen : ws7.length = 117 := by rw [e_ws7.1, hlen]
          replace hU : gx_g ws ws7 0 [0, 1, 2, 3, 4, 5, 6, 7, 8, 9, 10, 11, 12, 13, 14, 15, 16, 17, 18, 19, 20, 21, 22, 23, 24, 25, 26, 27, 28, 29, 30, 31, 32, 33, 34, 35, 36, 37, 38, 39, 40, 41, 42, 43, 44, 45, 46, 47, 48, 49, 50, 51, 52, 53, 54, 55, 56, 57, 58, 59, 60, 61, 62, 63, 64, 65, 66, 67, 68, 69, 70, 71, 72, 73, 74, 75, 76, 77, 78, 79, 80, 81, 82, 83, 84, 85, 86, 87, 88, 89, 90, 91, 92, 93, 94, 95, 96, 97, 98, 99, 100, 101, 102, 103, 104, 105, 106, 107, 108, 109, 110, 111, 112, 113, 114, 115, 116] := hU.call e_ws7 (by rw [hlen0]; decide)
          exact absurd g1_1 g6_1
        · cases hv9
          have f_46_ws7 : ws7[46]? = some ((q46, Sum.inr (8, [Value.int 0, Value.int 0, Value.ref q47, Value.ref q48, Value.ref q49, Value.int 0, Value.ref q50, Value.ref q51, Value.ref q52, Value.ref q53, Value.int 0, Value.int 0, Value.int 0, Value.int (-1), Value.int 0, Value.ref q54, Value.ref q62, Value.ref q70, Value.int 0, Value.int 0, Value.int 0, Value.ref q78, Value.ref q79, Value.int 0, Value.int 16, Value.int 4, um, Value.ref q80, Value.ref q81, Value.ref q82, Value.int 0, Value.ref q83, Value.int 0, Value.int 0, Value.int 0])) : Nat × va_E) := f_46_ws7
          replace hlen : ws7.length = 117 := by rw [e_ws7.1, hlen]
          replace hU : gx_g ws ws7 0 [0, 1, 2, 3, 4, 5, 6, 7, 8, 9, 10, 11, 12, 13, 14, 15, 16, 17, 18, 19, 20, 21, 22, 23, 24, 25, 26, 27, 28, 29, 30, 31, 32, 33, 34, 35, 36, 37, 38, 39, 40, 41, 42, 43, 44, 45, 46, 47, 48, 49, 50, 51, 52, 53, 54, 55, 56, 57, 58, 59, 60, 61, 62, 63, 64, 65, 66, 67, 68, 69, 70, 71, 72, 73, 74, 75, 76, 77, 78, 79, 80, 81, 82, 83, 84, 85, 86, 87, 88, 89, 90, 91, 92, 93, 94, 95, 96, 97, 98, 99, 100, 101, 102, 103, 104, 105, 106, 107, 108, 109, 110, 111, 112, 113, 114, 115, 116] := hU.call e_ws7 (by rw [hlen0]; decide)
          exact absurd g1_1 g6_1
        · cases hv9
          have f_46_ws7 : ws7[46]? = some ((q46, Sum.inr (8, [Value.int 0, Value.int 0, Value.ref q47, Value.ref q48, Value.ref q49, Value.int 0, Value.ref q50, Value.ref q51, Value.ref q52, Value.ref q53, Value.int 0, Value.int 0, Value.int 0, Value.int (-1), Value.int 0, Value.ref q54, Value.ref q62, Value.ref q70, Value.int 0, Value.int 0, Value.int 0, Value.ref q78, Value.ref q79, Value.int 0, Value.int 16, Value.int 4, um, Value.ref q80, Value.ref q81, Value.ref q82, Value.int 0, Value.ref q83, Value.int 0, Value.int 0, Value.int 0])) : Nat × va_E) := f_46_ws7
          replace hlen : ws7.length = 117 := by rw [e_ws7.1, hlen]
          replace hU : gx_g ws ws7 0 [0, 1, 2, 3, 4, 5, 6, 7, 8, 9, 10, 11, 12, 13, 14, 15, 16, 17, 18, 19, 20, 21, 22, 23, 24, 25, 26, 27, 28, 29, 30, 31, 32, 33, 34, 35, 36, 37, 38, 39, 40, 41, 42, 43, 44, 45, 46, 47, 48, 49, 50, 51, 52, 53, 54, 55, 56, 57, 58, 59, 60, 61, 62, 63, 64, 65, 66, 67, 68, 69, 70, 71, 72, 73, 74, 75, 76, 77, 78, 79, 80, 81, 82, 83, 84, 85, 86, 87, 88, 89, 90, 91, 92, 93, 94, 95, 96, 97, 98, 99, 100, 101, 102, 103, 104, 105, 106, 107, 108, 109, 110, 111, 112, 113, 114, 115, 116] := hU.call e_ws7 (by rw [hlen0]; decide)
          exact absurd g1_1 g6_1
        · cases hv9
          have f_46_ws7 : ws7[46]? = some ((q46, Sum.inr (8, [Value.int 0, Value.int 0, Value.ref q47, Value.ref q48, Value.ref q49, Value.int 0, Value.ref q50, Value.ref q51, Value.ref q52, Value.ref q53, Value.int 0, Value.int 0, Value.int 0, Value.int (-1), Value.int 0, Value.ref q54, Value.ref q62, Value.ref q70, Value.int 0, Value.int 0, Value.int 0, Value.ref q78, Value.ref q79, Value.int 0, Value.int 16, Value.int 4, um, Value.ref q80, Value.ref q81, Value.ref q82, Value.int 0, Value.ref q83, Value.int 0, Value.int 0, Value.int 0])) : Nat × va_E) := f_46_ws7
          replace hlen : ws7.length = 117 := by rw [e_ws7.1, hlen]
          replace hU : gx_g ws ws7 0 [0, 1, 2, 3, 4, 5, 6, 7, 8, 9, 10, 11, 12, 13, 14, 15, 16, 17, 18, 19, 20, 21, 22, 23, 24, 25, 26, 27, 28, 29, 30, 31, 32, 33, 34, 35, 36, 37, 38, 39, 40, 41, 42, 43, 44, 45, 46, 47, 48, 49, 50, 51, 52, 53, 54, 55, 56, 57, 58, 59, 60, 61, 62, 63, 64, 65, 66, 67, 68, 69, 70, 71, 72, 73, 74, 75, 76, 77, 78, 79, 80, 81, 82, 83, 84, 85, 86, 87, 88, 89, 90, 91, 92, 93, 94, 95, 96, 97, 98, 99, 100, 101, 102, 103, 104, 105, 106, 107, 108, 109, 110, 111, 112, 113, 114, 115, 116] := hU.call e_ws7 (by rw [hlen0]; decide)
          exact absurd g1_1 g6_1
        · cases hv9
          have f_46_ws7 : ws7[46]? = some ((q46, Sum.inr (8, [Value.int 0, Value.int 0, Value.ref q47, Value.ref q48, Value.ref q49, Value.int 0, Value.ref q50, Value.ref q51, Value.ref q52, Value.ref q53, Value.int 0, Value.int 0, Value.int 0, Value.int (-1), Value.int 0, Value.ref q54, Value.ref q62, Value.ref q70, Value.int 0, Value.int 0, Value.int 0, Value.ref q78, Value.ref q79, Value.int 0, Value.int 16, Value.int 4, um, Value.ref q80, Value.ref q81, Value.ref q82, Value.int 0, Value.ref q83, Value.int 0, Value.int 0, Value.int 0])) : Nat × va_E) := f_46_ws7
          replace hlen : ws7.length = 117 := by rw [e_ws7.1, hlen]
          replace hU : gx_g ws ws7 0 [0, 1, 2, 3, 4, 5, 6, 7, 8, 9, 10, 11, 12, 13, 14, 15, 16, 17, 18, 19, 20, 21, 22, 23, 24, 25, 26, 27, 28, 29, 30, 31, 32, 33, 34, 35, 36, 37, 38, 39, 40, 41, 42, 43, 44, 45, 46, 47, 48, 49, 50, 51, 52, 53, 54, 55, 56, 57, 58, 59, 60, 61, 62, 63, 64, 65, 66, 67, 68, 69, 70, 71, 72, 73, 74, 75, 76, 77, 78, 79, 80, 81, 82, 83, 84, 85, 86, 87, 88, 89, 90, 91, 92, 93, 94, 95, 96, 97, 98, 99, 100, 101, 102, 103, 104, 105, 106, 107, 108, 109, 110, 111, 112, 113, 114, 115, 116] := hU.call e_ws7 (by rw [hlen0]; decide)
          exact absurd g1_1 g6_1
        · cases hv9
          have f_46_ws7 : ws7[46]? = some ((q46, Sum.inr (8, [Value.int 0, Value.int 0, Value.ref q47, Value.ref q48, Value.ref q49, Value.int 0, Value.ref q50, Value.ref q51, Value.ref q52, Value.ref q53, Value.int 0, Value.int 0, Value.int 0, Value.int (-1), Value.int 0, Value.ref q54, Value.ref q62, Value.ref q70, Value.int 0, Value.int 0, Value.int 0, Value.ref q78, Value.ref q79, Value.int 0, Value.int 16, Value.int 4, um, Value.ref q80, Value.ref q81, Value.ref q82, Value.int 0, Value.ref q83, Value.int 0, Value.int 0, Value.int 0])) : Nat × va_E) := f_46_ws7
          replace hlen : ws7.length = 117 := by rw [e_ws7.1, hlen]
          replace hU : gx_g ws ws7 0 [0, 1, 2, 3, 4, 5, 6, 7, 8, 9, 10, 11, 12, 13, 14, 15, 16, 17, 18, 19, 20, 21, 22, 23, 24, 25, 26, 27, 28, 29, 30, 31, 32, 33, 34, 35, 36, 37, 38, 39, 40, 41, 42, 43, 44, 45, 46, 47, 48, 49, 50, 51, 52, 53, 54, 55, 56, 57, 58, 59, 60, 61, 62, 63, 64, 65, 66, 67, 68, 69, 70, 71, 72, 73, 74, 75, 76, 77, 78, 79, 80, 81, 82, 83, 84, 85, 86, 87, 88, 89, 90, 91, 92, 93, 94, 95, 96, 97, 98, 99, 100, 101, 102, 103, 104, 105, 106, 107, 108, 109, 110, 111, 112, 113, 114, 115, 116] := hU.call e_ws7 (by rw [hlen0]; decide)
          exact absurd g1_1 g6_1
        · cases hv9
          have f_46_ws7 : ws7[46]? = some ((q46, Sum.inr (8, [Value.int 0, Value.int 0, Value.ref q47, Value.ref q48, Value.ref q49, Value.int 0, Value.ref q50, Value.ref q51, Value.ref q52, Value.ref q53, Value.int 0, Value.int 0, Value.int 0, Value.int (-1), Value.int 0, Value.ref q54, Value.ref q62, Value.ref q70, Value.int 0, Value.int 0, Value.int 0, Value.ref q78, Value.ref q79, Value.int 0, Value.int 16, Value.int 4, um, Value.ref q80, Value.ref q81, Value.ref q82, Value.int 0, Value.ref q83, Value.int 0, Value.int 0, Value.int 0])) : Nat × va_E) := f_46_ws7
          replace hlen : ws7.length = 117 := by rw [e_ws7.1, hlen]
          replace hU : gx_g ws ws7 0 [0, 1, 2, 3, 4, 5, 6, 7, 8, 9, 10, 11, 12, 13, 14, 15, 16, 17, 18, 19, 20, 21, 22, 23, 24, 25, 26, 27, 28, 29, 30, 31, 32, 33, 34, 35, 36, 37, 38, 39, 40, 41, 42, 43, 44, 45, 46, 47, 48, 49, 50, 51, 52, 53, 54, 55, 56, 57, 58, 59, 60, 61, 62, 63, 64, 65, 66, 67, 68, 69, 70, 71, 72, 73, 74, 75, 76, 77, 78, 79, 80, 81, 82, 83, 84, 85, 86, 87, 88, 89, 90, 91, 92, 93, 94, 95, 96, 97, 98, 99, 100, 101, 102, 103, 104, 105, 106, 107, 108, 109, 110, 111, 112, 113, 114, 115, 116] := hU.call e_ws7 (by rw [hlen0]; decide)
          exact absurd g1_1 g6_1
        · cases hv9
          have f_46_ws7 : ws7[46]? = some ((q46, Sum.inr (8, [Value.int 0, Value.int 0, Value.ref q47, Value.ref q48, Value.ref q49, Value.int 0, Value.ref q50, Value.ref q51, Value.ref q52, Value.ref q53, Value.int 0, Value.int 0, Value.int 0, Value.int (-1), Value.int 0, Value.ref q54, Value.ref q62, Value.ref q70, Value.int 0, Value.int 0, Value.int 0, Value.ref q78, Value.ref q79, Value.int 0, Value.int 16, Value.int 4, um, Value.ref q80, Value.ref q81, Value.ref q82, Value.int 0, Value.ref q83, Value.int 0, Value.int 0, Value.int 0])) : Nat × va_E) := f_46_ws7
          replace hlen : ws7.length = 117 := by rw [e_ws7.1, hlen]
          replace hU : gx_g ws ws7 0 [0, 1, 2, 3, 4, 5, 6, 7, 8, 9, 10, 11, 12, 13, 14, 15, 16, 17, 18, 19, 20, 21, 22, 23, 24, 25, 26, 27, 28, 29, 30, 31, 32, 33, 34, 35, 36, 37, 38, 39, 40, 41, 42, 43, 44, 45, 46, 47, 48, 49, 50, 51, 52, 53, 54, 55, 56, 57, 58, 59, 60, 61, 62, 63, 64, 65, 66, 67, 68, 69, 70, 71, 72, 73, 74, 75, 76, 77, 78, 79, 80, 81, 82, 83, 84, 85, 86, 87, 88, 89, 90, 91, 92, 93, 94, 95, 96, 97, 98, 99, 100, 101, 102, 103, 104, 105, 106, 107, 108, 109, 110, 111, 112, 113, 114, 115, 116] := hU.call e_ws7 (by rw [hlen0]; decide)
          exact absurd g1_1 g6_1
      · obtain ⟨E9, ws8, ce, hp, hce, hP9, -, hD9, hS9⟩ := gx_backT h0_6 hW_6 hQ_6 hL_6 hD hS hA
        clear hQ_6 h0_6 hL_6 hW_6 hP hD hS
        have hP := hP9
        have hD := hD9
        have hS := hS9
        clear hP9 hD9 hS9
        rcases hp with ⟨hv9, e_ws8, f_46_ws8, g6_0⟩ | ⟨hv9, e_ws8, f_46_ws8, g6_0, g6_1⟩ | ⟨hv9, e_ws8, f_46_ws8, g6_0, g6_1, g6_2⟩ | ⟨hv9, e_ws8, f_46_ws8, g6_0, g6_1, g6_2, g6_3⟩ | ⟨hv9, e_ws8, f_46_ws8, g6_0, g6_1, g6_2, g6_3, g6_4⟩ | ⟨hv9, e_ws8, f_46_ws8, g6_0, g6_1, g6_2, g6_3, g6_4, g6_5⟩ | ⟨hv9, e_ws8, f_46_ws8, g6_0, g6_1, g6_2, g6_3, g6_4, g6_5, g6_6⟩ | ⟨hv9, e_ws8, f_46_ws8, g6_0, g6_1, g6_2, g6_3, g6_4, g6_5, g6_6, g6_7⟩ | ⟨hv9, e_ws8, f_46_ws8, g6_0, g6_1, g6_2, g6_3, g6_4, g6_5, g6_6, g6_7, g6_8⟩ | ⟨hv9, e_ws8, f_46_ws8, g6_0, g6_1, g6_2, g6_3, g6_4, g6_5, g6_6, g6_7, g6_8, g6_9⟩ | ⟨hv9, e_ws8, f_46_ws8, g6_0, g6_1, g6_2, g6_3, g6_4, g6_5, g6_6, g6_7, g6_8, g6_9, g6_10⟩ | ⟨hv9, e_ws8, f_46_ws8, g6_0, g6_1, g6_2, g6_3, g6_4, g6_5, g6_6, g6_7, g6_8, g6_9, g6_10, g6_11⟩ | ⟨hv9, e_ws8, f_46_ws8, g6_0, g6_1, g6_2, g6_3, g6_4, g6_5, g6_6, g6_7, g6_8, g6_9, g6_10, g6_11⟩
        · cases hv9
        · cases hv9
        · cases hv9
        · cases hv9
        · cases hv9
        · cases hv9
        · cases hv9
        · cases hv9
        · cases hv9
        · cases hv9
        · cases hv9
        · cases hv9
        · cases hv9
    · cases hv9
      rw [e_ws2] at hP hD
      refine W.eq (g2 := F0 m 1257 ls [Value.int 0]) rfl ?_
      generalize t1.heap = H at hP hS ⊢
      generalize locs ++ L1 = locs at hS ⊢
      refine lv_aload_n hx hb d_Lw_law_1257 rfl (lv_at hl 2 rfl) ?_
      refine lv_aload_n hx hb d_Lw_law_1258 rfl (lv_at hl 4 rfl) ?_
      refine lv_iload hx hb d_Lw_law_1259 (lv_at hl 0 rfl) ?_
      refine lv_iconst (v := 1) hx hb d_Lw_law_1261 (by decide) ?_
      refine lv_iadd hx hb d_Lw_law_1262 ?_
      refine gx_topi (y := 1) (by decide) ?_
      refine va_sld hx hb hX hbl hbA hS (i := 1) (gx_inl (by decide)) d_Lw_law_1263 ?_
      refine gx_topi (y := y1) (by rw [hy1]; rfl) ?_
      refine gx_call (ig := .invokevirtual 172) (c_Mo_count_v1 l htr D tys z _ ws cV q46 y1 q47 q48 q49 q50 q51 q52 q53 q54 q62 q70 q78 q79 (um) q80 q81 q82 q83 q84 q85 q86 q87 q88 q89 q90 q91 q92 q93 q94 q95 q96 q97 q98 q99 q100 q101 q102 q103 q104 q105 q106 q107 q108 q109 q110 q111 q112 q113 q114 q115 f_46 f_84 f_92 f_100 f_108 f_83 ht5) (gx_invV (As := [Value.int y1]) (rest := [Value.int 0]) hx hb hown hts km_Lw_172 kI_Mo_count kV_Mo_count kc_Mo_count (by decide) (show (parseMethodDescriptor y_Mo_count.desc).map (fun d => d.parameters.length) = some 1 by decide +kernel) (gx_recv (ci := 8) hK hP rfl f_46) rfl rfl d_Lw_law_1264) (gx_cw (z := 0) hts kc_Mo_count kN_Mo rfl rfl ⟨Nat.le_of_ble_eq_true rfl, Nat.le_of_ble_eq_true rfl⟩) hb hml gx_blind (gx_pre hz hP hK hD hY hS hAz [Value.ref q46, Value.int y1]) rfl hl.1 (lv_room (Nat.le_of_ble_eq_true rfl)) d_Lw_law_1264 ⟨Nat.le_of_ble_eq_true rfl, Nat.le_of_ble_eq_true rfl⟩ (fun v9 st9 t9 L9 h0_9 hW_9 hQ_9 hL_9 => ?_) (fun v9 st9 t9 L9 h0_9 hW_9 hQ_9 hL_9 => ?_)
      · obtain ⟨ws10, hp, hP9, -, hD9, hS9⟩ := gx_back h0_9 hW_9 hQ_9 hL_9 hD hS hA
        clear hQ_9 h0_9 hL_9 hW_9 hP hD hS
        have hP := hP9
        have hD := hD9
        have hS := hS9
        clear hP9 hD9 hS9
        rcases hp with ⟨hv9, e_ws10, f_46_ws10, g9_0⟩ | ⟨hv9, e_ws10, f_46_ws10, g9_0, g9_1⟩ | ⟨hv9, e_ws10, f_46_ws10, g9_0, g9_1, g9_2⟩ | ⟨hv9, e_ws10, f_46_ws10, g9_0, g9_1, g9_2, g9_3⟩ | ⟨hv9, e_ws10, f_46_ws10, g9_0, g9_1, g9_2, g9_3, g9_4⟩ | ⟨hv9, e_ws10, f_46_ws10, g9_0, g9_1, g9_2, g9_3, g9_4, g9_5⟩ | ⟨hv9, e_ws10, f_46_ws10, g9_0, g9_1, g9_2, g9_3, g9_4, g9_5, g9_6⟩ | ⟨hv9, e_ws10, f_46_ws10, g9_0, g9_1, g9_2, g9_3, g9_4, g9_5, g9_6, g9_7⟩ | ⟨hv9, e_ws10, f_46_ws10, g9_0, g9_1, g9_2, g9_3, g9_4, g9_5, g9_6, g9_7, g9_8⟩ | ⟨hv9, e_ws10, f_46_ws10, g9_0, g9_1, g9_2, g9_3, g9_4, g9_5, g9_6, g9_7, g9_8, g9_9⟩ | ⟨hv9, e_ws10, f_46_ws10, g9_0, g9_1, g9_2, g9_3, g9_4, g9_5, g9_6, g9_7, g9_8, g9_9, g9_10⟩ | ⟨hv9, e_ws10, f_46_ws10, g9_0, g9_1, g9_2, g9_3, g9_4, g9_5, g9_6, g9_7, g9_8, g9_9, g9_10, g9_11⟩ | ⟨hv9, e_ws10, f_46_ws10, g9_0, g9_1, g9_2, g9_3, g9_4, g9_5, g9_6, g9_7, g9_8, g9_9, g9_10, g9_11⟩
        · cases hv9
          have f_46_ws10 : ws10[46]? = some ((q46, Sum.inr (8, [Value.int 0, Value.int 0, Value.ref q47, Value.ref q48, Value.ref q49, Value.int 0, Value.ref q50, Value.ref q51, Value.ref q52, Value.ref q53, Value.int 0, Value.int 0, Value.int 0, Value.int (-1), Value.int 0, Value.ref q54, Value.ref q62, Value.ref q70, Value.int 0, Value.int 0, Value.int 0, Value.ref q78, Value.ref q79, Value.int 0, Value.int 16, Value.int 4, um, Value.ref q80, Value.ref q81, Value.ref q82, Value.int 0, Value.ref q83, Value.int 0, Value.int 0, Value.int 0])) : Nat × va_E) := f_46_ws10
          replace hlen : ws10.length = 117 := by rw [e_ws10.1, hlen]
          replace hU : gx_g ws ws10 0 [0, 1, 2, 3, 4, 5, 6, 7, 8, 9, 10, 11, 12, 13, 14, 15, 16, 17, 18, 19, 20, 21, 22, 23, 24, 25, 26, 27, 28, 29, 30, 31, 32, 33, 34, 35, 36, 37, 38, 39, 40, 41, 42, 43, 44, 45, 46, 47, 48, 49, 50, 51, 52, 53, 54, 55, 56, 57, 58, 59, 60, 61, 62, 63, 64, 65, 66, 67, 68, 69, 70, 71, 72, 73, 74, 75, 76, 77, 78, 79, 80, 81, 82, 83, 84, 85, 86, 87, 88, 89, 90, 91, 92, 93, 94, 95, 96, 97, 98, 99, 100, 101, 102, 103, 104, 105, 106, 107, 108, 109, 110, 111, 112, 113, 114, 115, 116] := hU.call e_ws10 (by rw [hlen0]; decide)
          exact absurd g9_0 g1_0
        · cases hv9
          have f_46_ws10 : ws10[46]? = some ((q46, Sum.inr (8, [Value.int 0, Value.int 0, Value.ref q47, Value.ref q48, Value.ref q49, Value.int 0, Value.ref q50, Value.ref q51, Value.ref q52, Value.ref q53, Value.int 0, Value.int 0, Value.int 0, Value.int (-1), Value.int 0, Value.ref q54, Value.ref q62, Value.ref q70, Value.int 0, Value.int 0, Value.int 0, Value.ref q78, Value.ref q79, Value.int 0, Value.int 16, Value.int 4, um, Value.ref q80, Value.ref q81, Value.ref q82, Value.int 0, Value.ref q83, Value.int 0, Value.int 0, Value.int 0])) : Nat × va_E) := f_46_ws10
          replace hlen : ws10.length = 117 := by rw [e_ws10.1, hlen]
          replace hU : gx_g ws ws10 0 [0, 1, 2, 3, 4, 5, 6, 7, 8, 9, 10, 11, 12, 13, 14, 15, 16, 17, 18, 19, 20, 21, 22, 23, 24, 25, 26, 27, 28, 29, 30, 31, 32, 33, 34, 35, 36, 37, 38, 39, 40, 41, 42, 43, 44, 45, 46, 47, 48, 49, 50, 51, 52, 53, 54, 55, 56, 57, 58, 59, 60, 61, 62, 63, 64, 65, 66, 67, 68, 69, 70, 71, 72, 73, 74, 75, 76, 77, 78, 79, 80, 81, 82, 83, 84, 85, 86, 87, 88, 89, 90, 91, 92, 93, 94, 95, 96, 97, 98, 99, 100, 101, 102, 103, 104, 105, 106, 107, 108, 109, 110, 111, 112, 113, 114, 115, 116] := hU.call e_ws10 (by rw [hlen0]; decide)
          exact absurd g9_1 g1_1
        · cases hv9
          have f_46_ws10 : ws10[46]? = some ((q46, Sum.inr (8, [Value.int 0, Value.int 0, Value.ref q47, Value.ref q48, Value.ref q49, Value.int 0, Value.ref q50, Value.ref q51, Value.ref q52, Value.ref q53, Value.int 0, Value.int 0, Value.int 0, Value.int (-1), Value.int 0, Value.ref q54, Value.ref q62, Value.ref q70, Value.int 0, Value.int 0, Value.int 0, Value.ref q78, Value.ref q79, Value.int 0, Value.int 16, Value.int 4, um, Value.ref q80, Value.ref q81, Value.ref q82, Value.int 0, Value.ref q83, Value.int 0, Value.int 0, Value.int 0])) : Nat × va_E) := f_46_ws10
          replace hlen : ws10.length = 117 := by rw [e_ws10.1, hlen]
          replace hU : gx_g ws ws10 0 [0, 1, 2, 3, 4, 5, 6, 7, 8, 9, 10, 11, 12, 13, 14, 15, 16, 17, 18, 19, 20, 21, 22, 23, 24, 25, 26, 27, 28, 29, 30, 31, 32, 33, 34, 35, 36, 37, 38, 39, 40, 41, 42, 43, 44, 45, 46, 47, 48, 49, 50, 51, 52, 53, 54, 55, 56, 57, 58, 59, 60, 61, 62, 63, 64, 65, 66, 67, 68, 69, 70, 71, 72, 73, 74, 75, 76, 77, 78, 79, 80, 81, 82, 83, 84, 85, 86, 87, 88, 89, 90, 91, 92, 93, 94, 95, 96, 97, 98, 99, 100, 101, 102, 103, 104, 105, 106, 107, 108, 109, 110, 111, 112, 113, 114, 115, 116] := hU.call e_ws10 (by rw [hlen0]; decide)
          refine W.eq (g2 := F0 m 1267 ls [Value.int 0, Value.int 0]) rfl ?_
          generalize t9.heap = H at hP hS ⊢
          generalize locs ++ L9 = locs at hS ⊢
          refine lv_icmp_eq (tgt := 1272) hx hb d_Lw_law_1267 (by decide) (fun _ => ?_) (fun c9 => absurd (by decide) c9)
          refine W.widen (k := 400) (n := 700000) (by decide) (by decide) ?_
          exact k _ _ ls (by rw [hAe]; exact hS) (lv_sub hl [0, 4] rfl)
        · cases hv9
          have f_46_ws10 : ws10[46]? = some ((q46, Sum.inr (8, [Value.int 0, Value.int 0, Value.ref q47, Value.ref q48, Value.ref q49, Value.int 0, Value.ref q50, Value.ref q51, Value.ref q52, Value.ref q53, Value.int 0, Value.int 0, Value.int 0, Value.int (-1), Value.int 0, Value.ref q54, Value.ref q62, Value.ref q70, Value.int 0, Value.int 0, Value.int 0, Value.ref q78, Value.ref q79, Value.int 0, Value.int 16, Value.int 4, um, Value.ref q80, Value.ref q81, Value.ref q82, Value.int 0, Value.ref q83, Value.int 0, Value.int 0, Value.int 0])) : Nat × va_E) := f_46_ws10
          replace hlen : ws10.length = 117 := by rw [e_ws10.1, hlen]
          replace hU : gx_g ws ws10 0 [0, 1, 2, 3, 4, 5, 6, 7, 8, 9, 10, 11, 12, 13, 14, 15, 16, 17, 18, 19, 20, 21, 22, 23, 24, 25, 26, 27, 28, 29, 30, 31, 32, 33, 34, 35, 36, 37, 38, 39, 40, 41, 42, 43, 44, 45, 46, 47, 48, 49, 50, 51, 52, 53, 54, 55, 56, 57, 58, 59, 60, 61, 62, 63, 64, 65, 66, 67, 68, 69, 70, 71, 72, 73, 74, 75, 76, 77, 78, 79, 80, 81, 82, 83, 84, 85, 86, 87, 88, 89, 90, 91, 92, 93, 94, 95, 96, 97, 98, 99, 100, 101, 102, 103, 104, 105, 106, 107, 108, 109, 110, 111, 112, 113, 114, 115, 116] := hU.call e_ws10 (by rw [hlen0]; decide)
          exact absurd g1_2 g9_2
        · cases hv9
          have f_46_ws10 : ws10[46]? = some ((q46, Sum.inr (8, [Value.int 0, Value.int 0, Value.ref q47, Value.ref q48, Value.ref q49, Value.int 0, Value.ref q50, Value.ref q51, Value.ref q52, Value.ref q53, Value.int 0, Value.int 0, Value.int 0, Value.int (-1), Value.int 0, Value.ref q54, Value.ref q62, Value.ref q70, Value.int 0, Value.int 0, Value.int 0, Value.ref q78, Value.ref q79, Value.int 0, Value.int 16, Value.int 4, um, Value.ref q80, Value.ref q81, Value.ref q82, Value.int 0, Value.ref q83, Value.int 0, Value.int 0, Value.int 0])) : Nat × va_E) := f_46_ws10
          replace hlen : ws10.length = 117 := by rw [e_ws10.1, hlen]
          replace hU : gx_g ws ws10 0 [0, 1, 2, 3, 4, 5, 6, 7, 8, 9, 10, 11, 12, 13, 14, 15, 16, 17, 18, 19, 20, 21, 22, 23, 24, 25, 26, 27, 28, 29, 30, 31, 32, 33, 34, 35, 36, 37, 38, 39, 40, 41, 42, 43, 44, 45, 46, 47, 48, 49, 50, 51, 52, 53, 54, 55, 56, 57, 58, 59, 60, 61, 62, 63, 64, 65, 66, 67, 68, 69, 70, 71, 72, 73, 74, 75, 76, 77, 78, 79, 80, 81, 82, 83, 84, 85, 86, 87, 88, 89, 90, 91, 92, 93, 94, 95, 96, 97, 98, 99, 100, 101, 102, 103, 104, 105, 106, 107, 108, 109, 110, 111, 112, 113, 114, 115, 116] := hU.call e_ws10 (by rw [hlen0]; decide)
          exact absurd g1_2 g9_2
        · cases hv9
          have f_46_ws10 : ws10[46]? = some ((q46, Sum.inr (8, [Value.int 0, Value.int 0, Value.ref q47, Value.ref q48, Value.ref q49, Value.int 0, Value.ref q50, Value.ref q51, Value.ref q52, Value.ref q53, Value.int 0, Value.int 0, Value.int 0, Value.int (-1), Value.int 0, Value.ref q54, Value.ref q62, Value.ref q70, Value.int 0, Value.int 0, Value.int 0, Value.ref q78, Value.ref q79, Value.int 0, Value.int 16, Value.int 4, um, Value.ref q80, Value.ref q81, Value.ref q82, Value.int 0, Value.ref q83, Value.int 0, Value.int 0, Value.int 0])) : Nat × va_E) := f_46_ws10
          replace hlen : ws10.length = 117 := by rw [e_ws10.1, hlen]
          replace hU : gx_g ws ws10 0 [0, 1, 2, 3, 4, 5, 6, 7, 8, 9, 10, 11, 12, 13, 14, 15, 16, 17, 18, 19, 20, 21, 22, 23, 24, 25, 26, 27, 28, 29, 30, 31, 32, 33, 34, 35, 36, 37, 38, 39, 40, 41, 42, 43, 44, 45, 46, 47, 48, 49, 50, 51, 52, 53, 54, 55, 56, 57, 58, 59, 60, 61, 62, 63, 64, 65, 66, 67, 68, 69, 70, 71, 72, 73, 74, 75, 76, 77, 78, 79, 80, 81, 82, 83, 84, 85, 86, 87, 88, 89, 90, 91, 92, 93, 94, 95, 96, 97, 98, 99, 100, 101, 102, 103, 104, 105, 106, 107, 108, 109, 110, 111, 112, 113, 114, 115, 116] := hU.call e_ws10 (by rw [hlen0]; decide)
          exact absurd g1_2 g9_2
        · cases hv9
          have f_46_ws10 : ws10[46]? = some ((q46, Sum.inr (8, [Value.int 0, Value.int 0, Value.ref q47, Value.ref q48, Value.ref q49, Value.int 0, Value.ref q50, Value.ref q51, Value.ref q52, Value.ref q53, Value.int 0, Value.int 0, Value.int 0, Value.int (-1), Value.int 0, Value.ref q54, Value.ref q62, Value.ref q70, Value.int 0, Value.int 0, Value.int 0, Value.ref q78, Value.ref q79, Value.int 0, Value.int 16, Value.int 4, um, Value.ref q80, Value.ref q81, Value.ref q82, Value.int 0, Value.ref q83, Value.int 0, Value.int 0, Value.int 0])) : Nat × va_E) := f_46_ws10
          replace hlen : ws10.length = 117 := by rw [e_ws10.1, hlen]
          replace hU : gx_g ws ws10 0 [0, 1, 2, 3, 4, 5, 6, 7, 8, 9, 10, 11, 12, 13, 14, 15, 16, 17, 18, 19, 20, 21, 22, 23, 24, 25, 26, 27, 28, 29, 30, 31, 32, 33, 34, 35, 36, 37, 38, 39, 40, 41, 42, 43, 44, 45, 46, 47, 48, 49, 50, 51, 52, 53, 54, 55, 56, 57, 58, 59, 60, 61, 62, 63, 64, 65, 66, 67, 68, 69, 70, 71, 72, 73, 74, 75, 76, 77, 78, 79, 80, 81, 82, 83, 84, 85, 86, 87, 88, 89, 90, 91, 92, 93, 94, 95, 96, 97, 98, 99, 100, 101, 102, 103, 104, 105, 106, 107, 108, 109, 110, 111, 112, 113, 114, 115, 116] := hU.call e_ws10 (by rw [hlen0]; decide)
          exact absurd g1_2 g9_2
        · cases hv9
          have f_46_ws10 : ws10[46]? = some ((q46, Sum.inr (8, [Value.int 0, Value.int 0, Value.ref q47, Value.ref q48, Value.ref q49, Value.int 0, Value.ref q50, Value.ref q51, Value.ref q52, Value.ref q53, Value.int 0, Value.int 0, Value.int 0, Value.int (-1), Value.int 0, Value.ref q54, Value.ref q62, Value.ref q70, Value.int 0, Value.int 0, Value.int 0, Value.ref q78, Value.ref q79, Value.int 0, Value.int 16, Value.int 4, um, Value.ref q80, Value.ref q81, Value.ref q82, Value.int 0, Value.ref q83, Value.int 0, Value.int 0, Value.int 0])) : Nat × va_E) := f_46_ws10
          replace hlen : ws10.length = 117 := by rw [e_ws10.1, hlen]
          replace hU : gx_g ws ws10 0 [0, 1, 2, 3, 4, 5, 6, 7, 8, 9, 10, 11, 12, 13, 14, 15, 16, 17, 18, 19, 20, 21, 22, 23, 24, 25, 26, 27, 28, 29, 30, 31, 32, 33, 34, 35, 36, 37, 38, 39, 40, 41, 42, 43, 44, 45, 46, 47, 48, 49, 50, 51, 52, 53, 54, 55, 56, 57, 58, 59, 60, 61, 62, 63, 64, 65, 66, 67, 68, 69, 70, 71, 72, 73, 74, 75, 76, 77, 78, 79, 80, 81, 82, 83, 84, 85, 86, 87, 88, 89, 90, 91, 92, 93, 94, 95, 96, 97, 98, 99, 100, 101, 102, 103, 104, 105, 106, 107, 108, 109, 110, 111, 112, 113, 114, 115, 116] := hU.call e_ws10 (by rw [hlen0]; decide)
          exact absurd g1_2 g9_2
        · cases hv9
          have f_46_ws10 : ws10[46]? = some ((q46, Sum.inr (8, [Value.int 0, Value.int 0, Value.ref q47, Value.ref q48, Value.ref q49, Value.int 0, Value.ref q50, Value.ref q51, Value.ref q52, Value.ref q53, Value.int 0, Value.int 0, Value.int 0, Value.int (-1), Value.int 0, Value.ref q54, Value.ref q62, Value.ref q70, Value.int 0, Value.int 0, Value.int 0, Value.ref q78, Value.ref q79, Value.int 0, Value.int 16, Value.int 4, um, Value.ref q80, Value.ref q81, Value.ref q82, Value.int 0, Value.ref q83, Value.int 0, Value.int 0, Value.int 0])) : Nat × va_E) := f_46_ws10
          replace hlen : ws10.length = 117 := by rw [e_ws10.1, hlen]
          replace hU : gx_g ws ws10 0 [0, 1, 2, 3, 4, 5, 6, 7, 8, 9, 10, 11, 12, 13, 14, 15, 16, 17, 18, 19, 20, 21, 22, 23, 24, 25, 26, 27, 28, 29, 30, 31, 32, 33, 34, 35, 36, 37, 38, 39, 40, 41, 42, 43, 44, 45, 46, 47, 48, 49, 50, 51, 52, 53, 54, 55, 56, 57, 58, 59, 60, 61, 62, 63, 64, 65, 66, 67, 68, 69, 70, 71, 72, 73, 74, 75, 76, 77, 78, 79, 80, 81, 82, 83, 84, 85, 86, 87, 88, 89, 90, 91, 92, 93, 94, 95, 96, 97, 98, 99, 100, 101, 102, 103, 104, 105, 106, 107, 108, 109, 110, 111, 112, 113, 114, 115, 116] := hU.call e_ws10 (by rw [hlen0]; decide)
          exact absurd g1_2 g9_2
        · cases hv9
          have f_46_ws10 : ws10[46]? = some ((q46, Sum.inr (8, [Value.int 0, Value.int 0, Value.ref q47, Value.ref q48, Value.ref q49, Value.int 0, Value.ref q50, Value.ref q51, Value.ref q52, Value.ref q53, Value.int 0, Value.int 0, Value.int 0, Value.int (-1), Value.int 0, Value.ref q54, Value.ref q62, Value.ref q70, Value.int 0, Value.int 0, Value.int 0, Value.ref q78, Value.ref q79, Value.int 0, Value.int 16, Value.int 4, um, Value.ref q80, Value.ref q81, Value.ref q82, Value.int 0, Value.ref q83, Value.int 0, Value.int 0, Value.int 0])) : Nat × va_E) := f_46_ws10
          replace hlen : ws10.length = 117 := by rw [e_ws10.1, hlen]
          replace hU : gx_g ws ws10 0 [0, 1, 2, 3, 4, 5, 6, 7, 8, 9, 10, 11, 12, 13, 14, 15, 16, 17, 18, 19, 20, 21, 22, 23, 24, 25, 26, 27, 28, 29, 30, 31, 32, 33, 34, 35, 36, 37, 38, 39, 40, 41, 42, 43, 44, 45, 46, 47, 48, 49, 50, 51, 52, 53, 54, 55, 56, 57, 58, 59, 60, 61, 62, 63, 64, 65, 66, 67, 68, 69, 70, 71, 72, 73, 74, 75, 76, 77, 78, 79, 80, 81, 82, 83, 84, 85, 86, 87, 88, 89, 90, 91, 92, 93, 94, 95, 96, 97, 98, 99, 100, 101, 102, 103, 104, 105, 106, 107, 108, 109, 110, 111, 112, 113, 114, 115, 116] := hU.call e_ws10 (by rw [hlen0]; decide)
          exact absurd g1_2 g9_2
        · cases hv9
          have f_46_ws10 : ws10[46]? = some ((q46, Sum.inr (8, [Value.int 0, Value.int 0, Value.ref q47, Value.ref q48, Value.ref q49, Value.int 0, Value.ref q50, Value.ref q51, Value.ref q52, Value.ref q53, Value.int 0, Value.int 0, Value.int 0, Value.int (-1), Value.int 0, Value.ref q54, Value.ref q62, Value.ref q70, Value.int 0, Value.int 0, Value.int 0, Value.ref q78, Value.ref q79, Value.int 0, Value.int 16, Value.int 4, um, Value.ref q80, Value.ref q81, Value.ref q82, Value.int 0, Value.ref q83, Value.int 0, Value.int 0, Value.int 0])) : Nat × va_E) := f_46_ws10
          replace hlen : ws10.length = 117 := by rw [e_ws10.1, hlen]
          replace hU : gx_g ws ws10 0 [0, 1, 2, 3, 4, 5, 6, 7, 8, 9, 10, 11, 12, 13, 14, 15, 16, 17, 18, 19, 20, 21, 22, 23, 24, 25, 26, 27, 28, 29, 30, 31, 32, 33, 34, 35, 36, 37, 38, 39, 40, 41, 42, 43, 44, 45, 46, 47, 48, 49, 50, 51, 52, 53, 54, 55, 56, 57, 58, 59, 60, 61, 62, 63, 64, 65, 66, 67, 68, 69, 70, 71, 72, 73, 74, 75, 76, 77, 78, 79, 80, 81, 82, 83, 84, 85, 86, 87, 88, 89, 90, 91, 92, 93, 94, 95, 96, 97, 98, 99, 100, 101, 102, 103, 104, 105, 106, 107, 108, 109, 110, 111, 112, 113, 114, 115, 116] := hU.call e_ws10 (by rw [hlen0]; decide)
          exact absurd g1_2 g9_2
        · cases hv9
          have f_46_ws10 : ws10[46]? = some ((q46, Sum.inr (8, [Value.int 0, Value.int 0, Value.ref q47, Value.ref q48, Value.ref q49, Value.int 0, Value.ref q50, Value.ref q51, Value.ref q52, Value.ref q53, Value.int 0, Value.int 0, Value.int 0, Value.int (-1), Value.int 0, Value.ref q54, Value.ref q62, Value.ref q70, Value.int 0, Value.int 0, Value.int 0, Value.ref q78, Value.ref q79, Value.int 0, Value.int 16, Value.int 4, um, Value.ref q80, Value.ref q81, Value.ref q82, Value.int 0, Value.ref q83, Value.int 0, Value.int 0, Value.int 0])) : Nat × va_E) := f_46_ws10
          replace hlen : ws10.length = 117 := by rw [e_ws10.1, hlen]
          replace hU : gx_g ws ws10 0 [0, 1, 2, 3, 4, 5, 6, 7, 8, 9, 10, 11, 12, 13, 14, 15, 16, 17, 18, 19, 20, 21, 22, 23, 24, 25, 26, 27, 28, 29, 30, 31, 32, 33, 34, 35, 36, 37, 38, 39, 40, 41, 42, 43, 44, 45, 46, 47, 48, 49, 50, 51, 52, 53, 54, 55, 56, 57, 58, 59, 60, 61, 62, 63, 64, 65, 66, 67, 68, 69, 70, 71, 72, 73, 74, 75, 76, 77, 78, 79, 80, 81, 82, 83, 84, 85, 86, 87, 88, 89, 90, 91, 92, 93, 94, 95, 96, 97, 98, 99, 100, 101, 102, 103, 104, 105, 106, 107, 108, 109, 110, 111, 112, 113, 114, 115, 116] := hU.call e_ws10 (by rw [hlen0]; decide)
          exact absurd g1_2 g9_2
        · cases hv9
          have f_46_ws10 : ws10[46]? = some ((q46, Sum.inr (8, [Value.int 0, Value.int 0, Value.ref q47, Value.ref q48, Value.ref q49, Value.int 0, Value.ref q50, Value.ref q51, Value.ref q52, Value.ref q53, Value.int 0, Value.int 0, Value.int 0, Value.int (-1), Value.int 0, Value.ref q54, Value.ref q62, Value.ref q70, Value.int 0, Value.int 0, Value.int 0, Value.ref q78, Value.ref q79, Value.int 0, Value.int 16, Value.int 4, um, Value.ref q80, Value.ref q81, Value.ref q82, Value.int 0, Value.ref q83, Value.int 0, Value.int 0, Value.int 0])) : Nat × va_E) := f_46_ws10
          replace hlen : ws10.length = 117 := by rw [e_ws10.1, hlen]
          replace hU : gx_g ws ws10 0 [0, 1, 2, 3, 4, 5, 6, 7, 8, 9, 10, 11, 12, 13, 14, 15, 16, 17, 18, 19, 20, 21, 22, 23, 24, 25, 26, 27, 28, 29, 30, 31, 32, 33, 34, 35, 36, 37, 38, 39, 40, 41, 42, 43, 44, 45, 46, 47, 48, 49, 50, 51, 52, 53, 54, 55, 56, 57, 58, 59, 60, 61, 62, 63, 64, 65, 66, 67, 68, 69, 70, 71, 72, 73, 74, 75, 76, 77, 78, 79, 80, 81, 82, 83, 84, 85, 86, 87, 88, 89, 90, 91, 92, 93, 94, 95, 96, 97, 98, 99, 100, 101, 102, 103, 104, 105, 106, 107, 108, 109, 110, 111, 112, 113, 114, 115, 116] := hU.call e_ws10 (by rw [hlen0]; decide)
          exact absurd g1_2 g9_2
      · obtain ⟨E9, ws11, ce, hp, hce, hP9, -, hD9, hS9⟩ := gx_backT h0_9 hW_9 hQ_9 hL_9 hD hS hA
        clear hQ_9 h0_9 hL_9 hW_9 hP hD hS
        have hP := hP9
        have hD := hD9
        have hS := hS9
        clear hP9 hD9 hS9
        rcases hp with ⟨hv9, e_ws11, f_46_ws11, g9_0⟩ | ⟨hv9, e_ws11, f_46_ws11, g9_0, g9_1⟩ | ⟨hv9, e_ws11, f_46_ws11, g9_0, g9_1, g9_2⟩ | ⟨hv9, e_ws11, f_46_ws11, g9_0, g9_1, g9_2, g9_3⟩ | ⟨hv9, e_ws11, f_46_ws11, g9_0, g9_1, g9_2, g9_3, g9_4⟩ | ⟨hv9, e_ws11, f_46_ws11, g9_0, g9_1, g9_2, g9_3, g9_4, g9_5⟩ | ⟨hv9, e_ws11, f_46_ws11, g9_0, g9_1, g9_2, g9_3, g9_4, g9_5, g9_6⟩ | ⟨hv9, e_ws11, f_46_ws11, g9_0, g9_1, g9_2, g9_3, g9_4, g9_5, g9_6, g9_7⟩ | ⟨hv9, e_ws11, f_46_ws11, g9_0, g9_1, g9_2, g9_3, g9_4, g9_5, g9_6, g9_7, g9_8⟩ | ⟨hv9, e_ws11, f_46_ws11, g9_0, g9_1, g9_2, g9_3, g9_4, g9_5, g9_6, g9_7, g9_8, g9_9⟩ | ⟨hv9, e_ws11, f_46_ws11, g9_0, g9_1, g9_2, g9_3, g9_4, g9_5, g9_6, g9_7, g9_8, g9_9, g9_10⟩ | ⟨hv9, e_ws11, f_46_ws11, g9_0, g9_1, g9_2, g9_3, g9_4, g9_5, g9_6, g9_7, g9_8, g9_9, g9_10, g9_11⟩ | ⟨hv9, e_ws11, f_46_ws11, g9_0, g9_1, g9_2, g9_3, g9_4, g9_5, g9_6, g9_7, g9_8, g9_9, g9_10, g9_11⟩
        · cases hv9
        · cases hv9
        · cases hv9
        · cases hv9
        · cases hv9
        · cases hv9
        · cases hv9
        · cases hv9
        · cases hv9
        · cases hv9
        · cases hv9
        · cases hv9
        · cases hv9
    · cases hv9
      rw [e_ws2] at hP hD
      refine W.eq (g2 := F0 m 1257 ls [Value.int 0]) rfl ?_
      generalize t1.heap = H at hP hS ⊢
      generalize locs ++ L1 = locs at hS ⊢
      refine lv_aload_n hx hb d_Lw_law_1257 rfl (lv_at hl 2 rfl) ?_
      refine lv_aload_n hx hb d_Lw_law_1258 rfl (lv_at hl 4 rfl) ?_
      refine lv_iload hx hb d_Lw_law_1259 (lv_at hl 0 rfl) ?_
      refine lv_iconst (v := 1) hx hb d_Lw_law_1261 (by decide) ?_
      refine lv_iadd hx hb d_Lw_law_1262 ?_
      refine gx_topi (y := 1) (by decide) ?_
      refine va_sld hx hb hX hbl hbA hS (i := 1) (gx_inl (by decide)) d_Lw_law_1263 ?_
      refine gx_topi (y := y1) (by rw [hy1]; rfl) ?_
      refine gx_call (ig := .invokevirtual 172) (c_Mo_count_v1 l htr D tys z _ ws cV q46 y1 q47 q48 q49 q50 q51 q52 q53 q54 q62 q70 q78 q79 (um) q80 q81 q82 q83 q84 q85 q86 q87 q88 q89 q90 q91 q92 q93 q94 q95 q96 q97 q98 q99 q100 q101 q102 q103 q104 q105 q106 q107 q108 q109 q110 q111 q112 q113 q114 q115 f_46 f_84 f_92 f_100 f_108 f_83 ht5) (gx_invV (As := [Value.int y1]) (rest := [Value.int 0]) hx hb hown hts km_Lw_172 kI_Mo_count kV_Mo_count kc_Mo_count (by decide) (show (parseMethodDescriptor y_Mo_count.desc).map (fun d => d.parameters.length) = some 1 by decide +kernel) (gx_recv (ci := 8) hK hP rfl f_46) rfl rfl d_Lw_law_1264) (gx_cw (z := 0) hts kc_Mo_count kN_Mo rfl rfl ⟨Nat.le_of_ble_eq_true rfl, Nat.le_of_ble_eq_true rfl⟩) hb hml gx_blind (gx_pre hz hP hK hD hY hS hAz [Value.ref q46, Value.int y1]) rfl hl.1 (lv_room (Nat.le_of_ble_eq_true rfl)) d_Lw_law_1264 ⟨Nat.le_of_ble_eq_true rfl, Nat.le_of_ble_eq_true rfl⟩ (fun v12 st12 t12 L12 h0_12 hW_12 hQ_12 hL_12 => ?_) (fun v12 st12 t12 L12 h0_12 hW_12 hQ_12 hL_12 => ?_)
      · obtain ⟨ws13, hp, hP9, -, hD9, hS9⟩ := gx_back h0_12 hW_12 hQ_12 hL_12 hD hS hA
        clear hQ_12 h0_12 hL_12 hW_12 hP hD hS
        have hP := hP9
        have hD := hD9
        have hS := hS9
        clear hP9 hD9 hS9
        rcases hp with ⟨hv9, e_ws13, f_46_ws13, g12_0⟩ | ⟨hv9, e_ws13, f_46_ws13, g12_0, g12_1⟩ | ⟨hv9, e_ws13, f_46_ws13, g12_0, g12_1, g12_2⟩ | ⟨hv9, e_ws13, f_46_ws13, g12_0, g12_1, g12_2, g12_3⟩ | ⟨hv9, e_ws13, f_46_ws13, g12_0, g12_1, g12_2, g12_3, g12_4⟩ | ⟨hv9, e_ws13, f_46_ws13, g12_0, g12_1, g12_2, g12_3, g12_4, g12_5⟩ | ⟨hv9, e_ws13, f_46_ws13, g12_0, g12_1, g12_2, g12_3, g12_4, g12_5, g12_6⟩ | ⟨hv9, e_ws13, f_46_ws13, g12_0, g12_1, g12_2, g12_3, g12_4, g12_5, g12_6, g12_7⟩ | ⟨hv9, e_ws13, f_46_ws13, g12_0, g12_1, g12_2, g12_3, g12_4, g12_5, g12_6, g12_7, g12_8⟩ | ⟨hv9, e_ws13, f_46_ws13, g12_0, g12_1, g12_2, g12_3, g12_4, g12_5, g12_6, g12_7, g12_8, g12_9⟩ | ⟨hv9, e_ws13, f_46_ws13, g12_0, g12_1, g12_2, g12_3, g12_4, g12_5, g12_6, g12_7, g12_8, g12_9, g12_10⟩ | ⟨hv9, e_ws13, f_46_ws13, g12_0, g12_1, g12_2, g12_3, g12_4, g12_5, g12_6, g12_7, g12_8, g12_9, g12_10, g12_11⟩ | ⟨hv9, e_ws13, f_46_ws13, g12_0, g12_1, g12_2, g12_3, g12_4, g12_5, g12_6, g12_7, g12_8, g12_9, g12_10, g12_11⟩
        · cases hv9
          have f_46_ws13 : ws13[46]? = some ((q46, Sum.inr (8, [Value.int 0, Value.int 0, Value.ref q47, Value.ref q48, Value.ref q49, Value.int 0, Value.ref q50, Value.ref q51, Value.ref q52, Value.ref q53, Value.int 0, Value.int 0, Value.int 0, Value.int (-1), Value.int 0, Value.ref q54, Value.ref q62, Value.ref q70, Value.int 0, Value.int 0, Value.int 0, Value.ref q78, Value.ref q79, Value.int 0, Value.int 16, Value.int 4, um, Value.ref q80, Value.ref q81, Value.ref q82, Value.int 0, Value.ref q83, Value.int 0, Value.int 0, Value.int 0])) : Nat × va_E) := f_46_ws13
          replace hlen : ws13.length = 117 := by rw [e_ws13.1, hlen]
          replace hU : gx_g ws ws13 0 [0, 1, 2, 3, 4, 5, 6, 7, 8, 9, 10, 11, 12, 13, 14, 15, 16, 17, 18, 19, 20, 21, 22, 23, 24, 25, 26, 27, 28, 29, 30, 31, 32, 33, 34, 35, 36, 37, 38, 39, 40, 41, 42, 43, 44, 45, 46, 47, 48, 49, 50, 51, 52, 53, 54, 55, 56, 57, 58, 59, 60, 61, 62, 63, 64, 65, 66, 67, 68, 69, 70, 71, 72, 73, 74, 75, 76, 77, 78, 79, 80, 81, 82, 83, 84, 85, 86, 87, 88, 89, 90, 91, 92, 93, 94, 95, 96, 97, 98, 99, 100, 101, 102, 103, 104, 105, 106, 107, 108, 109, 110, 111, 112, 113, 114, 115, 116] := hU.call e_ws13 (by rw [hlen0]; decide)
          exact absurd g12_0 g1_0
        · cases hv9
          have f_46_ws13 : ws13[46]? = some ((q46, Sum.inr (8, [Value.int 0, Value.int 0, Value.ref q47, Value.ref q48, Value.ref q49, Value.int 0, Value.ref q50, Value.ref q51, Value.ref q52, Value.ref q53, Value.int 0, Value.int 0, Value.int 0, Value.int (-1), Value.int 0, Value.ref q54, Value.ref q62, Value.ref q70, Value.int 0, Value.int 0, Value.int 0, Value.ref q78, Value.ref q79, Value.int 0, Value.int 16, Value.int 4, um, Value.ref q80, Value.ref q81, Value.ref q82, Value.int 0, Value.ref q83, Value.int 0, Value.int 0, Value.int 0])) : Nat × va_E) := f_46_ws13
          replace hlen : ws13.length = 117 := by rw [e_ws13.1, hlen]
          replace hU : gx_g ws ws13 0 [0, 1, 2, 3, 4, 5, 6, 7, 8, 9, 10, 11, 12, 13, 14, 15, 16, 17, 18, 19, 20, 21, 22, 23, 24, 25, 26, 27, 28, 29, 30, 31, 32, 33, 34, 35, 36, 37, 38, 39, 40, 41, 42, 43, 44, 45, 46, 47, 48, 49, 50, 51, 52, 53, 54, 55, 56, 57, 58, 59, 60, 61, 62, 63, 64, 65, 66, 67, 68, 69, 70, 71, 72, 73, 74, 75, 76, 77, 78, 79, 80, 81, 82, 83, 84, 85, 86, 87, 88, 89, 90, 91, 92, 93, 94, 95, 96, 97, 98, 99, 100, 101, 102, 103, 104, 105, 106, 107, 108, 109, 110, 111, 112, 113, 114, 115, 116] := hU.call e_ws13 (by rw [hlen0]; decide)
          exact absurd g12_1 g1_1
        · cases hv9
          have f_46_ws13 : ws13[46]? = some ((q46, Sum.inr (8, [Value.int 0, Value.int 0, Value.ref q47, Value.ref q48, Value.ref q49, Value.int 0, Value.ref q50, Value.ref q51, Value.ref q52, Value.ref q53, Value.int 0, Value.int 0, Value.int 0, Value.int (-1), Value.int 0, Value.ref q54, Value.ref q62, Value.ref q70, Value.int 0, Value.int 0, Value.int 0, Value.ref q78, Value.ref q79, Value.int 0, Value.int 16, Value.int 4, um, Value.ref q80, Value.ref q81, Value.ref q82, Value.int 0, Value.ref q83, Value.int 0, Value.int 0, Value.int 0])) : Nat × va_E) := f_46_ws13
          replace hlen : ws13.length = 117 := by rw [e_ws13.1, hlen]
          replace hU : gx_g ws ws13 0 [0, 1, 2, 3, 4, 5, 6, 7, 8, 9, 10, 11, 12, 13, 14, 15, 16, 17, 18, 19, 20, 21, 22, 23, 24, 25, 26, 27, 28, 29, 30, 31, 32, 33, 34, 35, 36, 37, 38, 39, 40, 41, 42, 43, 44, 45, 46, 47, 48, 49, 50, 51, 52, 53, 54, 55, 56, 57, 58, 59, 60, 61, 62, 63, 64, 65, 66, 67, 68, 69, 70, 71, 72, 73, 74, 75, 76, 77, 78, 79, 80, 81, 82, 83, 84, 85, 86, 87, 88, 89, 90, 91, 92, 93, 94, 95, 96, 97, 98, 99, 100, 101, 102, 103, 104, 105, 106, 107, 108, 109, 110, 111, 112, 113, 114, 115, 116] := hU.call e_ws13 (by rw [hlen0]; decide)
          exact absurd g12_2 g1_2
        · cases hv9
          have f_46_ws13 : ws13[46]? = some ((q46, Sum.inr (8, [Value.int 0, Value.int 0, Value.ref q47, Value.ref q48, Value.ref q49, Value.int 0, Value.ref q50, Value.ref q51, Value.ref q52, Value.ref q53, Value.int 0, Value.int 0, Value.int 0, Value.int (-1), Value.int 0, Value.ref q54, Value.ref q62, Value.ref q70, Value.int 0, Value.int 0, Value.int 0, Value.ref q78, Value.ref q79, Value.int 0, Value.int 16, Value.int 4, um, Value.ref q80, Value.ref q81, Value.ref q82, Value.int 0, Value.ref q83, Value.int 0, Value.int 0, Value.int 0])) : Nat × va_E) := f_46_ws13
          replace hlen : ws13.length = 117 := by rw [e_ws13.1, hlen]
          replace hU : gx_g ws ws13 0 [0, 1, 2, 3, 4, 5, 6, 7, 8, 9, 10, 11, 12, 13, 14, 15, 16, 17, 18, 19, 20, 21, 22, 23, 24, 25, 26, 27, 28, 29, 30, 31, 32, 33, 34, 35, 36, 37, 38, 39, 40, 41, 42, 43, 44, 45, 46, 47, 48, 49, 50, 51, 52, 53, 54, 55, 56, 57, 58, 59, 60, 61, 62, 63, 64, 65, 66, 67, 68, 69, 70, 71, 72, 73, 74, 75, 76, 77, 78, 79, 80, 81, 82, 83, 84, 85, 86, 87, 88, 89, 90, 91, 92, 93, 94, 95, 96, 97, 98, 99, 100, 101, 102, 103, 104, 105, 106, 107, 108, 109, 110, 111, 112, 113, 114, 115, 116] := hU.call e_ws13 (by rw [hlen0]; decide)
          refine W.eq (g2 := F0 m 1267 ls [Value.int 0, Value.int 0]) rfl ?_
          generalize t12.heap = H at hP hS ⊢
          generalize locs ++ L12 = locs at hS ⊢
          refine lv_icmp_eq (tgt := 1272) hx hb d_Lw_law_1267 (by decide) (fun _ => ?_) (fun c9 => absurd (by decide) c9)
          refine W.widen (k := 400) (n := 700000) (by decide) (by decide) ?_
          exact k _ _ ls (by rw [hAe]; exact hS) (lv_sub hl [0, 4] rfl)
        · cases hv9
          have f_46_ws13 : ws13[46]? = some ((q46, Sum.inr (8, [Value.int 0, Value.int 0, Value.ref q47, Value.ref q48, Value.ref q49, Value.int 0, Value.ref q50, Value.ref q51, Value.ref q52, Value.ref q53, Value.int 0, Value.int 0, Value.int 0, Value.int (-1), Value.int 0, Value.ref q54, Value.ref q62, Value.ref q70, Value.int 0, Value.int 0, Value.int 0, Value.ref q78, Value.ref q79, Value.int 0, Value.int 16, Value.int 4, um, Value.ref q80, Value.ref q81, Value.ref q82, Value.int 0, Value.ref q83, Value.int 0, Value.int 0, Value.int 0])) : Nat × va_E) := f_46_ws13
          replace hlen : ws13.length = 117 := by rw [e_ws13.1, hlen]
          replace hU : gx_g ws ws13 0 [0, 1, 2, 3, 4, 5, 6, 7, 8, 9, 10, 11, 12, 13, 14, 15, 16, 17, 18, 19, 20, 21, 22, 23, 24, 25, 26, 27, 28, 29, 30, 31, 32, 33, 34, 35, 36, 37, 38, 39, 40, 41, 42, 43, 44, 45, 46, 47, 48, 49, 50, 51, 52, 53, 54, 55, 56, 57, 58, 59, 60, 61, 62, 63, 64, 65, 66, 67, 68, 69, 70, 71, 72, 73, 74, 75, 76, 77, 78, 79, 80, 81, 82, 83, 84, 85, 86, 87, 88, 89, 90, 91, 92, 93, 94, 95, 96, 97, 98, 99, 100, 101, 102, 103, 104, 105, 106, 107, 108, 109, 110, 111, 112, 113, 114, 115, 116] := hU.call e_ws13 (by rw [hlen0]; decide)
          exact absurd g1_3 g12_3
        · cases hv9
          have f_46_ws13 : ws13[46]? = some ((q46, Sum.inr (8, [Value.int 0, Value.int 0, Value.ref q47, Value.ref q48, Value.ref q49, Value.int 0, Value.ref q50, Value.ref q51, Value.ref q52, Value.ref q53, Value.int 0, Value.int 0, Value.int 0, Value.int (-1), Value.int 0, Value.ref q54, Value.ref q62, Value.ref q70, Value.int 0, Value.int 0, Value.int 0, Value.ref q78, Value.ref q79, Value.int 0, Value.int 16, Value.int 4, um, Value.ref q80, Value.ref q81, Value.ref q82, Value.int 0, Value.ref q83, Value.int 0, Value.int 0, Value.int 0])) : Nat × va_E) := f_46_ws13
          replace hlen : ws13.length = 117 := by rw [e_ws13.1, hlen]
          replace hU : gx_g ws ws13 0 [0, 1, 2, 3, 4, 5, 6, 7, 8, 9, 10, 11, 12, 13, 14, 15, 16, 17, 18, 19, 20, 21, 22, 23, 24, 25, 26, 27, 28, 29, 30, 31, 32, 33, 34, 35, 36, 37, 38, 39, 40, 41, 42, 43, 44, 45, 46, 47, 48, 49, 50, 51, 52, 53, 54, 55, 56, 57, 58, 59, 60, 61, 62, 63, 64, 65, 66, 67, 68, 69, 70, 71, 72, 73, 74, 75, 76, 77, 78, 79, 80, 81, 82, 83, 84, 85, 86, 87, 88, 89, 90, 91, 92, 93, 94, 95, 96, 97, 98, 99, 100, 101, 102, 103, 104, 105, 106, 107, 108, 109, 110, 111, 112, 113, 114, 115, 116] := hU.call e_ws13 (by rw [hlen0]; decide)
          exact absurd g1_3 g12_3
        · cases hv9
          have f_46_ws13 : ws13[46]? = some ((q46, Sum.inr (8, [Value.int 0, Value.int 0, Value.ref q47, Value.ref q48, Value.ref q49, Value.int 0, Value.ref q50, Value.ref q51, Value.ref q52, Value.ref q53, Value.int 0, Value.int 0, Value.int 0, Value.int (-1), Value.int 0, Value.ref q54, Value.ref q62, Value.ref q70, Value.int 0, Value.int 0, Value.int 0, Value.ref q78, Value.ref q79, Value.int 0, Value.int 16, Value.int 4, um, Value.ref q80, Value.ref q81, Value.ref q82, Value.int 0, Value.ref q83, Value.int 0, Value.int 0, Value.int 0])) : Nat × va_E) := f_46_ws13
          replace hlen : ws13.length = 117 := by rw [e_ws13.1, hlen]
          replace hU : gx_g ws ws13 0 [0, 1, 2, 3, 4, 5, 6, 7, 8, 9, 10, 11, 12, 13, 14, 15, 16, 17, 18, 19, 20, 21, 22, 23, 24, 25, 26, 27, 28, 29, 30, 31, 32, 33, 34, 35, 36, 37, 38, 39, 40, 41, 42, 43, 44, 45, 46, 47, 48, 49, 50, 51, 52, 53, 54, 55, 56, 57, 58, 59, 60, 61, 62, 63, 64, 65, 66, 67, 68, 69, 70, 71, 72, 73, 74, 75, 76, 77, 78, 79, 80, 81, 82, 83, 84, 85, 86, 87, 88, 89, 90, 91, 92, 93, 94, 95, 96, 97, 98, 99, 100, 101, 102, 103, 104, 105, 106, 107, 108, 109, 110, 111, 112, 113, 114, 115, 116] := hU.call e_ws13 (by rw [hlen0]; decide)
          exact absurd g1_3 g12_3
        · cases hv9
          have f_46_ws13 : ws13[46]? = some ((q46, Sum.inr (8, [Value.int 0, Value.int 0, Value.ref q47, Value.ref q48, Value.ref q49, Value.int 0, Value.ref q50, Value.ref q51, Value.ref q52, Value.ref q53, Value.int 0, Value.int 0, Value.int 0, Value.int (-1), Value.int 0, Value.ref q54, Value.ref q62, Value.ref q70, Value.int 0, Value.int 0, Value.int 0, Value.ref q78, Value.ref q79, Value.int 0, Value.int 16, Value.int 4, um, Value.ref q80, Value.ref q81, Value.ref q82, Value.int 0, Value.ref q83, Value.int 0, Value.int 0, Value.int 0])) : Nat × va_E) := f_46_ws13
          replace hlen : ws13.length = 117 := by rw [e_ws13.1, hlen]
          replace hU : gx_g ws ws13 0 [0, 1, 2, 3, 4, 5, 6, 7, 8, 9, 10, 11, 12, 13, 14, 15, 16, 17, 18, 19, 20, 21, 22, 23, 24, 25, 26, 27, 28, 29, 30, 31, 32, 33, 34, 35, 36, 37, 38, 39, 40, 41, 42, 43, 44, 45, 46, 47, 48, 49, 50, 51, 52, 53, 54, 55, 56, 57, 58, 59, 60, 61, 62, 63, 64, 65, 66, 67, 68, 69, 70, 71, 72, 73, 74, 75, 76, 77, 78, 79, 80, 81, 82, 83, 84, 85, 86, 87, 88, 89, 90, 91, 92, 93, 94, 95, 96, 97, 98, 99, 100, 101, 102, 103, 104, 105, 106, 107, 108, 109, 110, 111, 112, 113, 114, 115, 116] := hU.call e_ws13 (by rw [hlen0]; decide)
          exact absurd g1_3 g12_3
        · cases hv9
          have f_46_ws13 : ws13[46]? = some ((q46, Sum.inr (8, [Value.int 0, Value.int 0, Value.ref q47, Value.ref q48, Value.ref q49, Value.int 0, Value.ref q50, Value.ref q51, Value.ref q52, Value.ref q53, Value.int 0, Value.int 0, Value.int 0, Value.int (-1), Value.int 0, Value.ref q54, Value.ref q62, Value.ref q70, Value.int 0, Value.int 0, Value.int 0, Value.ref q78, Value.ref q79, Value.int 0, Value.int 16, Value.int 4, um, Value.ref q80, Value.ref q81, Value.ref q82, Value.int 0, Value.ref q83, Value.int 0, Value.int 0, Value.int 0])) : Nat × va_E) := f_46_ws13
          replace hlen : ws13.length = 117 := by rw [e_ws13.1, hlen]
          replace hU : gx_g ws ws13 0 [0, 1, 2, 3, 4, 5, 6, 7, 8, 9, 10, 11, 12, 13, 14, 15, 16, 17, 18, 19, 20, 21, 22, 23, 24, 25, 26, 27, 28, 29, 30, 31, 32, 33, 34, 35, 36, 37, 38, 39, 40, 41, 42, 43, 44, 45, 46, 47, 48, 49, 50, 51, 52, 53, 54, 55, 56, 57, 58, 59, 60, 61, 62, 63, 64, 65, 66, 67, 68, 69, 70, 71, 72, 73, 74, 75, 76, 77, 78, 79, 80, 81, 82, 83, 84, 85, 86, 87, 88, 89, 90, 91, 92, 93, 94, 95, 96, 97, 98, 99, 100, 101, 102, 103, 104, 105, 106, 107, 108, 109, 110, 111, 112, 113, 114, 115, 116] := hU.call e_ws13 (by rw [hlen0]; decide)
          exact absurd g1_3 g12_3
        · cases hv9
          have f_46_ws13 : ws13[46]? = some ((q46, Sum.inr (8, [Value.int 0, Value.int 0, Value.ref q47, Value.ref q48, Value.ref q49, Value.int 0, Value.ref q50, Value.ref q51, Value.ref q52, Value.ref q53, Value.int 0, Value.int 0, Value.int 0, Value.int (-1), Value.int 0, Value.ref q54, Value.ref q62, Value.ref q70, Value.int 0, Value.int 0, Value.int 0, Value.ref q78, Value.ref q79, Value.int 0, Value.int 16, Value.int 4, um, Value.ref q80, Value.ref q81, Value.ref q82, Value.int 0, Value.ref q83, Value.int 0, Value.int 0, Value.int 0])) : Nat × va_E) := f_46_ws13
          replace hlen : ws13.length = 117 := by rw [e_ws13.1, hlen]
          replace hU : gx_g ws ws13 0 [0, 1, 2, 3, 4, 5, 6, 7, 8, 9, 10, 11, 12, 13, 14, 15, 16, 17, 18, 19, 20, 21, 22, 23, 24, 25, 26, 27, 28, 29, 30, 31, 32, 33, 34, 35, 36, 37, 38, 39, 40, 41, 42, 43, 44, 45, 46, 47, 48, 49, 50, 51, 52, 53, 54, 55, 56, 57, 58, 59, 60, 61, 62, 63, 64, 65, 66, 67, 68, 69, 70, 71, 72, 73, 74, 75, 76, 77, 78, 79, 80, 81, 82, 83, 84, 85, 86, 87, 88, 89, 90, 91, 92, 93, 94, 95, 96, 97, 98, 99, 100, 101, 102, 103, 104, 105, 106, 107, 108, 109, 110, 111, 112, 113, 114, 115, 116] := hU.call e_ws13 (by rw [hlen0]; decide)
          exact absurd g1_3 g12_3
        · cases hv9
          have f_46_ws13 : ws13[46]? = some ((q46, Sum.inr (8, [Value.int 0, Value.int 0, Value.ref q47, Value.ref q48, Value.ref q49, Value.int 0, Value.ref q50, Value.ref q51, Value.ref q52, Value.ref q53, Value.int 0, Value.int 0, Value.int 0, Value.int (-1), Value.int 0, Value.ref q54, Value.ref q62, Value.ref q70, Value.int 0, Value.int 0, Value.int 0, Value.ref q78, Value.ref q79, Value.int 0, Value.int 16, Value.int 4, um, Value.ref q80, Value.ref q81, Value.ref q82, Value.int 0, Value.ref q83, Value.int 0, Value.int 0, Value.int 0])) : Nat × va_E) := f_46_ws13
          replace hlen : ws13.length = 117 := by rw [e_ws13.1, hlen]
          replace hU : gx_g ws ws13 0 [0, 1, 2, 3, 4, 5, 6, 7, 8, 9, 10, 11, 12, 13, 14, 15, 16, 17, 18, 19, 20, 21, 22, 23, 24, 25, 26, 27, 28, 29, 30, 31, 32, 33, 34, 35, 36, 37, 38, 39, 40, 41, 42, 43, 44, 45, 46, 47, 48, 49, 50, 51, 52, 53, 54, 55, 56, 57, 58, 59, 60, 61, 62, 63, 64, 65, 66, 67, 68, 69, 70, 71, 72, 73, 74, 75, 76, 77, 78, 79, 80, 81, 82, 83, 84, 85, 86, 87, 88, 89, 90, 91, 92, 93, 94, 95, 96, 97, 98, 99, 100, 101, 102, 103, 104, 105, 106, 107, 108, 109, 110, 111, 112, 113, 114, 115, 116] := hU.call e_ws13 (by rw [hlen0]; decide)
          exact absurd g1_3 g12_3
        · cases hv9
          have f_46_ws13 : ws13[46]? = some ((q46, Sum.inr (8, [Value.int 0, Value.int 0, Value.ref q47, Value.ref q48, Value.ref q49, Value.int 0, Value.ref q50, Value.ref q51, Value.ref q52, Value.ref q53, Value.int 0, Value.int 0, Value.int 0, Value.int (-1), Value.int 0, Value.ref q54, Value.ref q62, Value.ref q70, Value.int 0, Value.int 0, Value.int 0, Value.ref q78, Value.ref q79, Value.int 0, Value.int 16, Value.int 4, um, Value.ref q80, Value.ref q81, Value.ref q82, Value.int 0, Value.ref q83, Value.int 0, Value.int 0, Value.int 0])) : Nat × va_E) := f_46_ws13
          replace hlen : ws13.length = 117 := by rw [e_ws13.1, hlen]
          replace hU : gx_g ws ws13 0 [0, 1, 2, 3, 4, 5, 6, 7, 8, 9, 10, 11, 12, 13, 14, 15, 16, 17, 18, 19, 20, 21, 22, 23, 24, 25, 26, 27, 28, 29, 30, 31, 32, 33, 34, 35, 36, 37, 38, 39, 40, 41, 42, 43, 44, 45, 46, 47, 48, 49, 50, 51, 52, 53, 54, 55, 56, 57, 58, 59, 60, 61, 62, 63, 64, 65, 66, 67, 68, 69, 70, 71, 72, 73, 74, 75, 76, 77, 78, 79, 80, 81, 82, 83, 84, 85, 86, 87, 88, 89, 90, 91, 92, 93, 94, 95, 96, 97, 98, 99, 100, 101, 102, 103, 104, 105, 106, 107, 108, 109, 110, 111, 112, 113, 114, 115, 116] := hU.call e_ws13 (by rw [hlen0]; decide)
          exact absurd g1_3 g12_3
        · cases hv9
          have f_46_ws13 : ws13[46]? = some ((q46, Sum.inr (8, [Value.int 0, Value.int 0, Value.ref q47, Value.ref q48, Value.ref q49, Value.int 0, Value.ref q50, Value.ref q51, Value.ref q52, Value.ref q53, Value.int 0, Value.int 0, Value.int 0, Value.int (-1), Value.int 0, Value.ref q54, Value.ref q62, Value.ref q70, Value.int 0, Value.int 0, Value.int 0, Value.ref q78, Value.ref q79, Value.int 0, Value.int 16, Value.int 4, um, Value.ref q80, Value.ref q81, Value.ref q82, Value.int 0, Value.ref q83, Value.int 0, Value.int 0, Value.int 0])) : Nat × va_E) := f_46_ws13
          replace hlen : ws13.length = 117 := by rw [e_ws13.1, hlen]
          replace hU : gx_g ws ws13 0 [0, 1, 2, 3, 4, 5, 6, 7, 8, 9, 10, 11, 12, 13, 14, 15, 16, 17, 18, 19, 20, 21, 22, 23, 24, 25, 26, 27, 28, 29, 30, 31, 32, 33, 34, 35, 36, 37, 38, 39, 40, 41, 42, 43, 44, 45, 46, 47, 48, 49, 50, 51, 52, 53, 54, 55, 56, 57, 58, 59, 60, 61, 62, 63, 64, 65, 66, 67, 68, 69, 70, 71, 72, 73, 74, 75, 76, 77, 78, 79, 80, 81, 82, 83, 84, 85, 86, 87, 88, 89, 90, 91, 92, 93, 94, 95, 96, 97, 98, 99, 100, 101, 102, 103, 104, 105, 106, 107, 108, 109, 110, 111, 112, 113, 114, 115, 116] := hU.call e_ws13 (by rw [hlen0]; decide)
          exact absurd g1_3 g12_3
      · obtain ⟨E9, ws14, ce, hp, hce, hP9, -, hD9, hS9⟩ := gx_backT h0_12 hW_12 hQ_12 hL_12 hD hS hA
        clear hQ_12 h0_12 hL_12 hW_12 hP hD hS
        have hP := hP9
        have hD := hD9
        have hS := hS9
        clear hP9 hD9 hS9
        rcases hp with ⟨hv9, e_ws14, f_46_ws14, g12_0⟩ | ⟨hv9, e_ws14, f_46_ws14, g12_0, g12_1⟩ | ⟨hv9, e_ws14, f_46_ws14, g12_0, g12_1, g12_2⟩ | ⟨hv9, e_ws14, f_46_ws14, g12_0, g12_1, g12_2, g12_3⟩ | ⟨hv9, e_ws14, f_46_ws14, g12_0, g12_1, g12_2, g12_3, g12_4⟩ | ⟨hv9, e_ws14, f_46_ws14, g12_0, g12_1, g12_2, g12_3, g12_4, g12_5⟩ | ⟨hv9, e_ws14, f_46_ws14, g12_0, g12_1, g12_2, g12_3, g12_4, g12_5, g12_6⟩ | ⟨hv9, e_ws14, f_46_ws14, g12_0, g12_1, g12_2, g12_3, g12_4, g12_5, g12_6, g12_7⟩ | ⟨hv9, e_ws14, f_46_ws14, g12_0, g12_1, g12_2, g12_3, g12_4, g12_5, g12_6, g12_7, g12_8⟩ | ⟨hv9, e_ws14, f_46_ws14, g12_0, g12_1, g12_2, g12_3, g12_4, g12_5, g12_6, g12_7, g12_8, g12_9⟩ | ⟨hv9, e_ws14, f_46_ws14, g12_0, g12_1, g12_2, g12_3, g12_4, g12_5, g12_6, g12_7, g12_8, g12_9, g12_10⟩ | ⟨hv9, e_ws14, f_46_ws14, g12_0, g12_1, g12_2, g12_3, g12_4, g12_5, g12_6, g12_7, g12_8, g12_9, g12_10, g12_11⟩ | ⟨hv9, e_ws14, f_46_ws14, g12_0, g12_1, g12_2, g12_3, g12_4, g12_5, g12_6, g12_7, g12_8, g12_9, g12_10, g12_11⟩
        · cases hv9
        · cases hv9
        · cases hv9
        · cases hv9
        · cases hv9
        · cases hv9
        · cases hv9
        · cases hv9
        · cases hv9
        · cases hv9
        · cases hv9
        · cases hv9
        · cases hv9
    · cases hv9
      rw [e_ws2] at hP hD
      refine W.eq (g2 := F0 m 1257 ls [Value.int 0]) rfl ?_
      generalize t1.heap = H at hP hS ⊢
      generalize locs ++ L1 = locs at hS ⊢
      refine lv_aload_n hx hb d_Lw_law_1257 rfl (lv_at hl 2 rfl) ?_
      refine lv_aload_n hx hb d_Lw_law_1258 rfl (lv_at hl 4 rfl) ?_
      refine lv_iload hx hb d_Lw_law_1259 (lv_at hl 0 rfl) ?_
      refine lv_iconst (v := 1) hx hb d_Lw_law_1261 (by decide) ?_
      refine lv_iadd hx hb d_Lw_law_1262 ?_
      refine gx_topi (y := 1) (by decide) ?_
      refine va_sld hx hb hX hbl hbA hS (i := 1) (gx_inl (by decide)) d_Lw_law_1263 ?_
      refine gx_topi (y := y1) (by rw [hy1]; rfl) ?_
      refine gx_call (ig := .invokevirtual 172) (c_Mo_count_v1 l htr D tys z _ ws cV q46 y1 q47 q48 q49 q50 q51 q52 q53 q54 q62 q70 q78 q79 (um) q80 q81 q82 q83 q84 q85 q86 q87 q88 q89 q90 q91 q92 q93 q94 q95 q96 q97 q98 q99 q100 q101 q102 q103 q104 q105 q106 q107 q108 q109 q110 q111 q112 q113 q114 q115 f_46 f_84 f_92 f_100 f_108 f_83 ht5) (gx_invV (As := [Value.int y1]) (rest := [Value.int 0]) hx hb hown hts km_Lw_172 kI_Mo_count kV_Mo_count kc_Mo_count (by decide) (show (parseMethodDescriptor y_Mo_count.desc).map (fun d => d.parameters.length) = some 1 by decide +kernel) (gx_recv (ci := 8) hK hP rfl f_46) rfl rfl d_Lw_law_1264) (gx_cw (z := 0) hts kc_Mo_count kN_Mo rfl rfl ⟨Nat.le_of_ble_eq_true rfl, Nat.le_of_ble_eq_true rfl⟩) hb hml gx_blind (gx_pre hz hP hK hD hY hS hAz [Value.ref q46, Value.int y1]) rfl hl.1 (lv_room (Nat.le_of_ble_eq_true rfl)) d_Lw_law_1264 ⟨Nat.le_of_ble_eq_true rfl, Nat.le_of_ble_eq_true rfl⟩ (fun v15 st15 t15 L15 h0_15 hW_15 hQ_15 hL_15 => ?_) (fun v15 st15 t15 L15 h0_15 hW_15 hQ_15 hL_15 => ?_)
      · obtain ⟨ws16, hp, hP9, -, hD9, hS9⟩ := gx_back h0_15 hW_15 hQ_15 hL_15 hD hS hA
        clear hQ_15 h0_15 hL_15 hW_15 hP hD hS
        have hP := hP9
        have hD := hD9
        have hS := hS9
        clear hP9 hD9 hS9
        rcases hp with ⟨hv9, e_ws16, f_46_ws16, g15_0⟩ | ⟨hv9, e_ws16, f_46_ws16, g15_0, g15_1⟩ | ⟨hv9, e_ws16, f_46_ws16, g15_0, g15_1, g15_2⟩ | ⟨hv9, e_ws16, f_46_ws16, g15_0, g15_1, g15_2, g15_3⟩ | ⟨hv9, e_ws16, f_46_ws16, g15_0, g15_1, g15_2, g15_3, g15_4⟩ | ⟨hv9, e_ws16, f_46_ws16, g15_0, g15_1, g15_2, g15_3, g15_4, g15_5⟩ | ⟨hv9, e_ws16, f_46_ws16, g15_0, g15_1, g15_2, g15_3, g15_4, g15_5, g15_6⟩ | ⟨hv9, e_ws16, f_46_ws16, g15_0, g15_1, g15_2, g15_3, g15_4, g15_5, g15_6, g15_7⟩ | ⟨hv9, e_ws16, f_46_ws16, g15_0, g15_1, g15_2, g15_3, g15_4, g15_5, g15_6, g15_7, g15_8⟩ | ⟨hv9, e_ws16, f_46_ws16, g15_0, g15_1, g15_2, g15_3, g15_4, g15_5, g15_6, g15_7, g15_8, g15_9⟩ | ⟨hv9, e_ws16, f_46_ws16, g15_0, g15_1, g15_2, g15_3, g15_4, g15_5, g15_6, g15_7, g15_8, g15_9, g15_10⟩ | ⟨hv9, e_ws16, f_46_ws16, g15_0, g15_1, g15_2, g15_3, g15_4, g15_5, g15_6, g15_7, g15_8, g15_9, g15_10, g15_11⟩ | ⟨hv9, e_ws16, f_46_ws16, g15_0, g15_1, g15_2, g15_3, g15_4, g15_5, g15_6, g15_7, g15_8, g15_9, g15_10, g15_11⟩
        · cases hv9
          have f_46_ws16 : ws16[46]? = some ((q46, Sum.inr (8, [Value.int 0, Value.int 0, Value.ref q47, Value.ref q48, Value.ref q49, Value.int 0, Value.ref q50, Value.ref q51, Value.ref q52, Value.ref q53, Value.int 0, Value.int 0, Value.int 0, Value.int (-1), Value.int 0, Value.ref q54, Value.ref q62, Value.ref q70, Value.int 0, Value.int 0, Value.int 0, Value.ref q78, Value.ref q79, Value.int 0, Value.int 16, Value.int 4, um, Value.ref q80, Value.ref q81, Value.ref q82, Value.int 0, Value.ref q83, Value.int 0, Value.int 0, Value.int 0])) : Nat × va_E) := f_46_ws16
          replace hlen : ws16.length = 117 := by rw [e_ws16.1, hlen]
          replace hU : gx_g ws ws16 0 [0, 1, 2, 3, 4, 5, 6, 7, 8, 9, 10, 11, 12, 13, 14, 15, 16, 17, 18, 19, 20, 21, 22, 23, 24, 25, 26, 27, 28, 29, 30, 31, 32, 33, 34, 35, 36, 37, 38, 39, 40, 41, 42, 43, 44, 45, 46, 47, 48, 49, 50, 51, 52, 53, 54, 55, 56, 57, 58, 59, 60, 61, 62, 63, 64, 65, 66, 67, 68, 69, 70, 71, 72, 73, 74, 75, 76, 77, 78, 79, 80, 81, 82, 83, 84, 85, 86, 87, 88, 89, 90, 91, 92, 93, 94, 95, 96, 97, 98, 99, 100, 101, 102, 103, 104, 105, 106, 107, 108, 109, 110, 111, 112, 113, 114, 115, 116] := hU.call e_ws16 (by rw [hlen0]; decide)
          exact absurd g15_0 g1_0
        · cases hv9
          have f_46_ws16 : ws16[46]? = some ((q46, Sum.inr (8, [Value.int 0, Value.int 0, Value.ref q47, Value.ref q48, Value.ref q49, Value.int 0, Value.ref q50, Value.ref q51, Value.ref q52, Value.ref q53, Value.int 0, Value.int 0, Value.int 0, Value.int (-1), Value.int 0, Value.ref q54, Value.ref q62, Value.ref q70, Value.int 0, Value.int 0, Value.int 0, Value.ref q78, Value.ref q79, Value.int 0, Value.int 16, Value.int 4, um, Value.ref q80, Value.ref q81, Value.ref q82, Value.int 0, Value.ref q83, Value.int 0, Value.int 0, Value.int 0])) : Nat × va_E) := f_46_ws16
          replace hlen : ws16.length = 117 := by rw [e_ws16.1, hlen]
          replace hU : gx_g ws ws16 0 [0, 1, 2, 3, 4, 5, 6, 7, 8, 9, 10, 11, 12, 13, 14, 15, 16, 17, 18, 19, 20, 21, 22, 23, 24, 25, 26, 27, 28, 29, 30, 31, 32, 33, 34, 35, 36, 37, 38, 39, 40, 41, 42, 43, 44, 45, 46, 47, 48, 49, 50, 51, 52, 53, 54, 55, 56, 57, 58, 59, 60, 61, 62, 63, 64, 65, 66, 67, 68, 69, 70, 71, 72, 73, 74, 75, 76, 77, 78, 79, 80, 81, 82, 83, 84, 85, 86, 87, 88, 89, 90, 91, 92, 93, 94, 95, 96, 97, 98, 99, 100, 101, 102, 103, 104, 105, 106, 107, 108, 109, 110, 111, 112, 113, 114, 115, 116] := hU.call e_ws16 (by rw [hlen0]; decide)
          exact absurd g15_1 g1_1
        · cases hv9
          have f_46_ws16 : ws16[46]? = some ((q46, Sum.inr (8, [Value.int 0, Value.int 0, Value.ref q47, Value.ref q48, Value.ref q49, Value.int 0, Value.ref q50, Value.ref q51, Value.ref q52, Value.ref q53, Value.int 0, Value.int 0, Value.int 0, Value.int (-1), Value.int 0, Value.ref q54, Value.ref q62, Value.ref q70, Value.int 0, Value.int 0, Value.int 0, Value.ref q78, Value.ref q79, Value.int 0, Value.int 16, Value.int 4, um, Value.ref q80, Value.ref q81, Value.ref q82, Value.int 0, Value.ref q83, Value.int 0, Value.int 0, Value.int 0])) : Nat × va_E) := f_46_ws16
          replace hlen : ws16.length = 117 := by rw [e_ws16.1, hlen]
          replace hU : gx_g ws ws16 0 [0, 1, 2, 3, 4, 5, 6, 7, 8, 9, 10, 11, 12, 13, 14, 15, 16, 17, 18, 19, 20, 21, 22, 23, 24, 25, 26, 27, 28, 29, 30, 31, 32, 33, 34, 35, 36, 37, 38, 39, 40, 41, 42, 43, 44, 45, 46, 47, 48, 49, 50, 51, 52, 53, 54, 55, 56, 57, 58, 59, 60, 61, 62, 63, 64, 65, 66, 67, 68, 69, 70, 71, 72, 73, 74, 75, 76, 77, 78, 79, 80, 81, 82, 83, 84, 85, 86, 87, 88, 89, 90, 91, 92, 93, 94, 95, 96, 97, 98, 99, 100, 101, 102, 103, 104, 105, 106, 107, 108, 109, 110, 111, 112, 113, 114, 115, 116] := hU.call e_ws16 (by rw [hlen0]; decide)
          exact absurd g15_2 g1_2
        · cases hv9
          have f_46_ws16 : ws16[46]? = some ((q46, Sum.inr (8, [Value.int 0, Value.int 0, Value.ref q47, Value.ref q48, Value.ref q49, Value.int 0, Value.ref q50, Value.ref q51, Value.ref q52, Value.ref q53, Value.int 0, Value.int 0, Value.int 0, Value.int (-1), Value.int 0, Value.ref q54, Value.ref q62, Value.ref q70, Value.int 0, Value.int 0, Value.int 0, Value.ref q78, Value.ref q79, Value.int 0, Value.int 16, Value.int 4, um, Value.ref q80, Value.ref q81, Value.ref q82, Value.int 0, Value.ref q83, Value.int 0, Value.int 0, Value.int 0])) : Nat × va_E) := f_46_ws16
          replace hlen : ws16.length = 117 := by rw [e_ws16.1, hlen]
          replace hU : gx_g ws ws16 0 [0, 1, 2, 3, 4, 5, 6, 7, 8, 9, 10, 11, 12, 13, 14, 15, 16, 17, 18, 19, 20, 21, 22, 23, 24, 25, 26, 27, 28, 29, 30, 31, 32, 33, 34, 35, 36, 37, 38, 39, 40, 41, 42, 43, 44, 45, 46, 47, 48, 49, 50, 51, 52, 53, 54, 55, 56, 57, 58, 59, 60, 61, 62, 63, 64, 65, 66, 67, 68, 69, 70, 71, 72, 73, 74, 75, 76, 77, 78, 79, 80, 81, 82, 83, 84, 85, 86, 87, 88, 89, 90, 91, 92, 93, 94, 95, 96, 97, 98, 99, 100, 101, 102, 103, 104, 105, 106, 107, 108, 109, 110, 111, 112, 113, 114, 115, 116] := hU.call e_ws16 (by rw [hlen0]; decide)
          exact absurd g15_3 g1_3
        · cases hv9
          have f_46_ws16 : ws16[46]? = some ((q46, Sum.inr (8, [Value.int 0, Value.int 0, Value.ref q47, Value.ref q48, Value.ref q49, Value.int 0, Value.ref q50, Value.ref q51, Value.ref q52, Value.ref q53, Value.int 0, Value.int 0, Value.int 0, Value.int (-1), Value.int 0, Value.ref q54, Value.ref q62, Value.ref q70, Value.int 0, Value.int 0, Value.int 0, Value.ref q78, Value.ref q79, Value.int 0, Value.int 16, Value.int 4, um, Value.ref q80, Value.ref q81, Value.ref q82, Value.int 0, Value.ref q83, Value.int 0, Value.int 0, Value.int 0])) : Nat × va_E) := f_46_ws16
          replace hlen : ws16.length = 117 := by rw [e_ws16.1, hlen]
          replace hU : gx_g ws ws16 0 [0, 1, 2, 3, 4, 5, 6, 7, 8, 9, 10, 11, 12, 13, 14, 15, 16, 17, 18, 19, 20, 21, 22, 23, 24, 25, 26, 27, 28, 29, 30, 31, 32, 33, 34, 35, 36, 37, 38, 39, 40, 41, 42, 43, 44, 45, 46, 47, 48, 49, 50, 51, 52, 53, 54, 55, 56, 57, 58, 59, 60, 61, 62, 63, 64, 65, 66, 67, 68, 69, 70, 71, 72, 73, 74, 75, 76, 77, 78, 79, 80, 81, 82, 83, 84, 85, 86, 87, 88, 89, 90, 91, 92, 93, 94, 95, 96, 97, 98, 99, 100, 101, 102, 103, 104, 105, 106, 107, 108, 109, 110, 111, 112, 113, 114, 115, 116] := hU.call e_ws16 (by rw [hlen0]; decide)
          refine W.eq (g2 := F0 m 1267 ls [Value.int 0, Value.int 0]) rfl ?_
          generalize t15.heap = H at hP hS ⊢
          generalize locs ++ L15 = locs at hS ⊢
          refine lv_icmp_eq (tgt := 1272) hx hb d_Lw_law_1267 (by decide) (fun _ => ?_) (fun c9 => absurd (by decide) c9)
          refine W.widen (k := 400) (n := 700000) (by decide) (by decide) ?_
          exact k _ _ ls (by rw [hAe]; exact hS) (lv_sub hl [0, 4] rfl)
        · cases hv9
          have f_46_ws16 : ws16[46]? = some ((q46, Sum.inr (8, [Value.int 0, Value.int 0, Value.ref q47, Value.ref q48, Value.ref q49, Value.int 0, Value.ref q50, Value.ref q51, Value.ref q52, Value.ref q53, Value.int 0, Value.int 0, Value.int 0, Value.int (-1), Value.int 0, Value.ref q54, Value.ref q62, Value.ref q70, Value.int 0, Value.int 0, Value.int 0, Value.ref q78, Value.ref q79, Value.int 0, Value.int 16, Value.int 4, um, Value.ref q80, Value.ref q81, Value.ref q82, Value.int 0, Value.ref q83, Value.int 0, Value.int 0, Value.int 0])) : Nat × va_E) := f_46_ws16
          replace hlen : ws16.length = 117 := by rw [e_ws16.1, hlen]
          replace hU : gx_g ws ws16 0 [0, 1, 2, 3, 4, 5, 6, 7, 8, 9, 10, 11, 12, 13, 14, 15, 16, 17, 18, 19, 20, 21, 22, 23, 24, 25, 26, 27, 28, 29, 30, 31, 32, 33, 34, 35, 36, 37, 38, 39, 40, 41, 42, 43, 44, 45, 46, 47, 48, 49, 50, 51, 52, 53, 54, 55, 56, 57, 58, 59, 60, 61, 62, 63, 64, 65, 66, 67, 68, 69, 70, 71, 72, 73, 74, 75, 76, 77, 78, 79, 80, 81, 82, 83, 84, 85, 86, 87, 88, 89, 90, 91, 92, 93, 94, 95, 96, 97, 98, 99, 100, 101, 102, 103, 104, 105, 106, 107, 108, 109, 110, 111, 112, 113, 114, 115, 116] := hU.call e_ws16 (by rw [hlen0]; decide)
          exact absurd g1_4 g15_4
        · cases hv9
          have f_46_ws16 : ws16[46]? = some ((q46, Sum.inr (8, [Value.int 0, Value.int 0, Value.ref q47, Value.ref q48, Value.ref q49, Value.int 0, Value.ref q50, Value.ref q51, Value.ref q52, Value.ref q53, Value.int 0, Value.int 0, Value.int 0, Value.int (-1), Value.int 0, Value.ref q54, Value.ref q62, Value.ref q70, Value.int 0, Value.int 0, Value.int 0, Value.ref q78, Value.ref q79, Value.int 0, Value.int 16, Value.int 4, um, Value.ref q80, Value.ref q81, Value.ref q82, Value.int 0, Value.ref q83, Value.int 0, Value.int 0, Value.int 0])) : Nat × va_E) := f_46_ws16
          replace hlen : ws16.length = 117 := by rw [e_ws16.1, hlen]
          replace hU : gx_g ws ws16 0 [0, 1, 2, 3, 4, 5, 6, 7, 8, 9, 10, 11, 12, 13, 14, 15, 16, 17, 18, 19, 20, 21, 22, 23, 24, 25, 26, 27, 28, 29, 30, 31, 32, 33, 34, 35, 36, 37, 38, 39, 40, 41, 42, 43, 44, 45, 46, 47, 48, 49, 50, 51, 52, 53, 54, 55, 56, 57, 58, 59, 60, 61, 62, 63, 64, 65, 66, 67, 68, 69, 70, 71, 72, 73, 74, 75, 76, 77, 78, 79, 80, 81, 82, 83, 84, 85, 86, 87, 88, 89, 90, 91, 92, 93, 94, 95, 96, 97, 98, 99, 100, 101, 102, 103, 104, 105, 106, 107, 108, 109, 110, 111, 112, 113, 114, 115, 116] := hU.call e_ws16 (by rw [hlen0]; decide)
          exact absurd g1_4 g15_4
        · cases hv9
          have f_46_ws16 : ws16[46]? = some ((q46, Sum.inr (8, [Value.int 0, Value.int 0, Value.ref q47, Value.ref q48, Value.ref q49, Value.int 0, Value.ref q50, Value.ref q51, Value.ref q52, Value.ref q53, Value.int 0, Value.int 0, Value.int 0, Value.int (-1), Value.int 0, Value.ref q54, Value.ref q62, Value.ref q70, Value.int 0, Value.int 0, Value.int 0, Value.ref q78, Value.ref q79, Value.int 0, Value.int 16, Value.int 4, um, Value.ref q80, Value.ref q81, Value.ref q82, Value.int 0, Value.ref q83, Value.int 0, Value.int 0, Value.int 0])) : Nat × va_E) := f_46_ws16
          replace hlen : ws16.length = 117 := by rw [e_ws16.1, hlen]
          replace hU : gx_g ws ws16 0 [0, 1, 2, 3, 4, 5, 6, 7, 8, 9, 10, 11, 12, 13, 14, 15, 16, 17, 18, 19, 20, 21, 22, 23, 24, 25, 26, 27, 28, 29, 30, 31, 32, 33, 34, 35, 36, 37, 38, 39, 40, 41, 42, 43, 44, 45, 46, 47, 48, 49, 50, 51, 52, 53, 54, 55, 56, 57, 58, 59, 60, 61, 62, 63, 64, 65, 66, 67, 68, 69, 70, 71, 72, 73, 74, 75, 76, 77, 78, 79, 80, 81, 82, 83, 84, 85, 86, 87, 88, 89, 90, 91, 92, 93, 94, 95, 96, 97, 98, 99, 100, 101, 102, 103, 104, 105, 106, 107, 108, 109, 110, 111, 112, 113, 114, 115, 116] := hU.call e_ws16 (by rw [hlen0]; decide)
          exact absurd g1_4 g15_4
        · cases hv9
          have f_46_ws16 : ws16[46]? = some ((q46, Sum.inr (8, [Value.int 0, Value.int 0, Value.ref q47, Value.ref q48, Value.ref q49, Value.int 0, Value.ref q50, Value.ref q51, Value.ref q52, Value.ref q53, Value.int 0, Value.int 0, Value.int 0, Value.int (-1), Value.int 0, Value.ref q54, Value.ref q62, Value.ref q70, Value.int 0, Value.int 0, Value.int 0, Value.ref q78, Value.ref q79, Value.int 0, Value.int 16, Value.int 4, um, Value.ref q80, Value.ref q81, Value.ref q82, Value.int 0, Value.ref q83, Value.int 0, Value.int 0, Value.int 0])) : Nat × va_E) := f_46_ws16
          replace hlen : ws16.length = 117 := by rw [e_ws16.1, hlen]
          replace hU : gx_g ws ws16 0 [0, 1, 2, 3, 4, 5, 6, 7, 8, 9, 10, 11, 12, 13, 14, 15, 16, 17, 18, 19, 20, 21, 22, 23, 24, 25, 26, 27, 28, 29, 30, 31, 32, 33, 34, 35, 36, 37, 38, 39, 40, 41, 42, 43, 44, 45, 46, 47, 48, 49, 50, 51, 52, 53, 54, 55, 56, 57, 58, 59, 60, 61, 62, 63, 64, 65, 66, 67, 68, 69, 70, 71, 72, 73, 74, 75, 76, 77, 78, 79, 80, 81, 82, 83, 84, 85, 86, 87, 88, 89, 90, 91, 92, 93, 94, 95, 96, 97, 98, 99, 100, 101, 102, 103, 104, 105, 106, 107, 108, 109, 110, 111, 112, 113, 114, 115, 116] := hU.call e_ws16 (by rw [hlen0]; decide)
          exact absurd g1_4 g15_4
        · cases hv9
          have f_46_ws16 : ws16[46]? = some ((q46, Sum.inr (8, [Value.int 0, Value.int 0, Value.ref q47, Value.ref q48, Value.ref q49, Value.int 0, Value.ref q50, Value.ref q51, Value.ref q52, Value.ref q53, Value.int 0, Value.int 0, Value.int 0, Value.int (-1), Value.int 0, Value.ref q54, Value.ref q62, Value.ref q70, Value.int 0, Value.int 0, Value.int 0, Value.ref q78, Value.ref q79, Value.int 0, Value.int 16, Value.int 4, um, Value.ref q80, Value.ref q81, Value.ref q82, Value.int 0, Value.ref q83, Value.int 0, Value.int 0, Value.int 0])) : Nat × va_E) := f_46_ws16
          replace hlen : ws16.length = 117 := by rw [e_ws16.1, hlen]
          replace hU : gx_g ws ws16 0 [0, 1, 2, 3, 4, 5, 6, 7, 8, 9, 10, 11, 12, 13, 14, 15, 16, 17, 18, 19, 20, 21, 22, 23, 24, 25, 26, 27, 28, 29, 30, 31, 32, 33, 34, 35, 36, 37, 38, 39, 40, 41, 42, 43, 44, 45, 46, 47, 48, 49, 50, 51, 52, 53, 54, 55, 56, 57, 58, 59, 60, 61, 62, 63, 64, 65, 66, 67, 68, 69, 70, 71, 72, 73, 74, 75, 76, 77, 78, 79, 80, 81, 82, 83, 84, 85, 86, 87, 88, 89, 90, 91, 92, 93, 94, 95, 96, 97, 98, 99, 100, 101, 102, 103, 104, 105, 106, 107, 108, 109, 110, 111, 112, 113, 114, 115, 116] := hU.call e_ws16 (by rw [hlen0]; decide)
          exact absurd g1_4 g15_4
        · cases hv9
          have f_46_ws16 : ws16[46]? = some ((q46, Sum.inr (8, [Value.int 0, Value.int 0, Value.ref q47, Value.ref q48, Value.ref q49, Value.int 0, Value.ref q50, Value.ref q51, Value.ref q52, Value.ref q53, Value.int 0, Value.int 0, Value.int 0, Value.int (-1), Value.int 0, Value.ref q54, Value.ref q62, Value.ref q70, Value.int 0, Value.int 0, Value.int 0, Value.ref q78, Value.ref q79, Value.int 0, Value.int 16, Value.int 4, um, Value.ref q80, Value.ref q81, Value.ref q82, Value.int 0, Value.ref q83, Value.int 0, Value.int 0, Value.int 0])) : Nat × va_E) := f_46_ws16
          replace hlen : ws16.length = 117 := by rw [e_ws16.1, hlen]
          replace hU : gx_g ws ws16 0 [0, 1, 2, 3, 4, 5, 6, 7, 8, 9, 10, 11, 12, 13, 14, 15, 16, 17, 18, 19, 20, 21, 22, 23, 24, 25, 26, 27, 28, 29, 30, 31, 32, 33, 34, 35, 36, 37, 38, 39, 40, 41, 42, 43, 44, 45, 46, 47, 48, 49, 50, 51, 52, 53, 54, 55, 56, 57, 58, 59, 60, 61, 62, 63, 64, 65, 66, 67, 68, 69, 70, 71, 72, 73, 74, 75, 76, 77, 78, 79, 80, 81, 82, 83, 84, 85, 86, 87, 88, 89, 90, 91, 92, 93, 94, 95, 96, 97, 98, 99, 100, 101, 102, 103, 104, 105, 106, 107, 108, 109, 110, 111, 112, 113, 114, 115, 116] := hU.call e_ws16 (by rw [hlen0]; decide)
          exact absurd g1_4 g15_4
        · cases hv9
          have f_46_ws16 : ws16[46]? = some ((q46, Sum.inr (8, [Value.int 0, Value.int 0, Value.ref q47, Value.ref q48, Value.ref q49, Value.int 0, Value.ref q50, Value.ref q51, Value.ref q52, Value.ref q53, Value.int 0, Value.int 0, Value.int 0, Value.int (-1), Value.int 0, Value.ref q54, Value.ref q62, Value.ref q70, Value.int 0, Value.int 0, Value.int 0, Value.ref q78, Value.ref q79, Value.int 0, Value.int 16, Value.int 4, um, Value.ref q80, Value.ref q81, Value.ref q82, Value.int 0, Value.ref q83, Value.int 0, Value.int 0, Value.int 0])) : Nat × va_E) := f_46_ws16
          replace hlen : ws16.length = 117 := by rw [e_ws16.1, hlen]
          replace hU : gx_g ws ws16 0 [0, 1, 2, 3, 4, 5, 6, 7, 8, 9, 10, 11, 12, 13, 14, 15, 16, 17, 18, 19, 20, 21, 22, 23, 24, 25, 26, 27, 28, 29, 30, 31, 32, 33, 34, 35, 36, 37, 38, 39, 40, 41, 42, 43, 44, 45, 46, 47, 48, 49, 50, 51, 52, 53, 54, 55, 56, 57, 58, 59, 60, 61, 62, 63, 64, 65, 66, 67, 68, 69, 70, 71, 72, 73, 74, 75, 76, 77, 78, 79, 80, 81, 82, 83, 84, 85, 86, 87, 88, 89, 90, 91, 92, 93, 94, 95, 96, 97, 98, 99, 100, 101, 102, 103, 104, 105, 106, 107, 108, 109, 110, 111, 112, 113, 114, 115, 116] := hU.call e_ws16 (by rw [hlen0]; decide)
          exact absurd g1_4 g15_4
        · cases hv9
          have f_46_ws16 : ws16[46]? = some ((q46, Sum.inr (8, [Value.int 0, Value.int 0, Value.ref q47, Value.ref q48, Value.ref q49, Value.int 0, Value.ref q50, Value.ref q51, Value.ref q52, Value.ref q53, Value.int 0, Value.int 0, Value.int 0, Value.int (-1), Value.int 0, Value.ref q54, Value.ref q62, Value.ref q70, Value.int 0, Value.int 0, Value.int 0, Value.ref q78, Value.ref q79, Value.int 0, Value.int 16, Value.int 4, um, Value.ref q80, Value.ref q81, Value.ref q82, Value.int 0, Value.ref q83, Value.int 0, Value.int 0, Value.int 0])) : Nat × va_E) := f_46_ws16
          replace hlen : ws16.length = 117 := by rw [e_ws16.1, hlen]
          replace hU : gx_g ws ws16 0 [0, 1, 2, 3, 4, 5, 6, 7, 8, 9, 10, 11, 12, 13, 14, 15, 16, 17, 18, 19, 20, 21, 22, 23, 24, 25, 26, 27, 28, 29, 30, 31, 32, 33, 34, 35, 36, 37, 38, 39, 40, 41, 42, 43, 44, 45, 46, 47, 48, 49, 50, 51, 52, 53, 54, 55, 56, 57, 58, 59, 60, 61, 62, 63, 64, 65, 66, 67, 68, 69, 70, 71, 72, 73, 74, 75, 76, 77, 78, 79, 80, 81, 82, 83, 84, 85, 86, 87, 88, 89, 90, 91, 92, 93, 94, 95, 96, 97, 98, 99, 100, 101, 102, 103, 104, 105, 106, 107, 108, 109, 110, 111, 112, 113, 114, 115, 116] := hU.call e_ws16 (by rw [hlen0]; decide)
          exact absurd g1_4 g15_4
      · obtain ⟨E9, ws17, ce, hp, hce, hP9, -, hD9, hS9⟩ := gx_backT h0_15 hW_15 hQ_15 hL_15 hD hS hA
        clear hQ_15 h0_15 hL_15 hW_15 hP hD hS
        have hP := hP9
        have hD := hD9
        have hS := hS9
        clear hP9 hD9 hS9
        rcases hp with ⟨hv9, e_ws17, f_46_ws17, g15_0⟩ | ⟨hv9, e_ws17, f_46_ws17, g15_0, g15_1⟩ | ⟨hv9, e_ws17, f_46_ws17, g15_0, g15_1, g15_2⟩ | ⟨hv9, e_ws17, f_46_ws17, g15_0, g15_1, g15_2, g15_3⟩ | ⟨hv9, e_ws17, f_46_ws17, g15_0, g15_1, g15_2, g15_3, g15_4⟩ | ⟨hv9, e_ws17, f_46_ws17, g15_0, g15_1, g15_2, g15_3, g15_4, g15_5⟩ | ⟨hv9, e_ws17, f_46_ws17, g15_0, g15_1, g15_2, g15_3, g15_4, g15_5, g15_6⟩ | ⟨hv9, e_ws17, f_46_ws17, g15_0, g15_1, g15_2, g15_3, g15_4, g15_5, g15_6, g15_7⟩ | ⟨hv9, e_ws17, f_46_ws17, g15_0, g15_1, g15_2, g15_3, g15_4, g15_5, g15_6, g15_7, g15_8⟩ | ⟨hv9, e_ws17, f_46_ws17, g15_0, g15_1, g15_2, g15_3, g15_4, g15_5, g15_6, g15_7, g15_8, g15_9⟩ | ⟨hv9, e_ws17, f_46_ws17, g15_0, g15_1, g15_2, g15_3, g15_4, g15_5, g15_6, g15_7, g15_8, g15_9, g15_10⟩ | ⟨hv9, e_ws17, f_46_ws17, g15_0, g15_1, g15_2, g15_3, g15_4, g15_5, g15_6, g15_7, g15_8, g15_9, g15_10, g15_11⟩ | ⟨hv9, e_ws17, f_46_ws17, g15_0, g15_1, g15_2, g15_3, g15_4, g15_5, g15_6, g15_7, g15_8, g15_9, g15_10, g15_11⟩
        · cases hv9
        · cases hv9
        · cases hv9
        · cases hv9
        · cases hv9
        · cases hv9
        · cases hv9
        · cases hv9
        · cases hv9
        · cases hv9
        · cases hv9
        · cases hv9
        · cases hv9
    · cases hv9
      rw [e_ws2] at hP hD
      refine W.eq (g2 := F0 m 1257 ls [Value.int (-1)]) rfl ?_
      generalize t1.heap = H at hP hS ⊢
      generalize locs ++ L1 = locs at hS ⊢
      refine lv_aload_n hx hb d_Lw_law_1257 rfl (lv_at hl 2 rfl) ?_
      refine lv_aload_n hx hb d_Lw_law_1258 rfl (lv_at hl 4 rfl) ?_
      refine lv_iload hx hb d_Lw_law_1259 (lv_at hl 0 rfl) ?_
      refine lv_iconst (v := 1) hx hb d_Lw_law_1261 (by decide) ?_
      refine lv_iadd hx hb d_Lw_law_1262 ?_
      refine gx_topi (y := 1) (by decide) ?_
      refine va_sld hx hb hX hbl hbA hS (i := 1) (gx_inl (by decide)) d_Lw_law_1263 ?_
      refine gx_topi (y := y1) (by rw [hy1]; rfl) ?_
      refine gx_call (ig := .invokevirtual 172) (c_Mo_count_v1 l htr D tys z _ ws cV q46 y1 q47 q48 q49 q50 q51 q52 q53 q54 q62 q70 q78 q79 (um) q80 q81 q82 q83 q84 q85 q86 q87 q88 q89 q90 q91 q92 q93 q94 q95 q96 q97 q98 q99 q100 q101 q102 q103 q104 q105 q106 q107 q108 q109 q110 q111 q112 q113 q114 q115 f_46 f_84 f_92 f_100 f_108 f_83 ht5) (gx_invV (As := [Value.int y1]) (rest := [Value.int (-1)]) hx hb hown hts km_Lw_172 kI_Mo_count kV_Mo_count kc_Mo_count (by decide) (show (parseMethodDescriptor y_Mo_count.desc).map (fun d => d.parameters.length) = some 1 by decide +kernel) (gx_recv (ci := 8) hK hP rfl f_46) rfl rfl d_Lw_law_1264) (gx_cw (z := 0) hts kc_Mo_count kN_Mo rfl rfl ⟨Nat.le_of_ble_eq_true rfl, Nat.le_of_ble_eq_true rfl⟩) hb hml gx_blind (gx_pre hz hP hK hD hY hS hAz [Value.ref q46, Value.int y1]) rfl hl.1 (lv_room (Nat.le_of_ble_eq_true rfl)) d_Lw_law_1264 ⟨Nat.le_of_ble_eq_true rfl, Nat.le_of_ble_eq_true rfl⟩ (fun v18 st18 t18 L18 h0_18 hW_18 hQ_18 hL_18 => ?_) (fun v18 st18 t18 L18 h0_18 hW_18 hQ_18 hL_18 => ?_)
      · obtain ⟨ws19, hp, hP9, -, hD9, hS9⟩ := gx_back h0_18 hW_18 hQ_18 hL_18 hD hS hA
        clear hQ_18 h0_18 hL_18 hW_18 hP hD hS
        have hP := hP9
        have hD := hD9
        have hS := hS9
        clear hP9 hD9 hS9
        rcases hp with ⟨hv9, e_ws19, f_46_ws19, g18_0⟩ | ⟨hv9, e_ws19, f_46_ws19, g18_0, g18_1⟩ | ⟨hv9, e_ws19, f_46_ws19, g18_0, g18_1, g18_2⟩ | ⟨hv9, e_ws19, f_46_ws19, g18_0, g18_1, g18_2, g18_3⟩ | ⟨hv9, e_ws19, f_46_ws19, g18_0, g18_1, g18_2, g18_3, g18_4⟩ | ⟨hv9, e_ws19, f_46_ws19, g18_0, g18_1, g18_2, g18_3, g18_4, g18_5⟩ | ⟨hv9, e_ws19, f_46_ws19, g18_0, g18_1, g18_2, g18_3, g18_4, g18_5, g18_6⟩ | ⟨hv9, e_ws19, f_46_ws19, g18_0, g18_1, g18_2, g18_3, g18_4, g18_5, g18_6, g18_7⟩ | ⟨hv9, e_ws19, f_46_ws19, g18_0, g18_1, g18_2, g18_3, g18_4, g18_5, g18_6, g18_7, g18_8⟩ | ⟨hv9, e_ws19, f_46_ws19, g18_0, g18_1, g18_2, g18_3, g18_4, g18_5, g18_6, g18_7, g18_8, g18_9⟩ | ⟨hv9, e_ws19, f_46_ws19, g18_0, g18_1, g18_2, g18_3, g18_4, g18_5, g18_6, g18_7, g18_8, g18_9, g18_10⟩ | ⟨hv9, e_ws19, f_46_ws19, g18_0, g18_1, g18_2, g18_3, g18_4, g18_5, g18_6, g18_7, g18_8, g18_9, g18_10, g18_11⟩ | ⟨hv9, e_ws19, f_46_ws19, g18_0, g18_1, g18_2, g18_3, g18_4, g18_5, g18_6, g18_7, g18_8, g18_9, g18_10, g18_11⟩
        · cases hv9
          have f_46_ws19 : ws19[46]? = some ((q46, Sum.inr (8, [Value.int 0, Value.int 0, Value.ref q47, Value.ref q48, Value.ref q49, Value.int 0, Value.ref q50, Value.ref q51, Value.ref q52, Value.ref q53, Value.int 0, Value.int 0, Value.int 0, Value.int (-1), Value.int 0, Value.ref q54, Value.ref q62, Value.ref q70, Value.int 0, Value.int 0, Value.int 0, Value.ref q78, Value.ref q79, Value.int 0, Value.int 16, Value.int 4, um, Value.ref q80, Value.ref q81, Value.ref q82, Value.int 0, Value.ref q83, Value.int 0, Value.int 0, Value.int 0])) : Nat × va_E) := f_46_ws19
          replace hlen : ws19.length = 117 := by rw [e_ws19.1, hlen]
          replace hU : gx_g ws ws19 0 [0, 1, 2, 3, 4, 5, 6, 7, 8, 9, 10, 11, 12, 13, 14, 15, 16, 17, 18, 19, 20, 21, 22, 23, 24, 25, 26, 27, 28, 29, 30, 31, 32, 33, 34, 35, 36, 37, 38, 39, 40, 41, 42, 43, 44, 45, 46, 47, 48, 49, 50, 51, 52, 53, 54, 55, 56, 57, 58, 59, 60, 61, 62, 63, 64, 65, 66, 67, 68, 69, 70, 71, 72, 73, 74, 75, 76, 77, 78, 79, 80, 81, 82, 83, 84, 85, 86, 87, 88, 89, 90, 91, 92, 93, 94, 95, 96, 97, 98, 99, 100, 101, 102, 103, 104, 105, 106, 107, 108, 109, 110, 111, 112, 113, 114, 115, 116] := hU.call e_ws19 (by rw [hlen0]; decide)
          exact absurd g18_0 g1_0
        · cases hv9
          have f_46_ws19 : ws19[46]? = some ((q46, Sum.inr (8, [Value.int 0, Value.int 0, Value.ref q47, Value.ref q48, Value.ref q49, Value.int 0, Value.ref q50, Value.ref q51, Value.ref q52, Value.ref q53, Value.int 0, Value.int 0, Value.int 0, Value.int (-1), Value.int 0, Value.ref q54, Value.ref q62, Value.ref q70, Value.int 0, Value.int 0, Value.int 0, Value.ref q78, Value.ref q79, Value.int 0, Value.int 16, Value.int 4, um, Value.ref q80, Value.ref q81, Value.ref q82, Value.int 0, Value.ref q83, Value.int 0, Value.int 0, Value.int 0])) : Nat × va_E) := f_46_ws19
          replace hlen : ws19.length = 117 := by rw [e_ws19.1, hlen]
          replace hU : gx_g ws ws19 0 [0, 1, 2, 3, 4, 5, 6, 7, 8, 9, 10, 11, 12, 13, 14, 15, 16, 17, 18, 19, 20, 21, 22, 23, 24, 25, 26, 27, 28, 29, 30, 31, 32, 33, 34, 35, 36, 37, 38, 39, 40, 41, 42, 43, 44, 45, 46, 47, 48, 49, 50, 51, 52, 53, 54, 55, 56, 57, 58, 59, 60, 61, 62, 63, 64, 65, 66, 67, 68, 69, 70, 71, 72, 73, 74, 75, 76, 77, 78, 79, 80, 81, 82, 83, 84, 85, 86, 87, 88, 89, 90, 91, 92, 93, 94, 95, 96, 97, 98, 99, 100, 101, 102, 103, 104, 105, 106, 107, 108, 109, 110, 111, 112, 113, 114, 115, 116] := hU.call e_ws19 (by rw [hlen0]; decide)
          exact absurd g18_1 g1_1
        · cases hv9
          have f_46_ws19 : ws19[46]? = some ((q46, Sum.inr (8, [Value.int 0, Value.int 0, Value.ref q47, Value.ref q48, Value.ref q49, Value.int 0, Value.ref q50, Value.ref q51, Value.ref q52, Value.ref q53, Value.int 0, Value.int 0, Value.int 0, Value.int (-1), Value.int 0, Value.ref q54, Value.ref q62, Value.ref q70, Value.int 0, Value.int 0, Value.int 0, Value.ref q78, Value.ref q79, Value.int 0, Value.int 16, Value.int 4, um, Value.ref q80, Value.ref q81, Value.ref q82, Value.int 0, Value.ref q83, Value.int 0, Value.int 0, Value.int 0])) : Nat × va_E) := f_46_ws19
          replace hlen : ws19.length = 117 := by rw [e_ws19.1, hlen]
          replace hU : gx_g ws ws19 0 [0, 1, 2, 3, 4, 5, 6, 7, 8, 9, 10, 11, 12, 13, 14, 15, 16, 17, 18, 19, 20, 21, 22, 23, 24, 25, 26, 27, 28, 29, 30, 31, 32, 33, 34, 35, 36, 37, 38, 39, 40, 41, 42, 43, 44, 45, 46, 47, 48, 49, 50, 51, 52, 53, 54, 55, 56, 57, 58, 59, 60, 61, 62, 63, 64, 65, 66, 67, 68, 69, 70, 71, 72, 73, 74, 75, 76, 77, 78, 79, 80, 81, 82, 83, 84, 85, 86, 87, 88, 89, 90, 91, 92, 93, 94, 95, 96, 97, 98, 99, 100, 101, 102, 103, 104, 105, 106, 107, 108, 109, 110, 111, 112, 113, 114, 115, 116] := hU.call e_ws19 (by rw [hlen0]; decide)
          exact absurd g18_2 g1_2
        · cases hv9
          have f_46_ws19 : ws19[46]? = some ((q46, Sum.inr (8, [Value.int 0, Value.int 0, Value.ref q47, Value.ref q48, Value.ref q49, Value.int 0, Value.ref q50, Value.ref q51, Value.ref q52, Value.ref q53, Value.int 0, Value.int 0, Value.int 0, Value.int (-1), Value.int 0, Value.ref q54, Value.ref q62, Value.ref q70, Value.int 0, Value.int 0, Value.int 0, Value.ref q78, Value.ref q79, Value.int 0, Value.int 16, Value.int 4, um, Value.ref q80, Value.ref q81, Value.ref q82, Value.int 0, Value.ref q83, Value.int 0, Value.int 0, Value.int 0])) : Nat × va_E) := f_46_ws19
          replace hlen : ws19.length = 117 := by rw [e_ws19.1, hlen]
          replace hU : gx_g ws ws19 0 [0, 1, 2, 3, 4, 5, 6, 7, 8, 9, 10, 11, 12, 13, 14, 15, 16, 17, 18, 19, 20, 21, 22, 23, 24, 25, 26, 27, 28, 29, 30, 31, 32, 33, 34, 35, 36, 37, 38, 39, 40, 41, 42, 43, 44, 45, 46, 47, 48, 49, 50, 51, 52, 53, 54, 55, 56, 57, 58, 59, 60, 61, 62, 63, 64, 65, 66, 67, 68, 69, 70, 71, 72, 73, 74, 75, 76, 77, 78, 79, 80, 81, 82, 83, 84, 85, 86, 87, 88, 89, 90, 91, 92, 93, 94, 95, 96, 97, 98, 99, 100, 101, 102, 103, 104, 105, 106, 107, 108, 109, 110, 111, 112, 113, 114, 115, 116] := hU.call e_ws19 (by rw [hlen0]; decide)
          exact absurd g18_3 g1_3
        · cases hv9
          have f_46_ws19 : ws19[46]? = some ((q46, Sum.inr (8, [Value.int 0, Value.int 0, Value.ref q47, Value.ref q48, Value.ref q49, Value.int 0, Value.ref q50, Value.ref q51, Value.ref q52, Value.ref q53, Value.int 0, Value.int 0, Value.int 0, Value.int (-1), Value.int 0, Value.ref q54, Value.ref q62, Value.ref q70, Value.int 0, Value.int 0, Value.int 0, Value.ref q78, Value.ref q79, Value.int 0, Value.int 16, Value.int 4, um, Value.ref q80, Value.ref q81, Value.ref q82, Value.int 0, Value.ref q83, Value.int 0, Value.int 0, Value.int 0])) : Nat × va_E) := f_46_ws19
          replace hlen : ws19.length = 117 := by rw [e_ws19.1, hlen]
          replace hU : gx_g ws ws19 0 [0, 1, 2, 3, 4, 5, 6, 7, 8, 9, 10, 11, 12, 13, 14, 15, 16, 17, 18, 19, 20, 21, 22, 23, 24, 25, 26, 27, 28, 29, 30, 31, 32, 33, 34, 35, 36, 37, 38, 39, 40, 41, 42, 43, 44, 45, 46, 47, 48, 49, 50, 51, 52, 53, 54, 55, 56, 57, 58, 59, 60, 61, 62, 63, 64, 65, 66, 67, 68, 69, 70, 71, 72, 73, 74, 75, 76, 77, 78, 79, 80, 81, 82, 83, 84, 85, 86, 87, 88, 89, 90, 91, 92, 93, 94, 95, 96, 97, 98, 99, 100, 101, 102, 103, 104, 105, 106, 107, 108, 109, 110, 111, 112, 113, 114, 115, 116] := hU.call e_ws19 (by rw [hlen0]; decide)
          exact absurd g18_4 g1_4
        · cases hv9
          have f_46_ws19 : ws19[46]? = some ((q46, Sum.inr (8, [Value.int 0, Value.int 0, Value.ref q47, Value.ref q48, Value.ref q49, Value.int 0, Value.ref q50, Value.ref q51, Value.ref q52, Value.ref q53, Value.int 0, Value.int 0, Value.int 0, Value.int (-1), Value.int 0, Value.ref q54, Value.ref q62, Value.ref q70, Value.int 0, Value.int 0, Value.int 0, Value.ref q78, Value.ref q79, Value.int 0, Value.int 16, Value.int 4, um, Value.ref q80, Value.ref q81, Value.ref q82, Value.int 0, Value.ref q83, Value.int 0, Value.int 0, Value.int 0])) : Nat × va_E) := f_46_ws19
          replace hlen : ws19.length = 117 := by rw [e_ws19.1, hlen]
          replace hU : gx_g ws ws19 0 [0, 1, 2, 3, 4, 5, 6, 7, 8, 9, 10, 11, 12, 13, 14, 15, 16, 17, 18, 19, 20, 21, 22, 23, 24, 25, 26, 27, 28, 29, 30, 31, 32, 33, 34, 35, 36, 37, 38, 39, 40, 41, 42, 43, 44, 45, 46, 47, 48, 49, 50, 51, 52, 53, 54, 55, 56, 57, 58, 59, 60, 61, 62, 63, 64, 65, 66, 67, 68, 69, 70, 71, 72, 73, 74, 75, 76, 77, 78, 79, 80, 81, 82, 83, 84, 85, 86, 87, 88, 89, 90, 91, 92, 93, 94, 95, 96, 97, 98, 99, 100, 101, 102, 103, 104, 105, 106, 107, 108, 109, 110, 111, 112, 113, 114, 115, 116] := hU.call e_ws19 (by rw [hlen0]; decide)
          refine W.eq (g2 := F0 m 1267 ls [Value.int 0, Value.int (-1)]) rfl ?_
          generalize t18.heap = H at hP hS ⊢
          generalize locs ++ L18 = locs at hS ⊢
          refine lv_icmp_eq (tgt := 1272) hx hb d_Lw_law_1267 (by decide) (fun c9 => absurd c9 (by decide)) (fun _ => ?_)
          refine lv_iconst (v := 0) hx hb d_Lw_law_1270 (by decide) ?_
          exfalso
          have k9_0 : ¬ ((y1 : Int32).toInt = (0 : Int32).toInt) := fun h9 => g1_0 (Int32.toInt_inj.mp h9)
          have k9_1 : ¬ ((y1 : Int32).toInt = (1 : Int32).toInt) := fun h9 => g1_1 (Int32.toInt_inj.mp h9)
          have k9_2 : ¬ ((y1 : Int32).toInt = (2 : Int32).toInt) := fun h9 => g1_2 (Int32.toInt_inj.mp h9)
          have k9_3 : ¬ ((y1 : Int32).toInt = (3 : Int32).toInt) := fun h9 => g1_3 (Int32.toInt_inj.mp h9)
          have k9_4 : ¬ ((y1 : Int32).toInt = (4 : Int32).toInt) := fun h9 => g1_4 (Int32.toInt_inj.mp h9)
          have k9_5 : ((y1 : Int32).toInt < (5 : Int32).toInt) := Int32.lt_iff_toInt_lt.mp g1_5
          have k9_11 : ((y1 : Int32).toInt = (5 : Int32).toInt) := Int32.toInt_inj.mpr g18_5
          have : (0 : Int32).toInt = 0 := by decide
          have : (1 : Int32).toInt = 1 := by decide
          have : (2 : Int32).toInt = 2 := by decide
          have : (3 : Int32).toInt = 3 := by decide
          have : (4 : Int32).toInt = 4 := by decide
          have : (5 : Int32).toInt = 5 := by decide
          omega
        · cases hv9
          have f_46_ws19 : ws19[46]? = some ((q46, Sum.inr (8, [Value.int 0, Value.int 0, Value.ref q47, Value.ref q48, Value.ref q49, Value.int 0, Value.ref q50, Value.ref q51, Value.ref q52, Value.ref q53, Value.int 0, Value.int 0, Value.int 0, Value.int (-1), Value.int 0, Value.ref q54, Value.ref q62, Value.ref q70, Value.int 0, Value.int 0, Value.int 0, Value.ref q78, Value.ref q79, Value.int 0, Value.int 16, Value.int 4, um, Value.ref q80, Value.ref q81, Value.ref q82, Value.int 0, Value.ref q83, Value.int 0, Value.int 0, Value.int 0])) : Nat × va_E) := f_46_ws19
          replace hlen : ws19.length = 117 := by rw [e_ws19.1, hlen]
          replace hU : gx_g ws ws19 0 [0, 1, 2, 3, 4, 5, 6, 7, 8, 9, 10, 11, 12, 13, 14, 15, 16, 17, 18, 19, 20, 21, 22, 23, 24, 25, 26, 27, 28, 29, 30, 31, 32, 33, 34, 35, 36, 37, 38, 39, 40, 41, 42, 43, 44, 45, 46, 47, 48, 49, 50, 51, 52, 53, 54, 55, 56, 57, 58, 59, 60, 61, 62, 63, 64, 65, 66, 67, 68, 69, 70, 71, 72, 73, 74, 75, 76, 77, 78, 79, 80, 81, 82, 83, 84, 85, 86, 87, 88, 89, 90, 91, 92, 93, 94, 95, 96, 97, 98, 99, 100, 101, 102, 103, 104, 105, 106, 107, 108, 109, 110, 111, 112, 113, 114, 115, 116] := hU.call e_ws19 (by rw [hlen0]; decide)
          refine W.eq (g2 := F0 m 1267 ls [Value.int 0, Value.int (-1)]) rfl ?_
          generalize t18.heap = H at hP hS ⊢
          generalize locs ++ L18 = locs at hS ⊢
          refine lv_icmp_eq (tgt := 1272) hx hb d_Lw_law_1267 (by decide) (fun c9 => absurd c9 (by decide)) (fun _ => ?_)
          refine lv_iconst (v := 0) hx hb d_Lw_law_1270 (by decide) ?_
          exfalso
          have k9_0 : ¬ ((y1 : Int32).toInt = (0 : Int32).toInt) := fun h9 => g1_0 (Int32.toInt_inj.mp h9)
          have k9_1 : ¬ ((y1 : Int32).toInt = (1 : Int32).toInt) := fun h9 => g1_1 (Int32.toInt_inj.mp h9)
          have k9_2 : ¬ ((y1 : Int32).toInt = (2 : Int32).toInt) := fun h9 => g1_2 (Int32.toInt_inj.mp h9)
          have k9_3 : ¬ ((y1 : Int32).toInt = (3 : Int32).toInt) := fun h9 => g1_3 (Int32.toInt_inj.mp h9)
          have k9_4 : ¬ ((y1 : Int32).toInt = (4 : Int32).toInt) := fun h9 => g1_4 (Int32.toInt_inj.mp h9)
          have k9_5 : ((y1 : Int32).toInt < (5 : Int32).toInt) := Int32.lt_iff_toInt_lt.mp g1_5
          have k9_11 : ¬ ((y1 : Int32).toInt = (5 : Int32).toInt) := fun h9 => g18_5 (Int32.toInt_inj.mp h9)
          have k9_12 : ((y1 : Int32).toInt = (6 : Int32).toInt) := Int32.toInt_inj.mpr g18_6
          have : (0 : Int32).toInt = 0 := by decide
          have : (1 : Int32).toInt = 1 := by decide
          have : (2 : Int32).toInt = 2 := by decide
          have : (3 : Int32).toInt = 3 := by decide
          have : (4 : Int32).toInt = 4 := by decide
          have : (5 : Int32).toInt = 5 := by decide
          have : (6 : Int32).toInt = 6 := by decide
          omega
        · cases hv9
          have f_46_ws19 : ws19[46]? = some ((q46, Sum.inr (8, [Value.int 0, Value.int 0, Value.ref q47, Value.ref q48, Value.ref q49, Value.int 0, Value.ref q50, Value.ref q51, Value.ref q52, Value.ref q53, Value.int 0, Value.int 0, Value.int 0, Value.int (-1), Value.int 0, Value.ref q54, Value.ref q62, Value.ref q70, Value.int 0, Value.int 0, Value.int 0, Value.ref q78, Value.ref q79, Value.int 0, Value.int 16, Value.int 4, um, Value.ref q80, Value.ref q81, Value.ref q82, Value.int 0, Value.ref q83, Value.int 0, Value.int 0, Value.int 0])) : Nat × va_E) := f_46_ws19
          replace hlen : ws19.length = 117 := by rw [e_ws19.1, hlen]
          replace hU : gx_g ws ws19 0 [0, 1, 2, 3, 4, 5, 6, 7, 8, 9, 10, 11, 12, 13, 14, 15, 16, 17, 18, 19, 20, 21, 22, 23, 24, 25, 26, 27, 28, 29, 30, 31, 32, 33, 34, 35, 36, 37, 38, 39, 40, 41, 42, 43, 44, 45, 46, 47, 48, 49, 50, 51, 52, 53, 54, 55, 56, 57, 58, 59, 60, 61, 62, 63, 64, 65, 66, 67, 68, 69, 70, 71, 72, 73, 74, 75, 76, 77, 78, 79, 80, 81, 82, 83, 84, 85, 86, 87, 88, 89, 90, 91, 92, 93, 94, 95, 96, 97, 98, 99, 100, 101, 102, 103, 104, 105, 106, 107, 108, 109, 110, 111, 112, 113, 114, 115, 116] := hU.call e_ws19 (by rw [hlen0]; decide)
          refine W.eq (g2 := F0 m 1267 ls [Value.int 0, Value.int (-1)]) rfl ?_
          generalize t18.heap = H at hP hS ⊢
          generalize locs ++ L18 = locs at hS ⊢
          refine lv_icmp_eq (tgt := 1272) hx hb d_Lw_law_1267 (by decide) (fun c9 => absurd c9 (by decide)) (fun _ => ?_)
          refine lv_iconst (v := 0) hx hb d_Lw_law_1270 (by decide) ?_
          exfalso
          have k9_0 : ¬ ((y1 : Int32).toInt = (0 : Int32).toInt) := fun h9 => g1_0 (Int32.toInt_inj.mp h9)
          have k9_1 : ¬ ((y1 : Int32).toInt = (1 : Int32).toInt) := fun h9 => g1_1 (Int32.toInt_inj.mp h9)
          have k9_2 : ¬ ((y1 : Int32).toInt = (2 : Int32).toInt) := fun h9 => g1_2 (Int32.toInt_inj.mp h9)
          have k9_3 : ¬ ((y1 : Int32).toInt = (3 : Int32).toInt) := fun h9 => g1_3 (Int32.toInt_inj.mp h9)
          have k9_4 : ¬ ((y1 : Int32).toInt = (4 : Int32).toInt) := fun h9 => g1_4 (Int32.toInt_inj.mp h9)
          have k9_5 : ((y1 : Int32).toInt < (5 : Int32).toInt) := Int32.lt_iff_toInt_lt.mp g1_5
          have k9_11 : ¬ ((y1 : Int32).toInt = (5 : Int32).toInt) := fun h9 => g18_5 (Int32.toInt_inj.mp h9)
          have k9_12 : ¬ ((y1 : Int32).toInt = (6 : Int32).toInt) := fun h9 => g18_6 (Int32.toInt_inj.mp h9)
          have k9_13 : ((y1 : Int32).toInt = (7 : Int32).toInt) := Int32.toInt_inj.mpr g18_7
          have : (0 : Int32).toInt = 0 := by decide
          have : (1 : Int32).toInt = 1 := by decide
          have : (2 : Int32).toInt = 2 := by decide
          have : (3 : Int32).toInt = 3 := by decide
          have : (4 : Int32).toInt = 4 := by decide
          have : (5 : Int32).toInt = 5 := by decide
          have : (6 : Int32).toInt = 6 := by decide
          have : (7 : Int32).toInt = 7 := by decide
          omega
        · cases hv9
          have f_46_ws19 : ws19[46]? = some ((q46, Sum.inr (8, [Value.int 0, Value.int 0, Value.ref q47, Value.ref q48, Value.ref q49, Value.int 0, Value.ref q50, Value.ref q51, Value.ref q52, Value.ref q53, Value.int 0, Value.int 0, Value.int 0, Value.int (-1), Value.int 0, Value.ref q54, Value.ref q62, Value.ref q70, Value.int 0, Value.int 0, Value.int 0, Value.ref q78, Value.ref q79, Value.int 0, Value.int 16, Value.int 4, um, Value.ref q80, Value.ref q81, Value.ref q82, Value.int 0, Value.ref q83, Value.int 0, Value.int 0, Value.int 0])) : Nat × va_E) := f_46_ws19
          replace hlen : ws19.length = 117 := by rw [e_ws19.1, hlen]
          replace hU : gx_g ws ws19 0 [0, 1, 2, 3, 4, 5, 6, 7, 8, 9, 10, 11, 12, 13, 14, 15, 16, 17, 18, 19, 20, 21, 22, 23, 24, 25, 26, 27, 28, 29, 30, 31, 32, 33, 34, 35, 36, 37, 38, 39, 40, 41, 42, 43, 44, 45, 46, 47, 48, 49, 50, 51, 52, 53, 54, 55, 56, 57, 58, 59, 60, 61, 62, 63, 64, 65, 66, 67, 68, 69, 70, 71, 72, 73, 74, 75, 76, 77, 78, 79, 80, 81, 82, 83, 84, 85, 86, 87, 88, 89, 90, 91, 92, 93, 94, 95, 96, 97, 98, 99, 100, 101, 102, 103, 104, 105, 106, 107, 108, 109, 110, 111, 112, 113, 114, 115, 116] := hU.call e_ws19 (by rw [hlen0]; decide)
          refine W.eq (g2 := F0 m 1267 ls [Value.int 0, Value.int (-1)]) rfl ?_
          generalize t18.heap = H at hP hS ⊢
          generalize locs ++ L18 = locs at hS ⊢
          refine lv_icmp_eq (tgt := 1272) hx hb d_Lw_law_1267 (by decide) (fun c9 => absurd c9 (by decide)) (fun _ => ?_)
          refine lv_iconst (v := 0) hx hb d_Lw_law_1270 (by decide) ?_
          exfalso
          have k9_0 : ¬ ((y1 : Int32).toInt = (0 : Int32).toInt) := fun h9 => g1_0 (Int32.toInt_inj.mp h9)
          have k9_1 : ¬ ((y1 : Int32).toInt = (1 : Int32).toInt) := fun h9 => g1_1 (Int32.toInt_inj.mp h9)
          have k9_2 : ¬ ((y1 : Int32).toInt = (2 : Int32).toInt) := fun h9 => g1_2 (Int32.toInt_inj.mp h9)
          have k9_3 : ¬ ((y1 : Int32).toInt = (3 : Int32).toInt) := fun h9 => g1_3 (Int32.toInt_inj.mp h9)
          have k9_4 : ¬ ((y1 : Int32).toInt = (4 : Int32).toInt) := fun h9 => g1_4 (Int32.toInt_inj.mp h9)
          have k9_5 : ((y1 : Int32).toInt < (5 : Int32).toInt) := Int32.lt_iff_toInt_lt.mp g1_5
          have k9_11 : ¬ ((y1 : Int32).toInt = (5 : Int32).toInt) := fun h9 => g18_5 (Int32.toInt_inj.mp h9)
          have k9_12 : ¬ ((y1 : Int32).toInt = (6 : Int32).toInt) := fun h9 => g18_6 (Int32.toInt_inj.mp h9)
          have k9_13 : ¬ ((y1 : Int32).toInt = (7 : Int32).toInt) := fun h9 => g18_7 (Int32.toInt_inj.mp h9)
          have k9_14 : ((y1 : Int32).toInt = (8 : Int32).toInt) := Int32.toInt_inj.mpr g18_8
          have : (0 : Int32).toInt = 0 := by decide
          have : (1 : Int32).toInt = 1 := by decide
          have : (2 : Int32).toInt = 2 := by decide
          have : (3 : Int32).toInt = 3 := by decide
          have : (4 : Int32).toInt = 4 := by decide
          have : (5 : Int32).toInt = 5 := by decide
          have : (6 : Int32).toInt = 6 := by decide
          have : (7 : Int32).toInt = 7 := by decide
          have : (8 : Int32).toInt = 8 := by decide
          omega
        · cases hv9
          have f_46_ws19 : ws19[46]? = some ((q46, Sum.inr (8, [Value.int 0, Value.int 0, Value.ref q47, Value.ref q48, Value.ref q49, Value.int 0, Value.ref q50, Value.ref q51, Value.ref q52, Value.ref q53, Value.int 0, Value.int 0, Value.int 0, Value.int (-1), Value.int 0, Value.ref q54, Value.ref q62, Value.ref q70, Value.int 0, Value.int 0, Value.int 0, Value.ref q78, Value.ref q79, Value.int 0, Value.int 16, Value.int 4, um, Value.ref q80, Value.ref q81, Value.ref q82, Value.int 0, Value.ref q83, Value.int 0, Value.int 0, Value.int 0])) : Nat × va_E) := f_46_ws19
          replace hlen : ws19.length = 117 := by rw [e_ws19.1, hlen]
          replace hU : gx_g ws ws19 0 [0, 1, 2, 3, 4, 5, 6, 7, 8, 9, 10, 11, 12, 13, 14, 15, 16, 17, 18, 19, 20, 21, 22, 23, 24, 25, 26, 27, 28, 29, 30, 31, 32, 33, 34, 35, 36, 37, 38, 39, 40, 41, 42, 43, 44, 45, 46, 47, 48, 49, 50, 51, 52, 53, 54, 55, 56, 57, 58, 59, 60, 61, 62, 63, 64, 65, 66, 67, 68, 69, 70, 71, 72, 73, 74, 75, 76, 77, 78, 79, 80, 81, 82, 83, 84, 85, 86, 87, 88, 89, 90, 91, 92, 93, 94, 95, 96, 97, 98, 99, 100, 101, 102, 103, 104, 105, 106, 107, 108, 109, 110, 111, 112, 113, 114, 115, 116] := hU.call e_ws19 (by rw [hlen0]; decide)
          refine W.eq (g2 := F0 m 1267 ls [Value.int 0, Value.int (-1)]) rfl ?_
          generalize t18.heap = H at hP hS ⊢
          generalize locs ++ L18 = locs at hS ⊢
          refine lv_icmp_eq (tgt := 1272) hx hb d_Lw_law_1267 (by decide) (fun c9 => absurd c9 (by decide)) (fun _ => ?_)
          refine lv_iconst (v := 0) hx hb d_Lw_law_1270 (by decide) ?_
          exfalso
          have k9_0 : ¬ ((y1 : Int32).toInt = (0 : Int32).toInt) := fun h9 => g1_0 (Int32.toInt_inj.mp h9)
          have k9_1 : ¬ ((y1 : Int32).toInt = (1 : Int32).toInt) := fun h9 => g1_1 (Int32.toInt_inj.mp h9)
          have k9_2 : ¬ ((y1 : Int32).toInt = (2 : Int32).toInt) := fun h9 => g1_2 (Int32.toInt_inj.mp h9)
          have k9_3 : ¬ ((y1 : Int32).toInt = (3 : Int32).toInt) := fun h9 => g1_3 (Int32.toInt_inj.mp h9)
          have k9_4 : ¬ ((y1 : Int32).toInt = (4 : Int32).toInt) := fun h9 => g1_4 (Int32.toInt_inj.mp h9)
          have k9_5 : ((y1 : Int32).toInt < (5 : Int32).toInt) := Int32.lt_iff_toInt_lt.mp g1_5
          have k9_11 : ¬ ((y1 : Int32).toInt = (5 : Int32).toInt) := fun h9 => g18_5 (Int32.toInt_inj.mp h9)
          have k9_12 : ¬ ((y1 : Int32).toInt = (6 : Int32).toInt) := fun h9 => g18_6 (Int32.toInt_inj.mp h9)
          have k9_13 : ¬ ((y1 : Int32).toInt = (7 : Int32).toInt) := fun h9 => g18_7 (Int32.toInt_inj.mp h9)
          have k9_14 : ¬ ((y1 : Int32).toInt = (8 : Int32).toInt) := fun h9 => g18_8 (Int32.toInt_inj.mp h9)
          have k9_15 : ((y1 : Int32).toInt = (9 : Int32).toInt) := Int32.toInt_inj.mpr g18_9
          have : (0 : Int32).toInt = 0 := by decide
          have : (1 : Int32).toInt = 1 := by decide
          have : (2 : Int32).toInt = 2 := by decide
          have : (3 : Int32).toInt = 3 := by decide
          have : (4 : Int32).toInt = 4 := by decide
          have : (5 : Int32).toInt = 5 := by decide
          have : (6 : Int32).toInt = 6 := by decide
          have : (7 : Int32).toInt = 7 := by decide
          have : (8 : Int32).toInt = 8 := by decide
          have : (9 : Int32).toInt = 9 := by decide
          omega
        · cases hv9
          have f_46_ws19 : ws19[46]? = some ((q46, Sum.inr (8, [Value.int 0, Value.int 0, Value.ref q47, Value.ref q48, Value.ref q49, Value.int 0, Value.ref q50, Value.ref q51, Value.ref q52, Value.ref q53, Value.int 0, Value.int 0, Value.int 0, Value.int (-1), Value.int 0, Value.ref q54, Value.ref q62, Value.ref q70, Value.int 0, Value.int 0, Value.int 0, Value.ref q78, Value.ref q79, Value.int 0, Value.int 16, Value.int 4, um, Value.ref q80, Value.ref q81, Value.ref q82, Value.int 0, Value.ref q83, Value.int 0, Value.int 0, Value.int 0])) : Nat × va_E) := f_46_ws19
          replace hlen : ws19.length = 117 := by rw [e_ws19.1, hlen]
          replace hU : gx_g ws ws19 0 [0, 1, 2, 3, 4, 5, 6, 7, 8, 9, 10, 11, 12, 13, 14, 15, 16, 17, 18, 19, 20, 21, 22, 23, 24, 25, 26, 27, 28, 29, 30, 31, 32, 33, 34, 35, 36, 37, 38, 39, 40, 41, 42, 43, 44, 45, 46, 47, 48, 49, 50, 51, 52, 53, 54, 55, 56, 57, 58, 59, 60, 61, 62, 63, 64, 65, 66, 67, 68, 69, 70, 71, 72, 73, 74, 75, 76, 77, 78, 79, 80, 81, 82, 83, 84, 85, 86, 87, 88, 89, 90, 91, 92, 93, 94, 95, 96, 97, 98, 99, 100, 101, 102, 103, 104, 105, 106, 107, 108, 109, 110, 111, 112, 113, 114, 115, 116] := hU.call e_ws19 (by rw [hlen0]; decide)
          refine W.eq (g2 := F0 m 1267 ls [Value.int 0, Value.int (-1)]) rfl ?_
          generalize t18.heap = H at hP hS ⊢
          generalize locs ++ L18 = locs at hS ⊢
          refine lv_icmp_eq (tgt := 1272) hx hb d_Lw_law_1267 (by decide) (fun c9 => absurd c9 (by decide)) (fun _ => ?_)
          refine lv_iconst (v := 0) hx hb d_Lw_law_1270 (by decide) ?_
          exfalso
          have k9_0 : ¬ ((y1 : Int32).toInt = (0 : Int32).toInt) := fun h9 => g1_0 (Int32.toInt_inj.mp h9)
          have k9_1 : ¬ ((y1 : Int32).toInt = (1 : Int32).toInt) := fun h9 => g1_1 (Int32.toInt_inj.mp h9)
          have k9_2 : ¬ ((y1 : Int32).toInt = (2 : Int32).toInt) := fun h9 => g1_2 (Int32.toInt_inj.mp h9)
          have k9_3 : ¬ ((y1 : Int32).toInt = (3 : Int32).toInt) := fun h9 => g1_3 (Int32.toInt_inj.mp h9)
          have k9_4 : ¬ ((y1 : Int32).toInt = (4 : Int32).toInt) := fun h9 => g1_4 (Int32.toInt_inj.mp h9)
          have k9_5 : ((y1 : Int32).toInt < (5 : Int32).toInt) := Int32.lt_iff_toInt_lt.mp g1_5
          have k9_11 : ¬ ((y1 : Int32).toInt = (5 : Int32).toInt) := fun h9 => g18_5 (Int32.toInt_inj.mp h9)
          have k9_12 : ¬ ((y1 : Int32).toInt = (6 : Int32).toInt) := fun h9 => g18_6 (Int32.toInt_inj.mp h9)
          have k9_13 : ¬ ((y1 : Int32).toInt = (7 : Int32).toInt) := fun h9 => g18_7 (Int32.toInt_inj.mp h9)
          have k9_14 : ¬ ((y1 : Int32).toInt = (8 : Int32).toInt) := fun h9 => g18_8 (Int32.toInt_inj.mp h9)
          have k9_15 : ¬ ((y1 : Int32).toInt = (9 : Int32).toInt) := fun h9 => g18_9 (Int32.toInt_inj.mp h9)
          have k9_16 : ((y1 : Int32).toInt = (10 : Int32).toInt) := Int32.toInt_inj.mpr g18_10
          have : (0 : Int32).toInt = 0 := by decide
          have : (1 : Int32).toInt = 1 := by decide
          have : (10 : Int32).toInt = 10 := by decide
          have : (2 : Int32).toInt = 2 := by decide
          have : (3 : Int32).toInt = 3 := by decide
          have : (4 : Int32).toInt = 4 := by decide
          have : (5 : Int32).toInt = 5 := by decide
          have : (6 : Int32).toInt = 6 := by decide
          have : (7 : Int32).toInt = 7 := by decide
          have : (8 : Int32).toInt = 8 := by decide
          have : (9 : Int32).toInt = 9 := by decide
          omega
        · cases hv9
          have f_46_ws19 : ws19[46]? = some ((q46, Sum.inr (8, [Value.int 0, Value.int 0, Value.ref q47, Value.ref q48, Value.ref q49, Value.int 0, Value.ref q50, Value.ref q51, Value.ref q52, Value.ref q53, Value.int 0, Value.int 0, Value.int 0, Value.int (-1), Value.int 0, Value.ref q54, Value.ref q62, Value.ref q70, Value.int 0, Value.int 0, Value.int 0, Value.ref q78, Value.ref q79, Value.int 0, Value.int 16, Value.int 4, um, Value.ref q80, Value.ref q81, Value.ref q82, Value.int 0, Value.ref q83, Value.int 0, Value.int 0, Value.int 0])) : Nat × va_E) := f_46_ws19
          replace hlen : ws19.length = 117 := by rw [e_ws19.1, hlen]
          replace hU : gx_g ws ws19 0 [0, 1, 2, 3, 4, 5, 6, 7, 8, 9, 10, 11, 12, 13, 14, 15, 16, 17, 18, 19, 20, 21, 22, 23, 24, 25, 26, 27, 28, 29, 30, 31, 32, 33, 34, 35, 36, 37, 38, 39, 40, 41, 42, 43, 44, 45, 46, 47, 48, 49, 50, 51, 52, 53, 54, 55, 56, 57, 58, 59, 60, 61, 62, 63, 64, 65, 66, 67, 68, 69, 70, 71, 72, 73, 74, 75, 76, 77, 78, 79, 80, 81, 82, 83, 84, 85, 86, 87, 88, 89, 90, 91, 92, 93, 94, 95, 96, 97, 98, 99, 100, 101, 102, 103, 104, 105, 106, 107, 108, 109, 110, 111, 112, 113, 114, 115, 116] := hU.call e_ws19 (by rw [hlen0]; decide)
          refine W.eq (g2 := F0 m 1267 ls [Value.int 0, Value.int (-1)]) rfl ?_
          generalize t18.heap = H at hP hS ⊢
          generalize locs ++ L18 = locs at hS ⊢
          refine lv_icmp_eq (tgt := 1272) hx hb d_Lw_law_1267 (by decide) (fun c9 => absurd c9 (by decide)) (fun _ => ?_)
          refine lv_iconst (v := 0) hx hb d_Lw_law_1270 (by decide) ?_
          exfalso
          have k9_0 : ¬ ((y1 : Int32).toInt = (0 : Int32).toInt) := fun h9 => g1_0 (Int32.toInt_inj.mp h9)
          have k9_1 : ¬ ((y1 : Int32).toInt = (1 : Int32).toInt) := fun h9 => g1_1 (Int32.toInt_inj.mp h9)
          have k9_2 : ¬ ((y1 : Int32).toInt = (2 : Int32).toInt) := fun h9 => g1_2 (Int32.toInt_inj.mp h9)
          have k9_3 : ¬ ((y1 : Int32).toInt = (3 : Int32).toInt) := fun h9 => g1_3 (Int32.toInt_inj.mp h9)
          have k9_4 : ¬ ((y1 : Int32).toInt = (4 : Int32).toInt) := fun h9 => g1_4 (Int32.toInt_inj.mp h9)
          have k9_5 : ((y1 : Int32).toInt < (5 : Int32).toInt) := Int32.lt_iff_toInt_lt.mp g1_5
          have k9_11 : ¬ ((y1 : Int32).toInt = (5 : Int32).toInt) := fun h9 => g18_5 (Int32.toInt_inj.mp h9)
          have k9_12 : ¬ ((y1 : Int32).toInt = (6 : Int32).toInt) := fun h9 => g18_6 (Int32.toInt_inj.mp h9)
          have k9_13 : ¬ ((y1 : Int32).toInt = (7 : Int32).toInt) := fun h9 => g18_7 (Int32.toInt_inj.mp h9)
          have k9_14 : ¬ ((y1 : Int32).toInt = (8 : Int32).toInt) := fun h9 => g18_8 (Int32.toInt_inj.mp h9)
          have k9_15 : ¬ ((y1 : Int32).toInt = (9 : Int32).toInt) := fun h9 => g18_9 (Int32.toInt_inj.mp h9)
          have k9_16 : ¬ ((y1 : Int32).toInt = (10 : Int32).toInt) := fun h9 => g18_10 (Int32.toInt_inj.mp h9)
          have k9_17 : ((y1 : Int32).toInt = (11 : Int32).toInt) := Int32.toInt_inj.mpr g18_11
          have : (0 : Int32).toInt = 0 := by decide
          have : (1 : Int32).toInt = 1 := by decide
          have : (10 : Int32).toInt = 10 := by decide
          have : (11 : Int32).toInt = 11 := by decide
          have : (2 : Int32).toInt = 2 := by decide
          have : (3 : Int32).toInt = 3 := by decide
          have : (4 : Int32).toInt = 4 := by decide
          have : (5 : Int32).toInt = 5 := by decide
          have : (6 : Int32).toInt = 6 := by decide
          have : (7 : Int32).toInt = 7 := by decide
          have : (8 : Int32).toInt = 8 := by decide
          have : (9 : Int32).toInt = 9 := by decide
          omega
        · cases hv9
          have f_46_ws19 : ws19[46]? = some ((q46, Sum.inr (8, [Value.int 0, Value.int 0, Value.ref q47, Value.ref q48, Value.ref q49, Value.int 0, Value.ref q50, Value.ref q51, Value.ref q52, Value.ref q53, Value.int 0, Value.int 0, Value.int 0, Value.int (-1), Value.int 0, Value.ref q54, Value.ref q62, Value.ref q70, Value.int 0, Value.int 0, Value.int 0, Value.ref q78, Value.ref q79, Value.int 0, Value.int 16, Value.int 4, um, Value.ref q80, Value.ref q81, Value.ref q82, Value.int 0, Value.ref q83, Value.int 0, Value.int 0, Value.int 0])) : Nat × va_E) := f_46_ws19
          replace hlen : ws19.length = 117 := by rw [e_ws19.1, hlen]
          replace hU : gx_g ws ws19 0 [0, 1, 2, 3, 4, 5, 6, 7, 8, 9, 10, 11, 12, 13, 14, 15, 16, 17, 18, 19, 20, 21, 22, 23, 24, 25, 26, 27, 28, 29, 30, 31, 32, 33, 34, 35, 36, 37, 38, 39, 40, 41, 42, 43, 44, 45, 46, 47, 48, 49, 50, 51, 52, 53, 54, 55, 56, 57, 58, 59, 60, 61, 62, 63, 64, 65, 66, 67, 68, 69, 70, 71, 72, 73, 74, 75, 76, 77, 78, 79, 80, 81, 82, 83, 84, 85, 86, 87, 88, 89, 90, 91, 92, 93, 94, 95, 96, 97, 98, 99, 100, 101, 102, 103, 104, 105, 106, 107, 108, 109, 110, 111, 112, 113, 114, 115, 116] := hU.call e_ws19 (by rw [hlen0]; decide)
          refine W.eq (g2 := F0 m 1267 ls [Value.int (-1), Value.int (-1)]) rfl ?_
          generalize t18.heap = H at hP hS ⊢
          generalize locs ++ L18 = locs at hS ⊢
          refine lv_icmp_eq (tgt := 1272) hx hb d_Lw_law_1267 (by decide) (fun _ => ?_) (fun c9 => absurd (by decide) c9)
          refine W.widen (k := 400) (n := 700000) (by decide) (by decide) ?_
          exact k _ _ ls (by rw [hAe]; exact hS) (lv_sub hl [0, 4] rfl)
      · obtain ⟨E9, ws20, ce, hp, hce, hP9, -, hD9, hS9⟩ := gx_backT h0_18 hW_18 hQ_18 hL_18 hD hS hA
        clear hQ_18 h0_18 hL_18 hW_18 hP hD hS
        have hP := hP9
        have hD := hD9
        have hS := hS9
        clear hP9 hD9 hS9
        rcases hp with ⟨hv9, e_ws20, f_46_ws20, g18_0⟩ | ⟨hv9, e_ws20, f_46_ws20, g18_0, g18_1⟩ | ⟨hv9, e_ws20, f_46_ws20, g18_0, g18_1, g18_2⟩ | ⟨hv9, e_ws20, f_46_ws20, g18_0, g18_1, g18_2, g18_3⟩ | ⟨hv9, e_ws20, f_46_ws20, g18_0, g18_1, g18_2, g18_3, g18_4⟩ | ⟨hv9, e_ws20, f_46_ws20, g18_0, g18_1, g18_2, g18_3, g18_4, g18_5⟩ | ⟨hv9, e_ws20, f_46_ws20, g18_0, g18_1, g18_2, g18_3, g18_4, g18_5, g18_6⟩ | ⟨hv9, e_ws20, f_46_ws20, g18_0, g18_1, g18_2, g18_3, g18_4, g18_5, g18_6, g18_7⟩ | ⟨hv9, e_ws20, f_46_ws20, g18_0, g18_1, g18_2, g18_3, g18_4, g18_5, g18_6, g18_7, g18_8⟩ | ⟨hv9, e_ws20, f_46_ws20, g18_0, g18_1, g18_2, g18_3, g18_4, g18_5, g18_6, g18_7, g18_8, g18_9⟩ | ⟨hv9, e_ws20, f_46_ws20, g18_0, g18_1, g18_2, g18_3, g18_4, g18_5, g18_6, g18_7, g18_8, g18_9, g18_10⟩ | ⟨hv9, e_ws20, f_46_ws20, g18_0, g18_1, g18_2, g18_3, g18_4, g18_5, g18_6, g18_7, g18_8, g18_9, g18_10, g18_11⟩ | ⟨hv9, e_ws20, f_46_ws20, g18_0, g18_1, g18_2, g18_3, g18_4, g18_5, g18_6, g18_7, g18_8, g18_9, g18_10, g18_11⟩
        · cases hv9
        · cases hv9
        · cases hv9
        · cases hv9
        · cases hv9
        · cases hv9
        · cases hv9
        · cases hv9
        · cases hv9
        · cases hv9
        · cases hv9
        · cases hv9
        · cases hv9
    · cases hv9
      rw [e_ws2] at hP hD
      refine W.eq (g2 := F0 m 1257 ls [Value.int 0]) rfl ?_
      generalize t1.heap = H at hP hS ⊢
      generalize locs ++ L1 = locs at hS ⊢
      refine lv_aload_n hx hb d_Lw_law_1257 rfl (lv_at hl 2 rfl) ?_
      refine lv_aload_n hx hb d_Lw_law_1258 rfl (lv_at hl 4 rfl) ?_
      refine lv_iload hx hb d_Lw_law_1259 (lv_at hl 0 rfl) ?_
      refine lv_iconst (v := 1) hx hb d_Lw_law_1261 (by decide) ?_
      refine lv_iadd hx hb d_Lw_law_1262 ?_
      refine gx_topi (y := 1) (by decide) ?_
      refine va_sld hx hb hX hbl hbA hS (i := 1) (gx_inl (by decide)) d_Lw_law_1263 ?_
      refine gx_topi (y := y1) (by rw [hy1]; rfl) ?_
      refine gx_call (ig := .invokevirtual 172) (c_Mo_count_v1 l htr D tys z _ ws cV q46 y1 q47 q48 q49 q50 q51 q52 q53 q54 q62 q70 q78 q79 (um) q80 q81 q82 q83 q84 q85 q86 q87 q88 q89 q90 q91 q92 q93 q94 q95 q96 q97 q98 q99 q100 q101 q102 q103 q104 q105 q106 q107 q108 q109 q110 q111 q112 q113 q114 q115 f_46 f_84 f_92 f_100 f_108 f_83 ht5) (gx_invV (As := [Value.int y1]) (rest := [Value.int 0]) hx hb hown hts km_Lw_172 kI_Mo_count kV_Mo_count kc_Mo_count (by decide) (show (parseMethodDescriptor y_Mo_count.desc).map (fun d => d.parameters.length) = some 1 by decide +kernel) (gx_recv (ci := 8) hK hP rfl f_46) rfl rfl d_Lw_law_1264) (gx_cw (z := 0) hts kc_Mo_count kN_Mo rfl rfl ⟨Nat.le_of_ble_eq_true rfl, Nat.le_of_ble_eq_true rfl⟩) hb hml gx_blind (gx_pre hz hP hK hD hY hS hAz [Value.ref q46, Value.int y1]) rfl hl.1 (lv_room (Nat.le_of_ble_eq_true rfl)) d_Lw_law_1264 ⟨Nat.le_of_ble_eq_true rfl, Nat.le_of_ble_eq_true rfl⟩ (fun v21 st21 t21 L21 h0_21 hW_21 hQ_21 hL_21 => ?_) (fun v21 st21 t21 L21 h0_21 hW_21 hQ_21 hL_21 => ?_)
      · obtain ⟨ws22, hp, hP9, -, hD9, hS9⟩ := gx_back h0_21 hW_21 hQ_21 hL_21 hD hS hA
        clear hQ_21 h0_21 hL_21 hW_21 hP hD hS
        have hP := hP9
        have hD := hD9
        have hS := hS9
        clear hP9 hD9 hS9
        rcases hp with ⟨hv9, e_ws22, f_46_ws22, g21_0⟩ | ⟨hv9, e_ws22, f_46_ws22, g21_0, g21_1⟩ | ⟨hv9, e_ws22, f_46_ws22, g21_0, g21_1, g21_2⟩ | ⟨hv9, e_ws22, f_46_ws22, g21_0, g21_1, g21_2, g21_3⟩ | ⟨hv9, e_ws22, f_46_ws22, g21_0, g21_1, g21_2, g21_3, g21_4⟩ | ⟨hv9, e_ws22, f_46_ws22, g21_0, g21_1, g21_2, g21_3, g21_4, g21_5⟩ | ⟨hv9, e_ws22, f_46_ws22, g21_0, g21_1, g21_2, g21_3, g21_4, g21_5, g21_6⟩ | ⟨hv9, e_ws22, f_46_ws22, g21_0, g21_1, g21_2, g21_3, g21_4, g21_5, g21_6, g21_7⟩ | ⟨hv9, e_ws22, f_46_ws22, g21_0, g21_1, g21_2, g21_3, g21_4, g21_5, g21_6, g21_7, g21_8⟩ | ⟨hv9, e_ws22, f_46_ws22, g21_0, g21_1, g21_2, g21_3, g21_4, g21_5, g21_6, g21_7, g21_8, g21_9⟩ | ⟨hv9, e_ws22, f_46_ws22, g21_0, g21_1, g21_2, g21_3, g21_4, g21_5, g21_6, g21_7, g21_8, g21_9, g21_10⟩ | ⟨hv9, e_ws22, f_46_ws22, g21_0, g21_1, g21_2, g21_3, g21_4, g21_5, g21_6, g21_7, g21_8, g21_9, g21_10, g21_11⟩ | ⟨hv9, e_ws22, f_46_ws22, g21_0, g21_1, g21_2, g21_3, g21_4, g21_5, g21_6, g21_7, g21_8, g21_9, g21_10, g21_11⟩
        · cases hv9
          have f_46_ws22 : ws22[46]? = some ((q46, Sum.inr (8, [Value.int 0, Value.int 0, Value.ref q47, Value.ref q48, Value.ref q49, Value.int 0, Value.ref q50, Value.ref q51, Value.ref q52, Value.ref q53, Value.int 0, Value.int 0, Value.int 0, Value.int (-1), Value.int 0, Value.ref q54, Value.ref q62, Value.ref q70, Value.int 0, Value.int 0, Value.int 0, Value.ref q78, Value.ref q79, Value.int 0, Value.int 16, Value.int 4, um, Value.ref q80, Value.ref q81, Value.ref q82, Value.int 0, Value.ref q83, Value.int 0, Value.int 0, Value.int 0])) : Nat × va_E) := f_46_ws22
          replace hlen : ws22.length = 117 := by rw [e_ws22.1, hlen]
          replace hU : gx_g ws ws22 0 [0, 1, 2, 3, 4, 5, 6, 7, 8, 9, 10, 11, 12, 13, 14, 15, 16, 17, 18, 19, 20, 21, 22, 23, 24, 25, 26, 27, 28, 29, 30, 31, 32, 33, 34, 35, 36, 37, 38, 39, 40, 41, 42, 43, 44, 45, 46, 47, 48, 49, 50, 51, 52, 53, 54, 55, 56, 57, 58, 59, 60, 61, 62, 63, 64, 65, 66, 67, 68, 69, 70, 71, 72, 73, 74, 75, 76, 77, 78, 79, 80, 81, 82, 83, 84, 85, 86, 87, 88, 89, 90, 91, 92, 93, 94, 95, 96, 97, 98, 99, 100, 101, 102, 103, 104, 105, 106, 107, 108, 109, 110, 111, 112, 113, 114, 115, 116] := hU.call e_ws22 (by rw [hlen0]; decide)
          exact absurd g21_0 g1_0
        · cases hv9
          have f_46_ws22 : ws22[46]? = some ((q46, Sum.inr (8, [Value.int 0, Value.int 0, Value.ref q47, Value.ref q48, Value.ref q49, Value.int 0, Value.ref q50, Value.ref q51, Value.ref q52, Value.ref q53, Value.int 0, Value.int 0, Value.int 0, Value.int (-1), Value.int 0, Value.ref q54, Value.ref q62, Value.ref q70, Value.int 0, Value.int 0, Value.int 0, Value.ref q78, Value.ref q79, Value.int 0, Value.int 16, Value.int 4, um, Value.ref q80, Value.ref q81, Value.ref q82, Value.int 0, Value.ref q83, Value.int 0, Value.int 0, Value.int 0])) : Nat × va_E) := f_46_ws22
          replace hlen : ws22.length = 117 := by rw [e_ws22.1, hlen]
          replace hU : gx_g ws ws22 0 [0, 1, 2, 3, 4, 5, 6, 7, 8, 9, 10, 11, 12, 13, 14, 15, 16, 17, 18, 19, 20, 21, 22, 23, 24, 25, 26, 27, 28, 29, 30, 31, 32, 33, 34, 35, 36, 37, 38, 39, 40, 41, 42, 43, 44, 45, 46, 47, 48, 49, 50, 51, 52, 53, 54, 55, 56, 57, 58, 59, 60, 61, 62, 63, 64, 65, 66, 67, 68, 69, 70, 71, 72, 73, 74, 75, 76, 77, 78, 79, 80, 81, 82, 83, 84, 85, 86, 87, 88, 89, 90, 91, 92, 93, 94, 95, 96, 97, 98, 99, 100, 101, 102, 103, 104, 105, 106, 107, 108, 109, 110, 111, 112, 113, 114, 115, 116] := hU.call e_ws22 (by rw [hlen0]; decide)
          exact absurd g21_1 g1_1
        · cases hv9
          have f_46_ws22 : ws22[46]? = some ((q46, Sum.inr (8, [Value.int 0, Value.int 0, Value.ref q47, Value.ref q48, Value.ref q49, Value.int 0, Value.ref q50, Value.ref q51, Value.ref q52, Value.ref q53, Value.int 0, Value.int 0, Value.int 0, Value.int (-1), Value.int 0, Value.ref q54, Value.ref q62, Value.ref q70, Value.int 0, Value.int 0, Value.int 0, Value.ref q78, Value.ref q79, Value.int 0, Value.int 16, Value.int 4, um, Value.ref q80, Value.ref q81, Value.ref q82, Value.int 0, Value.ref q83, Value.int 0, Value.int 0, Value.int 0])) : Nat × va_E) := f_46_ws22
          replace hlen : ws22.length = 117 := by rw [e_ws22.1, hlen]
          replace hU : gx_g ws ws22 0 [0, 1, 2, 3, 4, 5, 6, 7, 8, 9, 10, 11, 12, 13, 14, 15, 16, 17, 18, 19, 20, 21, 22, 23, 24, 25, 26, 27, 28, 29, 30, 31, 32, 33, 34, 35, 36, 37, 38, 39, 40, 41, 42, 43, 44, 45, 46, 47, 48, 49, 50, 51, 52, 53, 54, 55, 56, 57, 58, 59, 60, 61, 62, 63, 64, 65, 66, 67, 68, 69, 70, 71, 72, 73, 74, 75, 76, 77, 78, 79, 80, 81, 82, 83, 84, 85, 86, 87, 88, 89, 90, 91, 92, 93, 94, 95, 96, 97, 98, 99, 100, 101, 102, 103, 104, 105, 106, 107, 108, 109, 110, 111, 112, 113, 114, 115, 116] := hU.call e_ws22 (by rw [hlen0]; decide)
          exact absurd g21_2 g1_2
        · cases hv9
          have f_46_ws22 : ws22[46]? = some ((q46, Sum.inr (8, [Value.int 0, Value.int 0, Value.ref q47, Value.ref q48, Value.ref q49, Value.int 0, Value.ref q50, Value.ref q51, Value.ref q52, Value.ref q53, Value.int 0, Value.int 0, Value.int 0, Value.int (-1), Value.int 0, Value.ref q54, Value.ref q62, Value.ref q70, Value.int 0, Value.int 0, Value.int 0, Value.ref q78, Value.ref q79, Value.int 0, Value.int 16, Value.int 4, um, Value.ref q80, Value.ref q81, Value.ref q82, Value.int 0, Value.ref q83, Value.int 0, Value.int 0, Value.int 0])) : Nat × va_E) := f_46_ws22
          replace hlen : ws22.length = 117 := by rw [e_ws22.1, hlen]
          replace hU : gx_g ws ws22 0 [0, 1, 2, 3, 4, 5, 6, 7, 8, 9, 10, 11, 12, 13, 14, 15, 16, 17, 18, 19, 20, 21, 22, 23, 24, 25, 26, 27, 28, 29, 30, 31, 32, 33, 34, 35, 36, 37, 38, 39, 40, 41, 42, 43, 44, 45, 46, 47, 48, 49, 50, 51, 52, 53, 54, 55, 56, 57, 58, 59, 60, 61, 62, 63, 64, 65, 66, 67, 68, 69, 70, 71, 72, 73, 74, 75, 76, 77, 78, 79, 80, 81, 82, 83, 84, 85, 86, 87, 88, 89, 90, 91, 92, 93, 94, 95, 96, 97, 98, 99, 100, 101, 102, 103, 104, 105, 106, 107, 108, 109, 110, 111, 112, 113, 114, 115, 116] := hU.call e_ws22 (by rw [hlen0]; decide)
          exact absurd g21_3 g1_3
        · cases hv9
          have f_46_ws22 : ws22[46]? = some ((q46, Sum.inr (8, [Value.int 0, Value.int 0, Value.ref q47, Value.ref q48, Value.ref q49, Value.int 0, Value.ref q50, Value.ref q51, Value.ref q52, Value.ref q53, Value.int 0, Value.int 0, Value.int 0, Value.int (-1), Value.int 0, Value.ref q54, Value.ref q62, Value.ref q70, Value.int 0, Value.int 0, Value.int 0, Value.ref q78, Value.ref q79, Value.int 0, Value.int 16, Value.int 4, um, Value.ref q80, Value.ref q81, Value.ref q82, Value.int 0, Value.ref q83, Value.int 0, Value.int 0, Value.int 0])) : Nat × va_E) := f_46_ws22
          replace hlen : ws22.length = 117 := by rw [e_ws22.1, hlen]
          replace hU : gx_g ws ws22 0 [0, 1, 2, 3, 4, 5, 6, 7, 8, 9, 10, 11, 12, 13, 14, 15, 16, 17, 18, 19, 20, 21, 22, 23, 24, 25, 26, 27, 28, 29, 30, 31, 32, 33, 34, 35, 36, 37, 38, 39, 40, 41, 42, 43, 44, 45, 46, 47, 48, 49, 50, 51, 52, 53, 54, 55, 56, 57, 58, 59, 60, 61, 62, 63, 64, 65, 66, 67, 68, 69, 70, 71, 72, 73, 74, 75, 76, 77, 78, 79, 80, 81, 82, 83, 84, 85, 86, 87, 88, 89, 90, 91, 92, 93, 94, 95, 96, 97, 98, 99, 100, 101, 102, 103, 104, 105, 106, 107, 108, 109, 110, 111, 112, 113, 114, 115, 116] := hU.call e_ws22 (by rw [hlen0]; decide)
          exact absurd g21_4 g1_4
        · cases hv9
          have f_46_ws22 : ws22[46]? = some ((q46, Sum.inr (8, [Value.int 0, Value.int 0, Value.ref q47, Value.ref q48, Value.ref q49, Value.int 0, Value.ref q50, Value.ref q51, Value.ref q52, Value.ref q53, Value.int 0, Value.int 0, Value.int 0, Value.int (-1), Value.int 0, Value.ref q54, Value.ref q62, Value.ref q70, Value.int 0, Value.int 0, Value.int 0, Value.ref q78, Value.ref q79, Value.int 0, Value.int 16, Value.int 4, um, Value.ref q80, Value.ref q81, Value.ref q82, Value.int 0, Value.ref q83, Value.int 0, Value.int 0, Value.int 0])) : Nat × va_E) := f_46_ws22
          replace hlen : ws22.length = 117 := by rw [e_ws22.1, hlen]
          replace hU : gx_g ws ws22 0 [0, 1, 2, 3, 4, 5, 6, 7, 8, 9, 10, 11, 12, 13, 14, 15, 16, 17, 18, 19, 20, 21, 22, 23, 24, 25, 26, 27, 28, 29, 30, 31, 32, 33, 34, 35, 36, 37, 38, 39, 40, 41, 42, 43, 44, 45, 46, 47, 48, 49, 50, 51, 52, 53, 54, 55, 56, 57, 58, 59, 60, 61, 62, 63, 64, 65, 66, 67, 68, 69, 70, 71, 72, 73, 74, 75, 76, 77, 78, 79, 80, 81, 82, 83, 84, 85, 86, 87, 88, 89, 90, 91, 92, 93, 94, 95, 96, 97, 98, 99, 100, 101, 102, 103, 104, 105, 106, 107, 108, 109, 110, 111, 112, 113, 114, 115, 116] := hU.call e_ws22 (by rw [hlen0]; decide)
          refine W.eq (g2 := F0 m 1267 ls [Value.int 0, Value.int 0]) rfl ?_
          generalize t21.heap = H at hP hS ⊢
          generalize locs ++ L21 = locs at hS ⊢
          refine lv_icmp_eq (tgt := 1272) hx hb d_Lw_law_1267 (by decide) (fun _ => ?_) (fun c9 => absurd (by decide) c9)
          refine W.widen (k := 400) (n := 700000) (by decide) (by decide) ?_
          exact k _ _ ls (by rw [hAe]; exact hS) (lv_sub hl [0, 4] rfl)
        · cases hv9
          have f_46_ws22 : ws22[46]? = some ((q46, Sum.inr (8, [Value.int 0, Value.int 0, Value.ref q47, Value.ref q48, Value.ref q49, Value.int 0, Value.ref q50, Value.ref q51, Value.ref q52, Value.ref q53, Value.int 0, Value.int 0, Value.int 0, Value.int (-1), Value.int 0, Value.ref q54, Value.ref q62, Value.ref q70, Value.int 0, Value.int 0, Value.int 0, Value.ref q78, Value.ref q79, Value.int 0, Value.int 16, Value.int 4, um, Value.ref q80, Value.ref q81, Value.ref q82, Value.int 0, Value.ref q83, Value.int 0, Value.int 0, Value.int 0])) : Nat × va_E) := f_46_ws22
          replace hlen : ws22.length = 117 := by rw [e_ws22.1, hlen]
          replace hU : gx_g ws ws22 0 [0, 1, 2, 3, 4, 5, 6, 7, 8, 9, 10, 11, 12, 13, 14, 15, 16, 17, 18, 19, 20, 21, 22, 23, 24, 25, 26, 27, 28, 29, 30, 31, 32, 33, 34, 35, 36, 37, 38, 39, 40, 41, 42, 43, 44, 45, 46, 47, 48, 49, 50, 51, 52, 53, 54, 55, 56, 57, 58, 59, 60, 61, 62, 63, 64, 65, 66, 67, 68, 69, 70, 71, 72, 73, 74, 75, 76, 77, 78, 79, 80, 81, 82, 83, 84, 85, 86, 87, 88, 89, 90, 91, 92, 93, 94, 95, 96, 97, 98, 99, 100, 101, 102, 103, 104, 105, 106, 107, 108, 109, 110, 111, 112, 113, 114, 115, 116] := hU.call e_ws22 (by rw [hlen0]; decide)
          refine W.eq (g2 := F0 m 1267 ls [Value.int 0, Value.int 0]) rfl ?_
          generalize t21.heap = H at hP hS ⊢
          generalize locs ++ L21 = locs at hS ⊢
          refine lv_icmp_eq (tgt := 1272) hx hb d_Lw_law_1267 (by decide) (fun _ => ?_) (fun c9 => absurd (by decide) c9)
          refine W.widen (k := 400) (n := 700000) (by decide) (by decide) ?_
          exact k _ _ ls (by rw [hAe]; exact hS) (lv_sub hl [0, 4] rfl)
        · cases hv9
          have f_46_ws22 : ws22[46]? = some ((q46, Sum.inr (8, [Value.int 0, Value.int 0, Value.ref q47, Value.ref q48, Value.ref q49, Value.int 0, Value.ref q50, Value.ref q51, Value.ref q52, Value.ref q53, Value.int 0, Value.int 0, Value.int 0, Value.int (-1), Value.int 0, Value.ref q54, Value.ref q62, Value.ref q70, Value.int 0, Value.int 0, Value.int 0, Value.ref q78, Value.ref q79, Value.int 0, Value.int 16, Value.int 4, um, Value.ref q80, Value.ref q81, Value.ref q82, Value.int 0, Value.ref q83, Value.int 0, Value.int 0, Value.int 0])) : Nat × va_E) := f_46_ws22
          replace hlen : ws22.length = 117 := by rw [e_ws22.1, hlen]
          replace hU : gx_g ws ws22 0 [0, 1, 2, 3, 4, 5, 6, 7, 8, 9, 10, 11, 12, 13, 14, 15, 16, 17, 18, 19, 20, 21, 22, 23, 24, 25, 26, 27, 28, 29, 30, 31, 32, 33, 34, 35, 36, 37, 38, 39, 40, 41, 42, 43, 44, 45, 46, 47, 48, 49, 50, 51, 52, 53, 54, 55, 56, 57, 58, 59, 60, 61, 62, 63, 64, 65, 66, 67, 68, 69, 70, 71, 72, 73, 74, 75, 76, 77, 78, 79, 80, 81, 82, 83, 84, 85, 86, 87, 88, 89, 90, 91, 92, 93, 94, 95, 96, 97, 98, 99, 100, 101, 102, 103, 104, 105, 106, 107, 108, 109, 110, 111, 112, 113, 114, 115, 116] := hU.call e_ws22 (by rw [hlen0]; decide)
          refine W.eq (g2 := F0 m 1267 ls [Value.int 0, Value.int 0]) rfl ?_
          generalize t21.heap = H at hP hS ⊢
          generalize locs ++ L21 = locs at hS ⊢
          refine lv_icmp_eq (tgt := 1272) hx hb d_Lw_law_1267 (by decide) (fun _ => ?_) (fun c9 => absurd (by decide) c9)
          refine W.widen (k := 400) (n := 700000) (by decide) (by decide) ?_
          exact k _ _ ls (by rw [hAe]; exact hS) (lv_sub hl [0, 4] rfl)
        · cases hv9
          have f_46_ws22 : ws22[46]? = some ((q46, Sum.inr (8, [Value.int 0, Value.int 0, Value.ref q47, Value.ref q48, Value.ref q49, Value.int 0, Value.ref q50, Value.ref q51, Value.ref q52, Value.ref q53, Value.int 0, Value.int 0, Value.int 0, Value.int (-1), Value.int 0, Value.ref q54, Value.ref q62, Value.ref q70, Value.int 0, Value.int 0, Value.int 0, Value.ref q78, Value.ref q79, Value.int 0, Value.int 16, Value.int 4, um, Value.ref q80, Value.ref q81, Value.ref q82, Value.int 0, Value.ref q83, Value.int 0, Value.int 0, Value.int 0])) : Nat × va_E) := f_46_ws22
          replace hlen : ws22.length = 117 := by rw [e_ws22.1, hlen]
          replace hU : gx_g ws ws22 0 [0, 1, 2, 3, 4, 5, 6, 7, 8, 9, 10, 11, 12, 13, 14, 15, 16, 17, 18, 19, 20, 21, 22, 23, 24, 25, 26, 27, 28, 29, 30, 31, 32, 33, 34, 35, 36, 37, 38, 39, 40, 41, 42, 43, 44, 45, 46, 47, 48, 49, 50, 51, 52, 53, 54, 55, 56, 57, 58, 59, 60, 61, 62, 63, 64, 65, 66, 67, 68, 69, 70, 71, 72, 73, 74, 75, 76, 77, 78, 79, 80, 81, 82, 83, 84, 85, 86, 87, 88, 89, 90, 91, 92, 93, 94, 95, 96, 97, 98, 99, 100, 101, 102, 103, 104, 105, 106, 107, 108, 109, 110, 111, 112, 113, 114, 115, 116] := hU.call e_ws22 (by rw [hlen0]; decide)
          refine W.eq (g2 := F0 m 1267 ls [Value.int 0, Value.int 0]) rfl ?_
          generalize t21.heap = H at hP hS ⊢
          generalize locs ++ L21 = locs at hS ⊢
          refine lv_icmp_eq (tgt := 1272) hx hb d_Lw_law_1267 (by decide) (fun _ => ?_) (fun c9 => absurd (by decide) c9)
          refine W.widen (k := 400) (n := 700000) (by decide) (by decide) ?_
          exact k _ _ ls (by rw [hAe]; exact hS) (lv_sub hl [0, 4] rfl)
        · cases hv9
          have f_46_ws22 : ws22[46]? = some ((q46, Sum.inr (8, [Value.int 0, Value.int 0, Value.ref q47, Value.ref q48, Value.ref q49, Value.int 0, Value.ref q50, Value.ref q51, Value.ref q52, Value.ref q53, Value.int 0, Value.int 0, Value.int 0, Value.int (-1), Value.int 0, Value.ref q54, Value.ref q62, Value.ref q70, Value.int 0, Value.int 0, Value.int 0, Value.ref q78, Value.ref q79, Value.int 0, Value.int 16, Value.int 4, um, Value.ref q80, Value.ref q81, Value.ref q82, Value.int 0, Value.ref q83, Value.int 0, Value.int 0, Value.int 0])) : Nat × va_E) := f_46_ws22
          replace hlen : ws22.length = 117 := by rw [e_ws22.1, hlen]
          replace hU : gx_g ws ws22 0 [0, 1, 2, 3, 4, 5, 6, 7, 8, 9, 10, 11, 12, 13, 14, 15, 16, 17, 18, 19, 20, 21, 22, 23, 24, 25, 26, 27, 28, 29, 30, 31, 32, 33, 34, 35, 36, 37, 38, 39, 40, 41, 42, 43, 44, 45, 46, 47, 48, 49, 50, 51, 52, 53, 54, 55, 56, 57, 58, 59, 60, 61, 62, 63, 64, 65, 66, 67, 68, 69, 70, 71, 72, 73, 74, 75, 76, 77, 78, 79, 80, 81, 82, 83, 84, 85, 86, 87, 88, 89, 90, 91, 92, 93, 94, 95, 96, 97, 98, 99, 100, 101, 102, 103, 104, 105, 106, 107, 108, 109, 110, 111, 112, 113, 114, 115, 116] := hU.call e_ws22 (by rw [hlen0]; decide)
          refine W.eq (g2 := F0 m 1267 ls [Value.int 0, Value.int 0]) rfl ?_
          generalize t21.heap = H at hP hS ⊢
          generalize locs ++ L21 = locs at hS ⊢
          refine lv_icmp_eq (tgt := 1272) hx hb d_Lw_law_1267 (by decide) (fun _ => ?_) (fun c9 => absurd (by decide) c9)
          refine W.widen (k := 400) (n := 700000) (by decide) (by decide) ?_
          exact k _ _ ls (by rw [hAe]; exact hS) (lv_sub hl [0, 4] rfl)
        · cases hv9
          have f_46_ws22 : ws22[46]? = some ((q46, Sum.inr (8, [Value.int 0, Value.int 0, Value.ref q47, Value.ref q48, Value.ref q49, Value.int 0, Value.ref q50, Value.ref q51, Value.ref q52, Value.ref q53, Value.int 0, Value.int 0, Value.int 0, Value.int (-1), Value.int 0, Value.ref q54, Value.ref q62, Value.ref q70, Value.int 0, Value.int 0, Value.int 0, Value.ref q78, Value.ref q79, Value.int 0, Value.int 16, Value.int 4, um, Value.ref q80, Value.ref q81, Value.ref q82, Value.int 0, Value.ref q83, Value.int 0, Value.int 0, Value.int 0])) : Nat × va_E) := f_46_ws22
          replace hlen : ws22.length = 117 := by rw [e_ws22.1, hlen]
          replace hU : gx_g ws ws22 0 [0, 1, 2, 3, 4, 5, 6, 7, 8, 9, 10, 11, 12, 13, 14, 15, 16, 17, 18, 19, 20, 21, 22, 23, 24, 25, 26, 27, 28, 29, 30, 31, 32, 33, 34, 35, 36, 37, 38, 39, 40, 41, 42, 43, 44, 45, 46, 47, 48, 49, 50, 51, 52, 53, 54, 55, 56, 57, 58, 59, 60, 61, 62, 63, 64, 65, 66, 67, 68, 69, 70, 71, 72, 73, 74, 75, 76, 77, 78, 79, 80, 81, 82, 83, 84, 85, 86, 87, 88, 89, 90, 91, 92, 93, 94, 95, 96, 97, 98, 99, 100, 101, 102, 103, 104, 105, 106, 107, 108, 109, 110, 111, 112, 113, 114, 115, 116] := hU.call e_ws22 (by rw [hlen0]; decide)
          refine W.eq (g2 := F0 m 1267 ls [Value.int 0, Value.int 0]) rfl ?_
          generalize t21.heap = H at hP hS ⊢
          generalize locs ++ L21 = locs at hS ⊢
          refine lv_icmp_eq (tgt := 1272) hx hb d_Lw_law_1267 (by decide) (fun _ => ?_) (fun c9 => absurd (by decide) c9)
          refine W.widen (k := 400) (n := 700000) (by decide) (by decide) ?_
          exact k _ _ ls (by rw [hAe]; exact hS) (lv_sub hl [0, 4] rfl)
        · cases hv9
          have f_46_ws22 : ws22[46]? = some ((q46, Sum.inr (8, [Value.int 0, Value.int 0, Value.ref q47, Value.ref q48, Value.ref q49, Value.int 0, Value.ref q50, Value.ref q51, Value.ref q52, Value.ref q53, Value.int 0, Value.int 0, Value.int 0, Value.int (-1), Value.int 0, Value.ref q54, Value.ref q62, Value.ref q70, Value.int 0, Value.int 0, Value.int 0, Value.ref q78, Value.ref q79, Value.int 0, Value.int 16, Value.int 4, um, Value.ref q80, Value.ref q81, Value.ref q82, Value.int 0, Value.ref q83, Value.int 0, Value.int 0, Value.int 0])) : Nat × va_E) := f_46_ws22
          replace hlen : ws22.length = 117 := by rw [e_ws22.1, hlen]
          replace hU : gx_g ws ws22 0 [0, 1, 2, 3, 4, 5, 6, 7, 8, 9, 10, 11, 12, 13, 14, 15, 16, 17, 18, 19, 20, 21, 22, 23, 24, 25, 26, 27, 28, 29, 30, 31, 32, 33, 34, 35, 36, 37, 38, 39, 40, 41, 42, 43, 44, 45, 46, 47, 48, 49, 50, 51, 52, 53, 54, 55, 56, 57, 58, 59, 60, 61, 62, 63, 64, 65, 66, 67, 68, 69, 70, 71, 72, 73, 74, 75, 76, 77, 78, 79, 80, 81, 82, 83, 84, 85, 86, 87, 88, 89, 90, 91, 92, 93, 94, 95, 96, 97, 98, 99, 100, 101, 102, 103, 104, 105, 106, 107, 108, 109, 110, 111, 112, 113, 114, 115, 116] := hU.call e_ws22 (by rw [hlen0]; decide)
          refine W.eq (g2 := F0 m 1267 ls [Value.int 0, Value.int 0]) rfl ?_
          generalize t21.heap = H at hP hS ⊢
          generalize locs ++ L21 = locs at hS ⊢
          refine lv_icmp_eq (tgt := 1272) hx hb d_Lw_law_1267 (by decide) (fun _ => ?_) (fun c9 => absurd (by decide) c9)
          refine W.widen (k := 400) (n := 700000) (by decide) (by decide) ?_
          exact k _ _ ls (by rw [hAe]; exact hS) (lv_sub hl [0, 4] rfl)
        · cases hv9
          have f_46_ws22 : ws22[46]? = some ((q46, Sum.inr (8, [Value.int 0, Value.int 0, Value.ref q47, Value.ref q48, Value.ref q49, Value.int 0, Value.ref q50, Value.ref q51, Value.ref q52, Value.ref q53, Value.int 0, Value.int 0, Value.int 0, Value.int (-1), Value.int 0, Value.ref q54, Value.ref q62, Value.ref q70, Value.int 0, Value.int 0, Value.int 0, Value.ref q78, Value.ref q79, Value.int 0, Value.int 16, Value.int 4, um, Value.ref q80, Value.ref q81, Value.ref q82, Value.int 0, Value.ref q83, Value.int 0, Value.int 0, Value.int 0])) : Nat × va_E) := f_46_ws22
          replace hlen : ws22.length = 117 := by rw [e_ws22.1, hlen]
          replace hU : gx_g ws ws22 0 [0, 1, 2, 3, 4, 5, 6, 7, 8, 9, 10, 11, 12, 13, 14, 15, 16, 17, 18, 19, 20, 21, 22, 23, 24, 25, 26, 27, 28, 29, 30, 31, 32, 33, 34, 35, 36, 37, 38, 39, 40, 41, 42, 43, 44, 45, 46, 47, 48, 49, 50, 51, 52, 53, 54, 55, 56, 57, 58, 59, 60, 61, 62, 63, 64, 65, 66, 67, 68, 69, 70, 71, 72, 73, 74, 75, 76, 77, 78, 79, 80, 81, 82, 83, 84, 85, 86, 87, 88, 89, 90, 91, 92, 93, 94, 95, 96, 97, 98, 99, 100, 101, 102, 103, 104, 105, 106, 107, 108, 109, 110, 111, 112, 113, 114, 115, 116] := hU.call e_ws22 (by rw [hlen0]; decide)
          refine W.eq (g2 := F0 m 1267 ls [Value.int (-1), Value.int 0]) rfl ?_
          generalize t21.heap = H at hP hS ⊢
          generalize locs ++ L21 = locs at hS ⊢
          refine lv_icmp_eq (tgt := 1272) hx hb d_Lw_law_1267 (by decide) (fun c9 => absurd c9 (by decide)) (fun _ => ?_)
          refine lv_iconst (v := 0) hx hb d_Lw_law_1270 (by decide) ?_
          exfalso
          have k9_0 : ¬ ((y1 : Int32).toInt = (0 : Int32).toInt) := fun h9 => g1_0 (Int32.toInt_inj.mp h9)
          have k9_1 : ¬ ((y1 : Int32).toInt = (1 : Int32).toInt) := fun h9 => g1_1 (Int32.toInt_inj.mp h9)
          have k9_2 : ¬ ((y1 : Int32).toInt = (2 : Int32).toInt) := fun h9 => g1_2 (Int32.toInt_inj.mp h9)
          have k9_3 : ¬ ((y1 : Int32).toInt = (3 : Int32).toInt) := fun h9 => g1_3 (Int32.toInt_inj.mp h9)
          have k9_4 : ¬ ((y1 : Int32).toInt = (4 : Int32).toInt) := fun h9 => g1_4 (Int32.toInt_inj.mp h9)
          have k9_5 : ¬ ((y1 : Int32).toInt < (5 : Int32).toInt) := fun h9 => g1_5 (Int32.lt_iff_toInt_lt.mpr h9)
          have k9_6 : ((y1 : Int32).toInt ≤ (11 : Int32).toInt) := Int32.le_iff_toInt_le.mp g1_6
          have k9_12 : ¬ ((y1 : Int32).toInt = (5 : Int32).toInt) := fun h9 => g21_5 (Int32.toInt_inj.mp h9)
          have k9_13 : ¬ ((y1 : Int32).toInt = (6 : Int32).toInt) := fun h9 => g21_6 (Int32.toInt_inj.mp h9)
          have k9_14 : ¬ ((y1 : Int32).toInt = (7 : Int32).toInt) := fun h9 => g21_7 (Int32.toInt_inj.mp h9)
          have k9_15 : ¬ ((y1 : Int32).toInt = (8 : Int32).toInt) := fun h9 => g21_8 (Int32.toInt_inj.mp h9)
          have k9_16 : ¬ ((y1 : Int32).toInt = (9 : Int32).toInt) := fun h9 => g21_9 (Int32.toInt_inj.mp h9)
          have k9_17 : ¬ ((y1 : Int32).toInt = (10 : Int32).toInt) := fun h9 => g21_10 (Int32.toInt_inj.mp h9)
          have k9_18 : ¬ ((y1 : Int32).toInt = (11 : Int32).toInt) := fun h9 => g21_11 (Int32.toInt_inj.mp h9)
          have : (0 : Int32).toInt = 0 := by decide
          have : (1 : Int32).toInt = 1 := by decide
          have : (10 : Int32).toInt = 10 := by decide
          have : (11 : Int32).toInt = 11 := by decide
          have : (2 : Int32).toInt = 2 := by decide
          have : (3 : Int32).toInt = 3 := by decide
          have : (4 : Int32).toInt = 4 := by decide
          have : (5 : Int32).toInt = 5 := by decide
          have : (6 : Int32).toInt = 6 := by decide
          have : (7 : Int32).toInt = 7 := by decide
          have : (8 : Int32).toInt = 8 := by decide
          have : (9 : Int32).toInt = 9 := by decide
          omega
      · obtain ⟨E9, ws23, ce, hp, hce, hP9, -, hD9, hS9⟩ := gx_backT h0_21 hW_21 hQ_21 hL_21 hD hS hA
        clear hQ_21 h0_21 hL_21 hW_21 hP hD hS
        have hP := hP9
        have hD := hD9
        have hS := hS9
        clear hP9 hD9 hS9
        rcases hp with ⟨hv9, e_ws23, f_46_ws23, g21_0⟩ | ⟨hv9, e_ws23, f_46_ws23, g21_0, g21_1⟩ | ⟨hv9, e_ws23, f_46_ws23, g21_0, g21_1, g21_2⟩ | ⟨hv9, e_ws23, f_46_ws23, g21_0, g21_1, g21_2, g21_3⟩ | ⟨hv9, e_ws23, f_46_ws23, g21_0, g21_1, g21_2, g21_3, g21_4⟩ | ⟨hv9, e_ws23, f_46_ws23, g21_0, g21_1, g21_2, g21_3, g21_4, g21_5⟩ | ⟨hv9, e_ws23, f_46_ws23, g21_0, g21_1, g21_2, g21_3, g21_4, g21_5, g21_6⟩ | ⟨hv9, e_ws23, f_46_ws23, g21_0, g21_1, g21_2, g21_3, g21_4, g21_5, g21_6, g21_7⟩ | ⟨hv9, e_ws23, f_46_ws23, g21_0, g21_1, g21_2, g21_3, g21_4, g21_5, g21_6, g21_7, g21_8⟩ | ⟨hv9, e_ws23, f_46_ws23, g21_0, g21_1, g21_2, g21_3, g21_4, g21_5, g21_6, g21_7, g21_8, g21_9⟩ | ⟨hv9, e_ws23, f_46_ws23, g21_0, g21_1, g21_2, g21_3, g21_4, g21_5, g21_6, g21_7, g21_8, g21_9, g21_10⟩ | ⟨hv9, e_ws23, f_46_ws23, g21_0, g21_1, g21_2, g21_3, g21_4, g21_5, g21_6, g21_7, g21_8, g21_9, g21_10, g21_11⟩ | ⟨hv9, e_ws23, f_46_ws23, g21_0, g21_1, g21_2, g21_3, g21_4, g21_5, g21_6, g21_7, g21_8, g21_9, g21_10, g21_11⟩
        · cases hv9
        · cases hv9
        · cases hv9
        · cases hv9
        · cases hv9
        · cases hv9
        · cases hv9
        · cases hv9
        · cases hv9
        · cases hv9
        · cases hv9
        · cases hv9
        · cases hv9
    · cases hv9
      rw [e_ws2] at hP hD
      refine W.eq (g2 := F0 m 1257 ls [Value.int (-1)]) rfl ?_
      generalize t1.heap = H at hP hS ⊢
      generalize locs ++ L1 = locs at hS ⊢
      refine lv_aload_n hx hb d_Lw_law_1257 rfl (lv_at hl 2 rfl) ?_
      refine lv_aload_n hx hb d_Lw_law_1258 rfl (lv_at hl 4 rfl) ?_
      refine lv_iload hx hb d_Lw_law_1259 (lv_at hl 0 rfl) ?_
      refine lv_iconst (v := 1) hx hb d_Lw_law_1261 (by decide) ?_
      refine lv_iadd hx hb d_Lw_law_1262 ?_
      refine gx_topi (y := 1) (by decide) ?_
      refine va_sld hx hb hX hbl hbA hS (i := 1) (gx_inl (by decide)) d_Lw_law_1263 ?_
      refine gx_topi (y := y1) (by rw [hy1]; rfl) ?_
      refine gx_call (ig := .invokevirtual 172) (c_Mo_count_v1 l htr D tys z _ ws cV q46 y1 q47 q48 q49 q50 q51 q52 q53 q54 q62 q70 q78 q79 (um) q80 q81 q82 q83 q84 q85 q86 q87 q88 q89 q90 q91 q92 q93 q94 q95 q96 q97 q98 q99 q100 q101 q102 q103 q104 q105 q106 q107 q108 q109 q110 q111 q112 q113 q114 q115 f_46 f_84 f_92 f_100 f_108 f_83 ht5) (gx_invV (As := [Value.int y1]) (rest := [Value.int (-1)]) hx hb hown hts km_Lw_172 kI_Mo_count kV_Mo_count kc_Mo_count (by decide) (show (parseMethodDescriptor y_Mo_count.desc).map (fun d => d.parameters.length) = some 1 by decide +kernel) (gx_recv (ci := 8) hK hP rfl f_46) rfl rfl d_Lw_law_1264) (gx_cw (z := 0) hts kc_Mo_count kN_Mo rfl rfl ⟨Nat.le_of_ble_eq_true rfl, Nat.le_of_ble_eq_true rfl⟩) hb hml gx_blind (gx_pre hz hP hK hD hY hS hAz [Value.ref q46, Value.int y1]) rfl hl.1 (lv_room (Nat.le_of_ble_eq_true rfl)) d_Lw_law_1264 ⟨Nat.le_of_ble_eq_true rfl, Nat.le_of_ble_eq_true rfl⟩ (fun v24 st24 t24 L24 h0_24 hW_24 hQ_24 hL_24 => ?_) (fun v24 st24 t24 L24 h0_24 hW_24 hQ_24 hL_24 => ?_)
      · obtain ⟨ws25, hp, hP9, -, hD9, hS9⟩ := gx_back h0_24 hW_24 hQ_24 hL_24 hD hS hA
        clear hQ_24 h0_24 hL_24 hW_24 hP hD hS
        have hP := hP9
        have hD := hD9
        have hS := hS9
        clear hP9 hD9 hS9
        rcases hp with ⟨hv9, e_ws25, f_46_ws25, g24_0⟩ | ⟨hv9, e_ws25, f_46_ws25, g24_0, g24_1⟩ | ⟨hv9, e_ws25, f_46_ws25, g24_0, g24_1, g24_2⟩ | ⟨hv9, e_ws25, f_46_ws25, g24_0, g24_1, g24_2, g24_3⟩ | ⟨hv9, e_ws25, f_46_ws25, g24_0, g24_1, g24_2, g24_3, g24_4⟩ | ⟨hv9, e_ws25, f_46_ws25, g24_0, g24_1, g24_2, g24_3, g24_4, g24_5⟩ | ⟨hv9, e_ws25, f_46_ws25, g24_0, g24_1, g24_2, g24_3, g24_4, g24_5, g24_6⟩ | ⟨hv9, e_ws25, f_46_ws25, g24_0, g24_1, g24_2, g24_3, g24_4, g24_5, g24_6, g24_7⟩ | ⟨hv9, e_ws25, f_46_ws25, g24_0, g24_1, g24_2, g24_3, g24_4, g24_5, g24_6, g24_7, g24_8⟩ | ⟨hv9, e_ws25, f_46_ws25, g24_0, g24_1, g24_2, g24_3, g24_4, g24_5, g24_6, g24_7, g24_8, g24_9⟩ | ⟨hv9, e_ws25, f_46_ws25, g24_0, g24_1, g24_2, g24_3, g24_4, g24_5, g24_6, g24_7, g24_8, g24_9, g24_10⟩ | ⟨hv9, e_ws25, f_46_ws25, g24_0, g24_1, g24_2, g24_3, g24_4, g24_5, g24_6, g24_7, g24_8, g24_9, g24_10, g24_11⟩ | ⟨hv9, e_ws25, f_46_ws25, g24_0, g24_1, g24_2, g24_3, g24_4, g24_5, g24_6, g24_7, g24_8, g24_9, g24_10, g24_11⟩
        · cases hv9
          have f_46_ws25 : ws25[46]? = some ((q46, Sum.inr (8, [Value.int 0, Value.int 0, Value.ref q47, Value.ref q48, Value.ref q49, Value.int 0, Value.ref q50, Value.ref q51, Value.ref q52, Value.ref q53, Value.int 0, Value.int 0, Value.int 0, Value.int (-1), Value.int 0, Value.ref q54, Value.ref q62, Value.ref q70, Value.int 0, Value.int 0, Value.int 0, Value.ref q78, Value.ref q79, Value.int 0, Value.int 16, Value.int 4, um, Value.ref q80, Value.ref q81, Value.ref q82, Value.int 0, Value.ref q83, Value.int 0, Value.int 0, Value.int 0])) : Nat × va_E) := f_46_ws25
          replace hlen : ws25.length = 117 := by rw [e_ws25.1, hlen]
          replace hU : gx_g ws ws25 0 [0, 1, 2, 3, 4, 5, 6, 7, 8, 9, 10, 11, 12, 13, 14, 15, 16, 17, 18, 19, 20, 21, 22, 23, 24, 25, 26, 27, 28, 29, 30, 31, 32, 33, 34, 35, 36, 37, 38, 39, 40, 41, 42, 43, 44, 45, 46, 47, 48, 49, 50, 51, 52, 53, 54, 55, 56, 57, 58, 59, 60, 61, 62, 63, 64, 65, 66, 67, 68, 69, 70, 71, 72, 73, 74, 75, 76, 77, 78, 79, 80, 81, 82, 83, 84, 85, 86, 87, 88, 89, 90, 91, 92, 93, 94, 95, 96, 97, 98, 99, 100, 101, 102, 103, 104, 105, 106, 107, 108, 109, 110, 111, 112, 113, 114, 115, 116] := hU.call e_ws25 (by rw [hlen0]; decide)
          exact absurd g24_0 g1_0
        · cases hv9
          have f_46_ws25 : ws25[46]? = some ((q46, Sum.inr (8, [Value.int 0, Value.int 0, Value.ref q47, Value.ref q48, Value.ref q49, Value.int 0, Value.ref q50, Value.ref q51, Value.ref q52, Value.ref q53, Value.int 0, Value.int 0, Value.int 0, Value.int (-1), Value.int 0, Value.ref q54, Value.ref q62, Value.ref q70, Value.int 0, Value.int 0, Value.int 0, Value.ref q78, Value.ref q79, Value.int 0, Value.int 16, Value.int 4, um, Value.ref q80, Value.ref q81, Value.ref q82, Value.int 0, Value.ref q83, Value.int 0, Value.int 0, Value.int 0])) : Nat × va_E) := f_46_ws25
          replace hlen : ws25.length = 117 := by rw [e_ws25.1, hlen]
          replace hU : gx_g ws ws25 0 [0, 1, 2, 3, 4, 5, 6, 7, 8, 9, 10, 11, 12, 13, 14, 15, 16, 17, 18, 19, 20, 21, 22, 23, 24, 25, 26, 27, 28, 29, 30, 31, 32, 33, 34, 35, 36, 37, 38, 39, 40, 41, 42, 43, 44, 45, 46, 47, 48, 49, 50, 51, 52, 53, 54, 55, 56, 57, 58, 59, 60, 61, 62, 63, 64, 65, 66, 67, 68, 69, 70, 71, 72, 73, 74, 75, 76, 77, 78, 79, 80, 81, 82, 83, 84, 85, 86, 87, 88, 89, 90, 91, 92, 93, 94, 95, 96, 97, 98, 99, 100, 101, 102, 103, 104, 105, 106, 107, 108, 109, 110, 111, 112, 113, 114, 115, 116] := hU.call e_ws25 (by rw [hlen0]; decide)
          exact absurd g24_1 g1_1
        · cases hv9
          have f_46_ws25 : ws25[46]? = some ((q46, Sum.inr (8, [Value.int 0, Value.int 0, Value.ref q47, Value.ref q48, Value.ref q49, Value.int 0, Value.ref q50, Value.ref q51, Value.ref q52, Value.ref q53, Value.int 0, Value.int 0, Value.int 0, Value.int (-1), Value.int 0, Value.ref q54, Value.ref q62, Value.ref q70, Value.int 0, Value.int 0, Value.int 0, Value.ref q78, Value.ref q79, Value.int 0, Value.int 16, Value.int 4, um, Value.ref q80, Value.ref q81, Value.ref q82, Value.int 0, Value.ref q83, Value.int 0, Value.int 0, Value.int 0])) : Nat × va_E) := f_46_ws25
          replace hlen : ws25.length = 117 := by rw [e_ws25.1, hlen]
          replace hU : gx_g ws ws25 0 [0, 1, 2, 3, 4, 5, 6, 7, 8, 9, 10, 11, 12, 13, 14, 15, 16, 17, 18, 19, 20, 21, 22, 23, 24, 25, 26, 27, 28, 29, 30, 31, 32, 33, 34, 35, 36, 37, 38, 39, 40, 41, 42, 43, 44, 45, 46, 47, 48, 49, 50, 51, 52, 53, 54, 55, 56, 57, 58, 59, 60, 61, 62, 63, 64, 65, 66, 67, 68, 69, 70, 71, 72, 73, 74, 75, 76, 77, 78, 79, 80, 81, 82, 83, 84, 85, 86, 87, 88, 89, 90, 91, 92, 93, 94, 95, 96, 97, 98, 99, 100, 101, 102, 103, 104, 105, 106, 107, 108, 109, 110, 111, 112, 113, 114, 115, 116] := hU.call e_ws25 (by rw [hlen0]; decide)
          exact absurd g24_2 g1_2
        · cases hv9
          have f_46_ws25 : ws25[46]? = some ((q46, Sum.inr (8, [Value.int 0, Value.int 0, Value.ref q47, Value.ref q48, Value.ref q49, Value.int 0, Value.ref q50, Value.ref q51, Value.ref q52, Value.ref q53, Value.int 0, Value.int 0, Value.int 0, Value.int (-1), Value.int 0, Value.ref q54, Value.ref q62, Value.ref q70, Value.int 0, Value.int 0, Value.int 0, Value.ref q78, Value.ref q79, Value.int 0, Value.int 16, Value.int 4, um, Value.ref q80, Value.ref q81, Value.ref q82, Value.int 0, Value.ref q83, Value.int 0, Value.int 0, Value.int 0])) : Nat × va_E) := f_46_ws25
          replace hlen : ws25.length = 117 := by rw [e_ws25.1, hlen]
          replace hU : gx_g ws ws25 0 [0, 1, 2, 3, 4, 5, 6, 7, 8, 9, 10, 11, 12, 13, 14, 15, 16, 17, 18, 19, 20, 21, 22, 23, 24, 25, 26, 27, 28, 29, 30, 31, 32, 33, 34, 35, 36, 37, 38, 39, 40, 41, 42, 43, 44, 45, 46, 47, 48, 49, 50, 51, 52, 53, 54, 55, 56, 57, 58, 59, 60, 61, 62, 63, 64, 65, 66, 67, 68, 69, 70, 71, 72, 73, 74, 75, 76, 77, 78, 79, 80, 81, 82, 83, 84, 85, 86, 87, 88, 89, 90, 91, 92, 93, 94, 95, 96, 97, 98, 99, 100, 101, 102, 103, 104, 105, 106, 107, 108, 109, 110, 111, 112, 113, 114, 115, 116] := hU.call e_ws25 (by rw [hlen0]; decide)
          exact absurd g24_3 g1_3
        · cases hv9
          have f_46_ws25 : ws25[46]? = some ((q46, Sum.inr (8, [Value.int 0, Value.int 0, Value.ref q47, Value.ref q48, Value.ref q49, Value.int 0, Value.ref q50, Value.ref q51, Value.ref q52, Value.ref q53, Value.int 0, Value.int 0, Value.int 0, Value.int (-1), Value.int 0, Value.ref q54, Value.ref q62, Value.ref q70, Value.int 0, Value.int 0, Value.int 0, Value.ref q78, Value.ref q79, Value.int 0, Value.int 16, Value.int 4, um, Value.ref q80, Value.ref q81, Value.ref q82, Value.int 0, Value.ref q83, Value.int 0, Value.int 0, Value.int 0])) : Nat × va_E) := f_46_ws25
          replace hlen : ws25.length = 117 := by rw [e_ws25.1, hlen]
          replace hU : gx_g ws ws25 0 [0, 1, 2, 3, 4, 5, 6, 7, 8, 9, 10, 11, 12, 13, 14, 15, 16, 17, 18, 19, 20, 21, 22, 23, 24, 25, 26, 27, 28, 29, 30, 31, 32, 33, 34, 35, 36, 37, 38, 39, 40, 41, 42, 43, 44, 45, 46, 47, 48, 49, 50, 51, 52, 53, 54, 55, 56, 57, 58, 59, 60, 61, 62, 63, 64, 65, 66, 67, 68, 69, 70, 71, 72, 73, 74, 75, 76, 77, 78, 79, 80, 81, 82, 83, 84, 85, 86, 87, 88, 89, 90, 91, 92, 93, 94, 95, 96, 97, 98, 99, 100, 101, 102, 103, 104, 105, 106, 107, 108, 109, 110, 111, 112, 113, 114, 115, 116] := hU.call e_ws25 (by rw [hlen0]; decide)
          exact absurd g24_4 g1_4
        · cases hv9
          have f_46_ws25 : ws25[46]? = some ((q46, Sum.inr (8, [Value.int 0, Value.int 0, Value.ref q47, Value.ref q48, Value.ref q49, Value.int 0, Value.ref q50, Value.ref q51, Value.ref q52, Value.ref q53, Value.int 0, Value.int 0, Value.int 0, Value.int (-1), Value.int 0, Value.ref q54, Value.ref q62, Value.ref q70, Value.int 0, Value.int 0, Value.int 0, Value.ref q78, Value.ref q79, Value.int 0, Value.int 16, Value.int 4, um, Value.ref q80, Value.ref q81, Value.ref q82, Value.int 0, Value.ref q83, Value.int 0, Value.int 0, Value.int 0])) : Nat × va_E) := f_46_ws25
          replace hlen : ws25.length = 117 := by rw [e_ws25.1, hlen]
          replace hU : gx_g ws ws25 0 [0, 1, 2, 3, 4, 5, 6, 7, 8, 9, 10, 11, 12, 13, 14, 15, 16, 17, 18, 19, 20, 21, 22, 23, 24, 25, 26, 27, 28, 29, 30, 31, 32, 33, 34, 35, 36, 37, 38, 39, 40, 41, 42, 43, 44, 45, 46, 47, 48, 49, 50, 51, 52, 53, 54, 55, 56, 57, 58, 59, 60, 61, 62, 63, 64, 65, 66, 67, 68, 69, 70, 71, 72, 73, 74, 75, 76, 77, 78, 79, 80, 81, 82, 83, 84, 85, 86, 87, 88, 89, 90, 91, 92, 93, 94, 95, 96, 97, 98, 99, 100, 101, 102, 103, 104, 105, 106, 107, 108, 109, 110, 111, 112, 113, 114, 115, 116] := hU.call e_ws25 (by rw [hlen0]; decide)
          refine W.eq (g2 := F0 m 1267 ls [Value.int 0, Value.int (-1)]) rfl ?_
          generalize t24.heap = H at hP hS ⊢
          generalize locs ++ L24 = locs at hS ⊢
          refine lv_icmp_eq (tgt := 1272) hx hb d_Lw_law_1267 (by decide) (fun c9 => absurd c9 (by decide)) (fun _ => ?_)
          refine lv_iconst (v := 0) hx hb d_Lw_law_1270 (by decide) ?_
          exfalso
          have k9_0 : ¬ ((y1 : Int32).toInt = (0 : Int32).toInt) := fun h9 => g1_0 (Int32.toInt_inj.mp h9)
          have k9_1 : ¬ ((y1 : Int32).toInt = (1 : Int32).toInt) := fun h9 => g1_1 (Int32.toInt_inj.mp h9)
          have k9_2 : ¬ ((y1 : Int32).toInt = (2 : Int32).toInt) := fun h9 => g1_2 (Int32.toInt_inj.mp h9)
          have k9_3 : ¬ ((y1 : Int32).toInt = (3 : Int32).toInt) := fun h9 => g1_3 (Int32.toInt_inj.mp h9)
          have k9_4 : ¬ ((y1 : Int32).toInt = (4 : Int32).toInt) := fun h9 => g1_4 (Int32.toInt_inj.mp h9)
          have k9_5 : ¬ ((y1 : Int32).toInt < (5 : Int32).toInt) := fun h9 => g1_5 (Int32.lt_iff_toInt_lt.mpr h9)
          have k9_6 : ¬ ((y1 : Int32).toInt ≤ (11 : Int32).toInt) := fun h9 => g1_6 (Int32.le_iff_toInt_le.mpr h9)
          have k9_12 : ((y1 : Int32).toInt = (5 : Int32).toInt) := Int32.toInt_inj.mpr g24_5
          have : (0 : Int32).toInt = 0 := by decide
          have : (1 : Int32).toInt = 1 := by decide
          have : (11 : Int32).toInt = 11 := by decide
          have : (2 : Int32).toInt = 2 := by decide
          have : (3 : Int32).toInt = 3 := by decide
          have : (4 : Int32).toInt = 4 := by decide
          have : (5 : Int32).toInt = 5 := by decide
          omega
        · cases hv9
          have f_46_ws25 : ws25[46]? = some ((q46, Sum.inr (8, [Value.int 0, Value.int 0, Value.ref q47, Value.ref q48, Value.ref q49, Value.int 0, Value.ref q50, Value.ref q51, Value.ref q52, Value.ref q53, Value.int 0, Value.int 0, Value.int 0, Value.int (-1), Value.int 0, Value.ref q54, Value.ref q62, Value.ref q70, Value.int 0, Value.int 0, Value.int 0, Value.ref q78, Value.ref q79, Value.int 0, Value.int 16, Value.int 4, um, Value.ref q80, Value.ref q81, Value.ref q82, Value.int 0, Value.ref q83, Value.int 0, Value.int 0, Value.int 0])) : Nat × va_E) := f_46_ws25
          replace hlen : ws25.length = 117 := by rw [e_ws25.1, hlen]
          replace hU : gx_g ws ws25 0 [0, 1, 2, 3, 4, 5, 6, 7, 8, 9, 10, 11, 12, 13, 14, 15, 16, 17, 18, 19, 20, 21, 22, 23, 24, 25, 26, 27, 28, 29, 30, 31, 32, 33, 34, 35, 36, 37, 38, 39, 40, 41, 42, 43, 44, 45, 46, 47, 48, 49, 50, 51, 52, 53, 54, 55, 56, 57, 58, 59, 60, 61, 62, 63, 64, 65, 66, 67, 68, 69, 70, 71, 72, 73, 74, 75, 76, 77, 78, 79, 80, 81, 82, 83, 84, 85, 86, 87, 88, 89, 90, 91, 92, 93, 94, 95, 96, 97, 98, 99, 100, 101, 102, 103, 104, 105, 106, 107, 108, 109, 110, 111, 112, 113, 114, 115, 116] := hU.call e_ws25 (by rw [hlen0]; decide)
          refine W.eq (g2 := F0 m 1267 ls [Value.int 0, Value.int (-1)]) rfl ?_
          generalize t24.heap = H at hP hS ⊢
          generalize locs ++ L24 = locs at hS ⊢
          refine lv_icmp_eq (tgt := 1272) hx hb d_Lw_law_1267 (by decide) (fun c9 => absurd c9 (by decide)) (fun _ => ?_)
          refine lv_iconst (v := 0) hx hb d_Lw_law_1270 (by decide) ?_
          exfalso
          have k9_0 : ¬ ((y1 : Int32).toInt = (0 : Int32).toInt) := fun h9 => g1_0 (Int32.toInt_inj.mp h9)
          have k9_1 : ¬ ((y1 : Int32).toInt = (1 : Int32).toInt) := fun h9 => g1_1 (Int32.toInt_inj.mp h9)
          have k9_2 : ¬ ((y1 : Int32).toInt = (2 : Int32).toInt) := fun h9 => g1_2 (Int32.toInt_inj.mp h9)
          have k9_3 : ¬ ((y1 : Int32).toInt = (3 : Int32).toInt) := fun h9 => g1_3 (Int32.toInt_inj.mp h9)
          have k9_4 : ¬ ((y1 : Int32).toInt = (4 : Int32).toInt) := fun h9 => g1_4 (Int32.toInt_inj.mp h9)
          have k9_5 : ¬ ((y1 : Int32).toInt < (5 : Int32).toInt) := fun h9 => g1_5 (Int32.lt_iff_toInt_lt.mpr h9)
          have k9_6 : ¬ ((y1 : Int32).toInt ≤ (11 : Int32).toInt) := fun h9 => g1_6 (Int32.le_iff_toInt_le.mpr h9)
          have k9_12 : ¬ ((y1 : Int32).toInt = (5 : Int32).toInt) := fun h9 => g24_5 (Int32.toInt_inj.mp h9)
          have k9_13 : ((y1 : Int32).toInt = (6 : Int32).toInt) := Int32.toInt_inj.mpr g24_6
          have : (0 : Int32).toInt = 0 := by decide
          have : (1 : Int32).toInt = 1 := by decide
          have : (11 : Int32).toInt = 11 := by decide
          have : (2 : Int32).toInt = 2 := by decide
          have : (3 : Int32).toInt = 3 := by decide
          have : (4 : Int32).toInt = 4 := by decide
          have : (5 : Int32).toInt = 5 := by decide
          have : (6 : Int32).toInt = 6 := by decide
          omega
        · cases hv9
          have f_46_ws25 : ws25[46]? = some ((q46, Sum.inr (8, [Value.int 0, Value.int 0, Value.ref q47, Value.ref q48, Value.ref q49, Value.int 0, Value.ref q50, Value.ref q51, Value.ref q52, Value.ref q53, Value.int 0, Value.int 0, Value.int 0, Value.int (-1), Value.int 0, Value.ref q54, Value.ref q62, Value.ref q70, Value.int 0, Value.int 0, Value.int 0, Value.ref q78, Value.ref q79, Value.int 0, Value.int 16, Value.int 4, um, Value.ref q80, Value.ref q81, Value.ref q82, Value.int 0, Value.ref q83, Value.int 0, Value.int 0, Value.int 0])) : Nat × va_E) := f_46_ws25
          replace hlen : ws25.length = 117 := by rw [e_ws25.1, hlen]
          replace hU : gx_g ws ws25 0 [0, 1, 2, 3, 4, 5, 6, 7, 8, 9, 10, 11, 12, 13, 14, 15, 16, 17, 18, 19, 20, 21, 22, 23, 24, 25, 26, 27, 28, 29, 30, 31, 32, 33, 34, 35, 36, 37, 38, 39, 40, 41, 42, 43, 44, 45, 46, 47, 48, 49, 50, 51, 52, 53, 54, 55, 56, 57, 58, 59, 60, 61, 62, 63, 64, 65, 66, 67, 68, 69, 70, 71, 72, 73, 74, 75, 76, 77, 78, 79, 80, 81, 82, 83, 84, 85, 86, 87, 88, 89, 90, 91, 92, 93, 94, 95, 96, 97, 98, 99, 100, 101, 102, 103, 104, 105, 106, 107, 108, 109, 110, 111, 112, 113, 114, 115, 116] := hU.call e_ws25 (by rw [hlen0]; decide)
          refine W.eq (g2 := F0 m 1267 ls [Value.int 0, Value.int (-1)]) rfl ?_
          generalize t24.heap = H at hP hS ⊢
          generalize locs ++ L24 = locs at hS ⊢
          refine lv_icmp_eq (tgt := 1272) hx hb d_Lw_law_1267 (by decide) (fun c9 => absurd c9 (by decide)) (fun _ => ?_)
          refine lv_iconst (v := 0) hx hb d_Lw_law_1270 (by decide) ?_
          exfalso
          have k9_0 : ¬ ((y1 : Int32).toInt = (0 : Int32).toInt) := fun h9 => g1_0 (Int32.toInt_inj.mp h9)
          have k9_1 : ¬ ((y1 : Int32).toInt = (1 : Int32).toInt) := fun h9 => g1_1 (Int32.toInt_inj.mp h9)
          have k9_2 : ¬ ((y1 : Int32).toInt = (2 : Int32).toInt) := fun h9 => g1_2 (Int32.toInt_inj.mp h9)
          have k9_3 : ¬ ((y1 : Int32).toInt = (3 : Int32).toInt) := fun h9 => g1_3 (Int32.toInt_inj.mp h9)
          have k9_4 : ¬ ((y1 : Int32).toInt = (4 : Int32).toInt) := fun h9 => g1_4 (Int32.toInt_inj.mp h9)
          have k9_5 : ¬ ((y1 : Int32).toInt < (5 : Int32).toInt) := fun h9 => g1_5 (Int32.lt_iff_toInt_lt.mpr h9)
          have k9_6 : ¬ ((y1 : Int32).toInt ≤ (11 : Int32).toInt) := fun h9 => g1_6 (Int32.le_iff_toInt_le.mpr h9)
          have k9_12 : ¬ ((y1 : Int32).toInt = (5 : Int32).toInt) := fun h9 => g24_5 (Int32.toInt_inj.mp h9)
          have k9_13 : ¬ ((y1 : Int32).toInt = (6 : Int32).toInt) := fun h9 => g24_6 (Int32.toInt_inj.mp h9)
          have k9_14 : ((y1 : Int32).toInt = (7 : Int32).toInt) := Int32.toInt_inj.mpr g24_7
          have : (0 : Int32).toInt = 0 := by decide
          have : (1 : Int32).toInt = 1 := by decide
          have : (11 : Int32).toInt = 11 := by decide
          have : (2 : Int32).toInt = 2 := by decide
          have : (3 : Int32).toInt = 3 := by decide
          have : (4 : Int32).toInt = 4 := by decide
          have : (5 : Int32).toInt = 5 := by decide
          have : (6 : Int32).toInt = 6 := by decide
          have : (7 : Int32).toInt = 7 := by decide
          omega
        · cases hv9
          have f_46_ws25 : ws25[46]? = some ((q46, Sum.inr (8, [Value.int 0, Value.int 0, Value.ref q47, Value.ref q48, Value.ref q49, Value.int 0, Value.ref q50, Value.ref q51, Value.ref q52, Value.ref q53, Value.int 0, Value.int 0, Value.int 0, Value.int (-1), Value.int 0, Value.ref q54, Value.ref q62, Value.ref q70, Value.int 0, Value.int 0, Value.int 0, Value.ref q78, Value.ref q79, Value.int 0, Value.int 16, Value.int 4, um, Value.ref q80, Value.ref q81, Value.ref q82, Value.int 0, Value.ref q83, Value.int 0, Value.int 0, Value.int 0])) : Nat × va_E) := f_46_ws25
          replace hlen : ws25.length = 117 := by rw [e_ws25.1, hlen]
          replace hU : gx_g ws ws25 0 [0, 1, 2, 3, 4, 5, 6, 7, 8, 9, 10, 11, 12, 13, 14, 15, 16, 17, 18, 19, 20, 21, 22, 23, 24, 25, 26, 27, 28, 29, 30, 31, 32, 33, 34, 35, 36, 37, 38, 39, 40, 41, 42, 43, 44, 45, 46, 47, 48, 49, 50, 51, 52, 53, 54, 55, 56, 57, 58, 59, 60, 61, 62, 63, 64, 65, 66, 67, 68, 69, 70, 71, 72, 73, 74, 75, 76, 77, 78, 79, 80, 81, 82, 83, 84, 85, 86, 87, 88, 89, 90, 91, 92, 93, 94, 95, 96, 97, 98, 99, 100, 101, 102, 103, 104, 105, 106, 107, 108, 109, 110, 111, 112, 113, 114, 115, 116] := hU.call e_ws25 (by rw [hlen0]; decide)
          refine W.eq (g2 := F0 m 1267 ls [Value.int 0, Value.int (-1)]) rfl ?_
          generalize t24.heap = H at hP hS ⊢
          generalize locs ++ L24 = locs at hS ⊢
          refine lv_icmp_eq (tgt := 1272) hx hb d_Lw_law_1267 (by decide) (fun c9 => absurd c9 (by decide)) (fun _ => ?_)
          refine lv_iconst (v := 0) hx hb d_Lw_law_1270 (by decide) ?_
          exfalso
          have k9_0 : ¬ ((y1 : Int32).toInt = (0 : Int32).toInt) := fun h9 => g1_0 (Int32.toInt_inj.mp h9)
          have k9_1 : ¬ ((y1 : Int32).toInt = (1 : Int32).toInt) := fun h9 => g1_1 (Int32.toInt_inj.mp h9)
          have k9_2 : ¬ ((y1 : Int32).toInt = (2 : Int32).toInt) := fun h9 => g1_2 (Int32.toInt_inj.mp h9)
          have k9_3 : ¬ ((y1 : Int32).toInt = (3 : Int32).toInt) := fun h9 => g1_3 (Int32.toInt_inj.mp h9)
          have k9_4 : ¬ ((y1 : Int32).toInt = (4 : Int32).toInt) := fun h9 => g1_4 (Int32.toInt_inj.mp h9)
          have k9_5 : ¬ ((y1 : Int32).toInt < (5 : Int32).toInt) := fun h9 => g1_5 (Int32.lt_iff_toInt_lt.mpr h9)
          have k9_6 : ¬ ((y1 : Int32).toInt ≤ (11 : Int32).toInt) := fun h9 => g1_6 (Int32.le_iff_toInt_le.mpr h9)
          have k9_12 : ¬ ((y1 : Int32).toInt = (5 : Int32).toInt) := fun h9 => g24_5 (Int32.toInt_inj.mp h9)
          have k9_13 : ¬ ((y1 : Int32).toInt = (6 : Int32).toInt) := fun h9 => g24_6 (Int32.toInt_inj.mp h9)
          have k9_14 : ¬ ((y1 : Int32).toInt = (7 : Int32).toInt) := fun h9 => g24_7 (Int32.toInt_inj.mp h9)
          have k9_15 : ((y1 : Int32).toInt = (8 : Int32).toInt) := Int32.toInt_inj.mpr g24_8
          have : (0 : Int32).toInt = 0 := by decide
          have : (1 : Int32).toInt = 1 := by decide
          have : (11 : Int32).toInt = 11 := by decide
          have : (2 : Int32).toInt = 2 := by decide
          have : (3 : Int32).toInt = 3 := by decide
          have : (4 : Int32).toInt = 4 := by decide
          have : (5 : Int32).toInt = 5 := by decide
          have : (6 : Int32).toInt = 6 := by decide
          have : (7 : Int32).toInt = 7 := by decide
          have : (8 : Int32).toInt = 8 := by decide
          omega
        · cases hv9
          have f_46_ws25 : ws25[46]? = some ((q46, Sum.inr (8, [Value.int 0, Value.int 0, Value.ref q47, Value.ref q48, Value.ref q49, Value.int 0, Value.ref q50, Value.ref q51, Value.ref q52, Value.ref q53, Value.int 0, Value.int 0, Value.int 0, Value.int (-1), Value.int 0, Value.ref q54, Value.ref q62, Value.ref q70, Value.int 0, Value.int 0, Value.int 0, Value.ref q78, Value.ref q79, Value.int 0, Value.int 16, Value.int 4, um, Value.ref q80, Value.ref q81, Value.ref q82, Value.int 0, Value.ref q83, Value.int 0, Value.int 0, Value.int 0])) : Nat × va_E) := f_46_ws25
          replace hlen : ws25.length = 117 := by rw [e_ws25.1, hlen]
          replace hU : gx_g ws ws25 0 [0, 1, 2, 3, 4, 5, 6, 7, 8, 9, 10, 11, 12, 13, 14, 15, 16, 17, 18, 19, 20, 21, 22, 23, 24, 25, 26, 27, 28, 29, 30, 31, 32, 33, 34, 35, 36, 37, 38, 39, 40, 41, 42, 43, 44, 45, 46, 47, 48, 49, 50, 51, 52, 53, 54, 55, 56, 57, 58, 59, 60, 61, 62, 63, 64, 65, 66, 67, 68, 69, 70, 71, 72, 73, 74, 75, 76, 77, 78, 79, 80, 81, 82, 83, 84, 85, 86, 87, 88, 89, 90, 91, 92, 93, 94, 95, 96, 97, 98, 99, 100, 101, 102, 103, 104, 105, 106, 107, 108, 109, 110, 111, 112, 113, 114, 115, 116] := hU.call e_ws25 (by rw [hlen0]; decide)
          refine W.eq (g2 := F0 m 1267 ls [Value.int 0, Value.int (-1)]) rfl ?_
          generalize t24.heap = H at hP hS ⊢
          generalize locs ++ L24 = locs at hS ⊢
          refine lv_icmp_eq (tgt := 1272) hx hb d_Lw_law_1267 (by decide) (fun c9 => absurd c9 (by decide)) (fun _ => ?_)
          refine lv_iconst (v := 0) hx hb d_Lw_law_1270 (by decide) ?_
          exfalso
          have k9_0 : ¬ ((y1 : Int32).toInt = (0 : Int32).toInt) := fun h9 => g1_0 (Int32.toInt_inj.mp h9)
          have k9_1 : ¬ ((y1 : Int32).toInt = (1 : Int32).toInt) := fun h9 => g1_1 (Int32.toInt_inj.mp h9)
          have k9_2 : ¬ ((y1 : Int32).toInt = (2 : Int32).toInt) := fun h9 => g1_2 (Int32.toInt_inj.mp h9)
          have k9_3 : ¬ ((y1 : Int32).toInt = (3 : Int32).toInt) := fun h9 => g1_3 (Int32.toInt_inj.mp h9)
          have k9_4 : ¬ ((y1 : Int32).toInt = (4 : Int32).toInt) := fun h9 => g1_4 (Int32.toInt_inj.mp h9)
          have k9_5 : ¬ ((y1 : Int32).toInt < (5 : Int32).toInt) := fun h9 => g1_5 (Int32.lt_iff_toInt_lt.mpr h9)
          have k9_6 : ¬ ((y1 : Int32).toInt ≤ (11 : Int32).toInt) := fun h9 => g1_6 (Int32.le_iff_toInt_le.mpr h9)
          have k9_12 : ¬ ((y1 : Int32).toInt = (5 : Int32).toInt) := fun h9 => g24_5 (Int32.toInt_inj.mp h9)
          have k9_13 : ¬ ((y1 : Int32).toInt = (6 : Int32).toInt) := fun h9 => g24_6 (Int32.toInt_inj.mp h9)
          have k9_14 : ¬ ((y1 : Int32).toInt = (7 : Int32).toInt) := fun h9 => g24_7 (Int32.toInt_inj.mp h9)
          have k9_15 : ¬ ((y1 : Int32).toInt = (8 : Int32).toInt) := fun h9 => g24_8 (Int32.toInt_inj.mp h9)
          have k9_16 : ((y1 : Int32).toInt = (9 : Int32).toInt) := Int32.toInt_inj.mpr g24_9
          have : (0 : Int32).toInt = 0 := by decide
          have : (1 : Int32).toInt = 1 := by decide
          have : (11 : Int32).toInt = 11 := by decide
          have : (2 : Int32).toInt = 2 := by decide
          have : (3 : Int32).toInt = 3 := by decide
          have : (4 : Int32).toInt = 4 := by decide
          have : (5 : Int32).toInt = 5 := by decide
          have : (6 : Int32).toInt = 6 := by decide
          have : (7 : Int32).toInt = 7 := by decide
          have : (8 : Int32).toInt = 8 := by decide
          have : (9 : Int32).toInt = 9 := by decide
          omega
        · cases hv9
          have f_46_ws25 : ws25[46]? = some ((q46, Sum.inr (8, [Value.int 0, Value.int 0, Value.ref q47, Value.ref q48, Value.ref q49, Value.int 0, Value.ref q50, Value.ref q51, Value.ref q52, Value.ref q53, Value.int 0, Value.int 0, Value.int 0, Value.int (-1), Value.int 0, Value.ref q54, Value.ref q62, Value.ref q70, Value.int 0, Value.int 0, Value.int 0, Value.ref q78, Value.ref q79, Value.int 0, Value.int 16, Value.int 4, um, Value.ref q80, Value.ref q81, Value.ref q82, Value.int 0, Value.ref q83, Value.int 0, Value.int 0, Value.int 0])) : Nat × va_E) := f_46_ws25
          replace hlen : ws25.length = 117 := by rw [e_ws25.1, hlen]
          replace hU : gx_g ws ws25 0 [0, 1, 2, 3, 4, 5, 6, 7, 8, 9, 10, 11, 12, 13, 14, 15, 16, 17, 18, 19, 20, 21, 22, 23, 24, 25, 26, 27, 28, 29, 30, 31, 32, 33, 34, 35, 36, 37, 38, 39, 40, 41, 42, 43, 44, 45, 46, 47, 48, 49, 50, 51, 52, 53, 54, 55, 56, 57, 58, 59, 60, 61, 62, 63, 64, 65, 66, 67, 68, 69, 70, 71, 72, 73, 74, 75, 76, 77, 78, 79, 80, 81, 82, 83, 84, 85, 86, 87, 88, 89, 90, 91, 92, 93, 94, 95, 96, 97, 98, 99, 100, 101, 102, 103, 104, 105, 106, 107, 108, 109, 110, 111, 112, 113, 114, 115, 116] := hU.call e_ws25 (by rw [hlen0]; decide)
          refine W.eq (g2 := F0 m 1267 ls [Value.int 0, Value.int (-1)]) rfl ?_
          generalize t24.heap = H at hP hS ⊢
          generalize locs ++ L24 = locs at hS ⊢
          refine lv_icmp_eq (tgt := 1272) hx hb d_Lw_law_1267 (by decide) (fun c9 => absurd c9 (by decide)) (fun _ => ?_)
          refine lv_iconst (v := 0) hx hb d_Lw_law_1270 (by decide) ?_
          exfalso
          have k9_0 : ¬ ((y1 : Int32).toInt = (0 : Int32).toInt) := fun h9 => g1_0 (Int32.toInt_inj.mp h9)
          have k9_1 : ¬ ((y1 : Int32).toInt = (1 : Int32).toInt) := fun h9 => g1_1 (Int32.toInt_inj.mp h9)
          have k9_2 : ¬ ((y1 : Int32).toInt = (2 : Int32).toInt) := fun h9 => g1_2 (Int32.toInt_inj.mp h9)
          have k9_3 : ¬ ((y1 : Int32).toInt = (3 : Int32).toInt) := fun h9 => g1_3 (Int32.toInt_inj.mp h9)
          have k9_4 : ¬ ((y1 : Int32).toInt = (4 : Int32).toInt) := fun h9 => g1_4 (Int32.toInt_inj.mp h9)
          have k9_5 : ¬ ((y1 : Int32).toInt < (5 : Int32).toInt) := fun h9 => g1_5 (Int32.lt_iff_toInt_lt.mpr h9)
          have k9_6 : ¬ ((y1 : Int32).toInt ≤ (11 : Int32).toInt) := fun h9 => g1_6 (Int32.le_iff_toInt_le.mpr h9)
          have k9_12 : ¬ ((y1 : Int32).toInt = (5 : Int32).toInt) := fun h9 => g24_5 (Int32.toInt_inj.mp h9)
          have k9_13 : ¬ ((y1 : Int32).toInt = (6 : Int32).toInt) := fun h9 => g24_6 (Int32.toInt_inj.mp h9)
          have k9_14 : ¬ ((y1 : Int32).toInt = (7 : Int32).toInt) := fun h9 => g24_7 (Int32.toInt_inj.mp h9)
          have k9_15 : ¬ ((y1 : Int32).toInt = (8 : Int32).toInt) := fun h9 => g24_8 (Int32.toInt_inj.mp h9)
          have k9_16 : ¬ ((y1 : Int32).toInt = (9 : Int32).toInt) := fun h9 => g24_9 (Int32.toInt_inj.mp h9)
          have k9_17 : ((y1 : Int32).toInt = (10 : Int32).toInt) := Int32.toInt_inj.mpr g24_10
          have : (0 : Int32).toInt = 0 := by decide
          have : (1 : Int32).toInt = 1 := by decide
          have : (10 : Int32).toInt = 10 := by decide
          have : (11 : Int32).toInt = 11 := by decide
          have : (2 : Int32).toInt = 2 := by decide
          have : (3 : Int32).toInt = 3 := by decide
          have : (4 : Int32).toInt = 4 := by decide
          have : (5 : Int32).toInt = 5 := by decide
          have : (6 : Int32).toInt = 6 := by decide
          have : (7 : Int32).toInt = 7 := by decide
          have : (8 : Int32).toInt = 8 := by decide
          have : (9 : Int32).toInt = 9 := by decide
          omega
        · cases hv9
          have f_46_ws25 : ws25[46]? = some ((q46, Sum.inr (8, [Value.int 0, Value.int 0, Value.ref q47, Value.ref q48, Value.ref q49, Value.int 0, Value.ref q50, Value.ref q51, Value.ref q52, Value.ref q53, Value.int 0, Value.int 0, Value.int 0, Value.int (-1), Value.int 0, Value.ref q54, Value.ref q62, Value.ref q70, Value.int 0, Value.int 0, Value.int 0, Value.ref q78, Value.ref q79, Value.int 0, Value.int 16, Value.int 4, um, Value.ref q80, Value.ref q81, Value.ref q82, Value.int 0, Value.ref q83, Value.int 0, Value.int 0, Value.int 0])) : Nat × va_E) := f_46_ws25
          replace hlen : ws25.length = 117 := by rw [e_ws25.1, hlen]
          replace hU : gx_g ws ws25 0 [0, 1, 2, 3, 4, 5, 6, 7, 8, 9, 10, 11, 12, 13, 14, 15, 16, 17, 18, 19, 20, 21, 22, 23, 24, 25, 26, 27, 28, 29, 30, 31, 32, 33, 34, 35, 36, 37, 38, 39, 40, 41, 42, 43, 44, 45, 46, 47, 48, 49, 50, 51, 52, 53, 54, 55, 56, 57, 58, 59, 60, 61, 62, 63, 64, 65, 66, 67, 68, 69, 70, 71, 72, 73, 74, 75, 76, 77, 78, 79, 80, 81, 82, 83, 84, 85, 86, 87, 88, 89, 90, 91, 92, 93, 94, 95, 96, 97, 98, 99, 100, 101, 102, 103, 104, 105, 106, 107, 108, 109, 110, 111, 112, 113, 114, 115, 116] := hU.call e_ws25 (by rw [hlen0]; decide)
          refine W.eq (g2 := F0 m 1267 ls [Value.int 0, Value.int (-1)]) rfl ?_
          generalize t24.heap = H at hP hS ⊢
          generalize locs ++ L24 = locs at hS ⊢
          refine lv_icmp_eq (tgt := 1272) hx hb d_Lw_law_1267 (by decide) (fun c9 => absurd c9 (by decide)) (fun _ => ?_)
          refine lv_iconst (v := 0) hx hb d_Lw_law_1270 (by decide) ?_
          exfalso
          have k9_0 : ¬ ((y1 : Int32).toInt = (0 : Int32).toInt) := fun h9 => g1_0 (Int32.toInt_inj.mp h9)
          have k9_1 : ¬ ((y1 : Int32).toInt = (1 : Int32).toInt) := fun h9 => g1_1 (Int32.toInt_inj.mp h9)
          have k9_2 : ¬ ((y1 : Int32).toInt = (2 : Int32).toInt) := fun h9 => g1_2 (Int32.toInt_inj.mp h9)
          have k9_3 : ¬ ((y1 : Int32).toInt = (3 : Int32).toInt) := fun h9 => g1_3 (Int32.toInt_inj.mp h9)
          have k9_4 : ¬ ((y1 : Int32).toInt = (4 : Int32).toInt) := fun h9 => g1_4 (Int32.toInt_inj.mp h9)
          have k9_5 : ¬ ((y1 : Int32).toInt < (5 : Int32).toInt) := fun h9 => g1_5 (Int32.lt_iff_toInt_lt.mpr h9)
          have k9_6 : ¬ ((y1 : Int32).toInt ≤ (11 : Int32).toInt) := fun h9 => g1_6 (Int32.le_iff_toInt_le.mpr h9)
          have k9_12 : ¬ ((y1 : Int32).toInt = (5 : Int32).toInt) := fun h9 => g24_5 (Int32.toInt_inj.mp h9)
          have k9_13 : ¬ ((y1 : Int32).toInt = (6 : Int32).toInt) := fun h9 => g24_6 (Int32.toInt_inj.mp h9)
          have k9_14 : ¬ ((y1 : Int32).toInt = (7 : Int32).toInt) := fun h9 => g24_7 (Int32.toInt_inj.mp h9)
          have k9_15 : ¬ ((y1 : Int32).toInt = (8 : Int32).toInt) := fun h9 => g24_8 (Int32.toInt_inj.mp h9)
          have k9_16 : ¬ ((y1 : Int32).toInt = (9 : Int32).toInt) := fun h9 => g24_9 (Int32.toInt_inj.mp h9)
          have k9_17 : ¬ ((y1 : Int32).toInt = (10 : Int32).toInt) := fun h9 => g24_10 (Int32.toInt_inj.mp h9)
          have k9_18 : ((y1 : Int32).toInt = (11 : Int32).toInt) := Int32.toInt_inj.mpr g24_11
          have : (0 : Int32).toInt = 0 := by decide
          have : (1 : Int32).toInt = 1 := by decide
          have : (10 : Int32).toInt = 10 := by decide
          have : (11 : Int32).toInt = 11 := by decide
          have : (2 : Int32).toInt = 2 := by decide
          have : (3 : Int32).toInt = 3 := by decide
          have : (4 : Int32).toInt = 4 := by decide
          have : (5 : Int32).toInt = 5 := by decide
          have : (6 : Int32).toInt = 6 := by decide
          have : (7 : Int32).toInt = 7 := by decide
          have : (8 : Int32).toInt = 8 := by decide
          have : (9 : Int32).toInt = 9 := by decide
          omega
        · cases hv9
          have f_46_ws25 : ws25[46]? = some ((q46, Sum.inr (8, [Value.int 0, Value.int 0, Value.ref q47, Value.ref q48, Value.ref q49, Value.int 0, Value.ref q50, Value.ref q51, Value.ref q52, Value.ref q53, Value.int 0, Value.int 0, Value.int 0, Value.int (-1), Value.int 0, Value.ref q54, Value.ref q62, Value.ref q70, Value.int 0, Value.int 0, Value.int 0, Value.ref q78, Value.ref q79, Value.int 0, Value.int 16, Value.int 4, um, Value.ref q80, Value.ref q81, Value.ref q82, Value.int 0, Value.ref q83, Value.int 0, Value.int 0, Value.int 0])) : Nat × va_E) := f_46_ws25
          replace hlen : ws25.length = 117 := by rw [e_ws25.1, hlen]
          replace hU : gx_g ws ws25 0 [0, 1, 2, 3, 4, 5, 6, 7, 8, 9, 10, 11, 12, 13, 14, 15, 16, 17, 18, 19, 20, 21, 22, 23, 24, 25, 26, 27, 28, 29, 30, 31, 32, 33, 34, 35, 36, 37, 38, 39, 40, 41, 42, 43, 44, 45, 46, 47, 48, 49, 50, 51, 52, 53, 54, 55, 56, 57, 58, 59, 60, 61, 62, 63, 64, 65, 66, 67, 68, 69, 70, 71, 72, 73, 74, 75, 76, 77, 78, 79, 80, 81, 82, 83, 84, 85, 86, 87, 88, 89, 90, 91, 92, 93, 94, 95, 96, 97, 98, 99, 100, 101, 102, 103, 104, 105, 106, 107, 108, 109, 110, 111, 112, 113, 114, 115, 116] := hU.call e_ws25 (by rw [hlen0]; decide)
          refine W.eq (g2 := F0 m 1267 ls [Value.int (-1), Value.int (-1)]) rfl ?_
          generalize t24.heap = H at hP hS ⊢
          generalize locs ++ L24 = locs at hS ⊢
          refine lv_icmp_eq (tgt := 1272) hx hb d_Lw_law_1267 (by decide) (fun _ => ?_) (fun c9 => absurd (by decide) c9)
          refine W.widen (k := 400) (n := 700000) (by decide) (by decide) ?_
          exact k _ _ ls (by rw [hAe]; exact hS) (lv_sub hl [0, 4] rfl)
      · obtain ⟨E9, ws26, ce, hp, hce, hP9, -, hD9, hS9⟩ := gx_backT h0_24 hW_24 hQ_24 hL_24 hD hS hA
        clear hQ_24 h0_24 hL_24 hW_24 hP hD hS
        have hP := hP9
        have hD := hD9
        have hS := hS9
        clear hP9 hD9 hS9
        rcases hp with ⟨hv9, e_ws26, f_46_ws26, g24_0⟩ | ⟨hv9, e_ws26, f_46_ws26, g24_0, g24_1⟩ | ⟨hv9, e_ws26, f_46_ws26, g24_0, g24_1, g24_2⟩ | ⟨hv9, e_ws26, f_46_ws26, g24_0, g24_1, g24_2, g24_3⟩ | ⟨hv9, e_ws26, f_46_ws26, g24_0, g24_1, g24_2, g24_3, g24_4⟩ | ⟨hv9, e_ws26, f_46_ws26, g24_0, g24_1, g24_2, g24_3, g24_4, g24_5⟩ | ⟨hv9, e_ws26, f_46_ws26, g24_0, g24_1, g24_2, g24_3, g24_4, g24_5, g24_6⟩ | ⟨hv9, e_ws26, f_46_ws26, g24_0, g24_1, g24_2, g24_3, g24_4, g24_5, g24_6, g24_7⟩ | ⟨hv9, e_ws26, f_46_ws26, g24_0, g24_1, g24_2, g24_3, g24_4, g24_5, g24_6, g24_7, g24_8⟩ | ⟨hv9, e_ws26, f_46_ws26, g24_0, g24_1, g24_2, g24_3, g24_4, g24_5, g24_6, g24_7, g24_8, g24_9⟩ | ⟨hv9, e_ws26, f_46_ws26, g24_0, g24_1, g24_2, g24_3, g24_4, g24_5, g24_6, g24_7, g24_8, g24_9, g24_10⟩ | ⟨hv9, e_ws26, f_46_ws26, g24_0, g24_1, g24_2, g24_3, g24_4, g24_5, g24_6, g24_7, g24_8, g24_9, g24_10, g24_11⟩ | ⟨hv9, e_ws26, f_46_ws26, g24_0, g24_1, g24_2, g24_3, g24_4, g24_5, g24_6, g24_7, g24_8, g24_9, g24_10, g24_11⟩
        · cases hv9
        · cases hv9
        · cases hv9
        · cases hv9
        · cases hv9
        · cases hv9
        · cases hv9
        · cases hv9
        · cases hv9
        · cases hv9
        · cases hv9
        · cases hv9
        · cases hv9
  · obtain ⟨E9, ws27, ce, hp, hce, hP9, -, hD9, hS9⟩ := gx_backT h0_1 hW_1 hQ_1 hL_1 hD hS hA
    clear hQ_1 h0_1 hL_1 hW_1 hP hD hS
    have hP := hP9
    have hD := hD9
    have hS := hS9
    clear hP9 hD9 hS9
    rcases hp with ⟨hv9, e_ws27, g1_0⟩ | ⟨hv9, e_ws27, g1_0, g1_1⟩ | ⟨hv9, e_ws27, g1_0, g1_1, g1_2⟩ | ⟨hv9, e_ws27, g1_0, g1_1, g1_2, g1_3⟩ | ⟨hv9, e_ws27, g1_0, g1_1, g1_2, g1_3, g1_4⟩ | ⟨hv9, e_ws27, g1_0, g1_1, g1_2, g1_3, g1_4, g1_5⟩ | ⟨hv9, e_ws27, g1_0, g1_1, g1_2, g1_3, g1_4, g1_5, g1_6⟩ | ⟨hv9, e_ws27, g1_0, g1_1, g1_2, g1_3, g1_4, g1_5, g1_6⟩
    · cases hv9
    · cases hv9
    · cases hv9
    · cases hv9
    · cases hv9
    · cases hv9
    · cases hv9
    · cases hv9
