/-! THE TURNS OF THE LAW on new objects; rows printed by an own text program -/
set_option maxHeartbeats 4000000 in
set_option maxRecDepth 100000 in
theorem law_t0 {p : Program} {e : Env} {s : State} {m : MethodId} {below : List Frame} {meth : Method} {c : Code} {Q : State → Prop} (l : Launch) (htr : l.stackTraces = false) {b : Nat} {xs : Nat → Int32} (hx : p.tables.exec = Jvm.exec) (hb : c.code = code) (hml : c.maxLocals = 7) (hown : s.vm.findClass "CommitLedgerLaw" = some m.cls) (hts1 : ∀ w ∈ lw_tbl, w.before #[Value.ref b] s = true) (hgv : (Jvm.Cond.and given_1 narrow_1).before #[Value.ref b] s = true) (hX : va_X b 4 xs s s.heap) (hbl : b < s.heap.size) (D : va_G) (tys : List (ClassId × FieldType)) (cI cZ cF cM cR cV cJ : ClassId) (q0 q1 q2 q3 q4 q5 q6 q7 q8 q9 q10 q11 q12 q13 q14 q15 q16 q17 q18 q19 q20 q21 q22 q23 q24 q25 q26 q27 q28 q29 q30 q31 q32 q33 q34 q35 q36 q37 q38 q39 q40 q41 q42 q43 q44 q45 q46 q47 q48 q49 q50 q51 q52 q53 q54 q55 q56 q57 q58 q59 q60 q61 q62 q63 q64 q65 q66 q67 q68 q69 q70 q71 q72 q73 q74 q75 q76 q77 q78 q79 q80 q81 q82 q83 q84 q85 q86 q87 q88 q89 q90 q91 q92 q93 q94 q95 q96 q97 q98 q99 q100 q101 q102 q103 q104 q105 q106 q107 q108 q109 q110 q111 q112 q113 q114 q115 q116 : Nat) (u0 u1 um : Value) (ws : va_W) (H : Heap) (locs : List Loc) (ls : Array Slot) (hK : va_K D classes tys s) (htys : tys = [(cI, FieldType.int), (cZ, FieldType.boolean), (cF, FieldType.object "CommitLedger$LedgerFile"), (cM, FieldType.object "CommitLedger$Merge"), (cR, FieldType.object "CommitLedger$Reader"), (cV, FieldType.object "CommitLedgerModel$Version"), (cJ, FieldType.long)]) (hP : va_P D classes ws H) (hD : va_D (fun q : Nat => s.heap.size ≤ q) ws) (hS : va_S (fun q : Nat => s.heap.size ≤ q) s.heap H locs) (hlen : ws.length = 117) (f_0 : ws[0]? = some ((q0, Sum.inr (0, [Value.ref q1, Value.ref q5, Value.ref q8, Value.ref q20, Value.ref q25, Value.ref q12, Value.ref q16, Value.int 0, Value.int 0, Value.int 0, Value.int 16, Value.int 4, Value.int 0, Value.int 0, Value.int 0, Value.int 0, Value.int 0, Value.int (-1)])) : Nat × va_E)) (f_1 : ws[1]? = some ((q1, Sum.inr (1, [Value.ref q2, Value.ref q3, Value.ref q4, Value.int 0])) : Nat × va_E)) (f_5 : ws[5]? = some ((q5, Sum.inr (2, [Value.ref q6, Value.ref q7, Value.int 0, Value.int 0])) : Nat × va_E)) (f_6 : ws[6]? = some ((q6, Sum.inr (3, [u0, Value.int 0, Value.int 0])) : Nat × va_E)) (f_8 : ws[8]? = some ((q8, Sum.inr (4, [Value.ref q9, Value.ref q10, Value.ref q11, Value.null, Value.int 0, Value.int 0])) : Nat × va_E)) (f_11 : ws[11]? = some ((q11, Sum.inl (cZ, 4096, Sum.inl (fun _ => 0))) : Nat × va_E)) (f_25 : ws[25]? = some ((q25, Sum.inl (cR, 4, Sum.inr (Sum.inr (Sum.inr (Sum.inr (va_up (va_up (va_up (va_up (fun _ => none) 0 (some q26)) 1 (some q31)) 2 (some q36)) 3 (some q41))))))) : Nat × va_E)) (f_26 : ws[26]? = some ((q26, Sum.inr (6, [Value.ref q27, Value.int 0, Value.int 0])) : Nat × va_E)) (f_31 : ws[31]? = some ((q31, Sum.inr (6, [Value.ref q32, Value.int 0, Value.int 0])) : Nat × va_E)) (f_36 : ws[36]? = some ((q36, Sum.inr (6, [Value.ref q37, Value.int 0, Value.int 0])) : Nat × va_E)) (f_41 : ws[41]? = some ((q41, Sum.inr (6, [Value.ref q42, Value.int 0, Value.int 0])) : Nat × va_E)) (f_46 : ws[46]? = some ((q46, Sum.inr (8, [Value.int 0, Value.int 0, Value.ref q47, Value.ref q48, Value.ref q49, Value.int 0, Value.ref q50, Value.ref q51, Value.ref q52, Value.ref q53, Value.int 0, Value.int 0, Value.int 0, Value.int (-1), Value.int 0, Value.ref q54, Value.ref q62, Value.ref q70, Value.int 0, Value.int 0, Value.int 0, Value.ref q78, Value.ref q79, Value.int 0, Value.int 16, Value.int 4, um, Value.ref q80, Value.ref q81, Value.ref q82, Value.int 0, Value.ref q83, Value.int 0, Value.int 0, Value.int 0])) : Nat × va_E)) (f_54 : ws[54]? = some ((q54, Sum.inr (9, [Value.ref q55, Value.ref q56, Value.ref q57, Value.ref q58, Value.ref q59, Value.ref q60, Value.ref q61, Value.int 0, Value.int 0, Value.int 0, Value.int 0])) : Nat × va_E)) (f_83 : ws[83]? = some ((q83, Sum.inl (cV, 4, Sum.inr (Sum.inr (Sum.inr (Sum.inr (va_up (va_up (va_up (va_up (fun _ => none) 0 (some q84)) 1 (some q92)) 2 (some q100)) 3 (some q108))))))) : Nat × va_E)) (f_84 : ws[84]? = some ((q84, Sum.inr (9, [Value.ref q85, Value.ref q86, Value.ref q87, Value.ref q88, Value.ref q89, Value.ref q90, Value.ref q91, Value.int 0, Value.int 0, Value.int 0, Value.int 0])) : Nat × va_E)) (f_92 : ws[92]? = some ((q92, Sum.inr (9, [Value.ref q93, Value.ref q94, Value.ref q95, Value.ref q96, Value.ref q97, Value.ref q98, Value.ref q99, Value.int 0, Value.int 0, Value.int 0, Value.int 0])) : Nat × va_E)) (f_100 : ws[100]? = some ((q100, Sum.inr (9, [Value.ref q101, Value.ref q102, Value.ref q103, Value.ref q104, Value.ref q105, Value.ref q106, Value.ref q107, Value.int 0, Value.int 0, Value.int 0, Value.int 0])) : Nat × va_E)) (f_108 : ws[108]? = some ((q108, Sum.inr (9, [Value.ref q109, Value.ref q110, Value.ref q111, Value.ref q112, Value.ref q113, Value.ref q114, Value.ref q115, Value.int 0, Value.int 0, Value.int 0, Value.int 0])) : Nat × va_E)) (f_116 : ws[116]? = some ((q116, Sum.inl (cJ, 1, Sum.inr (Sum.inl (fun _ => 0)))) : Nat × va_E)) (hl : lv_has ls 7 [(4, Value.int 0), (3, Value.ref q116), (2, Value.ref q46), (1, Value.ref q0), (0, Value.ref b)])
    (k : ∀ (H : Heap) (locs : List Loc) (ls : Array Slot), va_S (fun q : Nat => s.heap.size ≤ q) s.heap H locs → lv_has ls 7 [(4, Value.int 0), (0, Value.ref b)] → W p l e room_1 s m #[Value.ref b] below meth c H locs 400 700000 Q (F0 m 1272 ls [])) :
    W p l e room_1 s m #[Value.ref b] below meth c H locs 122 677754 Q (F0 m 140 ls []) := by
  have ht0 : tys[0]? = some ((cI, FieldType.int) : ClassId × FieldType) := by rw [htys]; rfl
  have ht1 : tys[1]? = some ((cZ, FieldType.boolean) : ClassId × FieldType) := by rw [htys]; rfl
  have ht2 : tys[2]? = some ((cF, FieldType.object "CommitLedger$LedgerFile") : ClassId × FieldType) := by rw [htys]; rfl
  have ht3 : tys[3]? = some ((cM, FieldType.object "CommitLedger$Merge") : ClassId × FieldType) := by rw [htys]; rfl
  have ht4 : tys[4]? = some ((cR, FieldType.object "CommitLedger$Reader") : ClassId × FieldType) := by rw [htys]; rfl
  have ht5 : tys[5]? = some ((cV, FieldType.object "CommitLedgerModel$Version") : ClassId × FieldType) := by rw [htys]; rfl
  have ht6 : tys[6]? = some ((cJ, FieldType.long) : ClassId × FieldType) := by rw [htys]; rfl
  have hY := gx_Y0 hts1 hgv
  have hts := gx_hts0 hts1 hgv
  obtain ⟨z, hzz⟩ : ∃ x : Nat, x = s.heap.size := ⟨_, rfl⟩
  rw [← hzz] at hY
  have hz : z ≤ s.heap.size := Nat.le_of_eq hzz
  have hAz : ∀ q : Nat, (fun q : Nat => s.heap.size ≤ q) q → z ≤ q := fun q h => by rw [hzz]; exact h
  have hA : ∀ q : Nat, s.heap.size ≤ q → (fun q : Nat => s.heap.size ≤ q) q := fun _ h => h
  have hbA : ¬ (fun q : Nat => s.heap.size ≤ q) b := Nat.not_le.mpr hbl
  have hN : gx_NS (fun q : Nat => s.heap.size ≤ q) s := fun q cell h hc => absurd (Array.getElem?_eq_some_iff.mp hc).1 (Nat.not_lt.mpr h)
  have hlen0 := hlen
  have hU : gx_g ws ws 0 [0, 1, 2, 3, 4, 5, 6, 7, 8, 9, 10, 11, 12, 13, 14, 15, 16, 17, 18, 19, 20, 21, 22, 23, 24, 25, 26, 27, 28, 29, 30, 31, 32, 33, 34, 35, 36, 37, 38, 39, 40, 41, 42, 43, 44, 45, 46, 47, 48, 49, 50, 51, 52, 53, 54, 55, 56, 57, 58, 59, 60, 61, 62, 63, 64, 65, 66, 67, 68, 69, 70, 71, 72, 73, 74, 75, 76, 77, 78, 79, 80, 81, 82, 83, 84, 85, 86, 87, 88, 89, 90, 91, 92, 93, 94, 95, 96, 97, 98, 99, 100, 101, 102, 103, 104, 105, 106, 107, 108, 109, 110, 111, 112, 113, 114, 115, 116] := gx_g.rf
  obtain ⟨y0, hy0⟩ : ∃ y : Int32, y = xs 0 := ⟨_, rfl⟩
  obtain ⟨y1, hy1⟩ : ∃ y : Int32, y = xs 1 := ⟨_, rfl⟩
  obtain ⟨y2, hy2⟩ : ∃ y : Int32, y = xs 2 := ⟨_, rfl⟩
  obtain ⟨y3, hy3⟩ : ∃ y : Int32, y = xs 3 := ⟨_, rfl⟩
  generalize hAe : (fun q : Nat => s.heap.size ≤ q) = A at hD hN hA hAz hS hbA
  refine lv_aload_n hx hb d_Lw_law_140 rfl (lv_at hl 3 rfl) ?_
  refine lv_aload_n hx hb d_Lw_law_141 rfl (lv_at hl 4 rfl) ?_
  refine lv_iload hx hb d_Lw_law_142 (lv_at hl 0 rfl) ?_
  refine lv_iconst (v := 1) hx hb d_Lw_law_144 (by decide) ?_
  refine lv_iadd hx hb d_Lw_law_145 ?_
  refine gx_topi (y := 1) (by decide) ?_
  refine va_sld hx hb hX hbl hbA hS (i := 1) (gx_inl (by decide)) d_Lw_law_146 ?_
  refine gx_topi (y := y1) (by rw [hy1]; rfl) ?_
  refine lv_aload_n hx hb d_Lw_law_147 rfl (lv_at hl 1 rfl) ?_
  refine gx_callH (ig := .invokestatic 92) (c_Lw_open_v1 l htr D tys z _ ws cZ cR cJ q0 y1 q116 q1 q5 q8 q20 q25 q12 q16 q2 q3 q4 q6 q7 (u0) q9 q10 q11 q26 q31 q36 q41 q27 q32 q37 q42 (fun _ => 0) f_0 f_1 f_5 f_6 f_8 f_11 f_25 f_26 f_31 f_36 f_41 f_116 ht1 ht4 ht6) (gx_invSH (As := [Value.ref q0, Value.int y1, Value.ref q116]) (rest := []) hx hb hown hts km_Lw_92 kS_Lw_open kN_Lw kc_Lw_open (by decide) (show (parseMethodDescriptor y_Lw_open.desc).map (fun d => d.parameters.length) = some 3 by decide +kernel) rfl rfl d_Lw_law_148) (gx_cwH hts kc_Lw_open kN_Lw rfl rfl ⟨Nat.le_of_ble_eq_true rfl, Nat.le_of_ble_eq_true rfl⟩) hb hml gx_blind (gx_pre hz hP hK hD hY hS hAz [Value.ref q0, Value.int y1, Value.ref q116]) rfl hl.1 (lv_room (Nat.le_of_ble_eq_true rfl)) d_Lw_law_148 ⟨Nat.le_of_ble_eq_true rfl, Nat.le_of_ble_eq_true rfl⟩ (fun v1 st1 t1 L1 h0_1 hW_1 hQ_1 hL_1 => ?_) (fun v1 st1 t1 L1 h0_1 hW_1 hQ_1 hL_1 => ?_)
  · obtain ⟨ws2, hp, hP9, -, hD9, hS9⟩ := gx_back h0_1 hW_1 hQ_1 hL_1 hD hS hA
    clear hQ_1 h0_1 hL_1 hW_1 hP hD hS
    have hP := hP9
    have hD := hD9
    have hS := hS9
    clear hP9 hD9 hS9
    rcases hp with ⟨F3, hv9, e_ws2, f_0_ws2, f_5_ws2, f_8_ws2, f_11_ws2, f_116_ws2, g1_0, g1_1, g1_2, g1_3⟩ | ⟨F4, hv9, e_ws2, f_0_ws2, f_5_ws2, f_8_ws2, f_11_ws2, f_116_ws2, g1_0, g1_1, g1_2, g1_3⟩ | ⟨hv9, e_ws2, f_0_ws2, f_5_ws2, f_8_ws2, f_11_ws2, f_116_ws2, g1_0⟩ | ⟨hv9, e_ws2, f_0_ws2, f_5_ws2, f_8_ws2, f_11_ws2, f_116_ws2, g1_0, g1_1⟩
    · cases hv9
      have f_0_ws2 : ws2[0]? = some ((q0, Sum.inr (0, [Value.ref q1, Value.ref q5, Value.ref q8, Value.ref q20, Value.ref q25, Value.ref q12, Value.ref q16, Value.int 1, Value.int 0, Value.int 0, Value.int 16, Value.int 4, Value.int 0, Value.int 0, Value.int 0, Value.int 0, Value.int 0, Value.int (-1)])) : Nat × va_E) := f_0_ws2
      have f_5_ws2 : ws2[5]? = some ((q5, Sum.inr (2, [Value.ref q6, Value.ref q7, Value.int 0, Value.int 0])) : Nat × va_E) := f_5_ws2
      have f_8_ws2 : ws2[8]? = some ((q8, Sum.inr (4, [Value.ref q9, Value.ref q10, Value.ref q11, Value.null, Value.int 0, Value.int 0])) : Nat × va_E) := f_8_ws2
      have f_11_ws2 : ws2[11]? = some ((q11, Sum.inl (cZ, 4096, Sum.inl F3)) : Nat × va_E) := f_11_ws2
      have f_116_ws2 : ws2[116]? = some ((q116, Sum.inl (cJ, 1, Sum.inr (Sum.inl (vp_updL (fun _ => 0) 0 ((0 : Int32).toInt64))))) : Nat × va_E) := f_116_ws2
      replace hlen : ws2.length = 117 := by rw [e_ws2.1, hlen]
      replace hU : gx_g ws ws2 0 [0, 1, 2, 3, 4, 5, 6, 7, 8, 9, 10, 11, 12, 13, 14, 15, 16, 17, 18, 19, 20, 21, 22, 23, 24, 25, 26, 27, 28, 29, 30, 31, 32, 33, 34, 35, 36, 37, 38, 39, 40, 41, 42, 43, 44, 45, 46, 47, 48, 49, 50, 51, 52, 53, 54, 55, 56, 57, 58, 59, 60, 61, 62, 63, 64, 65, 66, 67, 68, 69, 70, 71, 72, 73, 74, 75, 76, 77, 78, 79, 80, 81, 82, 83, 84, 85, 86, 87, 88, 89, 90, 91, 92, 93, 94, 95, 96, 97, 98, 99, 100, 101, 102, 103, 104, 105, 106, 107, 108, 109, 110, 111, 112, 113, 114, 115, 116] := hU.call e_ws2 (by rw [hlen0]; decide)
      refine W.eq (g2 := F0 m 151 ls [Value.int 0]) rfl ?_
      refine W.widen (k := 123) (n := 677760) (by decide) (by decide) ?_
      generalize t1.heap = H at hP hS ⊢
      generalize locs ++ L1 = locs at hS ⊢
      refine lv_istore (lv' := [(5, Value.int 0), (4, Value.int 0), (3, Value.ref q116), (2, Value.ref q46), (1, Value.ref q0), (0, Value.ref b)]) hx hb d_Lw_law_151 hl (by decide) rfl (fun ls hl => ?_)
      refine lv_aload_n hx hb d_Lw_law_153 rfl (lv_at hl 3 rfl) ?_
      refine lv_aload_n hx hb d_Lw_law_154 rfl (lv_at hl 5 rfl) ?_
      refine lv_iload hx hb d_Lw_law_155 (lv_at hl 1 rfl) ?_
      refine lv_iconst (v := 1) hx hb d_Lw_law_157 (by decide) ?_
      refine lv_iadd hx hb d_Lw_law_158 ?_
      refine gx_topi (y := 1) (by decide) ?_
      refine va_sld hx hb hX hbl hbA hS (i := 1) (gx_inl (by decide)) d_Lw_law_159 ?_
      refine gx_topi (y := y1) (by rw [hy1]; rfl) ?_
      have f_46_ws2 : ws2[46]? = some ((q46, Sum.inr (8, [Value.int 0, Value.int 0, Value.ref q47, Value.ref q48, Value.ref q49, Value.int 0, Value.ref q50, Value.ref q51, Value.ref q52, Value.ref q53, Value.int 0, Value.int 0, Value.int 0, Value.int (-1), Value.int 0, Value.ref q54, Value.ref q62, Value.ref q70, Value.int 0, Value.int 0, Value.int 0, Value.ref q78, Value.ref q79, Value.int 0, Value.int 16, Value.int 4, um, Value.ref q80, Value.ref q81, Value.ref q82, Value.int 0, Value.ref q83, Value.int 0, Value.int 0, Value.int 0])) : Nat × va_E) := e_ws2.at (by first | decide | (simp; done) | (simp; omega)) f_46
      clear f_46
      have f_54_ws2 : ws2[54]? = some ((q54, Sum.inr (9, [Value.ref q55, Value.ref q56, Value.ref q57, Value.ref q58, Value.ref q59, Value.ref q60, Value.ref q61, Value.int 0, Value.int 0, Value.int 0, Value.int 0])) : Nat × va_E) := e_ws2.at (by first | decide | (simp; done) | (simp; omega)) f_54
      clear f_54
      have f_84_ws2 : ws2[84]? = some ((q84, Sum.inr (9, [Value.ref q85, Value.ref q86, Value.ref q87, Value.ref q88, Value.ref q89, Value.ref q90, Value.ref q91, Value.int 0, Value.int 0, Value.int 0, Value.int 0])) : Nat × va_E) := e_ws2.at (by first | decide | (simp; done) | (simp; omega)) f_84
      clear f_84
      have f_92_ws2 : ws2[92]? = some ((q92, Sum.inr (9, [Value.ref q93, Value.ref q94, Value.ref q95, Value.ref q96, Value.ref q97, Value.ref q98, Value.ref q99, Value.int 0, Value.int 0, Value.int 0, Value.int 0])) : Nat × va_E) := e_ws2.at (by first | decide | (simp; done) | (simp; omega)) f_92
      clear f_92
      have f_100_ws2 : ws2[100]? = some ((q100, Sum.inr (9, [Value.ref q101, Value.ref q102, Value.ref q103, Value.ref q104, Value.ref q105, Value.ref q106, Value.ref q107, Value.int 0, Value.int 0, Value.int 0, Value.int 0])) : Nat × va_E) := e_ws2.at (by first | decide | (simp; done) | (simp; omega)) f_100
      clear f_100
      have f_108_ws2 : ws2[108]? = some ((q108, Sum.inr (9, [Value.ref q109, Value.ref q110, Value.ref q111, Value.ref q112, Value.ref q113, Value.ref q114, Value.ref q115, Value.int 0, Value.int 0, Value.int 0, Value.int 0])) : Nat × va_E) := e_ws2.at (by first | decide | (simp; done) | (simp; omega)) f_108
      clear f_108
      have f_83_ws2 : ws2[83]? = some ((q83, Sum.inl (cV, 4, Sum.inr (Sum.inr (Sum.inr (Sum.inr (va_up (va_up (va_up (va_up (fun _ => none) 0 (some q84)) 1 (some q92)) 2 (some q100)) 3 (some q108))))))) : Nat × va_E) := e_ws2.at (by first | decide | (simp; done) | (simp; omega)) f_83
      clear f_83
      refine gx_call (ig := .invokevirtual 97) (c_Mo_open_v1 l htr D tys z _ ws2 cV q46 y1 q47 q48 q49 q50 q51 q52 q53 q54 q62 q70 q78 q79 (um) q80 q81 q82 q83 q55 q56 q57 q58 q59 q60 q61 q84 q85 q86 q87 q88 q89 q90 q91 q92 q93 q94 q95 q96 q97 q98 q99 q100 q101 q102 q103 q104 q105 q106 q107 q108 q109 q110 q111 q112 q113 q114 q115 f_46_ws2 f_54_ws2 f_84_ws2 f_92_ws2 f_100_ws2 f_108_ws2 f_83_ws2 ht5) (gx_invV (As := [Value.int y1]) (rest := []) hx hb hown hts km_Lw_97 kI_Mo_open kV_Mo_open kc_Mo_open (by decide) (show (parseMethodDescriptor y_Mo_open.desc).map (fun d => d.parameters.length) = some 1 by decide +kernel) (gx_recv (ci := 8) hK hP rfl f_46_ws2) rfl rfl d_Lw_law_160) (gx_cw (z := 0) hts kc_Mo_open kN_Mo rfl rfl ⟨Nat.le_of_ble_eq_true rfl, Nat.le_of_ble_eq_true rfl⟩) hb hml gx_blind (gx_pre hz hP hK hD hY hS hAz [Value.ref q46, Value.int y1]) rfl hl.1 (lv_room (Nat.le_of_ble_eq_true rfl)) d_Lw_law_160 ⟨Nat.le_of_ble_eq_true rfl, Nat.le_of_ble_eq_true rfl⟩ (fun v5 st5 t5 L5 h0_5 hW_5 hQ_5 hL_5 => ?_) (fun v5 st5 t5 L5 h0_5 hW_5 hQ_5 hL_5 => ?_)
      · obtain ⟨ws6, hp, hP9, -, hD9, hS9⟩ := gx_back h0_5 hW_5 hQ_5 hL_5 hD hS hA
        clear hQ_5 h0_5 hL_5 hW_5 hP hD hS
        have hP := hP9
        have hD := hD9
        have hS := hS9
        clear hP9 hD9 hS9
        rcases hp with ⟨hv9, e_ws6, f_46_ws6, f_54_ws6, g5_0⟩ | ⟨hv9, e_ws6, f_46_ws6, f_54_ws6, g5_0, g5_1, g5_2⟩ | ⟨hv9, e_ws6, f_46_ws6, f_54_ws6, g5_0, g5_1, g5_2⟩ | ⟨hv9, e_ws6, f_46_ws6, f_54_ws6, g5_0, g5_1⟩
        · cases hv9
          have f_46_ws6 : ws6[46]? = some ((q46, Sum.inr (8, [Value.int 0, Value.int 1, Value.ref q47, Value.ref q48, Value.ref q49, Value.int 0, Value.ref q50, Value.ref q51, Value.ref q52, Value.ref q53, Value.int 0, Value.int 0, Value.int 0, Value.int (-1), Value.int 0, Value.ref q54, Value.ref q62, Value.ref q70, Value.int 0, Value.int 0, Value.int 0, Value.ref q78, Value.ref q79, Value.int 0, Value.int 16, Value.int 4, um, Value.ref q80, Value.ref q81, Value.ref q82, Value.int 0, Value.ref q83, Value.int 0, Value.int 0, Value.int 0])) : Nat × va_E) := f_46_ws6
          have f_54_ws6 : ws6[54]? = some ((q54, Sum.inr (9, [Value.ref q55, Value.ref q56, Value.ref q57, Value.ref q58, Value.ref q59, Value.ref q60, Value.ref q61, Value.int 0, Value.int 0, Value.int 0, Value.int 0])) : Nat × va_E) := f_54_ws6
          replace hlen : ws6.length = 117 := by rw [e_ws6.1, hlen]
          replace hU : gx_g ws ws6 0 [0, 1, 2, 3, 4, 5, 6, 7, 8, 9, 10, 11, 12, 13, 14, 15, 16, 17, 18, 19, 20, 21, 22, 23, 24, 25, 26, 27, 28, 29, 30, 31, 32, 33, 34, 35, 36, 37, 38, 39, 40, 41, 42, 43, 44, 45, 46, 47, 48, 49, 50, 51, 52, 53, 54, 55, 56, 57, 58, 59, 60, 61, 62, 63, 64, 65, 66, 67, 68, 69, 70, 71, 72, 73, 74, 75, 76, 77, 78, 79, 80, 81, 82, 83, 84, 85, 86, 87, 88, 89, 90, 91, 92, 93, 94, 95, 96, 97, 98, 99, 100, 101, 102, 103, 104, 105, 106, 107, 108, 109, 110, 111, 112, 113, 114, 115, 116] := hU.call e_ws6 (by rw [hlen0]; decide)
          exact absurd g5_0 g1_0
        · cases hv9
          have f_46_ws6 : ws6[46]? = some ((q46, Sum.inr (8, [Value.int 0, Value.int 0, Value.ref q47, Value.ref q48, Value.ref q49, Value.int 0, Value.ref q50, Value.ref q51, Value.ref q52, Value.ref q53, Value.int 0, Value.int 0, Value.int 0, Value.int (-1), Value.int 0, Value.ref q54, Value.ref q62, Value.ref q70, Value.int 1, Value.int 0, Value.int 0, Value.ref q78, Value.ref q79, Value.int 0, Value.int 16, Value.int 4, um, Value.ref q80, Value.ref q81, Value.ref q82, Value.int 0, Value.ref q83, Value.int 0, Value.int 0, Value.int 0])) : Nat × va_E) := f_46_ws6
          have f_54_ws6 : ws6[54]? = some ((q54, Sum.inr (9, [Value.ref q55, Value.ref q56, Value.ref q57, Value.ref q58, Value.ref q59, Value.ref q60, Value.ref q61, Value.int 0, Value.int 0, Value.int 0, Value.int 0])) : Nat × va_E) := f_54_ws6
          replace hlen : ws6.length = 117 := by rw [e_ws6.1, hlen]
          replace hU : gx_g ws ws6 0 [0, 1, 2, 3, 4, 5, 6, 7, 8, 9, 10, 11, 12, 13, 14, 15, 16, 17, 18, 19, 20, 21, 22, 23, 24, 25, 26, 27, 28, 29, 30, 31, 32, 33, 34, 35, 36, 37, 38, 39, 40, 41, 42, 43, 44, 45, 46, 47, 48, 49, 50, 51, 52, 53, 54, 55, 56, 57, 58, 59, 60, 61, 62, 63, 64, 65, 66, 67, 68, 69, 70, 71, 72, 73, 74, 75, 76, 77, 78, 79, 80, 81, 82, 83, 84, 85, 86, 87, 88, 89, 90, 91, 92, 93, 94, 95, 96, 97, 98, 99, 100, 101, 102, 103, 104, 105, 106, 107, 108, 109, 110, 111, 112, 113, 114, 115, 116] := hU.call e_ws6 (by rw [hlen0]; decide)
          refine W.eq (g2 := F0 m 163 ls [Value.int 0]) rfl ?_
          generalize t5.heap = H at hP hS ⊢
          generalize locs ++ L5 = locs at hS ⊢
          refine lv_istore (lv' := [(6, Value.int 0), (5, Value.int 0), (4, Value.int 0), (3, Value.ref q116), (2, Value.ref q46), (1, Value.ref q0), (0, Value.ref b)]) hx hb d_Lw_law_163 hl (by decide) rfl (fun ls hl => ?_)
          refine lv_aload_n hx hb d_Lw_law_165 rfl (lv_at hl 4 rfl) ?_
          refine gx_call (ig := .invokevirtual 98) (c_Mo_thrown l htr D tys z _ ws6 q46 46 (Value.int 0) 0 (Value.ref q47) (Value.ref q48) (Value.ref q49) (Value.int 0) (Value.ref q50) (Value.ref q51) (Value.ref q52) (Value.ref q53) (Value.int 0) (Value.int 0) (Value.int 0) (Value.int (-1)) (Value.int 0) (Value.ref q54) (Value.ref q62) (Value.ref q70) (Value.int 1) (Value.int 0) (Value.int 0) (Value.ref q78) (Value.ref q79) (Value.int 0) (Value.int 16) (Value.int 4) (um) (Value.ref q80) (Value.ref q81) (Value.ref q82) (Value.int 0) (Value.ref q83) (Value.int 0) (Value.int 0) (Value.int 0) f_46_ws6) (gx_invV (As := []) (rest := []) hx hb hown hts km_Lw_98 kI_Mo_thrown kV_Mo_thrown kc_Mo_thrown (by decide) (show (parseMethodDescriptor y_Mo_thrown.desc).map (fun d => d.parameters.length) = some 0 by decide +kernel) (gx_recv (ci := 8) hK hP rfl f_46_ws6) rfl rfl d_Lw_law_166) (gx_cw (z := 0) hts kc_Mo_thrown kN_Mo rfl rfl ⟨Nat.le_of_ble_eq_true rfl, Nat.le_of_ble_eq_true rfl⟩) hb hml gx_blind (gx_pre hz hP hK hD hY hS hAz [Value.ref q46]) rfl hl.1 (lv_room (Nat.le_of_ble_eq_true rfl)) d_Lw_law_166 ⟨Nat.le_of_ble_eq_true rfl, Nat.le_of_ble_eq_true rfl⟩ (fun v7 st7 t7 L7 h0_7 hW_7 hQ_7 hL_7 => ?_) (fun v7 st7 t7 L7 h0_7 hW_7 hQ_7 hL_7 => ?_)
          · obtain ⟨ws8, hp, hP9, -, hD9, hS9⟩ := gx_back h0_7 hW_7 hQ_7 hL_7 hD hS hA
            clear hQ_7 h0_7 hL_7 hW_7 hP hD hS
            have hP := hP9
            have hD := hD9
            have hS := hS9
            clear hP9 hD9 hS9
            rcases hp with ⟨hv9, e_ws8⟩
            cases hv9
            rw [e_ws8] at hP hD
            refine W.eq (g2 := F0 m 169 ls [Value.int 0]) rfl ?_
            generalize t7.heap = H at hP hS ⊢
            generalize locs ++ L7 = locs at hS ⊢
            refine lv_iload hx hb d_Lw_law_169 (lv_at hl 1 rfl) ?_
            refine lv_icmp_eq (tgt := 176) hx hb d_Lw_law_171 (by decide) (fun _ => ?_) (fun c9 => absurd (by decide) c9)
            refine lv_iload hx hb d_Lw_law_176 (lv_at hl 1 rfl) ?_
            refine lv_if_ne (tgt := 193) hx hb d_Lw_law_178 (by decide) (fun c9 => absurd (by decide) c9) (fun _ => ?_)
            refine lv_aload_n hx hb d_Lw_law_181 rfl (lv_at hl 3 rfl) ?_
            refine lv_iconst (v := 0) hx hb d_Lw_law_182 (by decide) ?_
            have f_116_ws6 : ws6[116]? = some ((q116, Sum.inl (cJ, 1, Sum.inr (Sum.inl (vp_updL (fun _ => 0) 0 ((0 : Int32).toInt64))))) : Nat × va_E) := e_ws6.at (by first | decide | (simp; done) | (simp; omega)) f_116_ws2
            clear f_116_ws2
            refine va_lald (D := D) hx hb hK hP 116 6 f_116_ws6 ht6 (gx_inl (by decide)) d_Lw_law_183 ?_
            refine gx_topl (y := ((0 : Int32).toInt64)) rfl ?_
            refine lv_iload hx hb d_Lw_law_184 (lv_at hl 0 rfl) ?_
            refine lv_i2l (v := (0 : Int32).toInt64) hx hb d_Lw_law_186 rfl ?_
            refine gx_lcmpE hx hb d_Lw_law_187 ?_
            refine lv_if_eq (tgt := 193) hx hb d_Lw_law_188 (by decide) (fun _ => ?_) (fun c9 => absurd (by decide) c9)
            refine lv_goto (tgt := 1272) hx hb d_Lw_law_193 (by decide) ?_
            refine W.widen (k := 400) (n := 700000) (by decide) (by decide) ?_
            exact k _ _ ls (by rw [hAe]; exact hS) (lv_sub hl [2, 6] rfl)
          · obtain ⟨E9, ws9, ce, hp, hce, hP9, -, hD9, hS9⟩ := gx_backT h0_7 hW_7 hQ_7 hL_7 hD hS hA
            clear hQ_7 h0_7 hL_7 hW_7 hP hD hS
            have hP := hP9
            have hD := hD9
            have hS := hS9
            clear hP9 hD9 hS9
            rcases hp with ⟨hv9, e_ws9⟩
            cases hv9
        · cases hv9
          have f_46_ws6 : ws6[46]? = some ((q46, Sum.inr (8, [Value.int 0, Value.int 0, Value.ref q47, Value.ref q48, Value.ref q49, Value.int 0, Value.ref q50, Value.ref q51, Value.ref q52, Value.ref q53, Value.int 0, Value.int 0, Value.int 0, Value.int (-1), Value.int 0, Value.ref q54, Value.ref q62, Value.ref q70, Value.int 1, Value.int 0, Value.int 0, Value.ref q78, Value.ref q79, Value.int 0, Value.int 16, Value.int 4, um, Value.ref q80, Value.ref q81, Value.ref q82, Value.int 0, Value.ref q83, Value.int 0, Value.int 0, Value.int 0])) : Nat × va_E) := f_46_ws6
          have f_54_ws6 : ws6[54]? = some ((q54, Sum.inr (9, [Value.ref q55, Value.ref q56, Value.ref q57, Value.ref q58, Value.ref q59, Value.ref q60, Value.ref q61, Value.int 0, Value.int 0, Value.int 0, Value.int 0])) : Nat × va_E) := f_54_ws6
          replace hlen : ws6.length = 117 := by rw [e_ws6.1, hlen]
          replace hU : gx_g ws ws6 0 [0, 1, 2, 3, 4, 5, 6, 7, 8, 9, 10, 11, 12, 13, 14, 15, 16, 17, 18, 19, 20, 21, 22, 23, 24, 25, 26, 27, 28, 29, 30, 31, 32, 33, 34, 35, 36, 37, 38, 39, 40, 41, 42, 43, 44, 45, 46, 47, 48, 49, 50, 51, 52, 53, 54, 55, 56, 57, 58, 59, 60, 61, 62, 63, 64, 65, 66, 67, 68, 69, 70, 71, 72, 73, 74, 75, 76, 77, 78, 79, 80, 81, 82, 83, 84, 85, 86, 87, 88, 89, 90, 91, 92, 93, 94, 95, 96, 97, 98, 99, 100, 101, 102, 103, 104, 105, 106, 107, 108, 109, 110, 111, 112, 113, 114, 115, 116] := hU.call e_ws6 (by rw [hlen0]; decide)
          exact absurd g5_2 g1_2
        · cases hv9
          have f_46_ws6 : ws6[46]? = some ((q46, Sum.inr (8, [Value.int 0, Value.int 1, Value.ref q47, Value.ref q48, Value.ref q49, Value.int 0, Value.ref q50, Value.ref q51, Value.ref q52, Value.ref q53, Value.int 0, Value.int 0, Value.int 0, Value.int (-1), Value.int 0, Value.ref q54, Value.ref q62, Value.ref q70, Value.int 0, Value.int 0, Value.int 0, Value.ref q78, Value.ref q79, Value.int 0, Value.int 16, Value.int 4, um, Value.ref q80, Value.ref q81, Value.ref q82, Value.int 0, Value.ref q83, Value.int 0, Value.int 0, Value.int 0])) : Nat × va_E) := f_46_ws6
          have f_54_ws6 : ws6[54]? = some ((q54, Sum.inr (9, [Value.ref q55, Value.ref q56, Value.ref q57, Value.ref q58, Value.ref q59, Value.ref q60, Value.ref q61, Value.int 0, Value.int 0, Value.int 0, Value.int 0])) : Nat × va_E) := f_54_ws6
          replace hlen : ws6.length = 117 := by rw [e_ws6.1, hlen]
          replace hU : gx_g ws ws6 0 [0, 1, 2, 3, 4, 5, 6, 7, 8, 9, 10, 11, 12, 13, 14, 15, 16, 17, 18, 19, 20, 21, 22, 23, 24, 25, 26, 27, 28, 29, 30, 31, 32, 33, 34, 35, 36, 37, 38, 39, 40, 41, 42, 43, 44, 45, 46, 47, 48, 49, 50, 51, 52, 53, 54, 55, 56, 57, 58, 59, 60, 61, 62, 63, 64, 65, 66, 67, 68, 69, 70, 71, 72, 73, 74, 75, 76, 77, 78, 79, 80, 81, 82, 83, 84, 85, 86, 87, 88, 89, 90, 91, 92, 93, 94, 95, 96, 97, 98, 99, 100, 101, 102, 103, 104, 105, 106, 107, 108, 109, 110, 111, 112, 113, 114, 115, 116] := hU.call e_ws6 (by rw [hlen0]; decide)
          exact absurd g1_1 g5_1
      · obtain ⟨E9, ws10, ce, hp, hce, hP9, -, hD9, hS9⟩ := gx_backT h0_5 hW_5 hQ_5 hL_5 hD hS hA
        clear hQ_5 h0_5 hL_5 hW_5 hP hD hS
        have hP := hP9
        have hD := hD9
        have hS := hS9
        clear hP9 hD9 hS9
        rcases hp with ⟨hv9, e_ws10, f_46_ws10, f_54_ws10, g5_0⟩ | ⟨hv9, e_ws10, f_46_ws10, f_54_ws10, g5_0, g5_1, g5_2⟩ | ⟨hv9, e_ws10, f_46_ws10, f_54_ws10, g5_0, g5_1, g5_2⟩ | ⟨hv9, e_ws10, f_46_ws10, f_54_ws10, g5_0, g5_1⟩
        · cases hv9
        · cases hv9
        · cases hv9
        · cases hv9
    · cases hv9
      have f_0_ws2 : ws2[0]? = some ((q0, Sum.inr (0, [Value.ref q1, Value.ref q5, Value.ref q8, Value.ref q20, Value.ref q25, Value.ref q12, Value.ref q16, Value.int 1, Value.int 0, Value.int 0, Value.int 16, Value.int 4, Value.int 0, Value.int 0, Value.int 0, Value.int 0, Value.int 0, Value.int (-1)])) : Nat × va_E) := f_0_ws2
      have f_5_ws2 : ws2[5]? = some ((q5, Sum.inr (2, [Value.ref q6, Value.ref q7, Value.int 0, Value.int 0])) : Nat × va_E) := f_5_ws2
      have f_8_ws2 : ws2[8]? = some ((q8, Sum.inr (4, [Value.ref q9, Value.ref q10, Value.ref q11, Value.null, Value.int 0, Value.int 0])) : Nat × va_E) := f_8_ws2
      have f_11_ws2 : ws2[11]? = some ((q11, Sum.inl (cZ, 4096, Sum.inl F4)) : Nat × va_E) := f_11_ws2
      have f_116_ws2 : ws2[116]? = some ((q116, Sum.inl (cJ, 1, Sum.inr (Sum.inl (vp_updL (fun _ => 0) 0 ((0 : Int32).toInt64))))) : Nat × va_E) := f_116_ws2
      replace hlen : ws2.length = 117 := by rw [e_ws2.1, hlen]
      replace hU : gx_g ws ws2 0 [0, 1, 2, 3, 4, 5, 6, 7, 8, 9, 10, 11, 12, 13, 14, 15, 16, 17, 18, 19, 20, 21, 22, 23, 24, 25, 26, 27, 28, 29, 30, 31, 32, 33, 34, 35, 36, 37, 38, 39, 40, 41, 42, 43, 44, 45, 46, 47, 48, 49, 50, 51, 52, 53, 54, 55, 56, 57, 58, 59, 60, 61, 62, 63, 64, 65, 66, 67, 68, 69, 70, 71, 72, 73, 74, 75, 76, 77, 78, 79, 80, 81, 82, 83, 84, 85, 86, 87, 88, 89, 90, 91, 92, 93, 94, 95, 96, 97, 98, 99, 100, 101, 102, 103, 104, 105, 106, 107, 108, 109, 110, 111, 112, 113, 114, 115, 116] := hU.call e_ws2 (by rw [hlen0]; decide)
      refine W.eq (g2 := F0 m 151 ls [Value.int 0]) rfl ?_
      refine W.widen (k := 123) (n := 677760) (by decide) (by decide) ?_
      generalize t1.heap = H at hP hS ⊢
      generalize locs ++ L1 = locs at hS ⊢
      refine lv_istore (lv' := [(5, Value.int 0), (4, Value.int 0), (3, Value.ref q116), (2, Value.ref q46), (1, Value.ref q0), (0, Value.ref b)]) hx hb d_Lw_law_151 hl (by decide) rfl (fun ls hl => ?_)
      refine lv_aload_n hx hb d_Lw_law_153 rfl (lv_at hl 3 rfl) ?_
      refine lv_aload_n hx hb d_Lw_law_154 rfl (lv_at hl 5 rfl) ?_
      refine lv_iload hx hb d_Lw_law_155 (lv_at hl 1 rfl) ?_
      refine lv_iconst (v := 1) hx hb d_Lw_law_157 (by decide) ?_
      refine lv_iadd hx hb d_Lw_law_158 ?_
      refine gx_topi (y := 1) (by decide) ?_
      refine va_sld hx hb hX hbl hbA hS (i := 1) (gx_inl (by decide)) d_Lw_law_159 ?_
      refine gx_topi (y := y1) (by rw [hy1]; rfl) ?_
      have f_46_ws2 : ws2[46]? = some ((q46, Sum.inr (8, [Value.int 0, Value.int 0, Value.ref q47, Value.ref q48, Value.ref q49, Value.int 0, Value.ref q50, Value.ref q51, Value.ref q52, Value.ref q53, Value.int 0, Value.int 0, Value.int 0, Value.int (-1), Value.int 0, Value.ref q54, Value.ref q62, Value.ref q70, Value.int 0, Value.int 0, Value.int 0, Value.ref q78, Value.ref q79, Value.int 0, Value.int 16, Value.int 4, um, Value.ref q80, Value.ref q81, Value.ref q82, Value.int 0, Value.ref q83, Value.int 0, Value.int 0, Value.int 0])) : Nat × va_E) := e_ws2.at (by first | decide | (simp; done) | (simp; omega)) f_46
      clear f_46
      have f_54_ws2 : ws2[54]? = some ((q54, Sum.inr (9, [Value.ref q55, Value.ref q56, Value.ref q57, Value.ref q58, Value.ref q59, Value.ref q60, Value.ref q61, Value.int 0, Value.int 0, Value.int 0, Value.int 0])) : Nat × va_E) := e_ws2.at (by first | decide | (simp; done) | (simp; omega)) f_54
      clear f_54
      have f_84_ws2 : ws2[84]? = some ((q84, Sum.inr (9, [Value.ref q85, Value.ref q86, Value.ref q87, Value.ref q88, Value.ref q89, Value.ref q90, Value.ref q91, Value.int 0, Value.int 0, Value.int 0, Value.int 0])) : Nat × va_E) := e_ws2.at (by first | decide | (simp; done) | (simp; omega)) f_84
      clear f_84
      have f_92_ws2 : ws2[92]? = some ((q92, Sum.inr (9, [Value.ref q93, Value.ref q94, Value.ref q95, Value.ref q96, Value.ref q97, Value.ref q98, Value.ref q99, Value.int 0, Value.int 0, Value.int 0, Value.int 0])) : Nat × va_E) := e_ws2.at (by first | decide | (simp; done) | (simp; omega)) f_92
      clear f_92
      have f_100_ws2 : ws2[100]? = some ((q100, Sum.inr (9, [Value.ref q101, Value.ref q102, Value.ref q103, Value.ref q104, Value.ref q105, Value.ref q106, Value.ref q107, Value.int 0, Value.int 0, Value.int 0, Value.int 0])) : Nat × va_E) := e_ws2.at (by first | decide | (simp; done) | (simp; omega)) f_100
      clear f_100
      have f_108_ws2 : ws2[108]? = some ((q108, Sum.inr (9, [Value.ref q109, Value.ref q110, Value.ref q111, Value.ref q112, Value.ref q113, Value.ref q114, Value.ref q115, Value.int 0, Value.int 0, Value.int 0, Value.int 0])) : Nat × va_E) := e_ws2.at (by first | decide | (simp; done) | (simp; omega)) f_108
      clear f_108
      have f_83_ws2 : ws2[83]? = some ((q83, Sum.inl (cV, 4, Sum.inr (Sum.inr (Sum.inr (Sum.inr (va_up (va_up (va_up (va_up (fun _ => none) 0 (some q84)) 1 (some q92)) 2 (some q100)) 3 (some q108))))))) : Nat × va_E) := e_ws2.at (by first | decide | (simp; done) | (simp; omega)) f_83
      clear f_83
      refine gx_call (ig := .invokevirtual 97) (c_Mo_open_v1 l htr D tys z _ ws2 cV q46 y1 q47 q48 q49 q50 q51 q52 q53 q54 q62 q70 q78 q79 (um) q80 q81 q82 q83 q55 q56 q57 q58 q59 q60 q61 q84 q85 q86 q87 q88 q89 q90 q91 q92 q93 q94 q95 q96 q97 q98 q99 q100 q101 q102 q103 q104 q105 q106 q107 q108 q109 q110 q111 q112 q113 q114 q115 f_46_ws2 f_54_ws2 f_84_ws2 f_92_ws2 f_100_ws2 f_108_ws2 f_83_ws2 ht5) (gx_invV (As := [Value.int y1]) (rest := []) hx hb hown hts km_Lw_97 kI_Mo_open kV_Mo_open kc_Mo_open (by decide) (show (parseMethodDescriptor y_Mo_open.desc).map (fun d => d.parameters.length) = some 1 by decide +kernel) (gx_recv (ci := 8) hK hP rfl f_46_ws2) rfl rfl d_Lw_law_160) (gx_cw (z := 0) hts kc_Mo_open kN_Mo rfl rfl ⟨Nat.le_of_ble_eq_true rfl, Nat.le_of_ble_eq_true rfl⟩) hb hml gx_blind (gx_pre hz hP hK hD hY hS hAz [Value.ref q46, Value.int y1]) rfl hl.1 (lv_room (Nat.le_of_ble_eq_true rfl)) d_Lw_law_160 ⟨Nat.le_of_ble_eq_true rfl, Nat.le_of_ble_eq_true rfl⟩ (fun v11 st11 t11 L11 h0_11 hW_11 hQ_11 hL_11 => ?_) (fun v11 st11 t11 L11 h0_11 hW_11 hQ_11 hL_11 => ?_)
      · obtain ⟨ws12, hp, hP9, -, hD9, hS9⟩ := gx_back h0_11 hW_11 hQ_11 hL_11 hD hS hA
        clear hQ_11 h0_11 hL_11 hW_11 hP hD hS
        have hP := hP9
        have hD := hD9
        have hS := hS9
        clear hP9 hD9 hS9
        rcases hp with ⟨hv9, e_ws12, f_46_ws12, f_54_ws12, g11_0⟩ | ⟨hv9, e_ws12, f_46_ws12, f_54_ws12, g11_0, g11_1, g11_2⟩ | ⟨hv9, e_ws12, f_46_ws12, f_54_ws12, g11_0, g11_1, g11_2⟩ | ⟨hv9, e_ws12, f_46_ws12, f_54_ws12, g11_0, g11_1⟩
        · cases hv9
          have f_46_ws12 : ws12[46]? = some ((q46, Sum.inr (8, [Value.int 0, Value.int 1, Value.ref q47, Value.ref q48, Value.ref q49, Value.int 0, Value.ref q50, Value.ref q51, Value.ref q52, Value.ref q53, Value.int 0, Value.int 0, Value.int 0, Value.int (-1), Value.int 0, Value.ref q54, Value.ref q62, Value.ref q70, Value.int 0, Value.int 0, Value.int 0, Value.ref q78, Value.ref q79, Value.int 0, Value.int 16, Value.int 4, um, Value.ref q80, Value.ref q81, Value.ref q82, Value.int 0, Value.ref q83, Value.int 0, Value.int 0, Value.int 0])) : Nat × va_E) := f_46_ws12
          have f_54_ws12 : ws12[54]? = some ((q54, Sum.inr (9, [Value.ref q55, Value.ref q56, Value.ref q57, Value.ref q58, Value.ref q59, Value.ref q60, Value.ref q61, Value.int 0, Value.int 0, Value.int 0, Value.int 0])) : Nat × va_E) := f_54_ws12
          replace hlen : ws12.length = 117 := by rw [e_ws12.1, hlen]
          replace hU : gx_g ws ws12 0 [0, 1, 2, 3, 4, 5, 6, 7, 8, 9, 10, 11, 12, 13, 14, 15, 16, 17, 18, 19, 20, 21, 22, 23, 24, 25, 26, 27, 28, 29, 30, 31, 32, 33, 34, 35, 36, 37, 38, 39, 40, 41, 42, 43, 44, 45, 46, 47, 48, 49, 50, 51, 52, 53, 54, 55, 56, 57, 58, 59, 60, 61, 62, 63, 64, 65, 66, 67, 68, 69, 70, 71, 72, 73, 74, 75, 76, 77, 78, 79, 80, 81, 82, 83, 84, 85, 86, 87, 88, 89, 90, 91, 92, 93, 94, 95, 96, 97, 98, 99, 100, 101, 102, 103, 104, 105, 106, 107, 108, 109, 110, 111, 112, 113, 114, 115, 116] := hU.call e_ws12 (by rw [hlen0]; decide)
          exact absurd g11_0 g1_0
        · cases hv9
          have f_46_ws12 : ws12[46]? = some ((q46, Sum.inr (8, [Value.int 0, Value.int 0, Value.ref q47, Value.ref q48, Value.ref q49, Value.int 0, Value.ref q50, Value.ref q51, Value.ref q52, Value.ref q53, Value.int 0, Value.int 0, Value.int 0, Value.int (-1), Value.int 0, Value.ref q54, Value.ref q62, Value.ref q70, Value.int 1, Value.int 0, Value.int 0, Value.ref q78, Value.ref q79, Value.int 0, Value.int 16, Value.int 4, um, Value.ref q80, Value.ref q81, Value.ref q82, Value.int 0, Value.ref q83, Value.int 0, Value.int 0, Value.int 0])) : Nat × va_E) := f_46_ws12
          have f_54_ws12 : ws12[54]? = some ((q54, Sum.inr (9, [Value.ref q55, Value.ref q56, Value.ref q57, Value.ref q58, Value.ref q59, Value.ref q60, Value.ref q61, Value.int 0, Value.int 0, Value.int 0, Value.int 0])) : Nat × va_E) := f_54_ws12
          replace hlen : ws12.length = 117 := by rw [e_ws12.1, hlen]
          replace hU : gx_g ws ws12 0 [0, 1, 2, 3, 4, 5, 6, 7, 8, 9, 10, 11, 12, 13, 14, 15, 16, 17, 18, 19, 20, 21, 22, 23, 24, 25, 26, 27, 28, 29, 30, 31, 32, 33, 34, 35, 36, 37, 38, 39, 40, 41, 42, 43, 44, 45, 46, 47, 48, 49, 50, 51, 52, 53, 54, 55, 56, 57, 58, 59, 60, 61, 62, 63, 64, 65, 66, 67, 68, 69, 70, 71, 72, 73, 74, 75, 76, 77, 78, 79, 80, 81, 82, 83, 84, 85, 86, 87, 88, 89, 90, 91, 92, 93, 94, 95, 96, 97, 98, 99, 100, 101, 102, 103, 104, 105, 106, 107, 108, 109, 110, 111, 112, 113, 114, 115, 116] := hU.call e_ws12 (by rw [hlen0]; decide)
          exact absurd g1_2 g11_2
        · cases hv9
          have f_46_ws12 : ws12[46]? = some ((q46, Sum.inr (8, [Value.int 0, Value.int 0, Value.ref q47, Value.ref q48, Value.ref q49, Value.int 0, Value.ref q50, Value.ref q51, Value.ref q52, Value.ref q53, Value.int 0, Value.int 0, Value.int 0, Value.int (-1), Value.int 0, Value.ref q54, Value.ref q62, Value.ref q70, Value.int 1, Value.int 0, Value.int 0, Value.ref q78, Value.ref q79, Value.int 0, Value.int 16, Value.int 4, um, Value.ref q80, Value.ref q81, Value.ref q82, Value.int 0, Value.ref q83, Value.int 0, Value.int 0, Value.int 0])) : Nat × va_E) := f_46_ws12
          have f_54_ws12 : ws12[54]? = some ((q54, Sum.inr (9, [Value.ref q55, Value.ref q56, Value.ref q57, Value.ref q58, Value.ref q59, Value.ref q60, Value.ref q61, Value.int 0, Value.int 0, Value.int 0, Value.int 0])) : Nat × va_E) := f_54_ws12
          replace hlen : ws12.length = 117 := by rw [e_ws12.1, hlen]
          replace hU : gx_g ws ws12 0 [0, 1, 2, 3, 4, 5, 6, 7, 8, 9, 10, 11, 12, 13, 14, 15, 16, 17, 18, 19, 20, 21, 22, 23, 24, 25, 26, 27, 28, 29, 30, 31, 32, 33, 34, 35, 36, 37, 38, 39, 40, 41, 42, 43, 44, 45, 46, 47, 48, 49, 50, 51, 52, 53, 54, 55, 56, 57, 58, 59, 60, 61, 62, 63, 64, 65, 66, 67, 68, 69, 70, 71, 72, 73, 74, 75, 76, 77, 78, 79, 80, 81, 82, 83, 84, 85, 86, 87, 88, 89, 90, 91, 92, 93, 94, 95, 96, 97, 98, 99, 100, 101, 102, 103, 104, 105, 106, 107, 108, 109, 110, 111, 112, 113, 114, 115, 116] := hU.call e_ws12 (by rw [hlen0]; decide)
          refine W.eq (g2 := F0 m 163 ls [Value.int 0]) rfl ?_
          generalize t11.heap = H at hP hS ⊢
          generalize locs ++ L11 = locs at hS ⊢
          refine lv_istore (lv' := [(6, Value.int 0), (5, Value.int 0), (4, Value.int 0), (3, Value.ref q116), (2, Value.ref q46), (1, Value.ref q0), (0, Value.ref b)]) hx hb d_Lw_law_163 hl (by decide) rfl (fun ls hl => ?_)
          refine lv_aload_n hx hb d_Lw_law_165 rfl (lv_at hl 4 rfl) ?_
          refine gx_call (ig := .invokevirtual 98) (c_Mo_thrown l htr D tys z _ ws12 q46 46 (Value.int 0) 0 (Value.ref q47) (Value.ref q48) (Value.ref q49) (Value.int 0) (Value.ref q50) (Value.ref q51) (Value.ref q52) (Value.ref q53) (Value.int 0) (Value.int 0) (Value.int 0) (Value.int (-1)) (Value.int 0) (Value.ref q54) (Value.ref q62) (Value.ref q70) (Value.int 1) (Value.int 0) (Value.int 0) (Value.ref q78) (Value.ref q79) (Value.int 0) (Value.int 16) (Value.int 4) (um) (Value.ref q80) (Value.ref q81) (Value.ref q82) (Value.int 0) (Value.ref q83) (Value.int 0) (Value.int 0) (Value.int 0) f_46_ws12) (gx_invV (As := []) (rest := []) hx hb hown hts km_Lw_98 kI_Mo_thrown kV_Mo_thrown kc_Mo_thrown (by decide) (show (parseMethodDescriptor y_Mo_thrown.desc).map (fun d => d.parameters.length) = some 0 by decide +kernel) (gx_recv (ci := 8) hK hP rfl f_46_ws12) rfl rfl d_Lw_law_166) (gx_cw (z := 0) hts kc_Mo_thrown kN_Mo rfl rfl ⟨Nat.le_of_ble_eq_true rfl, Nat.le_of_ble_eq_true rfl⟩) hb hml gx_blind (gx_pre hz hP hK hD hY hS hAz [Value.ref q46]) rfl hl.1 (lv_room (Nat.le_of_ble_eq_true rfl)) d_Lw_law_166 ⟨Nat.le_of_ble_eq_true rfl, Nat.le_of_ble_eq_true rfl⟩ (fun v13 st13 t13 L13 h0_13 hW_13 hQ_13 hL_13 => ?_) (fun v13 st13 t13 L13 h0_13 hW_13 hQ_13 hL_13 => ?_)
          · obtain ⟨ws14, hp, hP9, -, hD9, hS9⟩ := gx_back h0_13 hW_13 hQ_13 hL_13 hD hS hA
            clear hQ_13 h0_13 hL_13 hW_13 hP hD hS
            have hP := hP9
            have hD := hD9
            have hS := hS9
            clear hP9 hD9 hS9
            rcases hp with ⟨hv9, e_ws14⟩
            cases hv9
            rw [e_ws14] at hP hD
            refine W.eq (g2 := F0 m 169 ls [Value.int 0]) rfl ?_
            generalize t13.heap = H at hP hS ⊢
            generalize locs ++ L13 = locs at hS ⊢
            refine lv_iload hx hb d_Lw_law_169 (lv_at hl 1 rfl) ?_
            refine lv_icmp_eq (tgt := 176) hx hb d_Lw_law_171 (by decide) (fun _ => ?_) (fun c9 => absurd (by decide) c9)
            refine lv_iload hx hb d_Lw_law_176 (lv_at hl 1 rfl) ?_
            refine lv_if_ne (tgt := 193) hx hb d_Lw_law_178 (by decide) (fun c9 => absurd (by decide) c9) (fun _ => ?_)
            refine lv_aload_n hx hb d_Lw_law_181 rfl (lv_at hl 3 rfl) ?_
            refine lv_iconst (v := 0) hx hb d_Lw_law_182 (by decide) ?_
            have f_116_ws12 : ws12[116]? = some ((q116, Sum.inl (cJ, 1, Sum.inr (Sum.inl (vp_updL (fun _ => 0) 0 ((0 : Int32).toInt64))))) : Nat × va_E) := e_ws12.at (by first | decide | (simp; done) | (simp; omega)) f_116_ws2
            clear f_116_ws2
            refine va_lald (D := D) hx hb hK hP 116 6 f_116_ws12 ht6 (gx_inl (by decide)) d_Lw_law_183 ?_
            refine gx_topl (y := ((0 : Int32).toInt64)) rfl ?_
            refine lv_iload hx hb d_Lw_law_184 (lv_at hl 0 rfl) ?_
            refine lv_i2l (v := (0 : Int32).toInt64) hx hb d_Lw_law_186 rfl ?_
            refine gx_lcmpE hx hb d_Lw_law_187 ?_
            refine lv_if_eq (tgt := 193) hx hb d_Lw_law_188 (by decide) (fun _ => ?_) (fun c9 => absurd (by decide) c9)
            refine lv_goto (tgt := 1272) hx hb d_Lw_law_193 (by decide) ?_
            refine W.widen (k := 400) (n := 700000) (by decide) (by decide) ?_
            exact k _ _ ls (by rw [hAe]; exact hS) (lv_sub hl [2, 6] rfl)
          · obtain ⟨E9, ws15, ce, hp, hce, hP9, -, hD9, hS9⟩ := gx_backT h0_13 hW_13 hQ_13 hL_13 hD hS hA
            clear hQ_13 h0_13 hL_13 hW_13 hP hD hS
            have hP := hP9
            have hD := hD9
            have hS := hS9
            clear hP9 hD9 hS9
            rcases hp with ⟨hv9, e_ws15⟩
            cases hv9
        · cases hv9
          have f_46_ws12 : ws12[46]? = some ((q46, Sum.inr (8, [Value.int 0, Value.int 1, Value.ref q47, Value.ref q48, Value.ref q49, Value.int 0, Value.ref q50, Value.ref q51, Value.ref q52, Value.ref q53, Value.int 0, Value.int 0, Value.int 0, Value.int (-1), Value.int 0, Value.ref q54, Value.ref q62, Value.ref q70, Value.int 0, Value.int 0, Value.int 0, Value.ref q78, Value.ref q79, Value.int 0, Value.int 16, Value.int 4, um, Value.ref q80, Value.ref q81, Value.ref q82, Value.int 0, Value.ref q83, Value.int 0, Value.int 0, Value.int 0])) : Nat × va_E) := f_46_ws12
          have f_54_ws12 : ws12[54]? = some ((q54, Sum.inr (9, [Value.ref q55, Value.ref q56, Value.ref q57, Value.ref q58, Value.ref q59, Value.ref q60, Value.ref q61, Value.int 0, Value.int 0, Value.int 0, Value.int 0])) : Nat × va_E) := f_54_ws12
          replace hlen : ws12.length = 117 := by rw [e_ws12.1, hlen]
          replace hU : gx_g ws ws12 0 [0, 1, 2, 3, 4, 5, 6, 7, 8, 9, 10, 11, 12, 13, 14, 15, 16, 17, 18, 19, 20, 21, 22, 23, 24, 25, 26, 27, 28, 29, 30, 31, 32, 33, 34, 35, 36, 37, 38, 39, 40, 41, 42, 43, 44, 45, 46, 47, 48, 49, 50, 51, 52, 53, 54, 55, 56, 57, 58, 59, 60, 61, 62, 63, 64, 65, 66, 67, 68, 69, 70, 71, 72, 73, 74, 75, 76, 77, 78, 79, 80, 81, 82, 83, 84, 85, 86, 87, 88, 89, 90, 91, 92, 93, 94, 95, 96, 97, 98, 99, 100, 101, 102, 103, 104, 105, 106, 107, 108, 109, 110, 111, 112, 113, 114, 115, 116] := hU.call e_ws12 (by rw [hlen0]; decide)
          exact absurd g1_1 g11_1
      · obtain ⟨E9, ws16, ce, hp, hce, hP9, -, hD9, hS9⟩ := gx_backT h0_11 hW_11 hQ_11 hL_11 hD hS hA
        clear hQ_11 h0_11 hL_11 hW_11 hP hD hS
        have hP := hP9
        have hD := hD9
        have hS := hS9
        clear hP9 hD9 hS9
        rcases hp with ⟨hv9, e_ws16, f_46_ws16, f_54_ws16, g11_0⟩ | ⟨hv9, e_ws16, f_46_ws16, f_54_ws16, g11_0, g11_1, g11_2⟩ | ⟨hv9, e_ws16, f_46_ws16, f_54_ws16, g11_0, g11_1, g11_2⟩ | ⟨hv9, e_ws16, f_46_ws16, f_54_ws16, g11_0, g11_1⟩
        · cases hv9
        · cases hv9
        · cases hv9
        · cases hv9
    · cases hv9
      have f_0_ws2 : ws2[0]? = some ((q0, Sum.inr (0, [Value.ref q1, Value.ref q5, Value.ref q8, Value.ref q20, Value.ref q25, Value.ref q12, Value.ref q16, Value.int 0, Value.int 0, Value.int 0, Value.int 16, Value.int 4, Value.int 0, Value.int 0, Value.int 0, Value.int 0, Value.int 0, Value.int (-1)])) : Nat × va_E) := f_0_ws2
      have f_5_ws2 : ws2[5]? = some ((q5, Sum.inr (2, [Value.ref q6, Value.ref q7, Value.int 0, Value.int 0])) : Nat × va_E) := f_5_ws2
      have f_8_ws2 : ws2[8]? = some ((q8, Sum.inr (4, [Value.ref q9, Value.ref q10, Value.ref q11, Value.null, Value.int 0, Value.int 0])) : Nat × va_E) := f_8_ws2
      have f_11_ws2 : ws2[11]? = some ((q11, Sum.inl (cZ, 4096, Sum.inl (fun _ => 0))) : Nat × va_E) := f_11_ws2
      have f_116_ws2 : ws2[116]? = some ((q116, Sum.inl (cJ, 1, Sum.inr (Sum.inl (fun _ => 0)))) : Nat × va_E) := f_116_ws2
      replace hlen : ws2.length = 117 := by rw [e_ws2.1, hlen]
      replace hU : gx_g ws ws2 0 [0, 1, 2, 3, 4, 5, 6, 7, 8, 9, 10, 11, 12, 13, 14, 15, 16, 17, 18, 19, 20, 21, 22, 23, 24, 25, 26, 27, 28, 29, 30, 31, 32, 33, 34, 35, 36, 37, 38, 39, 40, 41, 42, 43, 44, 45, 46, 47, 48, 49, 50, 51, 52, 53, 54, 55, 56, 57, 58, 59, 60, 61, 62, 63, 64, 65, 66, 67, 68, 69, 70, 71, 72, 73, 74, 75, 76, 77, 78, 79, 80, 81, 82, 83, 84, 85, 86, 87, 88, 89, 90, 91, 92, 93, 94, 95, 96, 97, 98, 99, 100, 101, 102, 103, 104, 105, 106, 107, 108, 109, 110, 111, 112, 113, 114, 115, 116] := hU.call e_ws2 (by rw [hlen0]; decide)
      refine W.eq (g2 := F0 m 151 ls [Value.int 1]) rfl ?_
      refine W.widen (k := 123) (n := 677760) (by decide) (by decide) ?_
      generalize t1.heap = H at hP hS ⊢
      generalize locs ++ L1 = locs at hS ⊢
      refine lv_istore (lv' := [(5, Value.int 1), (4, Value.int 0), (3, Value.ref q116), (2, Value.ref q46), (1, Value.ref q0), (0, Value.ref b)]) hx hb d_Lw_law_151 hl (by decide) rfl (fun ls hl => ?_)
      refine lv_aload_n hx hb d_Lw_law_153 rfl (lv_at hl 3 rfl) ?_
      refine lv_aload_n hx hb d_Lw_law_154 rfl (lv_at hl 5 rfl) ?_
      refine lv_iload hx hb d_Lw_law_155 (lv_at hl 1 rfl) ?_
      refine lv_iconst (v := 1) hx hb d_Lw_law_157 (by decide) ?_
      refine lv_iadd hx hb d_Lw_law_158 ?_
      refine gx_topi (y := 1) (by decide) ?_
      refine va_sld hx hb hX hbl hbA hS (i := 1) (gx_inl (by decide)) d_Lw_law_159 ?_
      refine gx_topi (y := y1) (by rw [hy1]; rfl) ?_
      have f_46_ws2 : ws2[46]? = some ((q46, Sum.inr (8, [Value.int 0, Value.int 0, Value.ref q47, Value.ref q48, Value.ref q49, Value.int 0, Value.ref q50, Value.ref q51, Value.ref q52, Value.ref q53, Value.int 0, Value.int 0, Value.int 0, Value.int (-1), Value.int 0, Value.ref q54, Value.ref q62, Value.ref q70, Value.int 0, Value.int 0, Value.int 0, Value.ref q78, Value.ref q79, Value.int 0, Value.int 16, Value.int 4, um, Value.ref q80, Value.ref q81, Value.ref q82, Value.int 0, Value.ref q83, Value.int 0, Value.int 0, Value.int 0])) : Nat × va_E) := e_ws2.at (by first | decide | (simp; done) | (simp; omega)) f_46
      clear f_46
      have f_54_ws2 : ws2[54]? = some ((q54, Sum.inr (9, [Value.ref q55, Value.ref q56, Value.ref q57, Value.ref q58, Value.ref q59, Value.ref q60, Value.ref q61, Value.int 0, Value.int 0, Value.int 0, Value.int 0])) : Nat × va_E) := e_ws2.at (by first | decide | (simp; done) | (simp; omega)) f_54
      clear f_54
      have f_84_ws2 : ws2[84]? = some ((q84, Sum.inr (9, [Value.ref q85, Value.ref q86, Value.ref q87, Value.ref q88, Value.ref q89, Value.ref q90, Value.ref q91, Value.int 0, Value.int 0, Value.int 0, Value.int 0])) : Nat × va_E) := e_ws2.at (by first | decide | (simp; done) | (simp; omega)) f_84
      clear f_84
      have f_92_ws2 : ws2[92]? = some ((q92, Sum.inr (9, [Value.ref q93, Value.ref q94, Value.ref q95, Value.ref q96, Value.ref q97, Value.ref q98, Value.ref q99, Value.int 0, Value.int 0, Value.int 0, Value.int 0])) : Nat × va_E) := e_ws2.at (by first | decide | (simp; done) | (simp; omega)) f_92
      clear f_92
      have f_100_ws2 : ws2[100]? = some ((q100, Sum.inr (9, [Value.ref q101, Value.ref q102, Value.ref q103, Value.ref q104, Value.ref q105, Value.ref q106, Value.ref q107, Value.int 0, Value.int 0, Value.int 0, Value.int 0])) : Nat × va_E) := e_ws2.at (by first | decide | (simp; done) | (simp; omega)) f_100
      clear f_100
      have f_108_ws2 : ws2[108]? = some ((q108, Sum.inr (9, [Value.ref q109, Value.ref q110, Value.ref q111, Value.ref q112, Value.ref q113, Value.ref q114, Value.ref q115, Value.int 0, Value.int 0, Value.int 0, Value.int 0])) : Nat × va_E) := e_ws2.at (by first | decide | (simp; done) | (simp; omega)) f_108
      clear f_108
      have f_83_ws2 : ws2[83]? = some ((q83, Sum.inl (cV, 4, Sum.inr (Sum.inr (Sum.inr (Sum.inr (va_up (va_up (va_up (va_up (fun _ => none) 0 (some q84)) 1 (some q92)) 2 (some q100)) 3 (some q108))))))) : Nat × va_E) := e_ws2.at (by first | decide | (simp; done) | (simp; omega)) f_83
      clear f_83
      refine gx_call (ig := .invokevirtual 97) (c_Mo_open_v1 l htr D tys z _ ws2 cV q46 y1 q47 q48 q49 q50 q51 q52 q53 q54 q62 q70 q78 q79 (um) q80 q81 q82 q83 q55 q56 q57 q58 q59 q60 q61 q84 q85 q86 q87 q88 q89 q90 q91 q92 q93 q94 q95 q96 q97 q98 q99 q100 q101 q102 q103 q104 q105 q106 q107 q108 q109 q110 q111 q112 q113 q114 q115 f_46_ws2 f_54_ws2 f_84_ws2 f_92_ws2 f_100_ws2 f_108_ws2 f_83_ws2 ht5) (gx_invV (As := [Value.int y1]) (rest := []) hx hb hown hts km_Lw_97 kI_Mo_open kV_Mo_open kc_Mo_open (by decide) (show (parseMethodDescriptor y_Mo_open.desc).map (fun d => d.parameters.length) = some 1 by decide +kernel) (gx_recv (ci := 8) hK hP rfl f_46_ws2) rfl rfl d_Lw_law_160) (gx_cw (z := 0) hts kc_Mo_open kN_Mo rfl rfl ⟨Nat.le_of_ble_eq_true rfl, Nat.le_of_ble_eq_true rfl⟩) hb hml gx_blind (gx_pre hz hP hK hD hY hS hAz [Value.ref q46, Value.int y1]) rfl hl.1 (lv_room (Nat.le_of_ble_eq_true rfl)) d_Lw_law_160 ⟨Nat.le_of_ble_eq_true rfl, Nat.le_of_ble_eq_true rfl⟩ (fun v17 st17 t17 L17 h0_17 hW_17 hQ_17 hL_17 => ?_) (fun v17 st17 t17 L17 h0_17 hW_17 hQ_17 hL_17 => ?_)
      · obtain ⟨ws18, hp, hP9, -, hD9, hS9⟩ := gx_back h0_17 hW_17 hQ_17 hL_17 hD hS hA
        clear hQ_17 h0_17 hL_17 hW_17 hP hD hS
        have hP := hP9
        have hD := hD9
        have hS := hS9
        clear hP9 hD9 hS9
        rcases hp with ⟨hv9, e_ws18, f_46_ws18, f_54_ws18, g17_0⟩ | ⟨hv9, e_ws18, f_46_ws18, f_54_ws18, g17_0, g17_1, g17_2⟩ | ⟨hv9, e_ws18, f_46_ws18, f_54_ws18, g17_0, g17_1, g17_2⟩ | ⟨hv9, e_ws18, f_46_ws18, f_54_ws18, g17_0, g17_1⟩
        · cases hv9
          have f_46_ws18 : ws18[46]? = some ((q46, Sum.inr (8, [Value.int 0, Value.int 1, Value.ref q47, Value.ref q48, Value.ref q49, Value.int 0, Value.ref q50, Value.ref q51, Value.ref q52, Value.ref q53, Value.int 0, Value.int 0, Value.int 0, Value.int (-1), Value.int 0, Value.ref q54, Value.ref q62, Value.ref q70, Value.int 0, Value.int 0, Value.int 0, Value.ref q78, Value.ref q79, Value.int 0, Value.int 16, Value.int 4, um, Value.ref q80, Value.ref q81, Value.ref q82, Value.int 0, Value.ref q83, Value.int 0, Value.int 0, Value.int 0])) : Nat × va_E) := f_46_ws18
          have f_54_ws18 : ws18[54]? = some ((q54, Sum.inr (9, [Value.ref q55, Value.ref q56, Value.ref q57, Value.ref q58, Value.ref q59, Value.ref q60, Value.ref q61, Value.int 0, Value.int 0, Value.int 0, Value.int 0])) : Nat × va_E) := f_54_ws18
          replace hlen : ws18.length = 117 := by rw [e_ws18.1, hlen]
          replace hU : gx_g ws ws18 0 [0, 1, 2, 3, 4, 5, 6, 7, 8, 9, 10, 11, 12, 13, 14, 15, 16, 17, 18, 19, 20, 21, 22, 23, 24, 25, 26, 27, 28, 29, 30, 31, 32, 33, 34, 35, 36, 37, 38, 39, 40, 41, 42, 43, 44, 45, 46, 47, 48, 49, 50, 51, 52, 53, 54, 55, 56, 57, 58, 59, 60, 61, 62, 63, 64, 65, 66, 67, 68, 69, 70, 71, 72, 73, 74, 75, 76, 77, 78, 79, 80, 81, 82, 83, 84, 85, 86, 87, 88, 89, 90, 91, 92, 93, 94, 95, 96, 97, 98, 99, 100, 101, 102, 103, 104, 105, 106, 107, 108, 109, 110, 111, 112, 113, 114, 115, 116] := hU.call e_ws18 (by rw [hlen0]; decide)
          refine W.eq (g2 := F0 m 163 ls [Value.int 0]) rfl ?_
          generalize t17.heap = H at hP hS ⊢
          generalize locs ++ L17 = locs at hS ⊢
          refine lv_istore (lv' := [(6, Value.int 0), (5, Value.int 1), (4, Value.int 0), (3, Value.ref q116), (2, Value.ref q46), (1, Value.ref q0), (0, Value.ref b)]) hx hb d_Lw_law_163 hl (by decide) rfl (fun ls hl => ?_)
          refine lv_aload_n hx hb d_Lw_law_165 rfl (lv_at hl 4 rfl) ?_
          refine gx_call (ig := .invokevirtual 98) (c_Mo_thrown l htr D tys z _ ws18 q46 46 (Value.int 0) 1 (Value.ref q47) (Value.ref q48) (Value.ref q49) (Value.int 0) (Value.ref q50) (Value.ref q51) (Value.ref q52) (Value.ref q53) (Value.int 0) (Value.int 0) (Value.int 0) (Value.int (-1)) (Value.int 0) (Value.ref q54) (Value.ref q62) (Value.ref q70) (Value.int 0) (Value.int 0) (Value.int 0) (Value.ref q78) (Value.ref q79) (Value.int 0) (Value.int 16) (Value.int 4) (um) (Value.ref q80) (Value.ref q81) (Value.ref q82) (Value.int 0) (Value.ref q83) (Value.int 0) (Value.int 0) (Value.int 0) f_46_ws18) (gx_invV (As := []) (rest := []) hx hb hown hts km_Lw_98 kI_Mo_thrown kV_Mo_thrown kc_Mo_thrown (by decide) (show (parseMethodDescriptor y_Mo_thrown.desc).map (fun d => d.parameters.length) = some 0 by decide +kernel) (gx_recv (ci := 8) hK hP rfl f_46_ws18) rfl rfl d_Lw_law_166) (gx_cw (z := 0) hts kc_Mo_thrown kN_Mo rfl rfl ⟨Nat.le_of_ble_eq_true rfl, Nat.le_of_ble_eq_true rfl⟩) hb hml gx_blind (gx_pre hz hP hK hD hY hS hAz [Value.ref q46]) rfl hl.1 (lv_room (Nat.le_of_ble_eq_true rfl)) d_Lw_law_166 ⟨Nat.le_of_ble_eq_true rfl, Nat.le_of_ble_eq_true rfl⟩ (fun v19 st19 t19 L19 h0_19 hW_19 hQ_19 hL_19 => ?_) (fun v19 st19 t19 L19 h0_19 hW_19 hQ_19 hL_19 => ?_)
          · obtain ⟨ws20, hp, hP9, -, hD9, hS9⟩ := gx_back h0_19 hW_19 hQ_19 hL_19 hD hS hA
            clear hQ_19 h0_19 hL_19 hW_19 hP hD hS
            have hP := hP9
            have hD := hD9
            have hS := hS9
            clear hP9 hD9 hS9
            rcases hp with ⟨hv9, e_ws20⟩
            cases hv9
            rw [e_ws20] at hP hD
            refine W.eq (g2 := F0 m 169 ls [Value.int 1]) rfl ?_
            generalize t19.heap = H at hP hS ⊢
            generalize locs ++ L19 = locs at hS ⊢
            refine lv_iload hx hb d_Lw_law_169 (lv_at hl 1 rfl) ?_
            refine lv_icmp_eq (tgt := 176) hx hb d_Lw_law_171 (by decide) (fun _ => ?_) (fun c9 => absurd (by decide) c9)
            refine lv_iload hx hb d_Lw_law_176 (lv_at hl 1 rfl) ?_
            refine lv_if_ne (tgt := 193) hx hb d_Lw_law_178 (by decide) (fun _ => ?_) (fun c9 => absurd c9 (by decide))
            refine lv_goto (tgt := 1272) hx hb d_Lw_law_193 (by decide) ?_
            refine W.widen (k := 400) (n := 700000) (by decide) (by decide) ?_
            exact k _ _ ls (by rw [hAe]; exact hS) (lv_sub hl [2, 6] rfl)
          · obtain ⟨E9, ws21, ce, hp, hce, hP9, -, hD9, hS9⟩ := gx_backT h0_19 hW_19 hQ_19 hL_19 hD hS hA
            clear hQ_19 h0_19 hL_19 hW_19 hP hD hS
            have hP := hP9
            have hD := hD9
            have hS := hS9
            clear hP9 hD9 hS9
            rcases hp with ⟨hv9, e_ws21⟩
            cases hv9
        · cases hv9
          have f_46_ws18 : ws18[46]? = some ((q46, Sum.inr (8, [Value.int 0, Value.int 0, Value.ref q47, Value.ref q48, Value.ref q49, Value.int 0, Value.ref q50, Value.ref q51, Value.ref q52, Value.ref q53, Value.int 0, Value.int 0, Value.int 0, Value.int (-1), Value.int 0, Value.ref q54, Value.ref q62, Value.ref q70, Value.int 1, Value.int 0, Value.int 0, Value.ref q78, Value.ref q79, Value.int 0, Value.int 16, Value.int 4, um, Value.ref q80, Value.ref q81, Value.ref q82, Value.int 0, Value.ref q83, Value.int 0, Value.int 0, Value.int 0])) : Nat × va_E) := f_46_ws18
          have f_54_ws18 : ws18[54]? = some ((q54, Sum.inr (9, [Value.ref q55, Value.ref q56, Value.ref q57, Value.ref q58, Value.ref q59, Value.ref q60, Value.ref q61, Value.int 0, Value.int 0, Value.int 0, Value.int 0])) : Nat × va_E) := f_54_ws18
          replace hlen : ws18.length = 117 := by rw [e_ws18.1, hlen]
          replace hU : gx_g ws ws18 0 [0, 1, 2, 3, 4, 5, 6, 7, 8, 9, 10, 11, 12, 13, 14, 15, 16, 17, 18, 19, 20, 21, 22, 23, 24, 25, 26, 27, 28, 29, 30, 31, 32, 33, 34, 35, 36, 37, 38, 39, 40, 41, 42, 43, 44, 45, 46, 47, 48, 49, 50, 51, 52, 53, 54, 55, 56, 57, 58, 59, 60, 61, 62, 63, 64, 65, 66, 67, 68, 69, 70, 71, 72, 73, 74, 75, 76, 77, 78, 79, 80, 81, 82, 83, 84, 85, 86, 87, 88, 89, 90, 91, 92, 93, 94, 95, 96, 97, 98, 99, 100, 101, 102, 103, 104, 105, 106, 107, 108, 109, 110, 111, 112, 113, 114, 115, 116] := hU.call e_ws18 (by rw [hlen0]; decide)
          exact absurd g1_0 g17_0
        · cases hv9
          have f_46_ws18 : ws18[46]? = some ((q46, Sum.inr (8, [Value.int 0, Value.int 0, Value.ref q47, Value.ref q48, Value.ref q49, Value.int 0, Value.ref q50, Value.ref q51, Value.ref q52, Value.ref q53, Value.int 0, Value.int 0, Value.int 0, Value.int (-1), Value.int 0, Value.ref q54, Value.ref q62, Value.ref q70, Value.int 1, Value.int 0, Value.int 0, Value.ref q78, Value.ref q79, Value.int 0, Value.int 16, Value.int 4, um, Value.ref q80, Value.ref q81, Value.ref q82, Value.int 0, Value.ref q83, Value.int 0, Value.int 0, Value.int 0])) : Nat × va_E) := f_46_ws18
          have f_54_ws18 : ws18[54]? = some ((q54, Sum.inr (9, [Value.ref q55, Value.ref q56, Value.ref q57, Value.ref q58, Value.ref q59, Value.ref q60, Value.ref q61, Value.int 0, Value.int 0, Value.int 0, Value.int 0])) : Nat × va_E) := f_54_ws18
          replace hlen : ws18.length = 117 := by rw [e_ws18.1, hlen]
          replace hU : gx_g ws ws18 0 [0, 1, 2, 3, 4, 5, 6, 7, 8, 9, 10, 11, 12, 13, 14, 15, 16, 17, 18, 19, 20, 21, 22, 23, 24, 25, 26, 27, 28, 29, 30, 31, 32, 33, 34, 35, 36, 37, 38, 39, 40, 41, 42, 43, 44, 45, 46, 47, 48, 49, 50, 51, 52, 53, 54, 55, 56, 57, 58, 59, 60, 61, 62, 63, 64, 65, 66, 67, 68, 69, 70, 71, 72, 73, 74, 75, 76, 77, 78, 79, 80, 81, 82, 83, 84, 85, 86, 87, 88, 89, 90, 91, 92, 93, 94, 95, 96, 97, 98, 99, 100, 101, 102, 103, 104, 105, 106, 107, 108, 109, 110, 111, 112, 113, 114, 115, 116] := hU.call e_ws18 (by rw [hlen0]; decide)
          exact absurd g1_0 g17_0
        · cases hv9
          have f_46_ws18 : ws18[46]? = some ((q46, Sum.inr (8, [Value.int 0, Value.int 1, Value.ref q47, Value.ref q48, Value.ref q49, Value.int 0, Value.ref q50, Value.ref q51, Value.ref q52, Value.ref q53, Value.int 0, Value.int 0, Value.int 0, Value.int (-1), Value.int 0, Value.ref q54, Value.ref q62, Value.ref q70, Value.int 0, Value.int 0, Value.int 0, Value.ref q78, Value.ref q79, Value.int 0, Value.int 16, Value.int 4, um, Value.ref q80, Value.ref q81, Value.ref q82, Value.int 0, Value.ref q83, Value.int 0, Value.int 0, Value.int 0])) : Nat × va_E) := f_46_ws18
          have f_54_ws18 : ws18[54]? = some ((q54, Sum.inr (9, [Value.ref q55, Value.ref q56, Value.ref q57, Value.ref q58, Value.ref q59, Value.ref q60, Value.ref q61, Value.int 0, Value.int 0, Value.int 0, Value.int 0])) : Nat × va_E) := f_54_ws18
          replace hlen : ws18.length = 117 := by rw [e_ws18.1, hlen]
          replace hU : gx_g ws ws18 0 [0, 1, 2, 3, 4, 5, 6, 7, 8, 9, 10, 11, 12, 13, 14, 15, 16, 17, 18, 19, 20, 21, 22, 23, 24, 25, 26, 27, 28, 29, 30, 31, 32, 33, 34, 35, 36, 37, 38, 39, 40, 41, 42, 43, 44, 45, 46, 47, 48, 49, 50, 51, 52, 53, 54, 55, 56, 57, 58, 59, 60, 61, 62, 63, 64, 65, 66, 67, 68, 69, 70, 71, 72, 73, 74, 75, 76, 77, 78, 79, 80, 81, 82, 83, 84, 85, 86, 87, 88, 89, 90, 91, 92, 93, 94, 95, 96, 97, 98, 99, 100, 101, 102, 103, 104, 105, 106, 107, 108, 109, 110, 111, 112, 113, 114, 115, 116] := hU.call e_ws18 (by rw [hlen0]; decide)
          exact absurd g1_0 g17_0
      · obtain ⟨E9, ws22, ce, hp, hce, hP9, -, hD9, hS9⟩ := gx_backT h0_17 hW_17 hQ_17 hL_17 hD hS hA
        clear hQ_17 h0_17 hL_17 hW_17 hP hD hS
        have hP := hP9
        have hD := hD9
        have hS := hS9
        clear hP9 hD9 hS9
        rcases hp with ⟨hv9, e_ws22, f_46_ws22, f_54_ws22, g17_0⟩ | ⟨hv9, e_ws22, f_46_ws22, f_54_ws22, g17_0, g17_1, g17_2⟩ | ⟨hv9, e_ws22, f_46_ws22, f_54_ws22, g17_0, g17_1, g17_2⟩ | ⟨hv9, e_ws22, f_46_ws22, f_54_ws22, g17_0, g17_1⟩
        · cases hv9
        · cases hv9
        · cases hv9
        · cases hv9
    · cases hv9
      have f_0_ws2 : ws2[0]? = some ((q0, Sum.inr (0, [Value.ref q1, Value.ref q5, Value.ref q8, Value.ref q20, Value.ref q25, Value.ref q12, Value.ref q16, Value.int 0, Value.int 0, Value.int 0, Value.int 16, Value.int 4, Value.int 0, Value.int 0, Value.int 0, Value.int 0, Value.int 0, Value.int (-1)])) : Nat × va_E) := f_0_ws2
      have f_5_ws2 : ws2[5]? = some ((q5, Sum.inr (2, [Value.ref q6, Value.ref q7, Value.int 0, Value.int 0])) : Nat × va_E) := f_5_ws2
      have f_8_ws2 : ws2[8]? = some ((q8, Sum.inr (4, [Value.ref q9, Value.ref q10, Value.ref q11, Value.null, Value.int 0, Value.int 0])) : Nat × va_E) := f_8_ws2
      have f_11_ws2 : ws2[11]? = some ((q11, Sum.inl (cZ, 4096, Sum.inl (fun _ => 0))) : Nat × va_E) := f_11_ws2
      have f_116_ws2 : ws2[116]? = some ((q116, Sum.inl (cJ, 1, Sum.inr (Sum.inl (fun _ => 0)))) : Nat × va_E) := f_116_ws2
      replace hlen : ws2.length = 117 := by rw [e_ws2.1, hlen]
      replace hU : gx_g ws ws2 0 [0, 1, 2, 3, 4, 5, 6, 7, 8, 9, 10, 11, 12, 13, 14, 15, 16, 17, 18, 19, 20, 21, 22, 23, 24, 25, 26, 27, 28, 29, 30, 31, 32, 33, 34, 35, 36, 37, 38, 39, 40, 41, 42, 43, 44, 45, 46, 47, 48, 49, 50, 51, 52, 53, 54, 55, 56, 57, 58, 59, 60, 61, 62, 63, 64, 65, 66, 67, 68, 69, 70, 71, 72, 73, 74, 75, 76, 77, 78, 79, 80, 81, 82, 83, 84, 85, 86, 87, 88, 89, 90, 91, 92, 93, 94, 95, 96, 97, 98, 99, 100, 101, 102, 103, 104, 105, 106, 107, 108, 109, 110, 111, 112, 113, 114, 115, 116] := hU.call e_ws2 (by rw [hlen0]; decide)
      refine W.eq (g2 := F0 m 151 ls [Value.int 1]) rfl ?_
      refine W.widen (k := 123) (n := 677760) (by decide) (by decide) ?_
      generalize t1.heap = H at hP hS ⊢
      generalize locs ++ L1 = locs at hS ⊢
      refine lv_istore (lv' := [(5, Value.int 1), (4, Value.int 0), (3, Value.ref q116), (2, Value.ref q46), (1, Value.ref q0), (0, Value.ref b)]) hx hb d_Lw_law_151 hl (by decide) rfl (fun ls hl => ?_)
      refine lv_aload_n hx hb d_Lw_law_153 rfl (lv_at hl 3 rfl) ?_
      refine lv_aload_n hx hb d_Lw_law_154 rfl (lv_at hl 5 rfl) ?_
      refine lv_iload hx hb d_Lw_law_155 (lv_at hl 1 rfl) ?_
      refine lv_iconst (v := 1) hx hb d_Lw_law_157 (by decide) ?_
      refine lv_iadd hx hb d_Lw_law_158 ?_
      refine gx_topi (y := 1) (by decide) ?_
      refine va_sld hx hb hX hbl hbA hS (i := 1) (gx_inl (by decide)) d_Lw_law_159 ?_
      refine gx_topi (y := y1) (by rw [hy1]; rfl) ?_
      have f_46_ws2 : ws2[46]? = some ((q46, Sum.inr (8, [Value.int 0, Value.int 0, Value.ref q47, Value.ref q48, Value.ref q49, Value.int 0, Value.ref q50, Value.ref q51, Value.ref q52, Value.ref q53, Value.int 0, Value.int 0, Value.int 0, Value.int (-1), Value.int 0, Value.ref q54, Value.ref q62, Value.ref q70, Value.int 0, Value.int 0, Value.int 0, Value.ref q78, Value.ref q79, Value.int 0, Value.int 16, Value.int 4, um, Value.ref q80, Value.ref q81, Value.ref q82, Value.int 0, Value.ref q83, Value.int 0, Value.int 0, Value.int 0])) : Nat × va_E) := e_ws2.at (by first | decide | (simp; done) | (simp; omega)) f_46
      clear f_46
      have f_54_ws2 : ws2[54]? = some ((q54, Sum.inr (9, [Value.ref q55, Value.ref q56, Value.ref q57, Value.ref q58, Value.ref q59, Value.ref q60, Value.ref q61, Value.int 0, Value.int 0, Value.int 0, Value.int 0])) : Nat × va_E) := e_ws2.at (by first | decide | (simp; done) | (simp; omega)) f_54
      clear f_54
      have f_84_ws2 : ws2[84]? = some ((q84, Sum.inr (9, [Value.ref q85, Value.ref q86, Value.ref q87, Value.ref q88, Value.ref q89, Value.ref q90, Value.ref q91, Value.int 0, Value.int 0, Value.int 0, Value.int 0])) : Nat × va_E) := e_ws2.at (by first | decide | (simp; done) | (simp; omega)) f_84
      clear f_84
      have f_92_ws2 : ws2[92]? = some ((q92, Sum.inr (9, [Value.ref q93, Value.ref q94, Value.ref q95, Value.ref q96, Value.ref q97, Value.ref q98, Value.ref q99, Value.int 0, Value.int 0, Value.int 0, Value.int 0])) : Nat × va_E) := e_ws2.at (by first | decide | (simp; done) | (simp; omega)) f_92
      clear f_92
      have f_100_ws2 : ws2[100]? = some ((q100, Sum.inr (9, [Value.ref q101, Value.ref q102, Value.ref q103, Value.ref q104, Value.ref q105, Value.ref q106, Value.ref q107, Value.int 0, Value.int 0, Value.int 0, Value.int 0])) : Nat × va_E) := e_ws2.at (by first | decide | (simp; done) | (simp; omega)) f_100
      clear f_100
      have f_108_ws2 : ws2[108]? = some ((q108, Sum.inr (9, [Value.ref q109, Value.ref q110, Value.ref q111, Value.ref q112, Value.ref q113, Value.ref q114, Value.ref q115, Value.int 0, Value.int 0, Value.int 0, Value.int 0])) : Nat × va_E) := e_ws2.at (by first | decide | (simp; done) | (simp; omega)) f_108
      clear f_108
      have f_83_ws2 : ws2[83]? = some ((q83, Sum.inl (cV, 4, Sum.inr (Sum.inr (Sum.inr (Sum.inr (va_up (va_up (va_up (va_up (fun _ => none) 0 (some q84)) 1 (some q92)) 2 (some q100)) 3 (some q108))))))) : Nat × va_E) := e_ws2.at (by first | decide | (simp; done) | (simp; omega)) f_83
      clear f_83
      refine gx_call (ig := .invokevirtual 97) (c_Mo_open_v1 l htr D tys z _ ws2 cV q46 y1 q47 q48 q49 q50 q51 q52 q53 q54 q62 q70 q78 q79 (um) q80 q81 q82 q83 q55 q56 q57 q58 q59 q60 q61 q84 q85 q86 q87 q88 q89 q90 q91 q92 q93 q94 q95 q96 q97 q98 q99 q100 q101 q102 q103 q104 q105 q106 q107 q108 q109 q110 q111 q112 q113 q114 q115 f_46_ws2 f_54_ws2 f_84_ws2 f_92_ws2 f_100_ws2 f_108_ws2 f_83_ws2 ht5) (gx_invV (As := [Value.int y1]) (rest := []) hx hb hown hts km_Lw_97 kI_Mo_open kV_Mo_open kc_Mo_open (by decide) (show (parseMethodDescriptor y_Mo_open.desc).map (fun d => d.parameters.length) = some 1 by decide +kernel) (gx_recv (ci := 8) hK hP rfl f_46_ws2) rfl rfl d_Lw_law_160) (gx_cw (z := 0) hts kc_Mo_open kN_Mo rfl rfl ⟨Nat.le_of_ble_eq_true rfl, Nat.le_of_ble_eq_true rfl⟩) hb hml gx_blind (gx_pre hz hP hK hD hY hS hAz [Value.ref q46, Value.int y1]) rfl hl.1 (lv_room (Nat.le_of_ble_eq_true rfl)) d_Lw_law_160 ⟨Nat.le_of_ble_eq_true rfl, Nat.le_of_ble_eq_true rfl⟩ (fun v23 st23 t23 L23 h0_23 hW_23 hQ_23 hL_23 => ?_) (fun v23 st23 t23 L23 h0_23 hW_23 hQ_23 hL_23 => ?_)
      · obtain ⟨ws24, hp, hP9, -, hD9, hS9⟩ := gx_back h0_23 hW_23 hQ_23 hL_23 hD hS hA
        clear hQ_23 h0_23 hL_23 hW_23 hP hD hS
        have hP := hP9
        have hD := hD9
        have hS := hS9
        clear hP9 hD9 hS9
        rcases hp with ⟨hv9, e_ws24, f_46_ws24, f_54_ws24, g23_0⟩ | ⟨hv9, e_ws24, f_46_ws24, f_54_ws24, g23_0, g23_1, g23_2⟩ | ⟨hv9, e_ws24, f_46_ws24, f_54_ws24, g23_0, g23_1, g23_2⟩ | ⟨hv9, e_ws24, f_46_ws24, f_54_ws24, g23_0, g23_1⟩
        · cases hv9
          have f_46_ws24 : ws24[46]? = some ((q46, Sum.inr (8, [Value.int 0, Value.int 1, Value.ref q47, Value.ref q48, Value.ref q49, Value.int 0, Value.ref q50, Value.ref q51, Value.ref q52, Value.ref q53, Value.int 0, Value.int 0, Value.int 0, Value.int (-1), Value.int 0, Value.ref q54, Value.ref q62, Value.ref q70, Value.int 0, Value.int 0, Value.int 0, Value.ref q78, Value.ref q79, Value.int 0, Value.int 16, Value.int 4, um, Value.ref q80, Value.ref q81, Value.ref q82, Value.int 0, Value.ref q83, Value.int 0, Value.int 0, Value.int 0])) : Nat × va_E) := f_46_ws24
          have f_54_ws24 : ws24[54]? = some ((q54, Sum.inr (9, [Value.ref q55, Value.ref q56, Value.ref q57, Value.ref q58, Value.ref q59, Value.ref q60, Value.ref q61, Value.int 0, Value.int 0, Value.int 0, Value.int 0])) : Nat × va_E) := f_54_ws24
          replace hlen : ws24.length = 117 := by rw [e_ws24.1, hlen]
          replace hU : gx_g ws ws24 0 [0, 1, 2, 3, 4, 5, 6, 7, 8, 9, 10, 11, 12, 13, 14, 15, 16, 17, 18, 19, 20, 21, 22, 23, 24, 25, 26, 27, 28, 29, 30, 31, 32, 33, 34, 35, 36, 37, 38, 39, 40, 41, 42, 43, 44, 45, 46, 47, 48, 49, 50, 51, 52, 53, 54, 55, 56, 57, 58, 59, 60, 61, 62, 63, 64, 65, 66, 67, 68, 69, 70, 71, 72, 73, 74, 75, 76, 77, 78, 79, 80, 81, 82, 83, 84, 85, 86, 87, 88, 89, 90, 91, 92, 93, 94, 95, 96, 97, 98, 99, 100, 101, 102, 103, 104, 105, 106, 107, 108, 109, 110, 111, 112, 113, 114, 115, 116] := hU.call e_ws24 (by rw [hlen0]; decide)
          exact absurd g23_0 g1_0
        · cases hv9
          have f_46_ws24 : ws24[46]? = some ((q46, Sum.inr (8, [Value.int 0, Value.int 0, Value.ref q47, Value.ref q48, Value.ref q49, Value.int 0, Value.ref q50, Value.ref q51, Value.ref q52, Value.ref q53, Value.int 0, Value.int 0, Value.int 0, Value.int (-1), Value.int 0, Value.ref q54, Value.ref q62, Value.ref q70, Value.int 1, Value.int 0, Value.int 0, Value.ref q78, Value.ref q79, Value.int 0, Value.int 16, Value.int 4, um, Value.ref q80, Value.ref q81, Value.ref q82, Value.int 0, Value.ref q83, Value.int 0, Value.int 0, Value.int 0])) : Nat × va_E) := f_46_ws24
          have f_54_ws24 : ws24[54]? = some ((q54, Sum.inr (9, [Value.ref q55, Value.ref q56, Value.ref q57, Value.ref q58, Value.ref q59, Value.ref q60, Value.ref q61, Value.int 0, Value.int 0, Value.int 0, Value.int 0])) : Nat × va_E) := f_54_ws24
          replace hlen : ws24.length = 117 := by rw [e_ws24.1, hlen]
          replace hU : gx_g ws ws24 0 [0, 1, 2, 3, 4, 5, 6, 7, 8, 9, 10, 11, 12, 13, 14, 15, 16, 17, 18, 19, 20, 21, 22, 23, 24, 25, 26, 27, 28, 29, 30, 31, 32, 33, 34, 35, 36, 37, 38, 39, 40, 41, 42, 43, 44, 45, 46, 47, 48, 49, 50, 51, 52, 53, 54, 55, 56, 57, 58, 59, 60, 61, 62, 63, 64, 65, 66, 67, 68, 69, 70, 71, 72, 73, 74, 75, 76, 77, 78, 79, 80, 81, 82, 83, 84, 85, 86, 87, 88, 89, 90, 91, 92, 93, 94, 95, 96, 97, 98, 99, 100, 101, 102, 103, 104, 105, 106, 107, 108, 109, 110, 111, 112, 113, 114, 115, 116] := hU.call e_ws24 (by rw [hlen0]; decide)
          exact absurd g23_1 g1_1
        · cases hv9
          have f_46_ws24 : ws24[46]? = some ((q46, Sum.inr (8, [Value.int 0, Value.int 0, Value.ref q47, Value.ref q48, Value.ref q49, Value.int 0, Value.ref q50, Value.ref q51, Value.ref q52, Value.ref q53, Value.int 0, Value.int 0, Value.int 0, Value.int (-1), Value.int 0, Value.ref q54, Value.ref q62, Value.ref q70, Value.int 1, Value.int 0, Value.int 0, Value.ref q78, Value.ref q79, Value.int 0, Value.int 16, Value.int 4, um, Value.ref q80, Value.ref q81, Value.ref q82, Value.int 0, Value.ref q83, Value.int 0, Value.int 0, Value.int 0])) : Nat × va_E) := f_46_ws24
          have f_54_ws24 : ws24[54]? = some ((q54, Sum.inr (9, [Value.ref q55, Value.ref q56, Value.ref q57, Value.ref q58, Value.ref q59, Value.ref q60, Value.ref q61, Value.int 0, Value.int 0, Value.int 0, Value.int 0])) : Nat × va_E) := f_54_ws24
          replace hlen : ws24.length = 117 := by rw [e_ws24.1, hlen]
          replace hU : gx_g ws ws24 0 [0, 1, 2, 3, 4, 5, 6, 7, 8, 9, 10, 11, 12, 13, 14, 15, 16, 17, 18, 19, 20, 21, 22, 23, 24, 25, 26, 27, 28, 29, 30, 31, 32, 33, 34, 35, 36, 37, 38, 39, 40, 41, 42, 43, 44, 45, 46, 47, 48, 49, 50, 51, 52, 53, 54, 55, 56, 57, 58, 59, 60, 61, 62, 63, 64, 65, 66, 67, 68, 69, 70, 71, 72, 73, 74, 75, 76, 77, 78, 79, 80, 81, 82, 83, 84, 85, 86, 87, 88, 89, 90, 91, 92, 93, 94, 95, 96, 97, 98, 99, 100, 101, 102, 103, 104, 105, 106, 107, 108, 109, 110, 111, 112, 113, 114, 115, 116] := hU.call e_ws24 (by rw [hlen0]; decide)
          exact absurd g23_1 g1_1
        · cases hv9
          have f_46_ws24 : ws24[46]? = some ((q46, Sum.inr (8, [Value.int 0, Value.int 1, Value.ref q47, Value.ref q48, Value.ref q49, Value.int 0, Value.ref q50, Value.ref q51, Value.ref q52, Value.ref q53, Value.int 0, Value.int 0, Value.int 0, Value.int (-1), Value.int 0, Value.ref q54, Value.ref q62, Value.ref q70, Value.int 0, Value.int 0, Value.int 0, Value.ref q78, Value.ref q79, Value.int 0, Value.int 16, Value.int 4, um, Value.ref q80, Value.ref q81, Value.ref q82, Value.int 0, Value.ref q83, Value.int 0, Value.int 0, Value.int 0])) : Nat × va_E) := f_46_ws24
          have f_54_ws24 : ws24[54]? = some ((q54, Sum.inr (9, [Value.ref q55, Value.ref q56, Value.ref q57, Value.ref q58, Value.ref q59, Value.ref q60, Value.ref q61, Value.int 0, Value.int 0, Value.int 0, Value.int 0])) : Nat × va_E) := f_54_ws24
          replace hlen : ws24.length = 117 := by rw [e_ws24.1, hlen]
          replace hU : gx_g ws ws24 0 [0, 1, 2, 3, 4, 5, 6, 7, 8, 9, 10, 11, 12, 13, 14, 15, 16, 17, 18, 19, 20, 21, 22, 23, 24, 25, 26, 27, 28, 29, 30, 31, 32, 33, 34, 35, 36, 37, 38, 39, 40, 41, 42, 43, 44, 45, 46, 47, 48, 49, 50, 51, 52, 53, 54, 55, 56, 57, 58, 59, 60, 61, 62, 63, 64, 65, 66, 67, 68, 69, 70, 71, 72, 73, 74, 75, 76, 77, 78, 79, 80, 81, 82, 83, 84, 85, 86, 87, 88, 89, 90, 91, 92, 93, 94, 95, 96, 97, 98, 99, 100, 101, 102, 103, 104, 105, 106, 107, 108, 109, 110, 111, 112, 113, 114, 115, 116] := hU.call e_ws24 (by rw [hlen0]; decide)
          refine W.eq (g2 := F0 m 163 ls [Value.int 0]) rfl ?_
          generalize t23.heap = H at hP hS ⊢
          generalize locs ++ L23 = locs at hS ⊢
          refine lv_istore (lv' := [(6, Value.int 0), (5, Value.int 1), (4, Value.int 0), (3, Value.ref q116), (2, Value.ref q46), (1, Value.ref q0), (0, Value.ref b)]) hx hb d_Lw_law_163 hl (by decide) rfl (fun ls hl => ?_)
          refine lv_aload_n hx hb d_Lw_law_165 rfl (lv_at hl 4 rfl) ?_
          refine gx_call (ig := .invokevirtual 98) (c_Mo_thrown l htr D tys z _ ws24 q46 46 (Value.int 0) 1 (Value.ref q47) (Value.ref q48) (Value.ref q49) (Value.int 0) (Value.ref q50) (Value.ref q51) (Value.ref q52) (Value.ref q53) (Value.int 0) (Value.int 0) (Value.int 0) (Value.int (-1)) (Value.int 0) (Value.ref q54) (Value.ref q62) (Value.ref q70) (Value.int 0) (Value.int 0) (Value.int 0) (Value.ref q78) (Value.ref q79) (Value.int 0) (Value.int 16) (Value.int 4) (um) (Value.ref q80) (Value.ref q81) (Value.ref q82) (Value.int 0) (Value.ref q83) (Value.int 0) (Value.int 0) (Value.int 0) f_46_ws24) (gx_invV (As := []) (rest := []) hx hb hown hts km_Lw_98 kI_Mo_thrown kV_Mo_thrown kc_Mo_thrown (by decide) (show (parseMethodDescriptor y_Mo_thrown.desc).map (fun d => d.parameters.length) = some 0 by decide +kernel) (gx_recv (ci := 8) hK hP rfl f_46_ws24) rfl rfl d_Lw_law_166) (gx_cw (z := 0) hts kc_Mo_thrown kN_Mo rfl rfl ⟨Nat.le_of_ble_eq_true rfl, Nat.le_of_ble_eq_true rfl⟩) hb hml gx_blind (gx_pre hz hP hK hD hY hS hAz [Value.ref q46]) rfl hl.1 (lv_room (Nat.le_of_ble_eq_true rfl)) d_Lw_law_166 ⟨Nat.le_of_ble_eq_true rfl, Nat.le_of_ble_eq_true rfl⟩ (fun v25 st25 t25 L25 h0_25 hW_25 hQ_25 hL_25 => ?_) (fun v25 st25 t25 L25 h0_25 hW_25 hQ_25 hL_25 => ?_)
          · obtain ⟨ws26, hp, hP9, -, hD9, hS9⟩ := gx_back h0_25 hW_25 hQ_25 hL_25 hD hS hA
            clear hQ_25 h0_25 hL_25 hW_25 hP hD hS
            have hP := hP9
            have hD := hD9
            have hS := hS9
            clear hP9 hD9 hS9
            rcases hp with ⟨hv9, e_ws26⟩
            cases hv9
            rw [e_ws26] at hP hD
            refine W.eq (g2 := F0 m 169 ls [Value.int 1]) rfl ?_
            generalize t25.heap = H at hP hS ⊢
            generalize locs ++ L25 = locs at hS ⊢
            refine lv_iload hx hb d_Lw_law_169 (lv_at hl 1 rfl) ?_
            refine lv_icmp_eq (tgt := 176) hx hb d_Lw_law_171 (by decide) (fun _ => ?_) (fun c9 => absurd (by decide) c9)
            refine lv_iload hx hb d_Lw_law_176 (lv_at hl 1 rfl) ?_
            refine lv_if_ne (tgt := 193) hx hb d_Lw_law_178 (by decide) (fun _ => ?_) (fun c9 => absurd c9 (by decide))
            refine lv_goto (tgt := 1272) hx hb d_Lw_law_193 (by decide) ?_
            refine W.widen (k := 400) (n := 700000) (by decide) (by decide) ?_
            exact k _ _ ls (by rw [hAe]; exact hS) (lv_sub hl [2, 6] rfl)
          · obtain ⟨E9, ws27, ce, hp, hce, hP9, -, hD9, hS9⟩ := gx_backT h0_25 hW_25 hQ_25 hL_25 hD hS hA
            clear hQ_25 h0_25 hL_25 hW_25 hP hD hS
            have hP := hP9
            have hD := hD9
            have hS := hS9
            clear hP9 hD9 hS9
            rcases hp with ⟨hv9, e_ws27⟩
            cases hv9
      · obtain ⟨E9, ws28, ce, hp, hce, hP9, -, hD9, hS9⟩ := gx_backT h0_23 hW_23 hQ_23 hL_23 hD hS hA
        clear hQ_23 h0_23 hL_23 hW_23 hP hD hS
        have hP := hP9
        have hD := hD9
        have hS := hS9
        clear hP9 hD9 hS9
        rcases hp with ⟨hv9, e_ws28, f_46_ws28, f_54_ws28, g23_0⟩ | ⟨hv9, e_ws28, f_46_ws28, f_54_ws28, g23_0, g23_1, g23_2⟩ | ⟨hv9, e_ws28, f_46_ws28, f_54_ws28, g23_0, g23_1, g23_2⟩ | ⟨hv9, e_ws28, f_46_ws28, f_54_ws28, g23_0, g23_1⟩
        · cases hv9
        · cases hv9
        · cases hv9
        · cases hv9
  · obtain ⟨E9, ws29, ce, hp, hce, hP9, -, hD9, hS9⟩ := gx_backT h0_1 hW_1 hQ_1 hL_1 hD hS hA
    clear hQ_1 h0_1 hL_1 hW_1 hP hD hS
    have hP := hP9
    have hD := hD9
    have hS := hS9
    clear hP9 hD9 hS9
    rcases hp with ⟨F30, hv9, e_ws29, f_0_ws29, f_5_ws29, f_8_ws29, f_11_ws29, f_116_ws29, g1_0, g1_1, g1_2, g1_3⟩ | ⟨F31, hv9, e_ws29, f_0_ws29, f_5_ws29, f_8_ws29, f_11_ws29, f_116_ws29, g1_0, g1_1, g1_2, g1_3⟩ | ⟨hv9, e_ws29, f_0_ws29, f_5_ws29, f_8_ws29, f_11_ws29, f_116_ws29, g1_0⟩ | ⟨hv9, e_ws29, f_0_ws29, f_5_ws29, f_8_ws29, f_11_ws29, f_116_ws29, g1_0, g1_1⟩
    · cases hv9
    · cases hv9
    · cases hv9
    · cases hv9

set_option maxHeartbeats 4000000 in
set_option maxRecDepth 100000 in
theorem law_t1 {p : Program} {e : Env} {s : State} {m : MethodId} {below : List Frame} {meth : Method} {c : Code} {Q : State → Prop} (l : Launch) (htr : l.stackTraces = false) {b : Nat} {xs : Nat → Int32} (hx : p.tables.exec = Jvm.exec) (hb : c.code = code) (hml : c.maxLocals = 7) (hown : s.vm.findClass "CommitLedgerLaw" = some m.cls) (hts1 : ∀ w ∈ lw_tbl, w.before #[Value.ref b] s = true) (hgv : (Jvm.Cond.and given_1 narrow_1).before #[Value.ref b] s = true) (hX : va_X b 4 xs s s.heap) (hbl : b < s.heap.size) (D : va_G) (tys : List (ClassId × FieldType)) (cI cZ cF cM cR cV cJ : ClassId) (q0 q1 q2 q3 q4 q5 q6 q7 q8 q9 q10 q11 q12 q13 q14 q15 q16 q17 q18 q19 q20 q21 q22 q23 q24 q25 q26 q27 q28 q29 q30 q31 q32 q33 q34 q35 q36 q37 q38 q39 q40 q41 q42 q43 q44 q45 q46 q47 q48 q49 q50 q51 q52 q53 q54 q55 q56 q57 q58 q59 q60 q61 q62 q63 q64 q65 q66 q67 q68 q69 q70 q71 q72 q73 q74 q75 q76 q77 q78 q79 q80 q81 q82 q83 q84 q85 q86 q87 q88 q89 q90 q91 q92 q93 q94 q95 q96 q97 q98 q99 q100 q101 q102 q103 q104 q105 q106 q107 q108 q109 q110 q111 q112 q113 q114 q115 q116 : Nat) (u0 u1 um : Value) (ws : va_W) (H : Heap) (locs : List Loc) (ls : Array Slot) (hK : va_K D classes tys s) (htys : tys = [(cI, FieldType.int), (cZ, FieldType.boolean), (cF, FieldType.object "CommitLedger$LedgerFile"), (cM, FieldType.object "CommitLedger$Merge"), (cR, FieldType.object "CommitLedger$Reader"), (cV, FieldType.object "CommitLedgerModel$Version"), (cJ, FieldType.long)]) (hP : va_P D classes ws H) (hD : va_D (fun q : Nat => s.heap.size ≤ q) ws) (hS : va_S (fun q : Nat => s.heap.size ≤ q) s.heap H locs) (hlen : ws.length = 117) (f_0 : ws[0]? = some ((q0, Sum.inr (0, [Value.ref q1, Value.ref q5, Value.ref q8, Value.ref q20, Value.ref q25, Value.ref q12, Value.ref q16, Value.int 0, Value.int 0, Value.int 0, Value.int 16, Value.int 4, Value.int 0, Value.int 0, Value.int 0, Value.int 0, Value.int 0, Value.int (-1)])) : Nat × va_E)) (f_46 : ws[46]? = some ((q46, Sum.inr (8, [Value.int 0, Value.int 0, Value.ref q47, Value.ref q48, Value.ref q49, Value.int 0, Value.ref q50, Value.ref q51, Value.ref q52, Value.ref q53, Value.int 0, Value.int 0, Value.int 0, Value.int (-1), Value.int 0, Value.ref q54, Value.ref q62, Value.ref q70, Value.int 0, Value.int 0, Value.int 0, Value.ref q78, Value.ref q79, Value.int 0, Value.int 16, Value.int 4, um, Value.ref q80, Value.ref q81, Value.ref q82, Value.int 0, Value.ref q83, Value.int 0, Value.int 0, Value.int 0])) : Nat × va_E)) (hl : lv_has ls 7 [(4, Value.int 0), (3, Value.ref q116), (2, Value.ref q46), (1, Value.ref q0), (0, Value.ref b)])
    (k : ∀ (H : Heap) (locs : List Loc) (ls : Array Slot), va_S (fun q : Nat => s.heap.size ≤ q) s.heap H locs → lv_has ls 7 [(4, Value.int 0), (0, Value.ref b)] → W p l e room_1 s m #[Value.ref b] below meth c H locs 400 700000 Q (F0 m 1272 ls [])) :
    W p l e room_1 s m #[Value.ref b] below meth c H locs 122 677754 Q (F0 m 196 ls []) := by
  have ht0 : tys[0]? = some ((cI, FieldType.int) : ClassId × FieldType) := by rw [htys]; rfl
  have ht1 : tys[1]? = some ((cZ, FieldType.boolean) : ClassId × FieldType) := by rw [htys]; rfl
  have ht2 : tys[2]? = some ((cF, FieldType.object "CommitLedger$LedgerFile") : ClassId × FieldType) := by rw [htys]; rfl
  have ht3 : tys[3]? = some ((cM, FieldType.object "CommitLedger$Merge") : ClassId × FieldType) := by rw [htys]; rfl
  have ht4 : tys[4]? = some ((cR, FieldType.object "CommitLedger$Reader") : ClassId × FieldType) := by rw [htys]; rfl
  have ht5 : tys[5]? = some ((cV, FieldType.object "CommitLedgerModel$Version") : ClassId × FieldType) := by rw [htys]; rfl
  have ht6 : tys[6]? = some ((cJ, FieldType.long) : ClassId × FieldType) := by rw [htys]; rfl
  have hY := gx_Y0 hts1 hgv
  have hts := gx_hts0 hts1 hgv
  obtain ⟨z, hzz⟩ : ∃ x : Nat, x = s.heap.size := ⟨_, rfl⟩
  rw [← hzz] at hY
  have hz : z ≤ s.heap.size := Nat.le_of_eq hzz
  have hAz : ∀ q : Nat, (fun q : Nat => s.heap.size ≤ q) q → z ≤ q := fun q h => by rw [hzz]; exact h
  have hA : ∀ q : Nat, s.heap.size ≤ q → (fun q : Nat => s.heap.size ≤ q) q := fun _ h => h
  have hbA : ¬ (fun q : Nat => s.heap.size ≤ q) b := Nat.not_le.mpr hbl
  have hN : gx_NS (fun q : Nat => s.heap.size ≤ q) s := fun q cell h hc => absurd (Array.getElem?_eq_some_iff.mp hc).1 (Nat.not_lt.mpr h)
  have hlen0 := hlen
  have hU : gx_g ws ws 0 [0, 1, 2, 3, 4, 5, 6, 7, 8, 9, 10, 11, 12, 13, 14, 15, 16, 17, 18, 19, 20, 21, 22, 23, 24, 25, 26, 27, 28, 29, 30, 31, 32, 33, 34, 35, 36, 37, 38, 39, 40, 41, 42, 43, 44, 45, 46, 47, 48, 49, 50, 51, 52, 53, 54, 55, 56, 57, 58, 59, 60, 61, 62, 63, 64, 65, 66, 67, 68, 69, 70, 71, 72, 73, 74, 75, 76, 77, 78, 79, 80, 81, 82, 83, 84, 85, 86, 87, 88, 89, 90, 91, 92, 93, 94, 95, 96, 97, 98, 99, 100, 101, 102, 103, 104, 105, 106, 107, 108, 109, 110, 111, 112, 113, 114, 115, 116] := gx_g.rf
  obtain ⟨y0, hy0⟩ : ∃ y : Int32, y = xs 0 := ⟨_, rfl⟩
  obtain ⟨y1, hy1⟩ : ∃ y : Int32, y = xs 1 := ⟨_, rfl⟩
  obtain ⟨y2, hy2⟩ : ∃ y : Int32, y = xs 2 := ⟨_, rfl⟩
  obtain ⟨y3, hy3⟩ : ∃ y : Int32, y = xs 3 := ⟨_, rfl⟩
  generalize hAe : (fun q : Nat => s.heap.size ≤ q) = A at hD hN hA hAz hS hbA
  refine lv_aload_n hx hb d_Lw_law_196 rfl (lv_at hl 3 rfl) ?_
  refine lv_aload_n hx hb d_Lw_law_197 rfl (lv_at hl 4 rfl) ?_
  refine lv_iload hx hb d_Lw_law_198 (lv_at hl 0 rfl) ?_
  refine lv_iconst (v := 1) hx hb d_Lw_law_200 (by decide) ?_
  refine lv_iadd hx hb d_Lw_law_201 ?_
  refine gx_topi (y := 1) (by decide) ?_
  refine va_sld hx hb hX hbl hbA hS (i := 1) (gx_inl (by decide)) d_Lw_law_202 ?_
  refine gx_topi (y := y1) (by rw [hy1]; rfl) ?_
  refine lv_aload_n hx hb d_Lw_law_203 rfl (lv_at hl 4 rfl) ?_
  refine lv_iload hx hb d_Lw_law_204 (lv_at hl 0 rfl) ?_
  refine lv_iconst (v := 2) hx hb d_Lw_law_206 (by decide) ?_
  refine lv_iadd hx hb d_Lw_law_207 ?_
  refine gx_topi (y := 2) (by decide) ?_
  refine va_sld hx hb hX hbl hbA hS (i := 2) (gx_inl (by decide)) d_Lw_law_208 ?_
  refine gx_topi (y := y2) (by rw [hy2]; rfl) ?_
  refine gx_callH (ig := .invokestatic 101) (c_Lw_limits_v1 l htr D tys z _ ws q0 y1 y2 q1 q5 q8 q20 q25 q12 q16 f_0) (gx_invSH (As := [Value.ref q0, Value.int y1, Value.int y2]) (rest := []) hx hb hown hts km_Lw_101 kS_Lw_limits kN_Lw kc_Lw_limits (by decide) (show (parseMethodDescriptor y_Lw_limits.desc).map (fun d => d.parameters.length) = some 3 by decide +kernel) rfl rfl d_Lw_law_209) (gx_cwH hts kc_Lw_limits kN_Lw rfl rfl ⟨Nat.le_of_ble_eq_true rfl, Nat.le_of_ble_eq_true rfl⟩) hb hml gx_blind (gx_pre hz hP hK hD hY hS hAz [Value.ref q0, Value.int y1, Value.int y2]) rfl hl.1 (lv_room (Nat.le_of_ble_eq_true rfl)) d_Lw_law_209 ⟨Nat.le_of_ble_eq_true rfl, Nat.le_of_ble_eq_true rfl⟩ (fun v1 st1 t1 L1 h0_1 hW_1 hQ_1 hL_1 => ?_) (fun v1 st1 t1 L1 h0_1 hW_1 hQ_1 hL_1 => ?_)
  · obtain ⟨ws2, hp, hP9, -, hD9, hS9⟩ := gx_back h0_1 hW_1 hQ_1 hL_1 hD hS hA
    clear hQ_1 h0_1 hL_1 hW_1 hP hD hS
    have hP := hP9
    have hD := hD9
    have hS := hS9
    clear hP9 hD9 hS9
    rcases hp with ⟨hv9, e_ws2, f_0_ws2, g1_0, g1_1, g1_2, g1_3⟩ | ⟨hv9, e_ws2, f_0_ws2, g1_0⟩ | ⟨hv9, e_ws2, f_0_ws2, g1_0, g1_1⟩ | ⟨hv9, e_ws2, f_0_ws2, g1_0, g1_1, g1_2⟩ | ⟨hv9, e_ws2, f_0_ws2, g1_0, g1_1, g1_2, g1_3⟩
    · cases hv9
      have f_0_ws2 : ws2[0]? = some ((q0, Sum.inr (0, [Value.ref q1, Value.ref q5, Value.ref q8, Value.ref q20, Value.ref q25, Value.ref q12, Value.ref q16, Value.int 0, Value.int 0, Value.int 0, Value.int y1, Value.int y2, Value.int 0, Value.int 0, Value.int 0, Value.int 0, Value.int 0, Value.int (-1)])) : Nat × va_E) := f_0_ws2
      replace hlen : ws2.length = 117 := by rw [e_ws2.1, hlen]
      replace hU : gx_g ws ws2 0 [0, 1, 2, 3, 4, 5, 6, 7, 8, 9, 10, 11, 12, 13, 14, 15, 16, 17, 18, 19, 20, 21, 22, 23, 24, 25, 26, 27, 28, 29, 30, 31, 32, 33, 34, 35, 36, 37, 38, 39, 40, 41, 42, 43, 44, 45, 46, 47, 48, 49, 50, 51, 52, 53, 54, 55, 56, 57, 58, 59, 60, 61, 62, 63, 64, 65, 66, 67, 68, 69, 70, 71, 72, 73, 74, 75, 76, 77, 78, 79, 80, 81, 82, 83, 84, 85, 86, 87, 88, 89, 90, 91, 92, 93, 94, 95, 96, 97, 98, 99, 100, 101, 102, 103, 104, 105, 106, 107, 108, 109, 110, 111, 112, 113, 114, 115, 116] := hU.call e_ws2 (by rw [hlen0]; decide)
      refine W.eq (g2 := F0 m 212 ls [Value.int 0]) rfl ?_
      refine W.widen (k := 124) (n := 677766) (by decide) (by decide) ?_
      generalize t1.heap = H at hP hS ⊢
      generalize locs ++ L1 = locs at hS ⊢
      refine lv_istore (lv' := [(5, Value.int 0), (4, Value.int 0), (3, Value.ref q116), (2, Value.ref q46), (1, Value.ref q0), (0, Value.ref b)]) hx hb d_Lw_law_212 hl (by decide) rfl (fun ls hl => ?_)
      refine lv_aload_n hx hb d_Lw_law_214 rfl (lv_at hl 3 rfl) ?_
      refine lv_aload_n hx hb d_Lw_law_215 rfl (lv_at hl 5 rfl) ?_
      refine lv_iload hx hb d_Lw_law_216 (lv_at hl 1 rfl) ?_
      refine lv_iconst (v := 1) hx hb d_Lw_law_218 (by decide) ?_
      refine lv_iadd hx hb d_Lw_law_219 ?_
      refine gx_topi (y := 1) (by decide) ?_
      refine va_sld hx hb hX hbl hbA hS (i := 1) (gx_inl (by decide)) d_Lw_law_220 ?_
      refine gx_topi (y := y1) (by rw [hy1]; rfl) ?_
      refine lv_aload_n hx hb d_Lw_law_221 rfl (lv_at hl 5 rfl) ?_
      refine lv_iload hx hb d_Lw_law_222 (lv_at hl 1 rfl) ?_
      refine lv_iconst (v := 2) hx hb d_Lw_law_224 (by decide) ?_
      refine lv_iadd hx hb d_Lw_law_225 ?_
      refine gx_topi (y := 2) (by decide) ?_
      refine va_sld hx hb hX hbl hbA hS (i := 2) (gx_inl (by decide)) d_Lw_law_226 ?_
      refine gx_topi (y := y2) (by rw [hy2]; rfl) ?_
      have f_46_ws2 : ws2[46]? = some ((q46, Sum.inr (8, [Value.int 0, Value.int 0, Value.ref q47, Value.ref q48, Value.ref q49, Value.int 0, Value.ref q50, Value.ref q51, Value.ref q52, Value.ref q53, Value.int 0, Value.int 0, Value.int 0, Value.int (-1), Value.int 0, Value.ref q54, Value.ref q62, Value.ref q70, Value.int 0, Value.int 0, Value.int 0, Value.ref q78, Value.ref q79, Value.int 0, Value.int 16, Value.int 4, um, Value.ref q80, Value.ref q81, Value.ref q82, Value.int 0, Value.ref q83, Value.int 0, Value.int 0, Value.int 0])) : Nat × va_E) := e_ws2.at (by first | decide | (simp; done) | (simp; omega)) f_46
      clear f_46
      refine gx_call (ig := .invokevirtual 104) (c_Mo_limits_v1 l htr D tys z _ ws2 q46 y1 y2 q47 q48 q49 q50 q51 q52 q53 q54 q62 q70 q78 q79 (um) q80 q81 q82 q83 f_46_ws2) (gx_invV (As := [Value.int y1, Value.int y2]) (rest := []) hx hb hown hts km_Lw_104 kI_Mo_limits kV_Mo_limits kc_Mo_limits (by decide) (show (parseMethodDescriptor y_Mo_limits.desc).map (fun d => d.parameters.length) = some 2 by decide +kernel) (gx_recv (ci := 8) hK hP rfl f_46_ws2) rfl rfl d_Lw_law_227) (gx_cw (z := 0) hts kc_Mo_limits kN_Mo rfl rfl ⟨Nat.le_of_ble_eq_true rfl, Nat.le_of_ble_eq_true rfl⟩) hb hml gx_blind (gx_pre hz hP hK hD hY hS hAz [Value.ref q46, Value.int y1, Value.int y2]) rfl hl.1 (lv_room (Nat.le_of_ble_eq_true rfl)) d_Lw_law_227 ⟨Nat.le_of_ble_eq_true rfl, Nat.le_of_ble_eq_true rfl⟩ (fun v3 st3 t3 L3 h0_3 hW_3 hQ_3 hL_3 => ?_) (fun v3 st3 t3 L3 h0_3 hW_3 hQ_3 hL_3 => ?_)
      · obtain ⟨ws4, hp, hP9, -, hD9, hS9⟩ := gx_back h0_3 hW_3 hQ_3 hL_3 hD hS hA
        clear hQ_3 h0_3 hL_3 hW_3 hP hD hS
        have hP := hP9
        have hD := hD9
        have hS := hS9
        clear hP9 hD9 hS9
        rcases hp with ⟨hv9, e_ws4, f_46_ws4, g3_0⟩ | ⟨hv9, e_ws4, f_46_ws4, g3_0, g3_1⟩ | ⟨hv9, e_ws4, f_46_ws4, g3_0, g3_1, g3_2⟩ | ⟨hv9, e_ws4, f_46_ws4, g3_0, g3_1, g3_2, g3_3⟩ | ⟨hv9, e_ws4, f_46_ws4, g3_0, g3_1, g3_2, g3_3⟩
        · cases hv9
          have f_46_ws4 : ws4[46]? = some ((q46, Sum.inr (8, [Value.int 0, Value.int 1, Value.ref q47, Value.ref q48, Value.ref q49, Value.int 0, Value.ref q50, Value.ref q51, Value.ref q52, Value.ref q53, Value.int 0, Value.int 0, Value.int 0, Value.int (-1), Value.int 0, Value.ref q54, Value.ref q62, Value.ref q70, Value.int 0, Value.int 0, Value.int 0, Value.ref q78, Value.ref q79, Value.int 0, Value.int 16, Value.int 4, um, Value.ref q80, Value.ref q81, Value.ref q82, Value.int 0, Value.ref q83, Value.int 0, Value.int 0, Value.int 0])) : Nat × va_E) := f_46_ws4
          replace hlen : ws4.length = 117 := by rw [e_ws4.1, hlen]
          replace hU : gx_g ws ws4 0 [0, 1, 2, 3, 4, 5, 6, 7, 8, 9, 10, 11, 12, 13, 14, 15, 16, 17, 18, 19, 20, 21, 22, 23, 24, 25, 26, 27, 28, 29, 30, 31, 32, 33, 34, 35, 36, 37, 38, 39, 40, 41, 42, 43, 44, 45, 46, 47, 48, 49, 50, 51, 52, 53, 54, 55, 56, 57, 58, 59, 60, 61, 62, 63, 64, 65, 66, 67, 68, 69, 70, 71, 72, 73, 74, 75, 76, 77, 78, 79, 80, 81, 82, 83, 84, 85, 86, 87, 88, 89, 90, 91, 92, 93, 94, 95, 96, 97, 98, 99, 100, 101, 102, 103, 104, 105, 106, 107, 108, 109, 110, 111, 112, 113, 114, 115, 116] := hU.call e_ws4 (by rw [hlen0]; decide)
          exact absurd g3_0 g1_0
        · cases hv9
          have f_46_ws4 : ws4[46]? = some ((q46, Sum.inr (8, [Value.int 0, Value.int 1, Value.ref q47, Value.ref q48, Value.ref q49, Value.int 0, Value.ref q50, Value.ref q51, Value.ref q52, Value.ref q53, Value.int 0, Value.int 0, Value.int 0, Value.int (-1), Value.int 0, Value.ref q54, Value.ref q62, Value.ref q70, Value.int 0, Value.int 0, Value.int 0, Value.ref q78, Value.ref q79, Value.int 0, Value.int 16, Value.int 4, um, Value.ref q80, Value.ref q81, Value.ref q82, Value.int 0, Value.ref q83, Value.int 0, Value.int 0, Value.int 0])) : Nat × va_E) := f_46_ws4
          replace hlen : ws4.length = 117 := by rw [e_ws4.1, hlen]
          replace hU : gx_g ws ws4 0 [0, 1, 2, 3, 4, 5, 6, 7, 8, 9, 10, 11, 12, 13, 14, 15, 16, 17, 18, 19, 20, 21, 22, 23, 24, 25, 26, 27, 28, 29, 30, 31, 32, 33, 34, 35, 36, 37, 38, 39, 40, 41, 42, 43, 44, 45, 46, 47, 48, 49, 50, 51, 52, 53, 54, 55, 56, 57, 58, 59, 60, 61, 62, 63, 64, 65, 66, 67, 68, 69, 70, 71, 72, 73, 74, 75, 76, 77, 78, 79, 80, 81, 82, 83, 84, 85, 86, 87, 88, 89, 90, 91, 92, 93, 94, 95, 96, 97, 98, 99, 100, 101, 102, 103, 104, 105, 106, 107, 108, 109, 110, 111, 112, 113, 114, 115, 116] := hU.call e_ws4 (by rw [hlen0]; decide)
          refine W.eq (g2 := F0 m 230 ls []) rfl ?_
          generalize t3.heap = H at hP hS ⊢
          generalize locs ++ L3 = locs at hS ⊢
          refine lv_aload_n hx hb d_Lw_law_230 rfl (lv_at hl 3 rfl) ?_
          refine gx_call (ig := .invokevirtual 98) (c_Mo_thrown l htr D tys z _ ws4 q46 46 (Value.int 0) 1 (Value.ref q47) (Value.ref q48) (Value.ref q49) (Value.int 0) (Value.ref q50) (Value.ref q51) (Value.ref q52) (Value.ref q53) (Value.int 0) (Value.int 0) (Value.int 0) (Value.int (-1)) (Value.int 0) (Value.ref q54) (Value.ref q62) (Value.ref q70) (Value.int 0) (Value.int 0) (Value.int 0) (Value.ref q78) (Value.ref q79) (Value.int 0) (Value.int 16) (Value.int 4) (um) (Value.ref q80) (Value.ref q81) (Value.ref q82) (Value.int 0) (Value.ref q83) (Value.int 0) (Value.int 0) (Value.int 0) f_46_ws4) (gx_invV (As := []) (rest := []) hx hb hown hts km_Lw_98 kI_Mo_thrown kV_Mo_thrown kc_Mo_thrown (by decide) (show (parseMethodDescriptor y_Mo_thrown.desc).map (fun d => d.parameters.length) = some 0 by decide +kernel) (gx_recv (ci := 8) hK hP rfl f_46_ws4) rfl rfl d_Lw_law_231) (gx_cw (z := 0) hts kc_Mo_thrown kN_Mo rfl rfl ⟨Nat.le_of_ble_eq_true rfl, Nat.le_of_ble_eq_true rfl⟩) hb hml gx_blind (gx_pre hz hP hK hD hY hS hAz [Value.ref q46]) rfl hl.1 (lv_room (Nat.le_of_ble_eq_true rfl)) d_Lw_law_231 ⟨Nat.le_of_ble_eq_true rfl, Nat.le_of_ble_eq_true rfl⟩ (fun v5 st5 t5 L5 h0_5 hW_5 hQ_5 hL_5 => ?_) (fun v5 st5 t5 L5 h0_5 hW_5 hQ_5 hL_5 => ?_)
          · obtain ⟨ws6, hp, hP9, -, hD9, hS9⟩ := gx_back h0_5 hW_5 hQ_5 hL_5 hD hS hA
            clear hQ_5 h0_5 hL_5 hW_5 hP hD hS
            have hP := hP9
            have hD := hD9
            have hS := hS9
            clear hP9 hD9 hS9
            rcases hp with ⟨hv9, e_ws6⟩
            cases hv9
            rw [e_ws6] at hP hD
            refine W.eq (g2 := F0 m 234 ls [Value.int 1]) rfl ?_
            generalize t5.heap = H at hP hS ⊢
            generalize locs ++ L5 = locs at hS ⊢
            refine lv_iload hx hb d_Lw_law_234 (lv_at hl 0 rfl) ?_
            refine lv_icmp_eq (tgt := 241) hx hb d_Lw_law_236 (by decide) (fun c9 => absurd c9 (by decide)) (fun _ => ?_)
            refine lv_iconst (v := 0) hx hb d_Lw_law_239 (by decide) ?_
            exfalso
            have k9_0 : ¬ ((y1 : Int32).toInt < (1 : Int32).toInt) := fun h9 => g1_0 (Int32.lt_iff_toInt_lt.mpr h9)
            have k9_1 : ((y1 : Int32).toInt ≤ (10000 : Int32).toInt) := Int32.le_iff_toInt_le.mp g1_1
            have k9_2 : ¬ ((y2 : Int32).toInt < (2 : Int32).toInt) := fun h9 => g1_2 (Int32.lt_iff_toInt_lt.mpr h9)
            have k9_3 : ((y2 : Int32).toInt ≤ (64 : Int32).toInt) := Int32.le_iff_toInt_le.mp g1_3
            have k9_5 : ((10000 : Int32).toInt < (y1 : Int32).toInt) := Int32.lt_iff_toInt_lt.mp g3_1
            have : (1 : Int32).toInt = 1 := by decide
            have : (10000 : Int32).toInt = 10000 := by decide
            have : (2 : Int32).toInt = 2 := by decide
            have : (64 : Int32).toInt = 64 := by decide
            omega
          · obtain ⟨E9, ws7, ce, hp, hce, hP9, -, hD9, hS9⟩ := gx_backT h0_5 hW_5 hQ_5 hL_5 hD hS hA
            clear hQ_5 h0_5 hL_5 hW_5 hP hD hS
            have hP := hP9
            have hD := hD9
            have hS := hS9
            clear hP9 hD9 hS9
            rcases hp with ⟨hv9, e_ws7⟩
            cases hv9
        · cases hv9
          have f_46_ws4 : ws4[46]? = some ((q46, Sum.inr (8, [Value.int 0, Value.int 1, Value.ref q47, Value.ref q48, Value.ref q49, Value.int 0, Value.ref q50, Value.ref q51, Value.ref q52, Value.ref q53, Value.int 0, Value.int 0, Value.int 0, Value.int (-1), Value.int 0, Value.ref q54, Value.ref q62, Value.ref q70, Value.int 0, Value.int 0, Value.int 0, Value.ref q78, Value.ref q79, Value.int 0, Value.int 16, Value.int 4, um, Value.ref q80, Value.ref q81, Value.ref q82, Value.int 0, Value.ref q83, Value.int 0, Value.int 0, Value.int 0])) : Nat × va_E) := f_46_ws4
          replace hlen : ws4.length = 117 := by rw [e_ws4.1, hlen]
          replace hU : gx_g ws ws4 0 [0, 1, 2, 3, 4, 5, 6, 7, 8, 9, 10, 11, 12, 13, 14, 15, 16, 17, 18, 19, 20, 21, 22, 23, 24, 25, 26, 27, 28, 29, 30, 31, 32, 33, 34, 35, 36, 37, 38, 39, 40, 41, 42, 43, 44, 45, 46, 47, 48, 49, 50, 51, 52, 53, 54, 55, 56, 57, 58, 59, 60, 61, 62, 63, 64, 65, 66, 67, 68, 69, 70, 71, 72, 73, 74, 75, 76, 77, 78, 79, 80, 81, 82, 83, 84, 85, 86, 87, 88, 89, 90, 91, 92, 93, 94, 95, 96, 97, 98, 99, 100, 101, 102, 103, 104, 105, 106, 107, 108, 109, 110, 111, 112, 113, 114, 115, 116] := hU.call e_ws4 (by rw [hlen0]; decide)
          exact absurd g3_2 g1_2
        · cases hv9
          have f_46_ws4 : ws4[46]? = some ((q46, Sum.inr (8, [Value.int 0, Value.int 0, Value.ref q47, Value.ref q48, Value.ref q49, Value.int 0, Value.ref q50, Value.ref q51, Value.ref q52, Value.ref q53, Value.int 0, Value.int 0, Value.int 0, Value.int (-1), Value.int 0, Value.ref q54, Value.ref q62, Value.ref q70, Value.int 0, Value.int 0, Value.int 0, Value.ref q78, Value.ref q79, Value.int 0, Value.int y1, Value.int y2, um, Value.ref q80, Value.ref q81, Value.ref q82, Value.int 0, Value.ref q83, Value.int 0, Value.int 0, Value.int 0])) : Nat × va_E) := f_46_ws4
          replace hlen : ws4.length = 117 := by rw [e_ws4.1, hlen]
          replace hU : gx_g ws ws4 0 [0, 1, 2, 3, 4, 5, 6, 7, 8, 9, 10, 11, 12, 13, 14, 15, 16, 17, 18, 19, 20, 21, 22, 23, 24, 25, 26, 27, 28, 29, 30, 31, 32, 33, 34, 35, 36, 37, 38, 39, 40, 41, 42, 43, 44, 45, 46, 47, 48, 49, 50, 51, 52, 53, 54, 55, 56, 57, 58, 59, 60, 61, 62, 63, 64, 65, 66, 67, 68, 69, 70, 71, 72, 73, 74, 75, 76, 77, 78, 79, 80, 81, 82, 83, 84, 85, 86, 87, 88, 89, 90, 91, 92, 93, 94, 95, 96, 97, 98, 99, 100, 101, 102, 103, 104, 105, 106, 107, 108, 109, 110, 111, 112, 113, 114, 115, 116] := hU.call e_ws4 (by rw [hlen0]; decide)
          refine W.eq (g2 := F0 m 230 ls []) rfl ?_
          generalize t3.heap = H at hP hS ⊢
          generalize locs ++ L3 = locs at hS ⊢
          refine lv_aload_n hx hb d_Lw_law_230 rfl (lv_at hl 3 rfl) ?_
          refine gx_call (ig := .invokevirtual 98) (c_Mo_thrown l htr D tys z _ ws4 q46 46 (Value.int 0) 0 (Value.ref q47) (Value.ref q48) (Value.ref q49) (Value.int 0) (Value.ref q50) (Value.ref q51) (Value.ref q52) (Value.ref q53) (Value.int 0) (Value.int 0) (Value.int 0) (Value.int (-1)) (Value.int 0) (Value.ref q54) (Value.ref q62) (Value.ref q70) (Value.int 0) (Value.int 0) (Value.int 0) (Value.ref q78) (Value.ref q79) (Value.int 0) (Value.int y1) (Value.int y2) (um) (Value.ref q80) (Value.ref q81) (Value.ref q82) (Value.int 0) (Value.ref q83) (Value.int 0) (Value.int 0) (Value.int 0) f_46_ws4) (gx_invV (As := []) (rest := []) hx hb hown hts km_Lw_98 kI_Mo_thrown kV_Mo_thrown kc_Mo_thrown (by decide) (show (parseMethodDescriptor y_Mo_thrown.desc).map (fun d => d.parameters.length) = some 0 by decide +kernel) (gx_recv (ci := 8) hK hP rfl f_46_ws4) rfl rfl d_Lw_law_231) (gx_cw (z := 0) hts kc_Mo_thrown kN_Mo rfl rfl ⟨Nat.le_of_ble_eq_true rfl, Nat.le_of_ble_eq_true rfl⟩) hb hml gx_blind (gx_pre hz hP hK hD hY hS hAz [Value.ref q46]) rfl hl.1 (lv_room (Nat.le_of_ble_eq_true rfl)) d_Lw_law_231 ⟨Nat.le_of_ble_eq_true rfl, Nat.le_of_ble_eq_true rfl⟩ (fun v8 st8 t8 L8 h0_8 hW_8 hQ_8 hL_8 => ?_) (fun v8 st8 t8 L8 h0_8 hW_8 hQ_8 hL_8 => ?_)
          · obtain ⟨ws9, hp, hP9, -, hD9, hS9⟩ := gx_back h0_8 hW_8 hQ_8 hL_8 hD hS hA
            clear hQ_8 h0_8 hL_8 hW_8 hP hD hS
            have hP := hP9
            have hD := hD9
            have hS := hS9
            clear hP9 hD9 hS9
            rcases hp with ⟨hv9, e_ws9⟩
            cases hv9
            rw [e_ws9] at hP hD
            refine W.eq (g2 := F0 m 234 ls [Value.int 0]) rfl ?_
            generalize t8.heap = H at hP hS ⊢
            generalize locs ++ L8 = locs at hS ⊢
            refine lv_iload hx hb d_Lw_law_234 (lv_at hl 0 rfl) ?_
            refine lv_icmp_eq (tgt := 241) hx hb d_Lw_law_236 (by decide) (fun _ => ?_) (fun c9 => absurd (by decide) c9)
            refine lv_goto (tgt := 1272) hx hb d_Lw_law_241 (by decide) ?_
            refine W.widen (k := 400) (n := 700000) (by decide) (by decide) ?_
            exact k _ _ ls (by rw [hAe]; exact hS) (lv_sub hl [1, 5] rfl)
          · obtain ⟨E9, ws10, ce, hp, hce, hP9, -, hD9, hS9⟩ := gx_backT h0_8 hW_8 hQ_8 hL_8 hD hS hA
            clear hQ_8 h0_8 hL_8 hW_8 hP hD hS
            have hP := hP9
            have hD := hD9
            have hS := hS9
            clear hP9 hD9 hS9
            rcases hp with ⟨hv9, e_ws10⟩
            cases hv9
        · cases hv9
          have f_46_ws4 : ws4[46]? = some ((q46, Sum.inr (8, [Value.int 0, Value.int 1, Value.ref q47, Value.ref q48, Value.ref q49, Value.int 0, Value.ref q50, Value.ref q51, Value.ref q52, Value.ref q53, Value.int 0, Value.int 0, Value.int 0, Value.int (-1), Value.int 0, Value.ref q54, Value.ref q62, Value.ref q70, Value.int 0, Value.int 0, Value.int 0, Value.ref q78, Value.ref q79, Value.int 0, Value.int 16, Value.int 4, um, Value.ref q80, Value.ref q81, Value.ref q82, Value.int 0, Value.ref q83, Value.int 0, Value.int 0, Value.int 0])) : Nat × va_E) := f_46_ws4
          replace hlen : ws4.length = 117 := by rw [e_ws4.1, hlen]
          replace hU : gx_g ws ws4 0 [0, 1, 2, 3, 4, 5, 6, 7, 8, 9, 10, 11, 12, 13, 14, 15, 16, 17, 18, 19, 20, 21, 22, 23, 24, 25, 26, 27, 28, 29, 30, 31, 32, 33, 34, 35, 36, 37, 38, 39, 40, 41, 42, 43, 44, 45, 46, 47, 48, 49, 50, 51, 52, 53, 54, 55, 56, 57, 58, 59, 60, 61, 62, 63, 64, 65, 66, 67, 68, 69, 70, 71, 72, 73, 74, 75, 76, 77, 78, 79, 80, 81, 82, 83, 84, 85, 86, 87, 88, 89, 90, 91, 92, 93, 94, 95, 96, 97, 98, 99, 100, 101, 102, 103, 104, 105, 106, 107, 108, 109, 110, 111, 112, 113, 114, 115, 116] := hU.call e_ws4 (by rw [hlen0]; decide)
          exact absurd g1_3 g3_3
      · obtain ⟨E9, ws11, ce, hp, hce, hP9, -, hD9, hS9⟩ := gx_backT h0_3 hW_3 hQ_3 hL_3 hD hS hA
        clear hQ_3 h0_3 hL_3 hW_3 hP hD hS
        have hP := hP9
        have hD := hD9
        have hS := hS9
        clear hP9 hD9 hS9
        rcases hp with ⟨hv9, e_ws11, f_46_ws11, g3_0⟩ | ⟨hv9, e_ws11, f_46_ws11, g3_0, g3_1⟩ | ⟨hv9, e_ws11, f_46_ws11, g3_0, g3_1, g3_2⟩ | ⟨hv9, e_ws11, f_46_ws11, g3_0, g3_1, g3_2, g3_3⟩ | ⟨hv9, e_ws11, f_46_ws11, g3_0, g3_1, g3_2, g3_3⟩
        · cases hv9
        · cases hv9
        · cases hv9
        · cases hv9
        · cases hv9
    · cases hv9
      have f_0_ws2 : ws2[0]? = some ((q0, Sum.inr (0, [Value.ref q1, Value.ref q5, Value.ref q8, Value.ref q20, Value.ref q25, Value.ref q12, Value.ref q16, Value.int 0, Value.int 0, Value.int 0, Value.int 16, Value.int 4, Value.int 0, Value.int 0, Value.int 0, Value.int 0, Value.int 0, Value.int (-1)])) : Nat × va_E) := f_0_ws2
      replace hlen : ws2.length = 117 := by rw [e_ws2.1, hlen]
      replace hU : gx_g ws ws2 0 [0, 1, 2, 3, 4, 5, 6, 7, 8, 9, 10, 11, 12, 13, 14, 15, 16, 17, 18, 19, 20, 21, 22, 23, 24, 25, 26, 27, 28, 29, 30, 31, 32, 33, 34, 35, 36, 37, 38, 39, 40, 41, 42, 43, 44, 45, 46, 47, 48, 49, 50, 51, 52, 53, 54, 55, 56, 57, 58, 59, 60, 61, 62, 63, 64, 65, 66, 67, 68, 69, 70, 71, 72, 73, 74, 75, 76, 77, 78, 79, 80, 81, 82, 83, 84, 85, 86, 87, 88, 89, 90, 91, 92, 93, 94, 95, 96, 97, 98, 99, 100, 101, 102, 103, 104, 105, 106, 107, 108, 109, 110, 111, 112, 113, 114, 115, 116] := hU.call e_ws2 (by rw [hlen0]; decide)
      refine W.eq (g2 := F0 m 212 ls [Value.int 1]) rfl ?_
      refine W.widen (k := 124) (n := 677766) (by decide) (by decide) ?_
      generalize t1.heap = H at hP hS ⊢
      generalize locs ++ L1 = locs at hS ⊢
      refine lv_istore (lv' := [(5, Value.int 1), (4, Value.int 0), (3, Value.ref q116), (2, Value.ref q46), (1, Value.ref q0), (0, Value.ref b)]) hx hb d_Lw_law_212 hl (by decide) rfl (fun ls hl => ?_)
      refine lv_aload_n hx hb d_Lw_law_214 rfl (lv_at hl 3 rfl) ?_
      refine lv_aload_n hx hb d_Lw_law_215 rfl (lv_at hl 5 rfl) ?_
      refine lv_iload hx hb d_Lw_law_216 (lv_at hl 1 rfl) ?_
      refine lv_iconst (v := 1) hx hb d_Lw_law_218 (by decide) ?_
      refine lv_iadd hx hb d_Lw_law_219 ?_
      refine gx_topi (y := 1) (by decide) ?_
      refine va_sld hx hb hX hbl hbA hS (i := 1) (gx_inl (by decide)) d_Lw_law_220 ?_
      refine gx_topi (y := y1) (by rw [hy1]; rfl) ?_
      refine lv_aload_n hx hb d_Lw_law_221 rfl (lv_at hl 5 rfl) ?_
      refine lv_iload hx hb d_Lw_law_222 (lv_at hl 1 rfl) ?_
      refine lv_iconst (v := 2) hx hb d_Lw_law_224 (by decide) ?_
      refine lv_iadd hx hb d_Lw_law_225 ?_
      refine gx_topi (y := 2) (by decide) ?_
      refine va_sld hx hb hX hbl hbA hS (i := 2) (gx_inl (by decide)) d_Lw_law_226 ?_
      refine gx_topi (y := y2) (by rw [hy2]; rfl) ?_
      have f_46_ws2 : ws2[46]? = some ((q46, Sum.inr (8, [Value.int 0, Value.int 0, Value.ref q47, Value.ref q48, Value.ref q49, Value.int 0, Value.ref q50, Value.ref q51, Value.ref q52, Value.ref q53, Value.int 0, Value.int 0, Value.int 0, Value.int (-1), Value.int 0, Value.ref q54, Value.ref q62, Value.ref q70, Value.int 0, Value.int 0, Value.int 0, Value.ref q78, Value.ref q79, Value.int 0, Value.int 16, Value.int 4, um, Value.ref q80, Value.ref q81, Value.ref q82, Value.int 0, Value.ref q83, Value.int 0, Value.int 0, Value.int 0])) : Nat × va_E) := e_ws2.at (by first | decide | (simp; done) | (simp; omega)) f_46
      clear f_46
      refine gx_call (ig := .invokevirtual 104) (c_Mo_limits_v1 l htr D tys z _ ws2 q46 y1 y2 q47 q48 q49 q50 q51 q52 q53 q54 q62 q70 q78 q79 (um) q80 q81 q82 q83 f_46_ws2) (gx_invV (As := [Value.int y1, Value.int y2]) (rest := []) hx hb hown hts km_Lw_104 kI_Mo_limits kV_Mo_limits kc_Mo_limits (by decide) (show (parseMethodDescriptor y_Mo_limits.desc).map (fun d => d.parameters.length) = some 2 by decide +kernel) (gx_recv (ci := 8) hK hP rfl f_46_ws2) rfl rfl d_Lw_law_227) (gx_cw (z := 0) hts kc_Mo_limits kN_Mo rfl rfl ⟨Nat.le_of_ble_eq_true rfl, Nat.le_of_ble_eq_true rfl⟩) hb hml gx_blind (gx_pre hz hP hK hD hY hS hAz [Value.ref q46, Value.int y1, Value.int y2]) rfl hl.1 (lv_room (Nat.le_of_ble_eq_true rfl)) d_Lw_law_227 ⟨Nat.le_of_ble_eq_true rfl, Nat.le_of_ble_eq_true rfl⟩ (fun v12 st12 t12 L12 h0_12 hW_12 hQ_12 hL_12 => ?_) (fun v12 st12 t12 L12 h0_12 hW_12 hQ_12 hL_12 => ?_)
      · obtain ⟨ws13, hp, hP9, -, hD9, hS9⟩ := gx_back h0_12 hW_12 hQ_12 hL_12 hD hS hA
        clear hQ_12 h0_12 hL_12 hW_12 hP hD hS
        have hP := hP9
        have hD := hD9
        have hS := hS9
        clear hP9 hD9 hS9
        rcases hp with ⟨hv9, e_ws13, f_46_ws13, g12_0⟩ | ⟨hv9, e_ws13, f_46_ws13, g12_0, g12_1⟩ | ⟨hv9, e_ws13, f_46_ws13, g12_0, g12_1, g12_2⟩ | ⟨hv9, e_ws13, f_46_ws13, g12_0, g12_1, g12_2, g12_3⟩ | ⟨hv9, e_ws13, f_46_ws13, g12_0, g12_1, g12_2, g12_3⟩
        · cases hv9
          have f_46_ws13 : ws13[46]? = some ((q46, Sum.inr (8, [Value.int 0, Value.int 1, Value.ref q47, Value.ref q48, Value.ref q49, Value.int 0, Value.ref q50, Value.ref q51, Value.ref q52, Value.ref q53, Value.int 0, Value.int 0, Value.int 0, Value.int (-1), Value.int 0, Value.ref q54, Value.ref q62, Value.ref q70, Value.int 0, Value.int 0, Value.int 0, Value.ref q78, Value.ref q79, Value.int 0, Value.int 16, Value.int 4, um, Value.ref q80, Value.ref q81, Value.ref q82, Value.int 0, Value.ref q83, Value.int 0, Value.int 0, Value.int 0])) : Nat × va_E) := f_46_ws13
          replace hlen : ws13.length = 117 := by rw [e_ws13.1, hlen]
          replace hU : gx_g ws ws13 0 [0, 1, 2, 3, 4, 5, 6, 7, 8, 9, 10, 11, 12, 13, 14, 15, 16, 17, 18, 19, 20, 21, 22, 23, 24, 25, 26, 27, 28, 29, 30, 31, 32, 33, 34, 35, 36, 37, 38, 39, 40, 41, 42, 43, 44, 45, 46, 47, 48, 49, 50, 51, 52, 53, 54, 55, 56, 57, 58, 59, 60, 61, 62, 63, 64, 65, 66, 67, 68, 69, 70, 71, 72, 73, 74, 75, 76, 77, 78, 79, 80, 81, 82, 83, 84, 85, 86, 87, 88, 89, 90, 91, 92, 93, 94, 95, 96, 97, 98, 99, 100, 101, 102, 103, 104, 105, 106, 107, 108, 109, 110, 111, 112, 113, 114, 115, 116] := hU.call e_ws13 (by rw [hlen0]; decide)
          refine W.eq (g2 := F0 m 230 ls []) rfl ?_
          generalize t12.heap = H at hP hS ⊢
          generalize locs ++ L12 = locs at hS ⊢
          refine lv_aload_n hx hb d_Lw_law_230 rfl (lv_at hl 3 rfl) ?_
          refine gx_call (ig := .invokevirtual 98) (c_Mo_thrown l htr D tys z _ ws13 q46 46 (Value.int 0) 1 (Value.ref q47) (Value.ref q48) (Value.ref q49) (Value.int 0) (Value.ref q50) (Value.ref q51) (Value.ref q52) (Value.ref q53) (Value.int 0) (Value.int 0) (Value.int 0) (Value.int (-1)) (Value.int 0) (Value.ref q54) (Value.ref q62) (Value.ref q70) (Value.int 0) (Value.int 0) (Value.int 0) (Value.ref q78) (Value.ref q79) (Value.int 0) (Value.int 16) (Value.int 4) (um) (Value.ref q80) (Value.ref q81) (Value.ref q82) (Value.int 0) (Value.ref q83) (Value.int 0) (Value.int 0) (Value.int 0) f_46_ws13) (gx_invV (As := []) (rest := []) hx hb hown hts km_Lw_98 kI_Mo_thrown kV_Mo_thrown kc_Mo_thrown (by decide) (show (parseMethodDescriptor y_Mo_thrown.desc).map (fun d => d.parameters.length) = some 0 by decide +kernel) (gx_recv (ci := 8) hK hP rfl f_46_ws13) rfl rfl d_Lw_law_231) (gx_cw (z := 0) hts kc_Mo_thrown kN_Mo rfl rfl ⟨Nat.le_of_ble_eq_true rfl, Nat.le_of_ble_eq_true rfl⟩) hb hml gx_blind (gx_pre hz hP hK hD hY hS hAz [Value.ref q46]) rfl hl.1 (lv_room (Nat.le_of_ble_eq_true rfl)) d_Lw_law_231 ⟨Nat.le_of_ble_eq_true rfl, Nat.le_of_ble_eq_true rfl⟩ (fun v14 st14 t14 L14 h0_14 hW_14 hQ_14 hL_14 => ?_) (fun v14 st14 t14 L14 h0_14 hW_14 hQ_14 hL_14 => ?_)
          · obtain ⟨ws15, hp, hP9, -, hD9, hS9⟩ := gx_back h0_14 hW_14 hQ_14 hL_14 hD hS hA
            clear hQ_14 h0_14 hL_14 hW_14 hP hD hS
            have hP := hP9
            have hD := hD9
            have hS := hS9
            clear hP9 hD9 hS9
            rcases hp with ⟨hv9, e_ws15⟩
            cases hv9
            rw [e_ws15] at hP hD
            refine W.eq (g2 := F0 m 234 ls [Value.int 1]) rfl ?_
            generalize t14.heap = H at hP hS ⊢
            generalize locs ++ L14 = locs at hS ⊢
            refine lv_iload hx hb d_Lw_law_234 (lv_at hl 0 rfl) ?_
            refine lv_icmp_eq (tgt := 241) hx hb d_Lw_law_236 (by decide) (fun _ => ?_) (fun c9 => absurd (by decide) c9)
            refine lv_goto (tgt := 1272) hx hb d_Lw_law_241 (by decide) ?_
            refine W.widen (k := 400) (n := 700000) (by decide) (by decide) ?_
            exact k _ _ ls (by rw [hAe]; exact hS) (lv_sub hl [1, 5] rfl)
          · obtain ⟨E9, ws16, ce, hp, hce, hP9, -, hD9, hS9⟩ := gx_backT h0_14 hW_14 hQ_14 hL_14 hD hS hA
            clear hQ_14 h0_14 hL_14 hW_14 hP hD hS
            have hP := hP9
            have hD := hD9
            have hS := hS9
            clear hP9 hD9 hS9
            rcases hp with ⟨hv9, e_ws16⟩
            cases hv9
        · cases hv9
          have f_46_ws13 : ws13[46]? = some ((q46, Sum.inr (8, [Value.int 0, Value.int 1, Value.ref q47, Value.ref q48, Value.ref q49, Value.int 0, Value.ref q50, Value.ref q51, Value.ref q52, Value.ref q53, Value.int 0, Value.int 0, Value.int 0, Value.int (-1), Value.int 0, Value.ref q54, Value.ref q62, Value.ref q70, Value.int 0, Value.int 0, Value.int 0, Value.ref q78, Value.ref q79, Value.int 0, Value.int 16, Value.int 4, um, Value.ref q80, Value.ref q81, Value.ref q82, Value.int 0, Value.ref q83, Value.int 0, Value.int 0, Value.int 0])) : Nat × va_E) := f_46_ws13
          replace hlen : ws13.length = 117 := by rw [e_ws13.1, hlen]
          replace hU : gx_g ws ws13 0 [0, 1, 2, 3, 4, 5, 6, 7, 8, 9, 10, 11, 12, 13, 14, 15, 16, 17, 18, 19, 20, 21, 22, 23, 24, 25, 26, 27, 28, 29, 30, 31, 32, 33, 34, 35, 36, 37, 38, 39, 40, 41, 42, 43, 44, 45, 46, 47, 48, 49, 50, 51, 52, 53, 54, 55, 56, 57, 58, 59, 60, 61, 62, 63, 64, 65, 66, 67, 68, 69, 70, 71, 72, 73, 74, 75, 76, 77, 78, 79, 80, 81, 82, 83, 84, 85, 86, 87, 88, 89, 90, 91, 92, 93, 94, 95, 96, 97, 98, 99, 100, 101, 102, 103, 104, 105, 106, 107, 108, 109, 110, 111, 112, 113, 114, 115, 116] := hU.call e_ws13 (by rw [hlen0]; decide)
          exact absurd g1_0 g12_0
        · cases hv9
          have f_46_ws13 : ws13[46]? = some ((q46, Sum.inr (8, [Value.int 0, Value.int 1, Value.ref q47, Value.ref q48, Value.ref q49, Value.int 0, Value.ref q50, Value.ref q51, Value.ref q52, Value.ref q53, Value.int 0, Value.int 0, Value.int 0, Value.int (-1), Value.int 0, Value.ref q54, Value.ref q62, Value.ref q70, Value.int 0, Value.int 0, Value.int 0, Value.ref q78, Value.ref q79, Value.int 0, Value.int 16, Value.int 4, um, Value.ref q80, Value.ref q81, Value.ref q82, Value.int 0, Value.ref q83, Value.int 0, Value.int 0, Value.int 0])) : Nat × va_E) := f_46_ws13
          replace hlen : ws13.length = 117 := by rw [e_ws13.1, hlen]
          replace hU : gx_g ws ws13 0 [0, 1, 2, 3, 4, 5, 6, 7, 8, 9, 10, 11, 12, 13, 14, 15, 16, 17, 18, 19, 20, 21, 22, 23, 24, 25, 26, 27, 28, 29, 30, 31, 32, 33, 34, 35, 36, 37, 38, 39, 40, 41, 42, 43, 44, 45, 46, 47, 48, 49, 50, 51, 52, 53, 54, 55, 56, 57, 58, 59, 60, 61, 62, 63, 64, 65, 66, 67, 68, 69, 70, 71, 72, 73, 74, 75, 76, 77, 78, 79, 80, 81, 82, 83, 84, 85, 86, 87, 88, 89, 90, 91, 92, 93, 94, 95, 96, 97, 98, 99, 100, 101, 102, 103, 104, 105, 106, 107, 108, 109, 110, 111, 112, 113, 114, 115, 116] := hU.call e_ws13 (by rw [hlen0]; decide)
          exact absurd g1_0 g12_0
        · cases hv9
          have f_46_ws13 : ws13[46]? = some ((q46, Sum.inr (8, [Value.int 0, Value.int 0, Value.ref q47, Value.ref q48, Value.ref q49, Value.int 0, Value.ref q50, Value.ref q51, Value.ref q52, Value.ref q53, Value.int 0, Value.int 0, Value.int 0, Value.int (-1), Value.int 0, Value.ref q54, Value.ref q62, Value.ref q70, Value.int 0, Value.int 0, Value.int 0, Value.ref q78, Value.ref q79, Value.int 0, Value.int y1, Value.int y2, um, Value.ref q80, Value.ref q81, Value.ref q82, Value.int 0, Value.ref q83, Value.int 0, Value.int 0, Value.int 0])) : Nat × va_E) := f_46_ws13
          replace hlen : ws13.length = 117 := by rw [e_ws13.1, hlen]
          replace hU : gx_g ws ws13 0 [0, 1, 2, 3, 4, 5, 6, 7, 8, 9, 10, 11, 12, 13, 14, 15, 16, 17, 18, 19, 20, 21, 22, 23, 24, 25, 26, 27, 28, 29, 30, 31, 32, 33, 34, 35, 36, 37, 38, 39, 40, 41, 42, 43, 44, 45, 46, 47, 48, 49, 50, 51, 52, 53, 54, 55, 56, 57, 58, 59, 60, 61, 62, 63, 64, 65, 66, 67, 68, 69, 70, 71, 72, 73, 74, 75, 76, 77, 78, 79, 80, 81, 82, 83, 84, 85, 86, 87, 88, 89, 90, 91, 92, 93, 94, 95, 96, 97, 98, 99, 100, 101, 102, 103, 104, 105, 106, 107, 108, 109, 110, 111, 112, 113, 114, 115, 116] := hU.call e_ws13 (by rw [hlen0]; decide)
          exact absurd g1_0 g12_0
        · cases hv9
          have f_46_ws13 : ws13[46]? = some ((q46, Sum.inr (8, [Value.int 0, Value.int 1, Value.ref q47, Value.ref q48, Value.ref q49, Value.int 0, Value.ref q50, Value.ref q51, Value.ref q52, Value.ref q53, Value.int 0, Value.int 0, Value.int 0, Value.int (-1), Value.int 0, Value.ref q54, Value.ref q62, Value.ref q70, Value.int 0, Value.int 0, Value.int 0, Value.ref q78, Value.ref q79, Value.int 0, Value.int 16, Value.int 4, um, Value.ref q80, Value.ref q81, Value.ref q82, Value.int 0, Value.ref q83, Value.int 0, Value.int 0, Value.int 0])) : Nat × va_E) := f_46_ws13
          replace hlen : ws13.length = 117 := by rw [e_ws13.1, hlen]
          replace hU : gx_g ws ws13 0 [0, 1, 2, 3, 4, 5, 6, 7, 8, 9, 10, 11, 12, 13, 14, 15, 16, 17, 18, 19, 20, 21, 22, 23, 24, 25, 26, 27, 28, 29, 30, 31, 32, 33, 34, 35, 36, 37, 38, 39, 40, 41, 42, 43, 44, 45, 46, 47, 48, 49, 50, 51, 52, 53, 54, 55, 56, 57, 58, 59, 60, 61, 62, 63, 64, 65, 66, 67, 68, 69, 70, 71, 72, 73, 74, 75, 76, 77, 78, 79, 80, 81, 82, 83, 84, 85, 86, 87, 88, 89, 90, 91, 92, 93, 94, 95, 96, 97, 98, 99, 100, 101, 102, 103, 104, 105, 106, 107, 108, 109, 110, 111, 112, 113, 114, 115, 116] := hU.call e_ws13 (by rw [hlen0]; decide)
          exact absurd g1_0 g12_0
      · obtain ⟨E9, ws17, ce, hp, hce, hP9, -, hD9, hS9⟩ := gx_backT h0_12 hW_12 hQ_12 hL_12 hD hS hA
        clear hQ_12 h0_12 hL_12 hW_12 hP hD hS
        have hP := hP9
        have hD := hD9
        have hS := hS9
        clear hP9 hD9 hS9
        rcases hp with ⟨hv9, e_ws17, f_46_ws17, g12_0⟩ | ⟨hv9, e_ws17, f_46_ws17, g12_0, g12_1⟩ | ⟨hv9, e_ws17, f_46_ws17, g12_0, g12_1, g12_2⟩ | ⟨hv9, e_ws17, f_46_ws17, g12_0, g12_1, g12_2, g12_3⟩ | ⟨hv9, e_ws17, f_46_ws17, g12_0, g12_1, g12_2, g12_3⟩
        · cases hv9
        · cases hv9
        · cases hv9
        · cases hv9
        · cases hv9
    · cases hv9
      have f_0_ws2 : ws2[0]? = some ((q0, Sum.inr (0, [Value.ref q1, Value.ref q5, Value.ref q8, Value.ref q20, Value.ref q25, Value.ref q12, Value.ref q16, Value.int 0, Value.int 0, Value.int 0, Value.int 16, Value.int 4, Value.int 0, Value.int 0, Value.int 0, Value.int 0, Value.int 0, Value.int (-1)])) : Nat × va_E) := f_0_ws2
      replace hlen : ws2.length = 117 := by rw [e_ws2.1, hlen]
      replace hU : gx_g ws ws2 0 [0, 1, 2, 3, 4, 5, 6, 7, 8, 9, 10, 11, 12, 13, 14, 15, 16, 17, 18, 19, 20, 21, 22, 23, 24, 25, 26, 27, 28, 29, 30, 31, 32, 33, 34, 35, 36, 37, 38, 39, 40, 41, 42, 43, 44, 45, 46, 47, 48, 49, 50, 51, 52, 53, 54, 55, 56, 57, 58, 59, 60, 61, 62, 63, 64, 65, 66, 67, 68, 69, 70, 71, 72, 73, 74, 75, 76, 77, 78, 79, 80, 81, 82, 83, 84, 85, 86, 87, 88, 89, 90, 91, 92, 93, 94, 95, 96, 97, 98, 99, 100, 101, 102, 103, 104, 105, 106, 107, 108, 109, 110, 111, 112, 113, 114, 115, 116] := hU.call e_ws2 (by rw [hlen0]; decide)
      refine W.eq (g2 := F0 m 212 ls [Value.int 1]) rfl ?_
      refine W.widen (k := 124) (n := 677766) (by decide) (by decide) ?_
      generalize t1.heap = H at hP hS ⊢
      generalize locs ++ L1 = locs at hS ⊢
      refine lv_istore (lv' := [(5, Value.int 1), (4, Value.int 0), (3, Value.ref q116), (2, Value.ref q46), (1, Value.ref q0), (0, Value.ref b)]) hx hb d_Lw_law_212 hl (by decide) rfl (fun ls hl => ?_)
      refine lv_aload_n hx hb d_Lw_law_214 rfl (lv_at hl 3 rfl) ?_
      refine lv_aload_n hx hb d_Lw_law_215 rfl (lv_at hl 5 rfl) ?_
      refine lv_iload hx hb d_Lw_law_216 (lv_at hl 1 rfl) ?_
      refine lv_iconst (v := 1) hx hb d_Lw_law_218 (by decide) ?_
      refine lv_iadd hx hb d_Lw_law_219 ?_
      refine gx_topi (y := 1) (by decide) ?_
      refine va_sld hx hb hX hbl hbA hS (i := 1) (gx_inl (by decide)) d_Lw_law_220 ?_
      refine gx_topi (y := y1) (by rw [hy1]; rfl) ?_
      refine lv_aload_n hx hb d_Lw_law_221 rfl (lv_at hl 5 rfl) ?_
      refine lv_iload hx hb d_Lw_law_222 (lv_at hl 1 rfl) ?_
      refine lv_iconst (v := 2) hx hb d_Lw_law_224 (by decide) ?_
      refine lv_iadd hx hb d_Lw_law_225 ?_
      refine gx_topi (y := 2) (by decide) ?_
      refine va_sld hx hb hX hbl hbA hS (i := 2) (gx_inl (by decide)) d_Lw_law_226 ?_
      refine gx_topi (y := y2) (by rw [hy2]; rfl) ?_
      have f_46_ws2 : ws2[46]? = some ((q46, Sum.inr (8, [Value.int 0, Value.int 0, Value.ref q47, Value.ref q48, Value.ref q49, Value.int 0, Value.ref q50, Value.ref q51, Value.ref q52, Value.ref q53, Value.int 0, Value.int 0, Value.int 0, Value.int (-1), Value.int 0, Value.ref q54, Value.ref q62, Value.ref q70, Value.int 0, Value.int 0, Value.int 0, Value.ref q78, Value.ref q79, Value.int 0, Value.int 16, Value.int 4, um, Value.ref q80, Value.ref q81, Value.ref q82, Value.int 0, Value.ref q83, Value.int 0, Value.int 0, Value.int 0])) : Nat × va_E) := e_ws2.at (by first | decide | (simp; done) | (simp; omega)) f_46
      clear f_46
      refine gx_call (ig := .invokevirtual 104) (c_Mo_limits_v1 l htr D tys z _ ws2 q46 y1 y2 q47 q48 q49 q50 q51 q52 q53 q54 q62 q70 q78 q79 (um) q80 q81 q82 q83 f_46_ws2) (gx_invV (As := [Value.int y1, Value.int y2]) (rest := []) hx hb hown hts km_Lw_104 kI_Mo_limits kV_Mo_limits kc_Mo_limits (by decide) (show (parseMethodDescriptor y_Mo_limits.desc).map (fun d => d.parameters.length) = some 2 by decide +kernel) (gx_recv (ci := 8) hK hP rfl f_46_ws2) rfl rfl d_Lw_law_227) (gx_cw (z := 0) hts kc_Mo_limits kN_Mo rfl rfl ⟨Nat.le_of_ble_eq_true rfl, Nat.le_of_ble_eq_true rfl⟩) hb hml gx_blind (gx_pre hz hP hK hD hY hS hAz [Value.ref q46, Value.int y1, Value.int y2]) rfl hl.1 (lv_room (Nat.le_of_ble_eq_true rfl)) d_Lw_law_227 ⟨Nat.le_of_ble_eq_true rfl, Nat.le_of_ble_eq_true rfl⟩ (fun v18 st18 t18 L18 h0_18 hW_18 hQ_18 hL_18 => ?_) (fun v18 st18 t18 L18 h0_18 hW_18 hQ_18 hL_18 => ?_)
      · obtain ⟨ws19, hp, hP9, -, hD9, hS9⟩ := gx_back h0_18 hW_18 hQ_18 hL_18 hD hS hA
        clear hQ_18 h0_18 hL_18 hW_18 hP hD hS
        have hP := hP9
        have hD := hD9
        have hS := hS9
        clear hP9 hD9 hS9
        rcases hp with ⟨hv9, e_ws19, f_46_ws19, g18_0⟩ | ⟨hv9, e_ws19, f_46_ws19, g18_0, g18_1⟩ | ⟨hv9, e_ws19, f_46_ws19, g18_0, g18_1, g18_2⟩ | ⟨hv9, e_ws19, f_46_ws19, g18_0, g18_1, g18_2, g18_3⟩ | ⟨hv9, e_ws19, f_46_ws19, g18_0, g18_1, g18_2, g18_3⟩
        · cases hv9
          have f_46_ws19 : ws19[46]? = some ((q46, Sum.inr (8, [Value.int 0, Value.int 1, Value.ref q47, Value.ref q48, Value.ref q49, Value.int 0, Value.ref q50, Value.ref q51, Value.ref q52, Value.ref q53, Value.int 0, Value.int 0, Value.int 0, Value.int (-1), Value.int 0, Value.ref q54, Value.ref q62, Value.ref q70, Value.int 0, Value.int 0, Value.int 0, Value.ref q78, Value.ref q79, Value.int 0, Value.int 16, Value.int 4, um, Value.ref q80, Value.ref q81, Value.ref q82, Value.int 0, Value.ref q83, Value.int 0, Value.int 0, Value.int 0])) : Nat × va_E) := f_46_ws19
          replace hlen : ws19.length = 117 := by rw [e_ws19.1, hlen]
          replace hU : gx_g ws ws19 0 [0, 1, 2, 3, 4, 5, 6, 7, 8, 9, 10, 11, 12, 13, 14, 15, 16, 17, 18, 19, 20, 21, 22, 23, 24, 25, 26, 27, 28, 29, 30, 31, 32, 33, 34, 35, 36, 37, 38, 39, 40, 41, 42, 43, 44, 45, 46, 47, 48, 49, 50, 51, 52, 53, 54, 55, 56, 57, 58, 59, 60, 61, 62, 63, 64, 65, 66, 67, 68, 69, 70, 71, 72, 73, 74, 75, 76, 77, 78, 79, 80, 81, 82, 83, 84, 85, 86, 87, 88, 89, 90, 91, 92, 93, 94, 95, 96, 97, 98, 99, 100, 101, 102, 103, 104, 105, 106, 107, 108, 109, 110, 111, 112, 113, 114, 115, 116] := hU.call e_ws19 (by rw [hlen0]; decide)
          exact absurd g18_0 g1_0
        · cases hv9
          have f_46_ws19 : ws19[46]? = some ((q46, Sum.inr (8, [Value.int 0, Value.int 1, Value.ref q47, Value.ref q48, Value.ref q49, Value.int 0, Value.ref q50, Value.ref q51, Value.ref q52, Value.ref q53, Value.int 0, Value.int 0, Value.int 0, Value.int (-1), Value.int 0, Value.ref q54, Value.ref q62, Value.ref q70, Value.int 0, Value.int 0, Value.int 0, Value.ref q78, Value.ref q79, Value.int 0, Value.int 16, Value.int 4, um, Value.ref q80, Value.ref q81, Value.ref q82, Value.int 0, Value.ref q83, Value.int 0, Value.int 0, Value.int 0])) : Nat × va_E) := f_46_ws19
          replace hlen : ws19.length = 117 := by rw [e_ws19.1, hlen]
          replace hU : gx_g ws ws19 0 [0, 1, 2, 3, 4, 5, 6, 7, 8, 9, 10, 11, 12, 13, 14, 15, 16, 17, 18, 19, 20, 21, 22, 23, 24, 25, 26, 27, 28, 29, 30, 31, 32, 33, 34, 35, 36, 37, 38, 39, 40, 41, 42, 43, 44, 45, 46, 47, 48, 49, 50, 51, 52, 53, 54, 55, 56, 57, 58, 59, 60, 61, 62, 63, 64, 65, 66, 67, 68, 69, 70, 71, 72, 73, 74, 75, 76, 77, 78, 79, 80, 81, 82, 83, 84, 85, 86, 87, 88, 89, 90, 91, 92, 93, 94, 95, 96, 97, 98, 99, 100, 101, 102, 103, 104, 105, 106, 107, 108, 109, 110, 111, 112, 113, 114, 115, 116] := hU.call e_ws19 (by rw [hlen0]; decide)
          refine W.eq (g2 := F0 m 230 ls []) rfl ?_
          generalize t18.heap = H at hP hS ⊢
          generalize locs ++ L18 = locs at hS ⊢
          refine lv_aload_n hx hb d_Lw_law_230 rfl (lv_at hl 3 rfl) ?_
          refine gx_call (ig := .invokevirtual 98) (c_Mo_thrown l htr D tys z _ ws19 q46 46 (Value.int 0) 1 (Value.ref q47) (Value.ref q48) (Value.ref q49) (Value.int 0) (Value.ref q50) (Value.ref q51) (Value.ref q52) (Value.ref q53) (Value.int 0) (Value.int 0) (Value.int 0) (Value.int (-1)) (Value.int 0) (Value.ref q54) (Value.ref q62) (Value.ref q70) (Value.int 0) (Value.int 0) (Value.int 0) (Value.ref q78) (Value.ref q79) (Value.int 0) (Value.int 16) (Value.int 4) (um) (Value.ref q80) (Value.ref q81) (Value.ref q82) (Value.int 0) (Value.ref q83) (Value.int 0) (Value.int 0) (Value.int 0) f_46_ws19) (gx_invV (As := []) (rest := []) hx hb hown hts km_Lw_98 kI_Mo_thrown kV_Mo_thrown kc_Mo_thrown (by decide) (show (parseMethodDescriptor y_Mo_thrown.desc).map (fun d => d.parameters.length) = some 0 by decide +kernel) (gx_recv (ci := 8) hK hP rfl f_46_ws19) rfl rfl d_Lw_law_231) (gx_cw (z := 0) hts kc_Mo_thrown kN_Mo rfl rfl ⟨Nat.le_of_ble_eq_true rfl, Nat.le_of_ble_eq_true rfl⟩) hb hml gx_blind (gx_pre hz hP hK hD hY hS hAz [Value.ref q46]) rfl hl.1 (lv_room (Nat.le_of_ble_eq_true rfl)) d_Lw_law_231 ⟨Nat.le_of_ble_eq_true rfl, Nat.le_of_ble_eq_true rfl⟩ (fun v20 st20 t20 L20 h0_20 hW_20 hQ_20 hL_20 => ?_) (fun v20 st20 t20 L20 h0_20 hW_20 hQ_20 hL_20 => ?_)
          · obtain ⟨ws21, hp, hP9, -, hD9, hS9⟩ := gx_back h0_20 hW_20 hQ_20 hL_20 hD hS hA
            clear hQ_20 h0_20 hL_20 hW_20 hP hD hS
            have hP := hP9
            have hD := hD9
            have hS := hS9
            clear hP9 hD9 hS9
            rcases hp with ⟨hv9, e_ws21⟩
            cases hv9
            rw [e_ws21] at hP hD
            refine W.eq (g2 := F0 m 234 ls [Value.int 1]) rfl ?_
            generalize t20.heap = H at hP hS ⊢
            generalize locs ++ L20 = locs at hS ⊢
            refine lv_iload hx hb d_Lw_law_234 (lv_at hl 0 rfl) ?_
            refine lv_icmp_eq (tgt := 241) hx hb d_Lw_law_236 (by decide) (fun _ => ?_) (fun c9 => absurd (by decide) c9)
            refine lv_goto (tgt := 1272) hx hb d_Lw_law_241 (by decide) ?_
            refine W.widen (k := 400) (n := 700000) (by decide) (by decide) ?_
            exact k _ _ ls (by rw [hAe]; exact hS) (lv_sub hl [1, 5] rfl)
          · obtain ⟨E9, ws22, ce, hp, hce, hP9, -, hD9, hS9⟩ := gx_backT h0_20 hW_20 hQ_20 hL_20 hD hS hA
            clear hQ_20 h0_20 hL_20 hW_20 hP hD hS
            have hP := hP9
            have hD := hD9
            have hS := hS9
            clear hP9 hD9 hS9
            rcases hp with ⟨hv9, e_ws22⟩
            cases hv9
        · cases hv9
          have f_46_ws19 : ws19[46]? = some ((q46, Sum.inr (8, [Value.int 0, Value.int 1, Value.ref q47, Value.ref q48, Value.ref q49, Value.int 0, Value.ref q50, Value.ref q51, Value.ref q52, Value.ref q53, Value.int 0, Value.int 0, Value.int 0, Value.int (-1), Value.int 0, Value.ref q54, Value.ref q62, Value.ref q70, Value.int 0, Value.int 0, Value.int 0, Value.ref q78, Value.ref q79, Value.int 0, Value.int 16, Value.int 4, um, Value.ref q80, Value.ref q81, Value.ref q82, Value.int 0, Value.ref q83, Value.int 0, Value.int 0, Value.int 0])) : Nat × va_E) := f_46_ws19
          replace hlen : ws19.length = 117 := by rw [e_ws19.1, hlen]
          replace hU : gx_g ws ws19 0 [0, 1, 2, 3, 4, 5, 6, 7, 8, 9, 10, 11, 12, 13, 14, 15, 16, 17, 18, 19, 20, 21, 22, 23, 24, 25, 26, 27, 28, 29, 30, 31, 32, 33, 34, 35, 36, 37, 38, 39, 40, 41, 42, 43, 44, 45, 46, 47, 48, 49, 50, 51, 52, 53, 54, 55, 56, 57, 58, 59, 60, 61, 62, 63, 64, 65, 66, 67, 68, 69, 70, 71, 72, 73, 74, 75, 76, 77, 78, 79, 80, 81, 82, 83, 84, 85, 86, 87, 88, 89, 90, 91, 92, 93, 94, 95, 96, 97, 98, 99, 100, 101, 102, 103, 104, 105, 106, 107, 108, 109, 110, 111, 112, 113, 114, 115, 116] := hU.call e_ws19 (by rw [hlen0]; decide)
          refine W.eq (g2 := F0 m 230 ls []) rfl ?_
          generalize t18.heap = H at hP hS ⊢
          generalize locs ++ L18 = locs at hS ⊢
          refine lv_aload_n hx hb d_Lw_law_230 rfl (lv_at hl 3 rfl) ?_
          refine gx_call (ig := .invokevirtual 98) (c_Mo_thrown l htr D tys z _ ws19 q46 46 (Value.int 0) 1 (Value.ref q47) (Value.ref q48) (Value.ref q49) (Value.int 0) (Value.ref q50) (Value.ref q51) (Value.ref q52) (Value.ref q53) (Value.int 0) (Value.int 0) (Value.int 0) (Value.int (-1)) (Value.int 0) (Value.ref q54) (Value.ref q62) (Value.ref q70) (Value.int 0) (Value.int 0) (Value.int 0) (Value.ref q78) (Value.ref q79) (Value.int 0) (Value.int 16) (Value.int 4) (um) (Value.ref q80) (Value.ref q81) (Value.ref q82) (Value.int 0) (Value.ref q83) (Value.int 0) (Value.int 0) (Value.int 0) f_46_ws19) (gx_invV (As := []) (rest := []) hx hb hown hts km_Lw_98 kI_Mo_thrown kV_Mo_thrown kc_Mo_thrown (by decide) (show (parseMethodDescriptor y_Mo_thrown.desc).map (fun d => d.parameters.length) = some 0 by decide +kernel) (gx_recv (ci := 8) hK hP rfl f_46_ws19) rfl rfl d_Lw_law_231) (gx_cw (z := 0) hts kc_Mo_thrown kN_Mo rfl rfl ⟨Nat.le_of_ble_eq_true rfl, Nat.le_of_ble_eq_true rfl⟩) hb hml gx_blind (gx_pre hz hP hK hD hY hS hAz [Value.ref q46]) rfl hl.1 (lv_room (Nat.le_of_ble_eq_true rfl)) d_Lw_law_231 ⟨Nat.le_of_ble_eq_true rfl, Nat.le_of_ble_eq_true rfl⟩ (fun v23 st23 t23 L23 h0_23 hW_23 hQ_23 hL_23 => ?_) (fun v23 st23 t23 L23 h0_23 hW_23 hQ_23 hL_23 => ?_)
          · obtain ⟨ws24, hp, hP9, -, hD9, hS9⟩ := gx_back h0_23 hW_23 hQ_23 hL_23 hD hS hA
            clear hQ_23 h0_23 hL_23 hW_23 hP hD hS
            have hP := hP9
            have hD := hD9
            have hS := hS9
            clear hP9 hD9 hS9
            rcases hp with ⟨hv9, e_ws24⟩
            cases hv9
            rw [e_ws24] at hP hD
            refine W.eq (g2 := F0 m 234 ls [Value.int 1]) rfl ?_
            generalize t23.heap = H at hP hS ⊢
            generalize locs ++ L23 = locs at hS ⊢
            refine lv_iload hx hb d_Lw_law_234 (lv_at hl 0 rfl) ?_
            refine lv_icmp_eq (tgt := 241) hx hb d_Lw_law_236 (by decide) (fun _ => ?_) (fun c9 => absurd (by decide) c9)
            refine lv_goto (tgt := 1272) hx hb d_Lw_law_241 (by decide) ?_
            refine W.widen (k := 400) (n := 700000) (by decide) (by decide) ?_
            exact k _ _ ls (by rw [hAe]; exact hS) (lv_sub hl [1, 5] rfl)
          · obtain ⟨E9, ws25, ce, hp, hce, hP9, -, hD9, hS9⟩ := gx_backT h0_23 hW_23 hQ_23 hL_23 hD hS hA
            clear hQ_23 h0_23 hL_23 hW_23 hP hD hS
            have hP := hP9
            have hD := hD9
            have hS := hS9
            clear hP9 hD9 hS9
            rcases hp with ⟨hv9, e_ws25⟩
            cases hv9
        · cases hv9
          have f_46_ws19 : ws19[46]? = some ((q46, Sum.inr (8, [Value.int 0, Value.int 0, Value.ref q47, Value.ref q48, Value.ref q49, Value.int 0, Value.ref q50, Value.ref q51, Value.ref q52, Value.ref q53, Value.int 0, Value.int 0, Value.int 0, Value.int (-1), Value.int 0, Value.ref q54, Value.ref q62, Value.ref q70, Value.int 0, Value.int 0, Value.int 0, Value.ref q78, Value.ref q79, Value.int 0, Value.int y1, Value.int y2, um, Value.ref q80, Value.ref q81, Value.ref q82, Value.int 0, Value.ref q83, Value.int 0, Value.int 0, Value.int 0])) : Nat × va_E) := f_46_ws19
          replace hlen : ws19.length = 117 := by rw [e_ws19.1, hlen]
          replace hU : gx_g ws ws19 0 [0, 1, 2, 3, 4, 5, 6, 7, 8, 9, 10, 11, 12, 13, 14, 15, 16, 17, 18, 19, 20, 21, 22, 23, 24, 25, 26, 27, 28, 29, 30, 31, 32, 33, 34, 35, 36, 37, 38, 39, 40, 41, 42, 43, 44, 45, 46, 47, 48, 49, 50, 51, 52, 53, 54, 55, 56, 57, 58, 59, 60, 61, 62, 63, 64, 65, 66, 67, 68, 69, 70, 71, 72, 73, 74, 75, 76, 77, 78, 79, 80, 81, 82, 83, 84, 85, 86, 87, 88, 89, 90, 91, 92, 93, 94, 95, 96, 97, 98, 99, 100, 101, 102, 103, 104, 105, 106, 107, 108, 109, 110, 111, 112, 113, 114, 115, 116] := hU.call e_ws19 (by rw [hlen0]; decide)
          refine W.eq (g2 := F0 m 230 ls []) rfl ?_
          generalize t18.heap = H at hP hS ⊢
          generalize locs ++ L18 = locs at hS ⊢
          refine lv_aload_n hx hb d_Lw_law_230 rfl (lv_at hl 3 rfl) ?_
          refine gx_call (ig := .invokevirtual 98) (c_Mo_thrown l htr D tys z _ ws19 q46 46 (Value.int 0) 0 (Value.ref q47) (Value.ref q48) (Value.ref q49) (Value.int 0) (Value.ref q50) (Value.ref q51) (Value.ref q52) (Value.ref q53) (Value.int 0) (Value.int 0) (Value.int 0) (Value.int (-1)) (Value.int 0) (Value.ref q54) (Value.ref q62) (Value.ref q70) (Value.int 0) (Value.int 0) (Value.int 0) (Value.ref q78) (Value.ref q79) (Value.int 0) (Value.int y1) (Value.int y2) (um) (Value.ref q80) (Value.ref q81) (Value.ref q82) (Value.int 0) (Value.ref q83) (Value.int 0) (Value.int 0) (Value.int 0) f_46_ws19) (gx_invV (As := []) (rest := []) hx hb hown hts km_Lw_98 kI_Mo_thrown kV_Mo_thrown kc_Mo_thrown (by decide) (show (parseMethodDescriptor y_Mo_thrown.desc).map (fun d => d.parameters.length) = some 0 by decide +kernel) (gx_recv (ci := 8) hK hP rfl f_46_ws19) rfl rfl d_Lw_law_231) (gx_cw (z := 0) hts kc_Mo_thrown kN_Mo rfl rfl ⟨Nat.le_of_ble_eq_true rfl, Nat.le_of_ble_eq_true rfl⟩) hb hml gx_blind (gx_pre hz hP hK hD hY hS hAz [Value.ref q46]) rfl hl.1 (lv_room (Nat.le_of_ble_eq_true rfl)) d_Lw_law_231 ⟨Nat.le_of_ble_eq_true rfl, Nat.le_of_ble_eq_true rfl⟩ (fun v26 st26 t26 L26 h0_26 hW_26 hQ_26 hL_26 => ?_) (fun v26 st26 t26 L26 h0_26 hW_26 hQ_26 hL_26 => ?_)
          · obtain ⟨ws27, hp, hP9, -, hD9, hS9⟩ := gx_back h0_26 hW_26 hQ_26 hL_26 hD hS hA
            clear hQ_26 h0_26 hL_26 hW_26 hP hD hS
            have hP := hP9
            have hD := hD9
            have hS := hS9
            clear hP9 hD9 hS9
            rcases hp with ⟨hv9, e_ws27⟩
            cases hv9
            rw [e_ws27] at hP hD
            refine W.eq (g2 := F0 m 234 ls [Value.int 0]) rfl ?_
            generalize t26.heap = H at hP hS ⊢
            generalize locs ++ L26 = locs at hS ⊢
            refine lv_iload hx hb d_Lw_law_234 (lv_at hl 0 rfl) ?_
            refine lv_icmp_eq (tgt := 241) hx hb d_Lw_law_236 (by decide) (fun c9 => absurd c9 (by decide)) (fun _ => ?_)
            refine lv_iconst (v := 0) hx hb d_Lw_law_239 (by decide) ?_
            exfalso
            have k9_0 : ¬ ((y1 : Int32).toInt < (1 : Int32).toInt) := fun h9 => g1_0 (Int32.lt_iff_toInt_lt.mpr h9)
            have k9_1 : ¬ ((y1 : Int32).toInt ≤ (10000 : Int32).toInt) := fun h9 => g1_1 (Int32.le_iff_toInt_le.mpr h9)
            have k9_3 : ¬ ((10000 : Int32).toInt < (y1 : Int32).toInt) := fun h9 => g18_1 (Int32.lt_iff_toInt_lt.mpr h9)
            have k9_4 : ¬ ((y2 : Int32).toInt < (2 : Int32).toInt) := fun h9 => g18_2 (Int32.lt_iff_toInt_lt.mpr h9)
            have k9_5 : ((y2 : Int32).toInt ≤ (64 : Int32).toInt) := Int32.le_iff_toInt_le.mp g18_3
            have : (1 : Int32).toInt = 1 := by decide
            have : (10000 : Int32).toInt = 10000 := by decide
            have : (2 : Int32).toInt = 2 := by decide
            have : (64 : Int32).toInt = 64 := by decide
            omega
          · obtain ⟨E9, ws28, ce, hp, hce, hP9, -, hD9, hS9⟩ := gx_backT h0_26 hW_26 hQ_26 hL_26 hD hS hA
            clear hQ_26 h0_26 hL_26 hW_26 hP hD hS
            have hP := hP9
            have hD := hD9
            have hS := hS9
            clear hP9 hD9 hS9
            rcases hp with ⟨hv9, e_ws28⟩
            cases hv9
        · cases hv9
          have f_46_ws19 : ws19[46]? = some ((q46, Sum.inr (8, [Value.int 0, Value.int 1, Value.ref q47, Value.ref q48, Value.ref q49, Value.int 0, Value.ref q50, Value.ref q51, Value.ref q52, Value.ref q53, Value.int 0, Value.int 0, Value.int 0, Value.int (-1), Value.int 0, Value.ref q54, Value.ref q62, Value.ref q70, Value.int 0, Value.int 0, Value.int 0, Value.ref q78, Value.ref q79, Value.int 0, Value.int 16, Value.int 4, um, Value.ref q80, Value.ref q81, Value.ref q82, Value.int 0, Value.ref q83, Value.int 0, Value.int 0, Value.int 0])) : Nat × va_E) := f_46_ws19
          replace hlen : ws19.length = 117 := by rw [e_ws19.1, hlen]
          replace hU : gx_g ws ws19 0 [0, 1, 2, 3, 4, 5, 6, 7, 8, 9, 10, 11, 12, 13, 14, 15, 16, 17, 18, 19, 20, 21, 22, 23, 24, 25, 26, 27, 28, 29, 30, 31, 32, 33, 34, 35, 36, 37, 38, 39, 40, 41, 42, 43, 44, 45, 46, 47, 48, 49, 50, 51, 52, 53, 54, 55, 56, 57, 58, 59, 60, 61, 62, 63, 64, 65, 66, 67, 68, 69, 70, 71, 72, 73, 74, 75, 76, 77, 78, 79, 80, 81, 82, 83, 84, 85, 86, 87, 88, 89, 90, 91, 92, 93, 94, 95, 96, 97, 98, 99, 100, 101, 102, 103, 104, 105, 106, 107, 108, 109, 110, 111, 112, 113, 114, 115, 116] := hU.call e_ws19 (by rw [hlen0]; decide)
          refine W.eq (g2 := F0 m 230 ls []) rfl ?_
          generalize t18.heap = H at hP hS ⊢
          generalize locs ++ L18 = locs at hS ⊢
          refine lv_aload_n hx hb d_Lw_law_230 rfl (lv_at hl 3 rfl) ?_
          refine gx_call (ig := .invokevirtual 98) (c_Mo_thrown l htr D tys z _ ws19 q46 46 (Value.int 0) 1 (Value.ref q47) (Value.ref q48) (Value.ref q49) (Value.int 0) (Value.ref q50) (Value.ref q51) (Value.ref q52) (Value.ref q53) (Value.int 0) (Value.int 0) (Value.int 0) (Value.int (-1)) (Value.int 0) (Value.ref q54) (Value.ref q62) (Value.ref q70) (Value.int 0) (Value.int 0) (Value.int 0) (Value.ref q78) (Value.ref q79) (Value.int 0) (Value.int 16) (Value.int 4) (um) (Value.ref q80) (Value.ref q81) (Value.ref q82) (Value.int 0) (Value.ref q83) (Value.int 0) (Value.int 0) (Value.int 0) f_46_ws19) (gx_invV (As := []) (rest := []) hx hb hown hts km_Lw_98 kI_Mo_thrown kV_Mo_thrown kc_Mo_thrown (by decide) (show (parseMethodDescriptor y_Mo_thrown.desc).map (fun d => d.parameters.length) = some 0 by decide +kernel) (gx_recv (ci := 8) hK hP rfl f_46_ws19) rfl rfl d_Lw_law_231) (gx_cw (z := 0) hts kc_Mo_thrown kN_Mo rfl rfl ⟨Nat.le_of_ble_eq_true rfl, Nat.le_of_ble_eq_true rfl⟩) hb hml gx_blind (gx_pre hz hP hK hD hY hS hAz [Value.ref q46]) rfl hl.1 (lv_room (Nat.le_of_ble_eq_true rfl)) d_Lw_law_231 ⟨Nat.le_of_ble_eq_true rfl, Nat.le_of_ble_eq_true rfl⟩ (fun v29 st29 t29 L29 h0_29 hW_29 hQ_29 hL_29 => ?_) (fun v29 st29 t29 L29 h0_29 hW_29 hQ_29 hL_29 => ?_)
          · obtain ⟨ws30, hp, hP9, -, hD9, hS9⟩ := gx_back h0_29 hW_29 hQ_29 hL_29 hD hS hA
            clear hQ_29 h0_29 hL_29 hW_29 hP hD hS
            have hP := hP9
            have hD := hD9
            have hS := hS9
            clear hP9 hD9 hS9
            rcases hp with ⟨hv9, e_ws30⟩
            cases hv9
            rw [e_ws30] at hP hD
            refine W.eq (g2 := F0 m 234 ls [Value.int 1]) rfl ?_
            generalize t29.heap = H at hP hS ⊢
            generalize locs ++ L29 = locs at hS ⊢
            refine lv_iload hx hb d_Lw_law_234 (lv_at hl 0 rfl) ?_
            refine lv_icmp_eq (tgt := 241) hx hb d_Lw_law_236 (by decide) (fun _ => ?_) (fun c9 => absurd (by decide) c9)
            refine lv_goto (tgt := 1272) hx hb d_Lw_law_241 (by decide) ?_
            refine W.widen (k := 400) (n := 700000) (by decide) (by decide) ?_
            exact k _ _ ls (by rw [hAe]; exact hS) (lv_sub hl [1, 5] rfl)
          · obtain ⟨E9, ws31, ce, hp, hce, hP9, -, hD9, hS9⟩ := gx_backT h0_29 hW_29 hQ_29 hL_29 hD hS hA
            clear hQ_29 h0_29 hL_29 hW_29 hP hD hS
            have hP := hP9
            have hD := hD9
            have hS := hS9
            clear hP9 hD9 hS9
            rcases hp with ⟨hv9, e_ws31⟩
            cases hv9
      · obtain ⟨E9, ws32, ce, hp, hce, hP9, -, hD9, hS9⟩ := gx_backT h0_18 hW_18 hQ_18 hL_18 hD hS hA
        clear hQ_18 h0_18 hL_18 hW_18 hP hD hS
        have hP := hP9
        have hD := hD9
        have hS := hS9
        clear hP9 hD9 hS9
        rcases hp with ⟨hv9, e_ws32, f_46_ws32, g18_0⟩ | ⟨hv9, e_ws32, f_46_ws32, g18_0, g18_1⟩ | ⟨hv9, e_ws32, f_46_ws32, g18_0, g18_1, g18_2⟩ | ⟨hv9, e_ws32, f_46_ws32, g18_0, g18_1, g18_2, g18_3⟩ | ⟨hv9, e_ws32, f_46_ws32, g18_0, g18_1, g18_2, g18_3⟩
        · cases hv9
        · cases hv9
        · cases hv9
        · cases hv9
        · cases hv9
    · cases hv9
      have f_0_ws2 : ws2[0]? = some ((q0, Sum.inr (0, [Value.ref q1, Value.ref q5, Value.ref q8, Value.ref q20, Value.ref q25, Value.ref q12, Value.ref q16, Value.int 0, Value.int 0, Value.int 0, Value.int 16, Value.int 4, Value.int 0, Value.int 0, Value.int 0, Value.int 0, Value.int 0, Value.int (-1)])) : Nat × va_E) := f_0_ws2
      replace hlen : ws2.length = 117 := by rw [e_ws2.1, hlen]
      replace hU : gx_g ws ws2 0 [0, 1, 2, 3, 4, 5, 6, 7, 8, 9, 10, 11, 12, 13, 14, 15, 16, 17, 18, 19, 20, 21, 22, 23, 24, 25, 26, 27, 28, 29, 30, 31, 32, 33, 34, 35, 36, 37, 38, 39, 40, 41, 42, 43, 44, 45, 46, 47, 48, 49, 50, 51, 52, 53, 54, 55, 56, 57, 58, 59, 60, 61, 62, 63, 64, 65, 66, 67, 68, 69, 70, 71, 72, 73, 74, 75, 76, 77, 78, 79, 80, 81, 82, 83, 84, 85, 86, 87, 88, 89, 90, 91, 92, 93, 94, 95, 96, 97, 98, 99, 100, 101, 102, 103, 104, 105, 106, 107, 108, 109, 110, 111, 112, 113, 114, 115, 116] := hU.call e_ws2 (by rw [hlen0]; decide)
      refine W.eq (g2 := F0 m 212 ls [Value.int 1]) rfl ?_
      refine W.widen (k := 124) (n := 677766) (by decide) (by decide) ?_
      generalize t1.heap = H at hP hS ⊢
      generalize locs ++ L1 = locs at hS ⊢
      refine lv_istore (lv' := [(5, Value.int 1), (4, Value.int 0), (3, Value.ref q116), (2, Value.ref q46), (1, Value.ref q0), (0, Value.ref b)]) hx hb d_Lw_law_212 hl (by decide) rfl (fun ls hl => ?_)
      refine lv_aload_n hx hb d_Lw_law_214 rfl (lv_at hl 3 rfl) ?_
      refine lv_aload_n hx hb d_Lw_law_215 rfl (lv_at hl 5 rfl) ?_
      refine lv_iload hx hb d_Lw_law_216 (lv_at hl 1 rfl) ?_
      refine lv_iconst (v := 1) hx hb d_Lw_law_218 (by decide) ?_
      refine lv_iadd hx hb d_Lw_law_219 ?_
      refine gx_topi (y := 1) (by decide) ?_
      refine va_sld hx hb hX hbl hbA hS (i := 1) (gx_inl (by decide)) d_Lw_law_220 ?_
      refine gx_topi (y := y1) (by rw [hy1]; rfl) ?_
      refine lv_aload_n hx hb d_Lw_law_221 rfl (lv_at hl 5 rfl) ?_
      refine lv_iload hx hb d_Lw_law_222 (lv_at hl 1 rfl) ?_
      refine lv_iconst (v := 2) hx hb d_Lw_law_224 (by decide) ?_
      refine lv_iadd hx hb d_Lw_law_225 ?_
      refine gx_topi (y := 2) (by decide) ?_
      refine va_sld hx hb hX hbl hbA hS (i := 2) (gx_inl (by decide)) d_Lw_law_226 ?_
      refine gx_topi (y := y2) (by rw [hy2]; rfl) ?_
      have f_46_ws2 : ws2[46]? = some ((q46, Sum.inr (8, [Value.int 0, Value.int 0, Value.ref q47, Value.ref q48, Value.ref q49, Value.int 0, Value.ref q50, Value.ref q51, Value.ref q52, Value.ref q53, Value.int 0, Value.int 0, Value.int 0, Value.int (-1), Value.int 0, Value.ref q54, Value.ref q62, Value.ref q70, Value.int 0, Value.int 0, Value.int 0, Value.ref q78, Value.ref q79, Value.int 0, Value.int 16, Value.int 4, um, Value.ref q80, Value.ref q81, Value.ref q82, Value.int 0, Value.ref q83, Value.int 0, Value.int 0, Value.int 0])) : Nat × va_E) := e_ws2.at (by first | decide | (simp; done) | (simp; omega)) f_46
      clear f_46
      refine gx_call (ig := .invokevirtual 104) (c_Mo_limits_v1 l htr D tys z _ ws2 q46 y1 y2 q47 q48 q49 q50 q51 q52 q53 q54 q62 q70 q78 q79 (um) q80 q81 q82 q83 f_46_ws2) (gx_invV (As := [Value.int y1, Value.int y2]) (rest := []) hx hb hown hts km_Lw_104 kI_Mo_limits kV_Mo_limits kc_Mo_limits (by decide) (show (parseMethodDescriptor y_Mo_limits.desc).map (fun d => d.parameters.length) = some 2 by decide +kernel) (gx_recv (ci := 8) hK hP rfl f_46_ws2) rfl rfl d_Lw_law_227) (gx_cw (z := 0) hts kc_Mo_limits kN_Mo rfl rfl ⟨Nat.le_of_ble_eq_true rfl, Nat.le_of_ble_eq_true rfl⟩) hb hml gx_blind (gx_pre hz hP hK hD hY hS hAz [Value.ref q46, Value.int y1, Value.int y2]) rfl hl.1 (lv_room (Nat.le_of_ble_eq_true rfl)) d_Lw_law_227 ⟨Nat.le_of_ble_eq_true rfl, Nat.le_of_ble_eq_true rfl⟩ (fun v33 st33 t33 L33 h0_33 hW_33 hQ_33 hL_33 => ?_) (fun v33 st33 t33 L33 h0_33 hW_33 hQ_33 hL_33 => ?_)
      · obtain ⟨ws34, hp, hP9, -, hD9, hS9⟩ := gx_back h0_33 hW_33 hQ_33 hL_33 hD hS hA
        clear hQ_33 h0_33 hL_33 hW_33 hP hD hS
        have hP := hP9
        have hD := hD9
        have hS := hS9
        clear hP9 hD9 hS9
        rcases hp with ⟨hv9, e_ws34, f_46_ws34, g33_0⟩ | ⟨hv9, e_ws34, f_46_ws34, g33_0, g33_1⟩ | ⟨hv9, e_ws34, f_46_ws34, g33_0, g33_1, g33_2⟩ | ⟨hv9, e_ws34, f_46_ws34, g33_0, g33_1, g33_2, g33_3⟩ | ⟨hv9, e_ws34, f_46_ws34, g33_0, g33_1, g33_2, g33_3⟩
        · cases hv9
          have f_46_ws34 : ws34[46]? = some ((q46, Sum.inr (8, [Value.int 0, Value.int 1, Value.ref q47, Value.ref q48, Value.ref q49, Value.int 0, Value.ref q50, Value.ref q51, Value.ref q52, Value.ref q53, Value.int 0, Value.int 0, Value.int 0, Value.int (-1), Value.int 0, Value.ref q54, Value.ref q62, Value.ref q70, Value.int 0, Value.int 0, Value.int 0, Value.ref q78, Value.ref q79, Value.int 0, Value.int 16, Value.int 4, um, Value.ref q80, Value.ref q81, Value.ref q82, Value.int 0, Value.ref q83, Value.int 0, Value.int 0, Value.int 0])) : Nat × va_E) := f_46_ws34
          replace hlen : ws34.length = 117 := by rw [e_ws34.1, hlen]
          replace hU : gx_g ws ws34 0 [0, 1, 2, 3, 4, 5, 6, 7, 8, 9, 10, 11, 12, 13, 14, 15, 16, 17, 18, 19, 20, 21, 22, 23, 24, 25, 26, 27, 28, 29, 30, 31, 32, 33, 34, 35, 36, 37, 38, 39, 40, 41, 42, 43, 44, 45, 46, 47, 48, 49, 50, 51, 52, 53, 54, 55, 56, 57, 58, 59, 60, 61, 62, 63, 64, 65, 66, 67, 68, 69, 70, 71, 72, 73, 74, 75, 76, 77, 78, 79, 80, 81, 82, 83, 84, 85, 86, 87, 88, 89, 90, 91, 92, 93, 94, 95, 96, 97, 98, 99, 100, 101, 102, 103, 104, 105, 106, 107, 108, 109, 110, 111, 112, 113, 114, 115, 116] := hU.call e_ws34 (by rw [hlen0]; decide)
          exact absurd g33_0 g1_0
        · cases hv9
          have f_46_ws34 : ws34[46]? = some ((q46, Sum.inr (8, [Value.int 0, Value.int 1, Value.ref q47, Value.ref q48, Value.ref q49, Value.int 0, Value.ref q50, Value.ref q51, Value.ref q52, Value.ref q53, Value.int 0, Value.int 0, Value.int 0, Value.int (-1), Value.int 0, Value.ref q54, Value.ref q62, Value.ref q70, Value.int 0, Value.int 0, Value.int 0, Value.ref q78, Value.ref q79, Value.int 0, Value.int 16, Value.int 4, um, Value.ref q80, Value.ref q81, Value.ref q82, Value.int 0, Value.ref q83, Value.int 0, Value.int 0, Value.int 0])) : Nat × va_E) := f_46_ws34
          replace hlen : ws34.length = 117 := by rw [e_ws34.1, hlen]
          replace hU : gx_g ws ws34 0 [0, 1, 2, 3, 4, 5, 6, 7, 8, 9, 10, 11, 12, 13, 14, 15, 16, 17, 18, 19, 20, 21, 22, 23, 24, 25, 26, 27, 28, 29, 30, 31, 32, 33, 34, 35, 36, 37, 38, 39, 40, 41, 42, 43, 44, 45, 46, 47, 48, 49, 50, 51, 52, 53, 54, 55, 56, 57, 58, 59, 60, 61, 62, 63, 64, 65, 66, 67, 68, 69, 70, 71, 72, 73, 74, 75, 76, 77, 78, 79, 80, 81, 82, 83, 84, 85, 86, 87, 88, 89, 90, 91, 92, 93, 94, 95, 96, 97, 98, 99, 100, 101, 102, 103, 104, 105, 106, 107, 108, 109, 110, 111, 112, 113, 114, 115, 116] := hU.call e_ws34 (by rw [hlen0]; decide)
          refine W.eq (g2 := F0 m 230 ls []) rfl ?_
          generalize t33.heap = H at hP hS ⊢
          generalize locs ++ L33 = locs at hS ⊢
          refine lv_aload_n hx hb d_Lw_law_230 rfl (lv_at hl 3 rfl) ?_
          refine gx_call (ig := .invokevirtual 98) (c_Mo_thrown l htr D tys z _ ws34 q46 46 (Value.int 0) 1 (Value.ref q47) (Value.ref q48) (Value.ref q49) (Value.int 0) (Value.ref q50) (Value.ref q51) (Value.ref q52) (Value.ref q53) (Value.int 0) (Value.int 0) (Value.int 0) (Value.int (-1)) (Value.int 0) (Value.ref q54) (Value.ref q62) (Value.ref q70) (Value.int 0) (Value.int 0) (Value.int 0) (Value.ref q78) (Value.ref q79) (Value.int 0) (Value.int 16) (Value.int 4) (um) (Value.ref q80) (Value.ref q81) (Value.ref q82) (Value.int 0) (Value.ref q83) (Value.int 0) (Value.int 0) (Value.int 0) f_46_ws34) (gx_invV (As := []) (rest := []) hx hb hown hts km_Lw_98 kI_Mo_thrown kV_Mo_thrown kc_Mo_thrown (by decide) (show (parseMethodDescriptor y_Mo_thrown.desc).map (fun d => d.parameters.length) = some 0 by decide +kernel) (gx_recv (ci := 8) hK hP rfl f_46_ws34) rfl rfl d_Lw_law_231) (gx_cw (z := 0) hts kc_Mo_thrown kN_Mo rfl rfl ⟨Nat.le_of_ble_eq_true rfl, Nat.le_of_ble_eq_true rfl⟩) hb hml gx_blind (gx_pre hz hP hK hD hY hS hAz [Value.ref q46]) rfl hl.1 (lv_room (Nat.le_of_ble_eq_true rfl)) d_Lw_law_231 ⟨Nat.le_of_ble_eq_true rfl, Nat.le_of_ble_eq_true rfl⟩ (fun v35 st35 t35 L35 h0_35 hW_35 hQ_35 hL_35 => ?_) (fun v35 st35 t35 L35 h0_35 hW_35 hQ_35 hL_35 => ?_)
          · obtain ⟨ws36, hp, hP9, -, hD9, hS9⟩ := gx_back h0_35 hW_35 hQ_35 hL_35 hD hS hA
            clear hQ_35 h0_35 hL_35 hW_35 hP hD hS
            have hP := hP9
            have hD := hD9
            have hS := hS9
            clear hP9 hD9 hS9
            rcases hp with ⟨hv9, e_ws36⟩
            cases hv9
            rw [e_ws36] at hP hD
            refine W.eq (g2 := F0 m 234 ls [Value.int 1]) rfl ?_
            generalize t35.heap = H at hP hS ⊢
            generalize locs ++ L35 = locs at hS ⊢
            refine lv_iload hx hb d_Lw_law_234 (lv_at hl 0 rfl) ?_
            refine lv_icmp_eq (tgt := 241) hx hb d_Lw_law_236 (by decide) (fun _ => ?_) (fun c9 => absurd (by decide) c9)
            refine lv_goto (tgt := 1272) hx hb d_Lw_law_241 (by decide) ?_
            refine W.widen (k := 400) (n := 700000) (by decide) (by decide) ?_
            exact k _ _ ls (by rw [hAe]; exact hS) (lv_sub hl [1, 5] rfl)
          · obtain ⟨E9, ws37, ce, hp, hce, hP9, -, hD9, hS9⟩ := gx_backT h0_35 hW_35 hQ_35 hL_35 hD hS hA
            clear hQ_35 h0_35 hL_35 hW_35 hP hD hS
            have hP := hP9
            have hD := hD9
            have hS := hS9
            clear hP9 hD9 hS9
            rcases hp with ⟨hv9, e_ws37⟩
            cases hv9
        · cases hv9
          have f_46_ws34 : ws34[46]? = some ((q46, Sum.inr (8, [Value.int 0, Value.int 1, Value.ref q47, Value.ref q48, Value.ref q49, Value.int 0, Value.ref q50, Value.ref q51, Value.ref q52, Value.ref q53, Value.int 0, Value.int 0, Value.int 0, Value.int (-1), Value.int 0, Value.ref q54, Value.ref q62, Value.ref q70, Value.int 0, Value.int 0, Value.int 0, Value.ref q78, Value.ref q79, Value.int 0, Value.int 16, Value.int 4, um, Value.ref q80, Value.ref q81, Value.ref q82, Value.int 0, Value.ref q83, Value.int 0, Value.int 0, Value.int 0])) : Nat × va_E) := f_46_ws34
          replace hlen : ws34.length = 117 := by rw [e_ws34.1, hlen]
          replace hU : gx_g ws ws34 0 [0, 1, 2, 3, 4, 5, 6, 7, 8, 9, 10, 11, 12, 13, 14, 15, 16, 17, 18, 19, 20, 21, 22, 23, 24, 25, 26, 27, 28, 29, 30, 31, 32, 33, 34, 35, 36, 37, 38, 39, 40, 41, 42, 43, 44, 45, 46, 47, 48, 49, 50, 51, 52, 53, 54, 55, 56, 57, 58, 59, 60, 61, 62, 63, 64, 65, 66, 67, 68, 69, 70, 71, 72, 73, 74, 75, 76, 77, 78, 79, 80, 81, 82, 83, 84, 85, 86, 87, 88, 89, 90, 91, 92, 93, 94, 95, 96, 97, 98, 99, 100, 101, 102, 103, 104, 105, 106, 107, 108, 109, 110, 111, 112, 113, 114, 115, 116] := hU.call e_ws34 (by rw [hlen0]; decide)
          refine W.eq (g2 := F0 m 230 ls []) rfl ?_
          generalize t33.heap = H at hP hS ⊢
          generalize locs ++ L33 = locs at hS ⊢
          refine lv_aload_n hx hb d_Lw_law_230 rfl (lv_at hl 3 rfl) ?_
          refine gx_call (ig := .invokevirtual 98) (c_Mo_thrown l htr D tys z _ ws34 q46 46 (Value.int 0) 1 (Value.ref q47) (Value.ref q48) (Value.ref q49) (Value.int 0) (Value.ref q50) (Value.ref q51) (Value.ref q52) (Value.ref q53) (Value.int 0) (Value.int 0) (Value.int 0) (Value.int (-1)) (Value.int 0) (Value.ref q54) (Value.ref q62) (Value.ref q70) (Value.int 0) (Value.int 0) (Value.int 0) (Value.ref q78) (Value.ref q79) (Value.int 0) (Value.int 16) (Value.int 4) (um) (Value.ref q80) (Value.ref q81) (Value.ref q82) (Value.int 0) (Value.ref q83) (Value.int 0) (Value.int 0) (Value.int 0) f_46_ws34) (gx_invV (As := []) (rest := []) hx hb hown hts km_Lw_98 kI_Mo_thrown kV_Mo_thrown kc_Mo_thrown (by decide) (show (parseMethodDescriptor y_Mo_thrown.desc).map (fun d => d.parameters.length) = some 0 by decide +kernel) (gx_recv (ci := 8) hK hP rfl f_46_ws34) rfl rfl d_Lw_law_231) (gx_cw (z := 0) hts kc_Mo_thrown kN_Mo rfl rfl ⟨Nat.le_of_ble_eq_true rfl, Nat.le_of_ble_eq_true rfl⟩) hb hml gx_blind (gx_pre hz hP hK hD hY hS hAz [Value.ref q46]) rfl hl.1 (lv_room (Nat.le_of_ble_eq_true rfl)) d_Lw_law_231 ⟨Nat.le_of_ble_eq_true rfl, Nat.le_of_ble_eq_true rfl⟩ (fun v38 st38 t38 L38 h0_38 hW_38 hQ_38 hL_38 => ?_) (fun v38 st38 t38 L38 h0_38 hW_38 hQ_38 hL_38 => ?_)
          · obtain ⟨ws39, hp, hP9, -, hD9, hS9⟩ := gx_back h0_38 hW_38 hQ_38 hL_38 hD hS hA
            clear hQ_38 h0_38 hL_38 hW_38 hP hD hS
            have hP := hP9
            have hD := hD9
            have hS := hS9
            clear hP9 hD9 hS9
            rcases hp with ⟨hv9, e_ws39⟩
            cases hv9
            rw [e_ws39] at hP hD
            refine W.eq (g2 := F0 m 234 ls [Value.int 1]) rfl ?_
            generalize t38.heap = H at hP hS ⊢
            generalize locs ++ L38 = locs at hS ⊢
            refine lv_iload hx hb d_Lw_law_234 (lv_at hl 0 rfl) ?_
            refine lv_icmp_eq (tgt := 241) hx hb d_Lw_law_236 (by decide) (fun _ => ?_) (fun c9 => absurd (by decide) c9)
            refine lv_goto (tgt := 1272) hx hb d_Lw_law_241 (by decide) ?_
            refine W.widen (k := 400) (n := 700000) (by decide) (by decide) ?_
            exact k _ _ ls (by rw [hAe]; exact hS) (lv_sub hl [1, 5] rfl)
          · obtain ⟨E9, ws40, ce, hp, hce, hP9, -, hD9, hS9⟩ := gx_backT h0_38 hW_38 hQ_38 hL_38 hD hS hA
            clear hQ_38 h0_38 hL_38 hW_38 hP hD hS
            have hP := hP9
            have hD := hD9
            have hS := hS9
            clear hP9 hD9 hS9
            rcases hp with ⟨hv9, e_ws40⟩
            cases hv9
        · cases hv9
          have f_46_ws34 : ws34[46]? = some ((q46, Sum.inr (8, [Value.int 0, Value.int 0, Value.ref q47, Value.ref q48, Value.ref q49, Value.int 0, Value.ref q50, Value.ref q51, Value.ref q52, Value.ref q53, Value.int 0, Value.int 0, Value.int 0, Value.int (-1), Value.int 0, Value.ref q54, Value.ref q62, Value.ref q70, Value.int 0, Value.int 0, Value.int 0, Value.ref q78, Value.ref q79, Value.int 0, Value.int y1, Value.int y2, um, Value.ref q80, Value.ref q81, Value.ref q82, Value.int 0, Value.ref q83, Value.int 0, Value.int 0, Value.int 0])) : Nat × va_E) := f_46_ws34
          replace hlen : ws34.length = 117 := by rw [e_ws34.1, hlen]
          replace hU : gx_g ws ws34 0 [0, 1, 2, 3, 4, 5, 6, 7, 8, 9, 10, 11, 12, 13, 14, 15, 16, 17, 18, 19, 20, 21, 22, 23, 24, 25, 26, 27, 28, 29, 30, 31, 32, 33, 34, 35, 36, 37, 38, 39, 40, 41, 42, 43, 44, 45, 46, 47, 48, 49, 50, 51, 52, 53, 54, 55, 56, 57, 58, 59, 60, 61, 62, 63, 64, 65, 66, 67, 68, 69, 70, 71, 72, 73, 74, 75, 76, 77, 78, 79, 80, 81, 82, 83, 84, 85, 86, 87, 88, 89, 90, 91, 92, 93, 94, 95, 96, 97, 98, 99, 100, 101, 102, 103, 104, 105, 106, 107, 108, 109, 110, 111, 112, 113, 114, 115, 116] := hU.call e_ws34 (by rw [hlen0]; decide)
          exact absurd g1_2 g33_2
        · cases hv9
          have f_46_ws34 : ws34[46]? = some ((q46, Sum.inr (8, [Value.int 0, Value.int 1, Value.ref q47, Value.ref q48, Value.ref q49, Value.int 0, Value.ref q50, Value.ref q51, Value.ref q52, Value.ref q53, Value.int 0, Value.int 0, Value.int 0, Value.int (-1), Value.int 0, Value.ref q54, Value.ref q62, Value.ref q70, Value.int 0, Value.int 0, Value.int 0, Value.ref q78, Value.ref q79, Value.int 0, Value.int 16, Value.int 4, um, Value.ref q80, Value.ref q81, Value.ref q82, Value.int 0, Value.ref q83, Value.int 0, Value.int 0, Value.int 0])) : Nat × va_E) := f_46_ws34
          replace hlen : ws34.length = 117 := by rw [e_ws34.1, hlen]
          replace hU : gx_g ws ws34 0 [0, 1, 2, 3, 4, 5, 6, 7, 8, 9, 10, 11, 12, 13, 14, 15, 16, 17, 18, 19, 20, 21, 22, 23, 24, 25, 26, 27, 28, 29, 30, 31, 32, 33, 34, 35, 36, 37, 38, 39, 40, 41, 42, 43, 44, 45, 46, 47, 48, 49, 50, 51, 52, 53, 54, 55, 56, 57, 58, 59, 60, 61, 62, 63, 64, 65, 66, 67, 68, 69, 70, 71, 72, 73, 74, 75, 76, 77, 78, 79, 80, 81, 82, 83, 84, 85, 86, 87, 88, 89, 90, 91, 92, 93, 94, 95, 96, 97, 98, 99, 100, 101, 102, 103, 104, 105, 106, 107, 108, 109, 110, 111, 112, 113, 114, 115, 116] := hU.call e_ws34 (by rw [hlen0]; decide)
          exact absurd g1_2 g33_2
      · obtain ⟨E9, ws41, ce, hp, hce, hP9, -, hD9, hS9⟩ := gx_backT h0_33 hW_33 hQ_33 hL_33 hD hS hA
        clear hQ_33 h0_33 hL_33 hW_33 hP hD hS
        have hP := hP9
        have hD := hD9
        have hS := hS9
        clear hP9 hD9 hS9
        rcases hp with ⟨hv9, e_ws41, f_46_ws41, g33_0⟩ | ⟨hv9, e_ws41, f_46_ws41, g33_0, g33_1⟩ | ⟨hv9, e_ws41, f_46_ws41, g33_0, g33_1, g33_2⟩ | ⟨hv9, e_ws41, f_46_ws41, g33_0, g33_1, g33_2, g33_3⟩ | ⟨hv9, e_ws41, f_46_ws41, g33_0, g33_1, g33_2, g33_3⟩
        · cases hv9
        · cases hv9
        · cases hv9
        · cases hv9
        · cases hv9
    · cases hv9
      have f_0_ws2 : ws2[0]? = some ((q0, Sum.inr (0, [Value.ref q1, Value.ref q5, Value.ref q8, Value.ref q20, Value.ref q25, Value.ref q12, Value.ref q16, Value.int 0, Value.int 0, Value.int 0, Value.int 16, Value.int 4, Value.int 0, Value.int 0, Value.int 0, Value.int 0, Value.int 0, Value.int (-1)])) : Nat × va_E) := f_0_ws2
      replace hlen : ws2.length = 117 := by rw [e_ws2.1, hlen]
      replace hU : gx_g ws ws2 0 [0, 1, 2, 3, 4, 5, 6, 7, 8, 9, 10, 11, 12, 13, 14, 15, 16, 17, 18, 19, 20, 21, 22, 23, 24, 25, 26, 27, 28, 29, 30, 31, 32, 33, 34, 35, 36, 37, 38, 39, 40, 41, 42, 43, 44, 45, 46, 47, 48, 49, 50, 51, 52, 53, 54, 55, 56, 57, 58, 59, 60, 61, 62, 63, 64, 65, 66, 67, 68, 69, 70, 71, 72, 73, 74, 75, 76, 77, 78, 79, 80, 81, 82, 83, 84, 85, 86, 87, 88, 89, 90, 91, 92, 93, 94, 95, 96, 97, 98, 99, 100, 101, 102, 103, 104, 105, 106, 107, 108, 109, 110, 111, 112, 113, 114, 115, 116] := hU.call e_ws2 (by rw [hlen0]; decide)
      refine W.eq (g2 := F0 m 212 ls [Value.int 1]) rfl ?_
      refine W.widen (k := 124) (n := 677766) (by decide) (by decide) ?_
      generalize t1.heap = H at hP hS ⊢
      generalize locs ++ L1 = locs at hS ⊢
      refine lv_istore (lv' := [(5, Value.int 1), (4, Value.int 0), (3, Value.ref q116), (2, Value.ref q46), (1, Value.ref q0), (0, Value.ref b)]) hx hb d_Lw_law_212 hl (by decide) rfl (fun ls hl => ?_)
      refine lv_aload_n hx hb d_Lw_law_214 rfl (lv_at hl 3 rfl) ?_
      refine lv_aload_n hx hb d_Lw_law_215 rfl (lv_at hl 5 rfl) ?_
      refine lv_iload hx hb d_Lw_law_216 (lv_at hl 1 rfl) ?_
      refine lv_iconst (v := 1) hx hb d_Lw_law_218 (by decide) ?_
      refine lv_iadd hx hb d_Lw_law_219 ?_
      refine gx_topi (y := 1) (by decide) ?_
      refine va_sld hx hb hX hbl hbA hS (i := 1) (gx_inl (by decide)) d_Lw_law_220 ?_
      refine gx_topi (y := y1) (by rw [hy1]; rfl) ?_
      refine lv_aload_n hx hb d_Lw_law_221 rfl (lv_at hl 5 rfl) ?_
      refine lv_iload hx hb d_Lw_law_222 (lv_at hl 1 rfl) ?_
      refine lv_iconst (v := 2) hx hb d_Lw_law_224 (by decide) ?_
      refine lv_iadd hx hb d_Lw_law_225 ?_
      refine gx_topi (y := 2) (by decide) ?_
      refine va_sld hx hb hX hbl hbA hS (i := 2) (gx_inl (by decide)) d_Lw_law_226 ?_
      refine gx_topi (y := y2) (by rw [hy2]; rfl) ?_
      have f_46_ws2 : ws2[46]? = some ((q46, Sum.inr (8, [Value.int 0, Value.int 0, Value.ref q47, Value.ref q48, Value.ref q49, Value.int 0, Value.ref q50, Value.ref q51, Value.ref q52, Value.ref q53, Value.int 0, Value.int 0, Value.int 0, Value.int (-1), Value.int 0, Value.ref q54, Value.ref q62, Value.ref q70, Value.int 0, Value.int 0, Value.int 0, Value.ref q78, Value.ref q79, Value.int 0, Value.int 16, Value.int 4, um, Value.ref q80, Value.ref q81, Value.ref q82, Value.int 0, Value.ref q83, Value.int 0, Value.int 0, Value.int 0])) : Nat × va_E) := e_ws2.at (by first | decide | (simp; done) | (simp; omega)) f_46
      clear f_46
      refine gx_call (ig := .invokevirtual 104) (c_Mo_limits_v1 l htr D tys z _ ws2 q46 y1 y2 q47 q48 q49 q50 q51 q52 q53 q54 q62 q70 q78 q79 (um) q80 q81 q82 q83 f_46_ws2) (gx_invV (As := [Value.int y1, Value.int y2]) (rest := []) hx hb hown hts km_Lw_104 kI_Mo_limits kV_Mo_limits kc_Mo_limits (by decide) (show (parseMethodDescriptor y_Mo_limits.desc).map (fun d => d.parameters.length) = some 2 by decide +kernel) (gx_recv (ci := 8) hK hP rfl f_46_ws2) rfl rfl d_Lw_law_227) (gx_cw (z := 0) hts kc_Mo_limits kN_Mo rfl rfl ⟨Nat.le_of_ble_eq_true rfl, Nat.le_of_ble_eq_true rfl⟩) hb hml gx_blind (gx_pre hz hP hK hD hY hS hAz [Value.ref q46, Value.int y1, Value.int y2]) rfl hl.1 (lv_room (Nat.le_of_ble_eq_true rfl)) d_Lw_law_227 ⟨Nat.le_of_ble_eq_true rfl, Nat.le_of_ble_eq_true rfl⟩ (fun v42 st42 t42 L42 h0_42 hW_42 hQ_42 hL_42 => ?_) (fun v42 st42 t42 L42 h0_42 hW_42 hQ_42 hL_42 => ?_)
      · obtain ⟨ws43, hp, hP9, -, hD9, hS9⟩ := gx_back h0_42 hW_42 hQ_42 hL_42 hD hS hA
        clear hQ_42 h0_42 hL_42 hW_42 hP hD hS
        have hP := hP9
        have hD := hD9
        have hS := hS9
        clear hP9 hD9 hS9
        rcases hp with ⟨hv9, e_ws43, f_46_ws43, g42_0⟩ | ⟨hv9, e_ws43, f_46_ws43, g42_0, g42_1⟩ | ⟨hv9, e_ws43, f_46_ws43, g42_0, g42_1, g42_2⟩ | ⟨hv9, e_ws43, f_46_ws43, g42_0, g42_1, g42_2, g42_3⟩ | ⟨hv9, e_ws43, f_46_ws43, g42_0, g42_1, g42_2, g42_3⟩
        · cases hv9
          have f_46_ws43 : ws43[46]? = some ((q46, Sum.inr (8, [Value.int 0, Value.int 1, Value.ref q47, Value.ref q48, Value.ref q49, Value.int 0, Value.ref q50, Value.ref q51, Value.ref q52, Value.ref q53, Value.int 0, Value.int 0, Value.int 0, Value.int (-1), Value.int 0, Value.ref q54, Value.ref q62, Value.ref q70, Value.int 0, Value.int 0, Value.int 0, Value.ref q78, Value.ref q79, Value.int 0, Value.int 16, Value.int 4, um, Value.ref q80, Value.ref q81, Value.ref q82, Value.int 0, Value.ref q83, Value.int 0, Value.int 0, Value.int 0])) : Nat × va_E) := f_46_ws43
          replace hlen : ws43.length = 117 := by rw [e_ws43.1, hlen]
          replace hU : gx_g ws ws43 0 [0, 1, 2, 3, 4, 5, 6, 7, 8, 9, 10, 11, 12, 13, 14, 15, 16, 17, 18, 19, 20, 21, 22, 23, 24, 25, 26, 27, 28, 29, 30, 31, 32, 33, 34, 35, 36, 37, 38, 39, 40, 41, 42, 43, 44, 45, 46, 47, 48, 49, 50, 51, 52, 53, 54, 55, 56, 57, 58, 59, 60, 61, 62, 63, 64, 65, 66, 67, 68, 69, 70, 71, 72, 73, 74, 75, 76, 77, 78, 79, 80, 81, 82, 83, 84, 85, 86, 87, 88, 89, 90, 91, 92, 93, 94, 95, 96, 97, 98, 99, 100, 101, 102, 103, 104, 105, 106, 107, 108, 109, 110, 111, 112, 113, 114, 115, 116] := hU.call e_ws43 (by rw [hlen0]; decide)
          exact absurd g42_0 g1_0
        · cases hv9
          have f_46_ws43 : ws43[46]? = some ((q46, Sum.inr (8, [Value.int 0, Value.int 1, Value.ref q47, Value.ref q48, Value.ref q49, Value.int 0, Value.ref q50, Value.ref q51, Value.ref q52, Value.ref q53, Value.int 0, Value.int 0, Value.int 0, Value.int (-1), Value.int 0, Value.ref q54, Value.ref q62, Value.ref q70, Value.int 0, Value.int 0, Value.int 0, Value.ref q78, Value.ref q79, Value.int 0, Value.int 16, Value.int 4, um, Value.ref q80, Value.ref q81, Value.ref q82, Value.int 0, Value.ref q83, Value.int 0, Value.int 0, Value.int 0])) : Nat × va_E) := f_46_ws43
          replace hlen : ws43.length = 117 := by rw [e_ws43.1, hlen]
          replace hU : gx_g ws ws43 0 [0, 1, 2, 3, 4, 5, 6, 7, 8, 9, 10, 11, 12, 13, 14, 15, 16, 17, 18, 19, 20, 21, 22, 23, 24, 25, 26, 27, 28, 29, 30, 31, 32, 33, 34, 35, 36, 37, 38, 39, 40, 41, 42, 43, 44, 45, 46, 47, 48, 49, 50, 51, 52, 53, 54, 55, 56, 57, 58, 59, 60, 61, 62, 63, 64, 65, 66, 67, 68, 69, 70, 71, 72, 73, 74, 75, 76, 77, 78, 79, 80, 81, 82, 83, 84, 85, 86, 87, 88, 89, 90, 91, 92, 93, 94, 95, 96, 97, 98, 99, 100, 101, 102, 103, 104, 105, 106, 107, 108, 109, 110, 111, 112, 113, 114, 115, 116] := hU.call e_ws43 (by rw [hlen0]; decide)
          refine W.eq (g2 := F0 m 230 ls []) rfl ?_
          generalize t42.heap = H at hP hS ⊢
          generalize locs ++ L42 = locs at hS ⊢
          refine lv_aload_n hx hb d_Lw_law_230 rfl (lv_at hl 3 rfl) ?_
          refine gx_call (ig := .invokevirtual 98) (c_Mo_thrown l htr D tys z _ ws43 q46 46 (Value.int 0) 1 (Value.ref q47) (Value.ref q48) (Value.ref q49) (Value.int 0) (Value.ref q50) (Value.ref q51) (Value.ref q52) (Value.ref q53) (Value.int 0) (Value.int 0) (Value.int 0) (Value.int (-1)) (Value.int 0) (Value.ref q54) (Value.ref q62) (Value.ref q70) (Value.int 0) (Value.int 0) (Value.int 0) (Value.ref q78) (Value.ref q79) (Value.int 0) (Value.int 16) (Value.int 4) (um) (Value.ref q80) (Value.ref q81) (Value.ref q82) (Value.int 0) (Value.ref q83) (Value.int 0) (Value.int 0) (Value.int 0) f_46_ws43) (gx_invV (As := []) (rest := []) hx hb hown hts km_Lw_98 kI_Mo_thrown kV_Mo_thrown kc_Mo_thrown (by decide) (show (parseMethodDescriptor y_Mo_thrown.desc).map (fun d => d.parameters.length) = some 0 by decide +kernel) (gx_recv (ci := 8) hK hP rfl f_46_ws43) rfl rfl d_Lw_law_231) (gx_cw (z := 0) hts kc_Mo_thrown kN_Mo rfl rfl ⟨Nat.le_of_ble_eq_true rfl, Nat.le_of_ble_eq_true rfl⟩) hb hml gx_blind (gx_pre hz hP hK hD hY hS hAz [Value.ref q46]) rfl hl.1 (lv_room (Nat.le_of_ble_eq_true rfl)) d_Lw_law_231 ⟨Nat.le_of_ble_eq_true rfl, Nat.le_of_ble_eq_true rfl⟩ (fun v44 st44 t44 L44 h0_44 hW_44 hQ_44 hL_44 => ?_) (fun v44 st44 t44 L44 h0_44 hW_44 hQ_44 hL_44 => ?_)
          · obtain ⟨ws45, hp, hP9, -, hD9, hS9⟩ := gx_back h0_44 hW_44 hQ_44 hL_44 hD hS hA
            clear hQ_44 h0_44 hL_44 hW_44 hP hD hS
            have hP := hP9
            have hD := hD9
            have hS := hS9
            clear hP9 hD9 hS9
            rcases hp with ⟨hv9, e_ws45⟩
            cases hv9
            rw [e_ws45] at hP hD
            refine W.eq (g2 := F0 m 234 ls [Value.int 1]) rfl ?_
            generalize t44.heap = H at hP hS ⊢
            generalize locs ++ L44 = locs at hS ⊢
            refine lv_iload hx hb d_Lw_law_234 (lv_at hl 0 rfl) ?_
            refine lv_icmp_eq (tgt := 241) hx hb d_Lw_law_236 (by decide) (fun _ => ?_) (fun c9 => absurd (by decide) c9)
            refine lv_goto (tgt := 1272) hx hb d_Lw_law_241 (by decide) ?_
            refine W.widen (k := 400) (n := 700000) (by decide) (by decide) ?_
            exact k _ _ ls (by rw [hAe]; exact hS) (lv_sub hl [1, 5] rfl)
          · obtain ⟨E9, ws46, ce, hp, hce, hP9, -, hD9, hS9⟩ := gx_backT h0_44 hW_44 hQ_44 hL_44 hD hS hA
            clear hQ_44 h0_44 hL_44 hW_44 hP hD hS
            have hP := hP9
            have hD := hD9
            have hS := hS9
            clear hP9 hD9 hS9
            rcases hp with ⟨hv9, e_ws46⟩
            cases hv9
        · cases hv9
          have f_46_ws43 : ws43[46]? = some ((q46, Sum.inr (8, [Value.int 0, Value.int 1, Value.ref q47, Value.ref q48, Value.ref q49, Value.int 0, Value.ref q50, Value.ref q51, Value.ref q52, Value.ref q53, Value.int 0, Value.int 0, Value.int 0, Value.int (-1), Value.int 0, Value.ref q54, Value.ref q62, Value.ref q70, Value.int 0, Value.int 0, Value.int 0, Value.ref q78, Value.ref q79, Value.int 0, Value.int 16, Value.int 4, um, Value.ref q80, Value.ref q81, Value.ref q82, Value.int 0, Value.ref q83, Value.int 0, Value.int 0, Value.int 0])) : Nat × va_E) := f_46_ws43
          replace hlen : ws43.length = 117 := by rw [e_ws43.1, hlen]
          replace hU : gx_g ws ws43 0 [0, 1, 2, 3, 4, 5, 6, 7, 8, 9, 10, 11, 12, 13, 14, 15, 16, 17, 18, 19, 20, 21, 22, 23, 24, 25, 26, 27, 28, 29, 30, 31, 32, 33, 34, 35, 36, 37, 38, 39, 40, 41, 42, 43, 44, 45, 46, 47, 48, 49, 50, 51, 52, 53, 54, 55, 56, 57, 58, 59, 60, 61, 62, 63, 64, 65, 66, 67, 68, 69, 70, 71, 72, 73, 74, 75, 76, 77, 78, 79, 80, 81, 82, 83, 84, 85, 86, 87, 88, 89, 90, 91, 92, 93, 94, 95, 96, 97, 98, 99, 100, 101, 102, 103, 104, 105, 106, 107, 108, 109, 110, 111, 112, 113, 114, 115, 116] := hU.call e_ws43 (by rw [hlen0]; decide)
          exact absurd g42_2 g1_2
        · cases hv9
          have f_46_ws43 : ws43[46]? = some ((q46, Sum.inr (8, [Value.int 0, Value.int 0, Value.ref q47, Value.ref q48, Value.ref q49, Value.int 0, Value.ref q50, Value.ref q51, Value.ref q52, Value.ref q53, Value.int 0, Value.int 0, Value.int 0, Value.int (-1), Value.int 0, Value.ref q54, Value.ref q62, Value.ref q70, Value.int 0, Value.int 0, Value.int 0, Value.ref q78, Value.ref q79, Value.int 0, Value.int y1, Value.int y2, um, Value.ref q80, Value.ref q81, Value.ref q82, Value.int 0, Value.ref q83, Value.int 0, Value.int 0, Value.int 0])) : Nat × va_E) := f_46_ws43
          replace hlen : ws43.length = 117 := by rw [e_ws43.1, hlen]
          replace hU : gx_g ws ws43 0 [0, 1, 2, 3, 4, 5, 6, 7, 8, 9, 10, 11, 12, 13, 14, 15, 16, 17, 18, 19, 20, 21, 22, 23, 24, 25, 26, 27, 28, 29, 30, 31, 32, 33, 34, 35, 36, 37, 38, 39, 40, 41, 42, 43, 44, 45, 46, 47, 48, 49, 50, 51, 52, 53, 54, 55, 56, 57, 58, 59, 60, 61, 62, 63, 64, 65, 66, 67, 68, 69, 70, 71, 72, 73, 74, 75, 76, 77, 78, 79, 80, 81, 82, 83, 84, 85, 86, 87, 88, 89, 90, 91, 92, 93, 94, 95, 96, 97, 98, 99, 100, 101, 102, 103, 104, 105, 106, 107, 108, 109, 110, 111, 112, 113, 114, 115, 116] := hU.call e_ws43 (by rw [hlen0]; decide)
          exact absurd g42_3 g1_3
        · cases hv9
          have f_46_ws43 : ws43[46]? = some ((q46, Sum.inr (8, [Value.int 0, Value.int 1, Value.ref q47, Value.ref q48, Value.ref q49, Value.int 0, Value.ref q50, Value.ref q51, Value.ref q52, Value.ref q53, Value.int 0, Value.int 0, Value.int 0, Value.int (-1), Value.int 0, Value.ref q54, Value.ref q62, Value.ref q70, Value.int 0, Value.int 0, Value.int 0, Value.ref q78, Value.ref q79, Value.int 0, Value.int 16, Value.int 4, um, Value.ref q80, Value.ref q81, Value.ref q82, Value.int 0, Value.ref q83, Value.int 0, Value.int 0, Value.int 0])) : Nat × va_E) := f_46_ws43
          replace hlen : ws43.length = 117 := by rw [e_ws43.1, hlen]
          replace hU : gx_g ws ws43 0 [0, 1, 2, 3, 4, 5, 6, 7, 8, 9, 10, 11, 12, 13, 14, 15, 16, 17, 18, 19, 20, 21, 22, 23, 24, 25, 26, 27, 28, 29, 30, 31, 32, 33, 34, 35, 36, 37, 38, 39, 40, 41, 42, 43, 44, 45, 46, 47, 48, 49, 50, 51, 52, 53, 54, 55, 56, 57, 58, 59, 60, 61, 62, 63, 64, 65, 66, 67, 68, 69, 70, 71, 72, 73, 74, 75, 76, 77, 78, 79, 80, 81, 82, 83, 84, 85, 86, 87, 88, 89, 90, 91, 92, 93, 94, 95, 96, 97, 98, 99, 100, 101, 102, 103, 104, 105, 106, 107, 108, 109, 110, 111, 112, 113, 114, 115, 116] := hU.call e_ws43 (by rw [hlen0]; decide)
          refine W.eq (g2 := F0 m 230 ls []) rfl ?_
          generalize t42.heap = H at hP hS ⊢
          generalize locs ++ L42 = locs at hS ⊢
          refine lv_aload_n hx hb d_Lw_law_230 rfl (lv_at hl 3 rfl) ?_
          refine gx_call (ig := .invokevirtual 98) (c_Mo_thrown l htr D tys z _ ws43 q46 46 (Value.int 0) 1 (Value.ref q47) (Value.ref q48) (Value.ref q49) (Value.int 0) (Value.ref q50) (Value.ref q51) (Value.ref q52) (Value.ref q53) (Value.int 0) (Value.int 0) (Value.int 0) (Value.int (-1)) (Value.int 0) (Value.ref q54) (Value.ref q62) (Value.ref q70) (Value.int 0) (Value.int 0) (Value.int 0) (Value.ref q78) (Value.ref q79) (Value.int 0) (Value.int 16) (Value.int 4) (um) (Value.ref q80) (Value.ref q81) (Value.ref q82) (Value.int 0) (Value.ref q83) (Value.int 0) (Value.int 0) (Value.int 0) f_46_ws43) (gx_invV (As := []) (rest := []) hx hb hown hts km_Lw_98 kI_Mo_thrown kV_Mo_thrown kc_Mo_thrown (by decide) (show (parseMethodDescriptor y_Mo_thrown.desc).map (fun d => d.parameters.length) = some 0 by decide +kernel) (gx_recv (ci := 8) hK hP rfl f_46_ws43) rfl rfl d_Lw_law_231) (gx_cw (z := 0) hts kc_Mo_thrown kN_Mo rfl rfl ⟨Nat.le_of_ble_eq_true rfl, Nat.le_of_ble_eq_true rfl⟩) hb hml gx_blind (gx_pre hz hP hK hD hY hS hAz [Value.ref q46]) rfl hl.1 (lv_room (Nat.le_of_ble_eq_true rfl)) d_Lw_law_231 ⟨Nat.le_of_ble_eq_true rfl, Nat.le_of_ble_eq_true rfl⟩ (fun v47 st47 t47 L47 h0_47 hW_47 hQ_47 hL_47 => ?_) (fun v47 st47 t47 L47 h0_47 hW_47 hQ_47 hL_47 => ?_)
          · obtain ⟨ws48, hp, hP9, -, hD9, hS9⟩ := gx_back h0_47 hW_47 hQ_47 hL_47 hD hS hA
            clear hQ_47 h0_47 hL_47 hW_47 hP hD hS
            have hP := hP9
            have hD := hD9
            have hS := hS9
            clear hP9 hD9 hS9
            rcases hp with ⟨hv9, e_ws48⟩
            cases hv9
            rw [e_ws48] at hP hD
            refine W.eq (g2 := F0 m 234 ls [Value.int 1]) rfl ?_
            generalize t47.heap = H at hP hS ⊢
            generalize locs ++ L47 = locs at hS ⊢
            refine lv_iload hx hb d_Lw_law_234 (lv_at hl 0 rfl) ?_
            refine lv_icmp_eq (tgt := 241) hx hb d_Lw_law_236 (by decide) (fun _ => ?_) (fun c9 => absurd (by decide) c9)
            refine lv_goto (tgt := 1272) hx hb d_Lw_law_241 (by decide) ?_
            refine W.widen (k := 400) (n := 700000) (by decide) (by decide) ?_
            exact k _ _ ls (by rw [hAe]; exact hS) (lv_sub hl [1, 5] rfl)
          · obtain ⟨E9, ws49, ce, hp, hce, hP9, -, hD9, hS9⟩ := gx_backT h0_47 hW_47 hQ_47 hL_47 hD hS hA
            clear hQ_47 h0_47 hL_47 hW_47 hP hD hS
            have hP := hP9
            have hD := hD9
            have hS := hS9
            clear hP9 hD9 hS9
            rcases hp with ⟨hv9, e_ws49⟩
            cases hv9
      · obtain ⟨E9, ws50, ce, hp, hce, hP9, -, hD9, hS9⟩ := gx_backT h0_42 hW_42 hQ_42 hL_42 hD hS hA
        clear hQ_42 h0_42 hL_42 hW_42 hP hD hS
        have hP := hP9
        have hD := hD9
        have hS := hS9
        clear hP9 hD9 hS9
        rcases hp with ⟨hv9, e_ws50, f_46_ws50, g42_0⟩ | ⟨hv9, e_ws50, f_46_ws50, g42_0, g42_1⟩ | ⟨hv9, e_ws50, f_46_ws50, g42_0, g42_1, g42_2⟩ | ⟨hv9, e_ws50, f_46_ws50, g42_0, g42_1, g42_2, g42_3⟩ | ⟨hv9, e_ws50, f_46_ws50, g42_0, g42_1, g42_2, g42_3⟩
        · cases hv9
        · cases hv9
        · cases hv9
        · cases hv9
        · cases hv9
  · obtain ⟨E9, ws51, ce, hp, hce, hP9, -, hD9, hS9⟩ := gx_backT h0_1 hW_1 hQ_1 hL_1 hD hS hA
    clear hQ_1 h0_1 hL_1 hW_1 hP hD hS
    have hP := hP9
    have hD := hD9
    have hS := hS9
    clear hP9 hD9 hS9
    rcases hp with ⟨hv9, e_ws51, f_0_ws51, g1_0, g1_1, g1_2, g1_3⟩ | ⟨hv9, e_ws51, f_0_ws51, g1_0⟩ | ⟨hv9, e_ws51, f_0_ws51, g1_0, g1_1⟩ | ⟨hv9, e_ws51, f_0_ws51, g1_0, g1_1, g1_2⟩ | ⟨hv9, e_ws51, f_0_ws51, g1_0, g1_1, g1_2, g1_3⟩
    · cases hv9
    · cases hv9
    · cases hv9
    · cases hv9
    · cases hv9

set_option maxHeartbeats 4000000 in
set_option maxRecDepth 100000 in
theorem law_t2 {p : Program} {e : Env} {s : State} {m : MethodId} {below : List Frame} {meth : Method} {c : Code} {Q : State → Prop} (l : Launch) (htr : l.stackTraces = false) {b : Nat} {xs : Nat → Int32} (hx : p.tables.exec = Jvm.exec) (hb : c.code = code) (hml : c.maxLocals = 7) (hown : s.vm.findClass "CommitLedgerLaw" = some m.cls) (hts1 : ∀ w ∈ lw_tbl, w.before #[Value.ref b] s = true) (hgv : (Jvm.Cond.and given_1 narrow_1).before #[Value.ref b] s = true) (hX : va_X b 4 xs s s.heap) (hbl : b < s.heap.size) (D : va_G) (tys : List (ClassId × FieldType)) (cI cZ cF cM cR cV cJ : ClassId) (q0 q1 q2 q3 q4 q5 q6 q7 q8 q9 q10 q11 q12 q13 q14 q15 q16 q17 q18 q19 q20 q21 q22 q23 q24 q25 q26 q27 q28 q29 q30 q31 q32 q33 q34 q35 q36 q37 q38 q39 q40 q41 q42 q43 q44 q45 q46 q47 q48 q49 q50 q51 q52 q53 q54 q55 q56 q57 q58 q59 q60 q61 q62 q63 q64 q65 q66 q67 q68 q69 q70 q71 q72 q73 q74 q75 q76 q77 q78 q79 q80 q81 q82 q83 q84 q85 q86 q87 q88 q89 q90 q91 q92 q93 q94 q95 q96 q97 q98 q99 q100 q101 q102 q103 q104 q105 q106 q107 q108 q109 q110 q111 q112 q113 q114 q115 q116 : Nat) (u0 u1 um : Value) (ws : va_W) (H : Heap) (locs : List Loc) (ls : Array Slot) (hK : va_K D classes tys s) (htys : tys = [(cI, FieldType.int), (cZ, FieldType.boolean), (cF, FieldType.object "CommitLedger$LedgerFile"), (cM, FieldType.object "CommitLedger$Merge"), (cR, FieldType.object "CommitLedger$Reader"), (cV, FieldType.object "CommitLedgerModel$Version"), (cJ, FieldType.long)]) (hP : va_P D classes ws H) (hD : va_D (fun q : Nat => s.heap.size ≤ q) ws) (hS : va_S (fun q : Nat => s.heap.size ≤ q) s.heap H locs) (hlen : ws.length = 117) (f_0 : ws[0]? = some ((q0, Sum.inr (0, [Value.ref q1, Value.ref q5, Value.ref q8, Value.ref q20, Value.ref q25, Value.ref q12, Value.ref q16, Value.int 0, Value.int 0, Value.int 0, Value.int 16, Value.int 4, Value.int 0, Value.int 0, Value.int 0, Value.int 0, Value.int 0, Value.int (-1)])) : Nat × va_E)) (f_46 : ws[46]? = some ((q46, Sum.inr (8, [Value.int 0, Value.int 0, Value.ref q47, Value.ref q48, Value.ref q49, Value.int 0, Value.ref q50, Value.ref q51, Value.ref q52, Value.ref q53, Value.int 0, Value.int 0, Value.int 0, Value.int (-1), Value.int 0, Value.ref q54, Value.ref q62, Value.ref q70, Value.int 0, Value.int 0, Value.int 0, Value.ref q78, Value.ref q79, Value.int 0, Value.int 16, Value.int 4, um, Value.ref q80, Value.ref q81, Value.ref q82, Value.int 0, Value.ref q83, Value.int 0, Value.int 0, Value.int 0])) : Nat × va_E)) (hl : lv_has ls 7 [(4, Value.int 0), (3, Value.ref q116), (2, Value.ref q46), (1, Value.ref q0), (0, Value.ref b)])
    (k : ∀ (H : Heap) (locs : List Loc) (ls : Array Slot), va_S (fun q : Nat => s.heap.size ≤ q) s.heap H locs → lv_has ls 7 [(4, Value.int 0), (0, Value.ref b)] → W p l e room_1 s m #[Value.ref b] below meth c H locs 400 700000 Q (F0 m 1272 ls [])) :
    W p l e room_1 s m #[Value.ref b] below meth c H locs 122 677754 Q (F0 m 244 ls []) := by
  have ht0 : tys[0]? = some ((cI, FieldType.int) : ClassId × FieldType) := by rw [htys]; rfl
  have ht1 : tys[1]? = some ((cZ, FieldType.boolean) : ClassId × FieldType) := by rw [htys]; rfl
  have ht2 : tys[2]? = some ((cF, FieldType.object "CommitLedger$LedgerFile") : ClassId × FieldType) := by rw [htys]; rfl
  have ht3 : tys[3]? = some ((cM, FieldType.object "CommitLedger$Merge") : ClassId × FieldType) := by rw [htys]; rfl
  have ht4 : tys[4]? = some ((cR, FieldType.object "CommitLedger$Reader") : ClassId × FieldType) := by rw [htys]; rfl
  have ht5 : tys[5]? = some ((cV, FieldType.object "CommitLedgerModel$Version") : ClassId × FieldType) := by rw [htys]; rfl
  have ht6 : tys[6]? = some ((cJ, FieldType.long) : ClassId × FieldType) := by rw [htys]; rfl
  have hY := gx_Y0 hts1 hgv
  have hts := gx_hts0 hts1 hgv
  obtain ⟨z, hzz⟩ : ∃ x : Nat, x = s.heap.size := ⟨_, rfl⟩
  rw [← hzz] at hY
  have hz : z ≤ s.heap.size := Nat.le_of_eq hzz
  have hAz : ∀ q : Nat, (fun q : Nat => s.heap.size ≤ q) q → z ≤ q := fun q h => by rw [hzz]; exact h
  have hA : ∀ q : Nat, s.heap.size ≤ q → (fun q : Nat => s.heap.size ≤ q) q := fun _ h => h
  have hbA : ¬ (fun q : Nat => s.heap.size ≤ q) b := Nat.not_le.mpr hbl
  have hN : gx_NS (fun q : Nat => s.heap.size ≤ q) s := fun q cell h hc => absurd (Array.getElem?_eq_some_iff.mp hc).1 (Nat.not_lt.mpr h)
  have hlen0 := hlen
  have hU : gx_g ws ws 0 [0, 1, 2, 3, 4, 5, 6, 7, 8, 9, 10, 11, 12, 13, 14, 15, 16, 17, 18, 19, 20, 21, 22, 23, 24, 25, 26, 27, 28, 29, 30, 31, 32, 33, 34, 35, 36, 37, 38, 39, 40, 41, 42, 43, 44, 45, 46, 47, 48, 49, 50, 51, 52, 53, 54, 55, 56, 57, 58, 59, 60, 61, 62, 63, 64, 65, 66, 67, 68, 69, 70, 71, 72, 73, 74, 75, 76, 77, 78, 79, 80, 81, 82, 83, 84, 85, 86, 87, 88, 89, 90, 91, 92, 93, 94, 95, 96, 97, 98, 99, 100, 101, 102, 103, 104, 105, 106, 107, 108, 109, 110, 111, 112, 113, 114, 115, 116] := gx_g.rf
  obtain ⟨y0, hy0⟩ : ∃ y : Int32, y = xs 0 := ⟨_, rfl⟩
  obtain ⟨y1, hy1⟩ : ∃ y : Int32, y = xs 1 := ⟨_, rfl⟩
  obtain ⟨y2, hy2⟩ : ∃ y : Int32, y = xs 2 := ⟨_, rfl⟩
  obtain ⟨y3, hy3⟩ : ∃ y : Int32, y = xs 3 := ⟨_, rfl⟩
  generalize hAe : (fun q : Nat => s.heap.size ≤ q) = A at hD hN hA hAz hS hbA
  refine lv_aload_n hx hb d_Lw_law_244 rfl (lv_at hl 3 rfl) ?_
  refine lv_aload_n hx hb d_Lw_law_245 rfl (lv_at hl 4 rfl) ?_
  refine lv_iload hx hb d_Lw_law_246 (lv_at hl 0 rfl) ?_
  refine lv_iconst (v := 1) hx hb d_Lw_law_248 (by decide) ?_
  refine lv_iadd hx hb d_Lw_law_249 ?_
  refine gx_topi (y := 1) (by decide) ?_
  refine va_sld hx hb hX hbl hbA hS (i := 1) (gx_inl (by decide)) d_Lw_law_250 ?_
  refine gx_topi (y := y1) (by rw [hy1]; rfl) ?_
  refine lv_aload_n hx hb d_Lw_law_251 rfl (lv_at hl 4 rfl) ?_
  refine lv_iload hx hb d_Lw_law_252 (lv_at hl 0 rfl) ?_
  refine lv_iconst (v := 2) hx hb d_Lw_law_254 (by decide) ?_
  refine lv_iadd hx hb d_Lw_law_255 ?_
  refine gx_topi (y := 2) (by decide) ?_
  refine va_sld hx hb hX hbl hbA hS (i := 2) (gx_inl (by decide)) d_Lw_law_256 ?_
  refine gx_topi (y := y2) (by rw [hy2]; rfl) ?_
  refine lv_aload_n hx hb d_Lw_law_257 rfl (lv_at hl 4 rfl) ?_
  refine lv_iload hx hb d_Lw_law_258 (lv_at hl 0 rfl) ?_
  refine lv_iconst (v := 3) hx hb d_Lw_law_260 (by decide) ?_
  refine lv_iadd hx hb d_Lw_law_261 ?_
  refine gx_topi (y := 3) (by decide) ?_
  refine va_sld hx hb hX hbl hbA hS (i := 3) (gx_inl (by decide)) d_Lw_law_262 ?_
  refine gx_topi (y := y3) (by rw [hy3]; rfl) ?_
  refine lv_aload_n hx hb d_Lw_law_263 rfl (lv_at hl 1 rfl) ?_
  refine gx_callH (ig := .invokestatic 105) (c_Lw_add_v1 l htr D tys z _ ws q0 y1 y2 y3 q116 q1 q5 q8 q20 q25 q12 q16 f_0) (gx_invSH (As := [Value.ref q0, Value.int y1, Value.int y2, Value.int y3, Value.ref q116]) (rest := []) hx hb hown hts km_Lw_105 kS_Lw_add kN_Lw kc_Lw_add (by decide) (show (parseMethodDescriptor y_Lw_add.desc).map (fun d => d.parameters.length) = some 5 by decide +kernel) rfl rfl d_Lw_law_264) (gx_cwH hts kc_Lw_add kN_Lw rfl rfl ⟨Nat.le_of_ble_eq_true rfl, Nat.le_of_ble_eq_true rfl⟩) hb hml gx_blind (gx_pre hz hP hK hD hY hS hAz [Value.ref q0, Value.int y1, Value.int y2, Value.int y3, Value.ref q116]) rfl hl.1 (lv_room (Nat.le_of_ble_eq_true rfl)) d_Lw_law_264 ⟨Nat.le_of_ble_eq_true rfl, Nat.le_of_ble_eq_true rfl⟩ (fun v1 st1 t1 L1 h0_1 hW_1 hQ_1 hL_1 => ?_) (fun v1 st1 t1 L1 h0_1 hW_1 hQ_1 hL_1 => ?_)
  · obtain ⟨ws2, hp, hP9, -, hD9, hS9⟩ := gx_back h0_1 hW_1 hQ_1 hL_1 hD hS hA
    clear hQ_1 h0_1 hL_1 hW_1 hP hD hS
    have hP := hP9
    have hD := hD9
    have hS := hS9
    clear hP9 hD9 hS9
    rcases hp with ⟨hv9, e_ws2, g1_0, g1_1⟩ | ⟨hv9, e_ws2, g1_0⟩ | ⟨hv9, e_ws2, g1_0, g1_1⟩
    · cases hv9
      rw [e_ws2] at hP hD
      refine W.eq (g2 := F0 m 267 ls [Value.int 2]) rfl ?_
      refine W.widen (k := 124) (n := 677766) (by decide) (by decide) ?_
      generalize t1.heap = H at hP hS ⊢
      generalize locs ++ L1 = locs at hS ⊢
      refine lv_istore (lv' := [(5, Value.int 2), (4, Value.int 0), (3, Value.ref q116), (2, Value.ref q46), (1, Value.ref q0), (0, Value.ref b)]) hx hb d_Lw_law_267 hl (by decide) rfl (fun ls hl => ?_)
      refine lv_aload_n hx hb d_Lw_law_269 rfl (lv_at hl 3 rfl) ?_
      refine lv_aload_n hx hb d_Lw_law_270 rfl (lv_at hl 5 rfl) ?_
      refine lv_iload hx hb d_Lw_law_271 (lv_at hl 1 rfl) ?_
      refine lv_iconst (v := 1) hx hb d_Lw_law_273 (by decide) ?_
      refine lv_iadd hx hb d_Lw_law_274 ?_
      refine gx_topi (y := 1) (by decide) ?_
      refine va_sld hx hb hX hbl hbA hS (i := 1) (gx_inl (by decide)) d_Lw_law_275 ?_
      refine gx_topi (y := y1) (by rw [hy1]; rfl) ?_
      refine lv_aload_n hx hb d_Lw_law_276 rfl (lv_at hl 5 rfl) ?_
      refine lv_iload hx hb d_Lw_law_277 (lv_at hl 1 rfl) ?_
      refine lv_iconst (v := 2) hx hb d_Lw_law_279 (by decide) ?_
      refine lv_iadd hx hb d_Lw_law_280 ?_
      refine gx_topi (y := 2) (by decide) ?_
      refine va_sld hx hb hX hbl hbA hS (i := 2) (gx_inl (by decide)) d_Lw_law_281 ?_
      refine gx_topi (y := y2) (by rw [hy2]; rfl) ?_
      refine lv_aload_n hx hb d_Lw_law_282 rfl (lv_at hl 5 rfl) ?_
      refine lv_iload hx hb d_Lw_law_283 (lv_at hl 1 rfl) ?_
      refine lv_iconst (v := 3) hx hb d_Lw_law_285 (by decide) ?_
      refine lv_iadd hx hb d_Lw_law_286 ?_
      refine gx_topi (y := 3) (by decide) ?_
      refine va_sld hx hb hX hbl hbA hS (i := 3) (gx_inl (by decide)) d_Lw_law_287 ?_
      refine gx_topi (y := y3) (by rw [hy3]; rfl) ?_
      refine gx_call (ig := .invokevirtual 108) (c_Mo_add_v1 l htr D tys z _ ws q46 y1 y2 y3 q47 q48 q49 q50 q51 q52 q53 q54 q62 q70 q78 q79 (um) q80 q81 q82 q83 f_46) (gx_invV (As := [Value.int y1, Value.int y2, Value.int y3]) (rest := []) hx hb hown hts km_Lw_108 kI_Mo_add kV_Mo_add kc_Mo_add (by decide) (show (parseMethodDescriptor y_Mo_add.desc).map (fun d => d.parameters.length) = some 3 by decide +kernel) (gx_recv (ci := 8) hK hP rfl f_46) rfl rfl d_Lw_law_288) (gx_cw (z := 0) hts kc_Mo_add kN_Mo rfl rfl ⟨Nat.le_of_ble_eq_true rfl, Nat.le_of_ble_eq_true rfl⟩) hb hml gx_blind (gx_pre hz hP hK hD hY hS hAz [Value.ref q46, Value.int y1, Value.int y2, Value.int y3]) rfl hl.1 (lv_room (Nat.le_of_ble_eq_true rfl)) d_Lw_law_288 ⟨Nat.le_of_ble_eq_true rfl, Nat.le_of_ble_eq_true rfl⟩ (fun v3 st3 t3 L3 h0_3 hW_3 hQ_3 hL_3 => ?_) (fun v3 st3 t3 L3 h0_3 hW_3 hQ_3 hL_3 => ?_)
      · obtain ⟨ws4, hp, hP9, -, hD9, hS9⟩ := gx_back h0_3 hW_3 hQ_3 hL_3 hD hS hA
        clear hQ_3 h0_3 hL_3 hW_3 hP hD hS
        have hP := hP9
        have hD := hD9
        have hS := hS9
        clear hP9 hD9 hS9
        rcases hp with ⟨hv9, e_ws4, f_46_ws4, g3_0⟩ | ⟨hv9, e_ws4, f_46_ws4, g3_0, g3_1⟩ | ⟨hv9, e_ws4, f_46_ws4, g3_0, g3_1⟩
        · cases hv9
          have f_46_ws4 : ws4[46]? = some ((q46, Sum.inr (8, [Value.int 0, Value.int 1, Value.ref q47, Value.ref q48, Value.ref q49, Value.int 0, Value.ref q50, Value.ref q51, Value.ref q52, Value.ref q53, Value.int 0, Value.int 0, Value.int 0, Value.int (-1), Value.int 0, Value.ref q54, Value.ref q62, Value.ref q70, Value.int 0, Value.int 0, Value.int 0, Value.ref q78, Value.ref q79, Value.int 0, Value.int 16, Value.int 4, um, Value.ref q80, Value.ref q81, Value.ref q82, Value.int 0, Value.ref q83, Value.int 0, Value.int 0, Value.int 0])) : Nat × va_E) := f_46_ws4
          replace hlen : ws4.length = 117 := by rw [e_ws4.1, hlen]
          replace hU : gx_g ws ws4 0 [0, 1, 2, 3, 4, 5, 6, 7, 8, 9, 10, 11, 12, 13, 14, 15, 16, 17, 18, 19, 20, 21, 22, 23, 24, 25, 26, 27, 28, 29, 30, 31, 32, 33, 34, 35, 36, 37, 38, 39, 40, 41, 42, 43, 44, 45, 46, 47, 48, 49, 50, 51, 52, 53, 54, 55, 56, 57, 58, 59, 60, 61, 62, 63, 64, 65, 66, 67, 68, 69, 70, 71, 72, 73, 74, 75, 76, 77, 78, 79, 80, 81, 82, 83, 84, 85, 86, 87, 88, 89, 90, 91, 92, 93, 94, 95, 96, 97, 98, 99, 100, 101, 102, 103, 104, 105, 106, 107, 108, 109, 110, 111, 112, 113, 114, 115, 116] := hU.call e_ws4 (by rw [hlen0]; decide)
          exact absurd g3_0 g1_0
        · cases hv9
          have f_46_ws4 : ws4[46]? = some ((q46, Sum.inr (8, [Value.int 0, Value.int 2, Value.ref q47, Value.ref q48, Value.ref q49, Value.int 0, Value.ref q50, Value.ref q51, Value.ref q52, Value.ref q53, Value.int 0, Value.int 0, Value.int 0, Value.int (-1), Value.int 0, Value.ref q54, Value.ref q62, Value.ref q70, Value.int 0, Value.int 0, Value.int 0, Value.ref q78, Value.ref q79, Value.int 0, Value.int 16, Value.int 4, um, Value.ref q80, Value.ref q81, Value.ref q82, Value.int 0, Value.ref q83, Value.int 0, Value.int 0, Value.int 0])) : Nat × va_E) := f_46_ws4
          replace hlen : ws4.length = 117 := by rw [e_ws4.1, hlen]
          replace hU : gx_g ws ws4 0 [0, 1, 2, 3, 4, 5, 6, 7, 8, 9, 10, 11, 12, 13, 14, 15, 16, 17, 18, 19, 20, 21, 22, 23, 24, 25, 26, 27, 28, 29, 30, 31, 32, 33, 34, 35, 36, 37, 38, 39, 40, 41, 42, 43, 44, 45, 46, 47, 48, 49, 50, 51, 52, 53, 54, 55, 56, 57, 58, 59, 60, 61, 62, 63, 64, 65, 66, 67, 68, 69, 70, 71, 72, 73, 74, 75, 76, 77, 78, 79, 80, 81, 82, 83, 84, 85, 86, 87, 88, 89, 90, 91, 92, 93, 94, 95, 96, 97, 98, 99, 100, 101, 102, 103, 104, 105, 106, 107, 108, 109, 110, 111, 112, 113, 114, 115, 116] := hU.call e_ws4 (by rw [hlen0]; decide)
          refine W.eq (g2 := F0 m 291 ls [Value.int 0]) rfl ?_
          generalize t3.heap = H at hP hS ⊢
          generalize locs ++ L3 = locs at hS ⊢
          refine lv_istore (lv' := [(6, Value.int 0), (5, Value.int 2), (4, Value.int 0), (3, Value.ref q116), (2, Value.ref q46), (1, Value.ref q0), (0, Value.ref b)]) hx hb d_Lw_law_291 hl (by decide) rfl (fun ls hl => ?_)
          refine lv_aload_n hx hb d_Lw_law_293 rfl (lv_at hl 4 rfl) ?_
          refine gx_call (ig := .invokevirtual 98) (c_Mo_thrown l htr D tys z _ ws4 q46 46 (Value.int 0) 2 (Value.ref q47) (Value.ref q48) (Value.ref q49) (Value.int 0) (Value.ref q50) (Value.ref q51) (Value.ref q52) (Value.ref q53) (Value.int 0) (Value.int 0) (Value.int 0) (Value.int (-1)) (Value.int 0) (Value.ref q54) (Value.ref q62) (Value.ref q70) (Value.int 0) (Value.int 0) (Value.int 0) (Value.ref q78) (Value.ref q79) (Value.int 0) (Value.int 16) (Value.int 4) (um) (Value.ref q80) (Value.ref q81) (Value.ref q82) (Value.int 0) (Value.ref q83) (Value.int 0) (Value.int 0) (Value.int 0) f_46_ws4) (gx_invV (As := []) (rest := []) hx hb hown hts km_Lw_98 kI_Mo_thrown kV_Mo_thrown kc_Mo_thrown (by decide) (show (parseMethodDescriptor y_Mo_thrown.desc).map (fun d => d.parameters.length) = some 0 by decide +kernel) (gx_recv (ci := 8) hK hP rfl f_46_ws4) rfl rfl d_Lw_law_294) (gx_cw (z := 0) hts kc_Mo_thrown kN_Mo rfl rfl ⟨Nat.le_of_ble_eq_true rfl, Nat.le_of_ble_eq_true rfl⟩) hb hml gx_blind (gx_pre hz hP hK hD hY hS hAz [Value.ref q46]) rfl hl.1 (lv_room (Nat.le_of_ble_eq_true rfl)) d_Lw_law_294 ⟨Nat.le_of_ble_eq_true rfl, Nat.le_of_ble_eq_true rfl⟩ (fun v5 st5 t5 L5 h0_5 hW_5 hQ_5 hL_5 => ?_) (fun v5 st5 t5 L5 h0_5 hW_5 hQ_5 hL_5 => ?_)
          · obtain ⟨ws6, hp, hP9, -, hD9, hS9⟩ := gx_back h0_5 hW_5 hQ_5 hL_5 hD hS hA
            clear hQ_5 h0_5 hL_5 hW_5 hP hD hS
            have hP := hP9
            have hD := hD9
            have hS := hS9
            clear hP9 hD9 hS9
            rcases hp with ⟨hv9, e_ws6⟩
            cases hv9
            rw [e_ws6] at hP hD
            refine W.eq (g2 := F0 m 297 ls [Value.int 2]) rfl ?_
            generalize t5.heap = H at hP hS ⊢
            generalize locs ++ L5 = locs at hS ⊢
            refine lv_iload hx hb d_Lw_law_297 (lv_at hl 1 rfl) ?_
            refine lv_icmp_eq (tgt := 304) hx hb d_Lw_law_299 (by decide) (fun _ => ?_) (fun c9 => absurd (by decide) c9)
            refine lv_iload hx hb d_Lw_law_304 (lv_at hl 1 rfl) ?_
            refine lv_if_ne (tgt := 321) hx hb d_Lw_law_306 (by decide) (fun _ => ?_) (fun c9 => absurd c9 (by decide))
            refine lv_goto (tgt := 1272) hx hb d_Lw_law_321 (by decide) ?_
            refine W.widen (k := 400) (n := 700000) (by decide) (by decide) ?_
            exact k _ _ ls (by rw [hAe]; exact hS) (lv_sub hl [2, 6] rfl)
          · obtain ⟨E9, ws7, ce, hp, hce, hP9, -, hD9, hS9⟩ := gx_backT h0_5 hW_5 hQ_5 hL_5 hD hS hA
            clear hQ_5 h0_5 hL_5 hW_5 hP hD hS
            have hP := hP9
            have hD := hD9
            have hS := hS9
            clear hP9 hD9 hS9
            rcases hp with ⟨hv9, e_ws7⟩
            cases hv9
        · cases hv9
          have f_46_ws4 : ws4[46]? = some ((q46, Sum.inr (8, [Value.int 0, Value.int 1, Value.ref q47, Value.ref q48, Value.ref q49, Value.int 0, Value.ref q50, Value.ref q51, Value.ref q52, Value.ref q53, Value.int 0, Value.int 0, Value.int 0, Value.int (-1), Value.int 0, Value.ref q54, Value.ref q62, Value.ref q70, Value.int 0, Value.int 0, Value.int 0, Value.ref q78, Value.ref q79, Value.int 0, Value.int 16, Value.int 4, um, Value.ref q80, Value.ref q81, Value.ref q82, Value.int 0, Value.ref q83, Value.int 0, Value.int 0, Value.int 0])) : Nat × va_E) := f_46_ws4
          replace hlen : ws4.length = 117 := by rw [e_ws4.1, hlen]
          replace hU : gx_g ws ws4 0 [0, 1, 2, 3, 4, 5, 6, 7, 8, 9, 10, 11, 12, 13, 14, 15, 16, 17, 18, 19, 20, 21, 22, 23, 24, 25, 26, 27, 28, 29, 30, 31, 32, 33, 34, 35, 36, 37, 38, 39, 40, 41, 42, 43, 44, 45, 46, 47, 48, 49, 50, 51, 52, 53, 54, 55, 56, 57, 58, 59, 60, 61, 62, 63, 64, 65, 66, 67, 68, 69, 70, 71, 72, 73, 74, 75, 76, 77, 78, 79, 80, 81, 82, 83, 84, 85, 86, 87, 88, 89, 90, 91, 92, 93, 94, 95, 96, 97, 98, 99, 100, 101, 102, 103, 104, 105, 106, 107, 108, 109, 110, 111, 112, 113, 114, 115, 116] := hU.call e_ws4 (by rw [hlen0]; decide)
          exact absurd g1_1 g3_1
      · obtain ⟨E9, ws8, ce, hp, hce, hP9, -, hD9, hS9⟩ := gx_backT h0_3 hW_3 hQ_3 hL_3 hD hS hA
        clear hQ_3 h0_3 hL_3 hW_3 hP hD hS
        have hP := hP9
        have hD := hD9
        have hS := hS9
        clear hP9 hD9 hS9
        rcases hp with ⟨hv9, e_ws8, f_46_ws8, g3_0⟩ | ⟨hv9, e_ws8, f_46_ws8, g3_0, g3_1⟩ | ⟨hv9, e_ws8, f_46_ws8, g3_0, g3_1⟩
        · cases hv9
        · cases hv9
        · cases hv9
    · cases hv9
      rw [e_ws2] at hP hD
      refine W.eq (g2 := F0 m 267 ls [Value.int 1]) rfl ?_
      refine W.widen (k := 124) (n := 677766) (by decide) (by decide) ?_
      generalize t1.heap = H at hP hS ⊢
      generalize locs ++ L1 = locs at hS ⊢
      refine lv_istore (lv' := [(5, Value.int 1), (4, Value.int 0), (3, Value.ref q116), (2, Value.ref q46), (1, Value.ref q0), (0, Value.ref b)]) hx hb d_Lw_law_267 hl (by decide) rfl (fun ls hl => ?_)
      refine lv_aload_n hx hb d_Lw_law_269 rfl (lv_at hl 3 rfl) ?_
      refine lv_aload_n hx hb d_Lw_law_270 rfl (lv_at hl 5 rfl) ?_
      refine lv_iload hx hb d_Lw_law_271 (lv_at hl 1 rfl) ?_
      refine lv_iconst (v := 1) hx hb d_Lw_law_273 (by decide) ?_
      refine lv_iadd hx hb d_Lw_law_274 ?_
      refine gx_topi (y := 1) (by decide) ?_
      refine va_sld hx hb hX hbl hbA hS (i := 1) (gx_inl (by decide)) d_Lw_law_275 ?_
      refine gx_topi (y := y1) (by rw [hy1]; rfl) ?_
      refine lv_aload_n hx hb d_Lw_law_276 rfl (lv_at hl 5 rfl) ?_
      refine lv_iload hx hb d_Lw_law_277 (lv_at hl 1 rfl) ?_
      refine lv_iconst (v := 2) hx hb d_Lw_law_279 (by decide) ?_
      refine lv_iadd hx hb d_Lw_law_280 ?_
      refine gx_topi (y := 2) (by decide) ?_
      refine va_sld hx hb hX hbl hbA hS (i := 2) (gx_inl (by decide)) d_Lw_law_281 ?_
      refine gx_topi (y := y2) (by rw [hy2]; rfl) ?_
      refine lv_aload_n hx hb d_Lw_law_282 rfl (lv_at hl 5 rfl) ?_
      refine lv_iload hx hb d_Lw_law_283 (lv_at hl 1 rfl) ?_
      refine lv_iconst (v := 3) hx hb d_Lw_law_285 (by decide) ?_
      refine lv_iadd hx hb d_Lw_law_286 ?_
      refine gx_topi (y := 3) (by decide) ?_
      refine va_sld hx hb hX hbl hbA hS (i := 3) (gx_inl (by decide)) d_Lw_law_287 ?_
      refine gx_topi (y := y3) (by rw [hy3]; rfl) ?_
      refine gx_call (ig := .invokevirtual 108) (c_Mo_add_v1 l htr D tys z _ ws q46 y1 y2 y3 q47 q48 q49 q50 q51 q52 q53 q54 q62 q70 q78 q79 (um) q80 q81 q82 q83 f_46) (gx_invV (As := [Value.int y1, Value.int y2, Value.int y3]) (rest := []) hx hb hown hts km_Lw_108 kI_Mo_add kV_Mo_add kc_Mo_add (by decide) (show (parseMethodDescriptor y_Mo_add.desc).map (fun d => d.parameters.length) = some 3 by decide +kernel) (gx_recv (ci := 8) hK hP rfl f_46) rfl rfl d_Lw_law_288) (gx_cw (z := 0) hts kc_Mo_add kN_Mo rfl rfl ⟨Nat.le_of_ble_eq_true rfl, Nat.le_of_ble_eq_true rfl⟩) hb hml gx_blind (gx_pre hz hP hK hD hY hS hAz [Value.ref q46, Value.int y1, Value.int y2, Value.int y3]) rfl hl.1 (lv_room (Nat.le_of_ble_eq_true rfl)) d_Lw_law_288 ⟨Nat.le_of_ble_eq_true rfl, Nat.le_of_ble_eq_true rfl⟩ (fun v9 st9 t9 L9 h0_9 hW_9 hQ_9 hL_9 => ?_) (fun v9 st9 t9 L9 h0_9 hW_9 hQ_9 hL_9 => ?_)
      · obtain ⟨ws10, hp, hP9, -, hD9, hS9⟩ := gx_back h0_9 hW_9 hQ_9 hL_9 hD hS hA
        clear hQ_9 h0_9 hL_9 hW_9 hP hD hS
        have hP := hP9
        have hD := hD9
        have hS := hS9
        clear hP9 hD9 hS9
        rcases hp with ⟨hv9, e_ws10, f_46_ws10, g9_0⟩ | ⟨hv9, e_ws10, f_46_ws10, g9_0, g9_1⟩ | ⟨hv9, e_ws10, f_46_ws10, g9_0, g9_1⟩
        · cases hv9
          have f_46_ws10 : ws10[46]? = some ((q46, Sum.inr (8, [Value.int 0, Value.int 1, Value.ref q47, Value.ref q48, Value.ref q49, Value.int 0, Value.ref q50, Value.ref q51, Value.ref q52, Value.ref q53, Value.int 0, Value.int 0, Value.int 0, Value.int (-1), Value.int 0, Value.ref q54, Value.ref q62, Value.ref q70, Value.int 0, Value.int 0, Value.int 0, Value.ref q78, Value.ref q79, Value.int 0, Value.int 16, Value.int 4, um, Value.ref q80, Value.ref q81, Value.ref q82, Value.int 0, Value.ref q83, Value.int 0, Value.int 0, Value.int 0])) : Nat × va_E) := f_46_ws10
          replace hlen : ws10.length = 117 := by rw [e_ws10.1, hlen]
          replace hU : gx_g ws ws10 0 [0, 1, 2, 3, 4, 5, 6, 7, 8, 9, 10, 11, 12, 13, 14, 15, 16, 17, 18, 19, 20, 21, 22, 23, 24, 25, 26, 27, 28, 29, 30, 31, 32, 33, 34, 35, 36, 37, 38, 39, 40, 41, 42, 43, 44, 45, 46, 47, 48, 49, 50, 51, 52, 53, 54, 55, 56, 57, 58, 59, 60, 61, 62, 63, 64, 65, 66, 67, 68, 69, 70, 71, 72, 73, 74, 75, 76, 77, 78, 79, 80, 81, 82, 83, 84, 85, 86, 87, 88, 89, 90, 91, 92, 93, 94, 95, 96, 97, 98, 99, 100, 101, 102, 103, 104, 105, 106, 107, 108, 109, 110, 111, 112, 113, 114, 115, 116] := hU.call e_ws10 (by rw [hlen0]; decide)
          refine W.eq (g2 := F0 m 291 ls [Value.int 0]) rfl ?_
          generalize t9.heap = H at hP hS ⊢
          generalize locs ++ L9 = locs at hS ⊢
          refine lv_istore (lv' := [(6, Value.int 0), (5, Value.int 1), (4, Value.int 0), (3, Value.ref q116), (2, Value.ref q46), (1, Value.ref q0), (0, Value.ref b)]) hx hb d_Lw_law_291 hl (by decide) rfl (fun ls hl => ?_)
          refine lv_aload_n hx hb d_Lw_law_293 rfl (lv_at hl 4 rfl) ?_
          refine gx_call (ig := .invokevirtual 98) (c_Mo_thrown l htr D tys z _ ws10 q46 46 (Value.int 0) 1 (Value.ref q47) (Value.ref q48) (Value.ref q49) (Value.int 0) (Value.ref q50) (Value.ref q51) (Value.ref q52) (Value.ref q53) (Value.int 0) (Value.int 0) (Value.int 0) (Value.int (-1)) (Value.int 0) (Value.ref q54) (Value.ref q62) (Value.ref q70) (Value.int 0) (Value.int 0) (Value.int 0) (Value.ref q78) (Value.ref q79) (Value.int 0) (Value.int 16) (Value.int 4) (um) (Value.ref q80) (Value.ref q81) (Value.ref q82) (Value.int 0) (Value.ref q83) (Value.int 0) (Value.int 0) (Value.int 0) f_46_ws10) (gx_invV (As := []) (rest := []) hx hb hown hts km_Lw_98 kI_Mo_thrown kV_Mo_thrown kc_Mo_thrown (by decide) (show (parseMethodDescriptor y_Mo_thrown.desc).map (fun d => d.parameters.length) = some 0 by decide +kernel) (gx_recv (ci := 8) hK hP rfl f_46_ws10) rfl rfl d_Lw_law_294) (gx_cw (z := 0) hts kc_Mo_thrown kN_Mo rfl rfl ⟨Nat.le_of_ble_eq_true rfl, Nat.le_of_ble_eq_true rfl⟩) hb hml gx_blind (gx_pre hz hP hK hD hY hS hAz [Value.ref q46]) rfl hl.1 (lv_room (Nat.le_of_ble_eq_true rfl)) d_Lw_law_294 ⟨Nat.le_of_ble_eq_true rfl, Nat.le_of_ble_eq_true rfl⟩ (fun v11 st11 t11 L11 h0_11 hW_11 hQ_11 hL_11 => ?_) (fun v11 st11 t11 L11 h0_11 hW_11 hQ_11 hL_11 => ?_)
          · obtain ⟨ws12, hp, hP9, -, hD9, hS9⟩ := gx_back h0_11 hW_11 hQ_11 hL_11 hD hS hA
            clear hQ_11 h0_11 hL_11 hW_11 hP hD hS
            have hP := hP9
            have hD := hD9
            have hS := hS9
            clear hP9 hD9 hS9
            rcases hp with ⟨hv9, e_ws12⟩
            cases hv9
            rw [e_ws12] at hP hD
            refine W.eq (g2 := F0 m 297 ls [Value.int 1]) rfl ?_
            generalize t11.heap = H at hP hS ⊢
            generalize locs ++ L11 = locs at hS ⊢
            refine lv_iload hx hb d_Lw_law_297 (lv_at hl 1 rfl) ?_
            refine lv_icmp_eq (tgt := 304) hx hb d_Lw_law_299 (by decide) (fun _ => ?_) (fun c9 => absurd (by decide) c9)
            refine lv_iload hx hb d_Lw_law_304 (lv_at hl 1 rfl) ?_
            refine lv_if_ne (tgt := 321) hx hb d_Lw_law_306 (by decide) (fun _ => ?_) (fun c9 => absurd c9 (by decide))
            refine lv_goto (tgt := 1272) hx hb d_Lw_law_321 (by decide) ?_
            refine W.widen (k := 400) (n := 700000) (by decide) (by decide) ?_
            exact k _ _ ls (by rw [hAe]; exact hS) (lv_sub hl [2, 6] rfl)
          · obtain ⟨E9, ws13, ce, hp, hce, hP9, -, hD9, hS9⟩ := gx_backT h0_11 hW_11 hQ_11 hL_11 hD hS hA
            clear hQ_11 h0_11 hL_11 hW_11 hP hD hS
            have hP := hP9
            have hD := hD9
            have hS := hS9
            clear hP9 hD9 hS9
            rcases hp with ⟨hv9, e_ws13⟩
            cases hv9
        · cases hv9
          have f_46_ws10 : ws10[46]? = some ((q46, Sum.inr (8, [Value.int 0, Value.int 2, Value.ref q47, Value.ref q48, Value.ref q49, Value.int 0, Value.ref q50, Value.ref q51, Value.ref q52, Value.ref q53, Value.int 0, Value.int 0, Value.int 0, Value.int (-1), Value.int 0, Value.ref q54, Value.ref q62, Value.ref q70, Value.int 0, Value.int 0, Value.int 0, Value.ref q78, Value.ref q79, Value.int 0, Value.int 16, Value.int 4, um, Value.ref q80, Value.ref q81, Value.ref q82, Value.int 0, Value.ref q83, Value.int 0, Value.int 0, Value.int 0])) : Nat × va_E) := f_46_ws10
          replace hlen : ws10.length = 117 := by rw [e_ws10.1, hlen]
          replace hU : gx_g ws ws10 0 [0, 1, 2, 3, 4, 5, 6, 7, 8, 9, 10, 11, 12, 13, 14, 15, 16, 17, 18, 19, 20, 21, 22, 23, 24, 25, 26, 27, 28, 29, 30, 31, 32, 33, 34, 35, 36, 37, 38, 39, 40, 41, 42, 43, 44, 45, 46, 47, 48, 49, 50, 51, 52, 53, 54, 55, 56, 57, 58, 59, 60, 61, 62, 63, 64, 65, 66, 67, 68, 69, 70, 71, 72, 73, 74, 75, 76, 77, 78, 79, 80, 81, 82, 83, 84, 85, 86, 87, 88, 89, 90, 91, 92, 93, 94, 95, 96, 97, 98, 99, 100, 101, 102, 103, 104, 105, 106, 107, 108, 109, 110, 111, 112, 113, 114, 115, 116] := hU.call e_ws10 (by rw [hlen0]; decide)
          exact absurd g1_0 g9_0
        · cases hv9
          have f_46_ws10 : ws10[46]? = some ((q46, Sum.inr (8, [Value.int 0, Value.int 1, Value.ref q47, Value.ref q48, Value.ref q49, Value.int 0, Value.ref q50, Value.ref q51, Value.ref q52, Value.ref q53, Value.int 0, Value.int 0, Value.int 0, Value.int (-1), Value.int 0, Value.ref q54, Value.ref q62, Value.ref q70, Value.int 0, Value.int 0, Value.int 0, Value.ref q78, Value.ref q79, Value.int 0, Value.int 16, Value.int 4, um, Value.ref q80, Value.ref q81, Value.ref q82, Value.int 0, Value.ref q83, Value.int 0, Value.int 0, Value.int 0])) : Nat × va_E) := f_46_ws10
          replace hlen : ws10.length = 117 := by rw [e_ws10.1, hlen]
          replace hU : gx_g ws ws10 0 [0, 1, 2, 3, 4, 5, 6, 7, 8, 9, 10, 11, 12, 13, 14, 15, 16, 17, 18, 19, 20, 21, 22, 23, 24, 25, 26, 27, 28, 29, 30, 31, 32, 33, 34, 35, 36, 37, 38, 39, 40, 41, 42, 43, 44, 45, 46, 47, 48, 49, 50, 51, 52, 53, 54, 55, 56, 57, 58, 59, 60, 61, 62, 63, 64, 65, 66, 67, 68, 69, 70, 71, 72, 73, 74, 75, 76, 77, 78, 79, 80, 81, 82, 83, 84, 85, 86, 87, 88, 89, 90, 91, 92, 93, 94, 95, 96, 97, 98, 99, 100, 101, 102, 103, 104, 105, 106, 107, 108, 109, 110, 111, 112, 113, 114, 115, 116] := hU.call e_ws10 (by rw [hlen0]; decide)
          exact absurd g1_0 g9_0
      · obtain ⟨E9, ws14, ce, hp, hce, hP9, -, hD9, hS9⟩ := gx_backT h0_9 hW_9 hQ_9 hL_9 hD hS hA
        clear hQ_9 h0_9 hL_9 hW_9 hP hD hS
        have hP := hP9
        have hD := hD9
        have hS := hS9
        clear hP9 hD9 hS9
        rcases hp with ⟨hv9, e_ws14, f_46_ws14, g9_0⟩ | ⟨hv9, e_ws14, f_46_ws14, g9_0, g9_1⟩ | ⟨hv9, e_ws14, f_46_ws14, g9_0, g9_1⟩
        · cases hv9
        · cases hv9
        · cases hv9
    · cases hv9
      rw [e_ws2] at hP hD
      refine W.eq (g2 := F0 m 267 ls [Value.int 1]) rfl ?_
      refine W.widen (k := 124) (n := 677766) (by decide) (by decide) ?_
      generalize t1.heap = H at hP hS ⊢
      generalize locs ++ L1 = locs at hS ⊢
      refine lv_istore (lv' := [(5, Value.int 1), (4, Value.int 0), (3, Value.ref q116), (2, Value.ref q46), (1, Value.ref q0), (0, Value.ref b)]) hx hb d_Lw_law_267 hl (by decide) rfl (fun ls hl => ?_)
      refine lv_aload_n hx hb d_Lw_law_269 rfl (lv_at hl 3 rfl) ?_
      refine lv_aload_n hx hb d_Lw_law_270 rfl (lv_at hl 5 rfl) ?_
      refine lv_iload hx hb d_Lw_law_271 (lv_at hl 1 rfl) ?_
      refine lv_iconst (v := 1) hx hb d_Lw_law_273 (by decide) ?_
      refine lv_iadd hx hb d_Lw_law_274 ?_
      refine gx_topi (y := 1) (by decide) ?_
      refine va_sld hx hb hX hbl hbA hS (i := 1) (gx_inl (by decide)) d_Lw_law_275 ?_
      refine gx_topi (y := y1) (by rw [hy1]; rfl) ?_
      refine lv_aload_n hx hb d_Lw_law_276 rfl (lv_at hl 5 rfl) ?_
      refine lv_iload hx hb d_Lw_law_277 (lv_at hl 1 rfl) ?_
      refine lv_iconst (v := 2) hx hb d_Lw_law_279 (by decide) ?_
      refine lv_iadd hx hb d_Lw_law_280 ?_
      refine gx_topi (y := 2) (by decide) ?_
      refine va_sld hx hb hX hbl hbA hS (i := 2) (gx_inl (by decide)) d_Lw_law_281 ?_
      refine gx_topi (y := y2) (by rw [hy2]; rfl) ?_
      refine lv_aload_n hx hb d_Lw_law_282 rfl (lv_at hl 5 rfl) ?_
      refine lv_iload hx hb d_Lw_law_283 (lv_at hl 1 rfl) ?_
      refine lv_iconst (v := 3) hx hb d_Lw_law_285 (by decide) ?_
      refine lv_iadd hx hb d_Lw_law_286 ?_
      refine gx_topi (y := 3) (by decide) ?_
      refine va_sld hx hb hX hbl hbA hS (i := 3) (gx_inl (by decide)) d_Lw_law_287 ?_
      refine gx_topi (y := y3) (by rw [hy3]; rfl) ?_
      refine gx_call (ig := .invokevirtual 108) (c_Mo_add_v1 l htr D tys z _ ws q46 y1 y2 y3 q47 q48 q49 q50 q51 q52 q53 q54 q62 q70 q78 q79 (um) q80 q81 q82 q83 f_46) (gx_invV (As := [Value.int y1, Value.int y2, Value.int y3]) (rest := []) hx hb hown hts km_Lw_108 kI_Mo_add kV_Mo_add kc_Mo_add (by decide) (show (parseMethodDescriptor y_Mo_add.desc).map (fun d => d.parameters.length) = some 3 by decide +kernel) (gx_recv (ci := 8) hK hP rfl f_46) rfl rfl d_Lw_law_288) (gx_cw (z := 0) hts kc_Mo_add kN_Mo rfl rfl ⟨Nat.le_of_ble_eq_true rfl, Nat.le_of_ble_eq_true rfl⟩) hb hml gx_blind (gx_pre hz hP hK hD hY hS hAz [Value.ref q46, Value.int y1, Value.int y2, Value.int y3]) rfl hl.1 (lv_room (Nat.le_of_ble_eq_true rfl)) d_Lw_law_288 ⟨Nat.le_of_ble_eq_true rfl, Nat.le_of_ble_eq_true rfl⟩ (fun v15 st15 t15 L15 h0_15 hW_15 hQ_15 hL_15 => ?_) (fun v15 st15 t15 L15 h0_15 hW_15 hQ_15 hL_15 => ?_)
      · obtain ⟨ws16, hp, hP9, -, hD9, hS9⟩ := gx_back h0_15 hW_15 hQ_15 hL_15 hD hS hA
        clear hQ_15 h0_15 hL_15 hW_15 hP hD hS
        have hP := hP9
        have hD := hD9
        have hS := hS9
        clear hP9 hD9 hS9
        rcases hp with ⟨hv9, e_ws16, f_46_ws16, g15_0⟩ | ⟨hv9, e_ws16, f_46_ws16, g15_0, g15_1⟩ | ⟨hv9, e_ws16, f_46_ws16, g15_0, g15_1⟩
        · cases hv9
          have f_46_ws16 : ws16[46]? = some ((q46, Sum.inr (8, [Value.int 0, Value.int 1, Value.ref q47, Value.ref q48, Value.ref q49, Value.int 0, Value.ref q50, Value.ref q51, Value.ref q52, Value.ref q53, Value.int 0, Value.int 0, Value.int 0, Value.int (-1), Value.int 0, Value.ref q54, Value.ref q62, Value.ref q70, Value.int 0, Value.int 0, Value.int 0, Value.ref q78, Value.ref q79, Value.int 0, Value.int 16, Value.int 4, um, Value.ref q80, Value.ref q81, Value.ref q82, Value.int 0, Value.ref q83, Value.int 0, Value.int 0, Value.int 0])) : Nat × va_E) := f_46_ws16
          replace hlen : ws16.length = 117 := by rw [e_ws16.1, hlen]
          replace hU : gx_g ws ws16 0 [0, 1, 2, 3, 4, 5, 6, 7, 8, 9, 10, 11, 12, 13, 14, 15, 16, 17, 18, 19, 20, 21, 22, 23, 24, 25, 26, 27, 28, 29, 30, 31, 32, 33, 34, 35, 36, 37, 38, 39, 40, 41, 42, 43, 44, 45, 46, 47, 48, 49, 50, 51, 52, 53, 54, 55, 56, 57, 58, 59, 60, 61, 62, 63, 64, 65, 66, 67, 68, 69, 70, 71, 72, 73, 74, 75, 76, 77, 78, 79, 80, 81, 82, 83, 84, 85, 86, 87, 88, 89, 90, 91, 92, 93, 94, 95, 96, 97, 98, 99, 100, 101, 102, 103, 104, 105, 106, 107, 108, 109, 110, 111, 112, 113, 114, 115, 116] := hU.call e_ws16 (by rw [hlen0]; decide)
          exact absurd g15_0 g1_0
        · cases hv9
          have f_46_ws16 : ws16[46]? = some ((q46, Sum.inr (8, [Value.int 0, Value.int 2, Value.ref q47, Value.ref q48, Value.ref q49, Value.int 0, Value.ref q50, Value.ref q51, Value.ref q52, Value.ref q53, Value.int 0, Value.int 0, Value.int 0, Value.int (-1), Value.int 0, Value.ref q54, Value.ref q62, Value.ref q70, Value.int 0, Value.int 0, Value.int 0, Value.ref q78, Value.ref q79, Value.int 0, Value.int 16, Value.int 4, um, Value.ref q80, Value.ref q81, Value.ref q82, Value.int 0, Value.ref q83, Value.int 0, Value.int 0, Value.int 0])) : Nat × va_E) := f_46_ws16
          replace hlen : ws16.length = 117 := by rw [e_ws16.1, hlen]
          replace hU : gx_g ws ws16 0 [0, 1, 2, 3, 4, 5, 6, 7, 8, 9, 10, 11, 12, 13, 14, 15, 16, 17, 18, 19, 20, 21, 22, 23, 24, 25, 26, 27, 28, 29, 30, 31, 32, 33, 34, 35, 36, 37, 38, 39, 40, 41, 42, 43, 44, 45, 46, 47, 48, 49, 50, 51, 52, 53, 54, 55, 56, 57, 58, 59, 60, 61, 62, 63, 64, 65, 66, 67, 68, 69, 70, 71, 72, 73, 74, 75, 76, 77, 78, 79, 80, 81, 82, 83, 84, 85, 86, 87, 88, 89, 90, 91, 92, 93, 94, 95, 96, 97, 98, 99, 100, 101, 102, 103, 104, 105, 106, 107, 108, 109, 110, 111, 112, 113, 114, 115, 116] := hU.call e_ws16 (by rw [hlen0]; decide)
          exact absurd g15_1 g1_1
        · cases hv9
          have f_46_ws16 : ws16[46]? = some ((q46, Sum.inr (8, [Value.int 0, Value.int 1, Value.ref q47, Value.ref q48, Value.ref q49, Value.int 0, Value.ref q50, Value.ref q51, Value.ref q52, Value.ref q53, Value.int 0, Value.int 0, Value.int 0, Value.int (-1), Value.int 0, Value.ref q54, Value.ref q62, Value.ref q70, Value.int 0, Value.int 0, Value.int 0, Value.ref q78, Value.ref q79, Value.int 0, Value.int 16, Value.int 4, um, Value.ref q80, Value.ref q81, Value.ref q82, Value.int 0, Value.ref q83, Value.int 0, Value.int 0, Value.int 0])) : Nat × va_E) := f_46_ws16
          replace hlen : ws16.length = 117 := by rw [e_ws16.1, hlen]
          replace hU : gx_g ws ws16 0 [0, 1, 2, 3, 4, 5, 6, 7, 8, 9, 10, 11, 12, 13, 14, 15, 16, 17, 18, 19, 20, 21, 22, 23, 24, 25, 26, 27, 28, 29, 30, 31, 32, 33, 34, 35, 36, 37, 38, 39, 40, 41, 42, 43, 44, 45, 46, 47, 48, 49, 50, 51, 52, 53, 54, 55, 56, 57, 58, 59, 60, 61, 62, 63, 64, 65, 66, 67, 68, 69, 70, 71, 72, 73, 74, 75, 76, 77, 78, 79, 80, 81, 82, 83, 84, 85, 86, 87, 88, 89, 90, 91, 92, 93, 94, 95, 96, 97, 98, 99, 100, 101, 102, 103, 104, 105, 106, 107, 108, 109, 110, 111, 112, 113, 114, 115, 116] := hU.call e_ws16 (by rw [hlen0]; decide)
          refine W.eq (g2 := F0 m 291 ls [Value.int 0]) rfl ?_
          generalize t15.heap = H at hP hS ⊢
          generalize locs ++ L15 = locs at hS ⊢
          refine lv_istore (lv' := [(6, Value.int 0), (5, Value.int 1), (4, Value.int 0), (3, Value.ref q116), (2, Value.ref q46), (1, Value.ref q0), (0, Value.ref b)]) hx hb d_Lw_law_291 hl (by decide) rfl (fun ls hl => ?_)
          refine lv_aload_n hx hb d_Lw_law_293 rfl (lv_at hl 4 rfl) ?_
          refine gx_call (ig := .invokevirtual 98) (c_Mo_thrown l htr D tys z _ ws16 q46 46 (Value.int 0) 1 (Value.ref q47) (Value.ref q48) (Value.ref q49) (Value.int 0) (Value.ref q50) (Value.ref q51) (Value.ref q52) (Value.ref q53) (Value.int 0) (Value.int 0) (Value.int 0) (Value.int (-1)) (Value.int 0) (Value.ref q54) (Value.ref q62) (Value.ref q70) (Value.int 0) (Value.int 0) (Value.int 0) (Value.ref q78) (Value.ref q79) (Value.int 0) (Value.int 16) (Value.int 4) (um) (Value.ref q80) (Value.ref q81) (Value.ref q82) (Value.int 0) (Value.ref q83) (Value.int 0) (Value.int 0) (Value.int 0) f_46_ws16) (gx_invV (As := []) (rest := []) hx hb hown hts km_Lw_98 kI_Mo_thrown kV_Mo_thrown kc_Mo_thrown (by decide) (show (parseMethodDescriptor y_Mo_thrown.desc).map (fun d => d.parameters.length) = some 0 by decide +kernel) (gx_recv (ci := 8) hK hP rfl f_46_ws16) rfl rfl d_Lw_law_294) (gx_cw (z := 0) hts kc_Mo_thrown kN_Mo rfl rfl ⟨Nat.le_of_ble_eq_true rfl, Nat.le_of_ble_eq_true rfl⟩) hb hml gx_blind (gx_pre hz hP hK hD hY hS hAz [Value.ref q46]) rfl hl.1 (lv_room (Nat.le_of_ble_eq_true rfl)) d_Lw_law_294 ⟨Nat.le_of_ble_eq_true rfl, Nat.le_of_ble_eq_true rfl⟩ (fun v17 st17 t17 L17 h0_17 hW_17 hQ_17 hL_17 => ?_) (fun v17 st17 t17 L17 h0_17 hW_17 hQ_17 hL_17 => ?_)
          · obtain ⟨ws18, hp, hP9, -, hD9, hS9⟩ := gx_back h0_17 hW_17 hQ_17 hL_17 hD hS hA
            clear hQ_17 h0_17 hL_17 hW_17 hP hD hS
            have hP := hP9
            have hD := hD9
            have hS := hS9
            clear hP9 hD9 hS9
            rcases hp with ⟨hv9, e_ws18⟩
            cases hv9
            rw [e_ws18] at hP hD
            refine W.eq (g2 := F0 m 297 ls [Value.int 1]) rfl ?_
            generalize t17.heap = H at hP hS ⊢
            generalize locs ++ L17 = locs at hS ⊢
            refine lv_iload hx hb d_Lw_law_297 (lv_at hl 1 rfl) ?_
            refine lv_icmp_eq (tgt := 304) hx hb d_Lw_law_299 (by decide) (fun _ => ?_) (fun c9 => absurd (by decide) c9)
            refine lv_iload hx hb d_Lw_law_304 (lv_at hl 1 rfl) ?_
            refine lv_if_ne (tgt := 321) hx hb d_Lw_law_306 (by decide) (fun _ => ?_) (fun c9 => absurd c9 (by decide))
            refine lv_goto (tgt := 1272) hx hb d_Lw_law_321 (by decide) ?_
            refine W.widen (k := 400) (n := 700000) (by decide) (by decide) ?_
            exact k _ _ ls (by rw [hAe]; exact hS) (lv_sub hl [2, 6] rfl)
          · obtain ⟨E9, ws19, ce, hp, hce, hP9, -, hD9, hS9⟩ := gx_backT h0_17 hW_17 hQ_17 hL_17 hD hS hA
            clear hQ_17 h0_17 hL_17 hW_17 hP hD hS
            have hP := hP9
            have hD := hD9
            have hS := hS9
            clear hP9 hD9 hS9
            rcases hp with ⟨hv9, e_ws19⟩
            cases hv9
      · obtain ⟨E9, ws20, ce, hp, hce, hP9, -, hD9, hS9⟩ := gx_backT h0_15 hW_15 hQ_15 hL_15 hD hS hA
        clear hQ_15 h0_15 hL_15 hW_15 hP hD hS
        have hP := hP9
        have hD := hD9
        have hS := hS9
        clear hP9 hD9 hS9
        rcases hp with ⟨hv9, e_ws20, f_46_ws20, g15_0⟩ | ⟨hv9, e_ws20, f_46_ws20, g15_0, g15_1⟩ | ⟨hv9, e_ws20, f_46_ws20, g15_0, g15_1⟩
        · cases hv9
        · cases hv9
        · cases hv9
  · obtain ⟨E9, ws21, ce, hp, hce, hP9, -, hD9, hS9⟩ := gx_backT h0_1 hW_1 hQ_1 hL_1 hD hS hA
    clear hQ_1 h0_1 hL_1 hW_1 hP hD hS
    have hP := hP9
    have hD := hD9
    have hS := hS9
    clear hP9 hD9 hS9
    rcases hp with ⟨hv9, e_ws21, g1_0, g1_1⟩ | ⟨hv9, e_ws21, g1_0⟩ | ⟨hv9, e_ws21, g1_0, g1_1⟩
    · cases hv9
    · cases hv9
    · cases hv9
