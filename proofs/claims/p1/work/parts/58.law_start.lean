/-! THE LAW'S BODY up to its loop; rows printed by an own text program -/
set_option maxHeartbeats 4000000 in
set_option maxRecDepth 100000 in
theorem law_start {p : Program} {e : Env} {s : State} {m : MethodId} {below : List Frame} {meth : Method} {c : Code} {Q : State → Prop} (l : Launch) (htr : l.stackTraces = false) {b : Nat} (hx : p.tables.exec = Jvm.exec) (hb : c.code = code) (hml : c.maxLocals = 7) (hown : s.vm.findClass "CommitLedgerLaw" = some m.cls) (hts1 : ∀ w ∈ lw_tbl, w.before #[Value.ref b] s = true) (hgv : (Jvm.Cond.and given_1 narrow_1).before #[Value.ref b] s = true)
    (k : ∀ (D : va_G) (tys : List (ClassId × FieldType)) (cI cZ cF cM cR cV cJ : ClassId) (q0 q1 q2 q3 q4 q5 q6 q7 q8 q9 q10 q11 q12 q13 q14 q15 q16 q17 q18 q19 q20 q21 q22 q23 q24 q25 q26 q27 q28 q29 q30 q31 q32 q33 q34 q35 q36 q37 q38 q39 q40 q41 q42 q43 q44 q45 q46 q47 q48 q49 q50 q51 q52 q53 q54 q55 q56 q57 q58 q59 q60 q61 q62 q63 q64 q65 q66 q67 q68 q69 q70 q71 q72 q73 q74 q75 q76 q77 q78 q79 q80 q81 q82 q83 q84 q85 q86 q87 q88 q89 q90 q91 q92 q93 q94 q95 q96 q97 q98 q99 q100 q101 q102 q103 q104 q105 q106 q107 q108 q109 q110 q111 q112 q113 q114 q115 q116 : Nat) (u0 u1 um : Value) (ws : va_W) (H : Heap) (locs : List Loc) (ls : Array Slot), va_K D classes tys s → tys = [(cI, FieldType.int), (cZ, FieldType.boolean), (cF, FieldType.object "CommitLedger$LedgerFile"), (cM, FieldType.object "CommitLedger$Merge"), (cR, FieldType.object "CommitLedger$Reader"), (cV, FieldType.object "CommitLedgerModel$Version"), (cJ, FieldType.long)] → va_P D classes ws H → va_D (fun q : Nat => s.heap.size ≤ q) ws → va_S (fun q : Nat => s.heap.size ≤ q) s.heap H locs → ws.length = 117 → ∀ (f_0 : ws[0]? = some ((q0, Sum.inr (0, [Value.ref q1, Value.ref q5, Value.ref q8, Value.ref q20, Value.ref q25, Value.ref q12, Value.ref q16, Value.int 0, Value.int 0, Value.int 0, Value.int 16, Value.int 4, Value.int 0, Value.int 0, Value.int 0, Value.int 0, Value.int 0, Value.int (-1)])) : Nat × va_E)) (f_1 : ws[1]? = some ((q1, Sum.inr (1, [Value.ref q2, Value.ref q3, Value.ref q4, Value.int 0])) : Nat × va_E)) (f_2 : ws[2]? = some ((q2, Sum.inl (cI, 4096, Sum.inl (fun _ => 0))) : Nat × va_E)) (f_3 : ws[3]? = some ((q3, Sum.inl (cI, 4096, Sum.inl (fun _ => 0))) : Nat × va_E)) (f_4 : ws[4]? = some ((q4, Sum.inl (cI, 4096, Sum.inl (fun _ => 0))) : Nat × va_E)) (f_5 : ws[5]? = some ((q5, Sum.inr (2, [Value.ref q6, Value.ref q7, Value.int 0, Value.int 0])) : Nat × va_E)) (f_6 : ws[6]? = some ((q6, Sum.inr (3, [u0, Value.int 0, Value.int 0])) : Nat × va_E)) (f_7 : ws[7]? = some ((q7, Sum.inr (3, [u1, Value.int 0, Value.int 0])) : Nat × va_E)) (f_8 : ws[8]? = some ((q8, Sum.inr (4, [Value.ref q9, Value.ref q10, Value.ref q11, Value.null, Value.int 0, Value.int 0])) : Nat × va_E)) (f_9 : ws[9]? = some ((q9, Sum.inl (cF, 4096, Sum.inr (Sum.inr (Sum.inr (Sum.inr (fun _ => none)))))) : Nat × va_E)) (f_10 : ws[10]? = some ((q10, Sum.inl (cF, 4096, Sum.inr (Sum.inr (Sum.inr (Sum.inr (fun _ => none)))))) : Nat × va_E)) (f_11 : ws[11]? = some ((q11, Sum.inl (cZ, 4096, Sum.inl (fun _ => 0))) : Nat × va_E)) (f_12 : ws[12]? = some ((q12, Sum.inr (4, [Value.ref q13, Value.ref q14, Value.ref q15, Value.null, Value.int 0, Value.int 0])) : Nat × va_E)) (f_13 : ws[13]? = some ((q13, Sum.inl (cF, 4096, Sum.inr (Sum.inr (Sum.inr (Sum.inr (fun _ => none)))))) : Nat × va_E)) (f_14 : ws[14]? = some ((q14, Sum.inl (cF, 4096, Sum.inr (Sum.inr (Sum.inr (Sum.inr (fun _ => none)))))) : Nat × va_E)) (f_15 : ws[15]? = some ((q15, Sum.inl (cZ, 4096, Sum.inl (fun _ => 0))) : Nat × va_E)) (f_16 : ws[16]? = some ((q16, Sum.inr (4, [Value.ref q17, Value.ref q18, Value.ref q19, Value.null, Value.int 0, Value.int 0])) : Nat × va_E)) (f_17 : ws[17]? = some ((q17, Sum.inl (cF, 4096, Sum.inr (Sum.inr (Sum.inr (Sum.inr (fun _ => none)))))) : Nat × va_E)) (f_18 : ws[18]? = some ((q18, Sum.inl (cF, 4096, Sum.inr (Sum.inr (Sum.inr (Sum.inr (fun _ => none)))))) : Nat × va_E)) (f_19 : ws[19]? = some ((q19, Sum.inl (cZ, 4096, Sum.inl (fun _ => 0))) : Nat × va_E)) (f_20 : ws[20]? = some ((q20, Sum.inl (cM, 4, Sum.inr (Sum.inr (Sum.inr (Sum.inr (va_up (va_up (va_up (va_up (fun _ => none) 0 (some q21)) 1 (some q22)) 2 (some q23)) 3 (some q24))))))) : Nat × va_E)) (f_21 : ws[21]? = some ((q21, Sum.inr (5, [Value.int 0, Value.int 0, Value.int 0, Value.null])) : Nat × va_E)) (f_22 : ws[22]? = some ((q22, Sum.inr (5, [Value.int 0, Value.int 0, Value.int 0, Value.null])) : Nat × va_E)) (f_23 : ws[23]? = some ((q23, Sum.inr (5, [Value.int 0, Value.int 0, Value.int 0, Value.null])) : Nat × va_E)) (f_24 : ws[24]? = some ((q24, Sum.inr (5, [Value.int 0, Value.int 0, Value.int 0, Value.null])) : Nat × va_E)) (f_25 : ws[25]? = some ((q25, Sum.inl (cR, 4, Sum.inr (Sum.inr (Sum.inr (Sum.inr (va_up (va_up (va_up (va_up (fun _ => none) 0 (some q26)) 1 (some q31)) 2 (some q36)) 3 (some q41))))))) : Nat × va_E)) (f_26 : ws[26]? = some ((q26, Sum.inr (6, [Value.ref q27, Value.int 0, Value.int 0])) : Nat × va_E)) (f_27 : ws[27]? = some ((q27, Sum.inr (4, [Value.ref q28, Value.ref q29, Value.ref q30, Value.null, Value.int 0, Value.int 0])) : Nat × va_E)) (f_28 : ws[28]? = some ((q28, Sum.inl (cF, 4096, Sum.inr (Sum.inr (Sum.inr (Sum.inr (fun _ => none)))))) : Nat × va_E)) (f_29 : ws[29]? = some ((q29, Sum.inl (cF, 4096, Sum.inr (Sum.inr (Sum.inr (Sum.inr (fun _ => none)))))) : Nat × va_E)) (f_30 : ws[30]? = some ((q30, Sum.inl (cZ, 4096, Sum.inl (fun _ => 0))) : Nat × va_E)) (f_31 : ws[31]? = some ((q31, Sum.inr (6, [Value.ref q32, Value.int 0, Value.int 0])) : Nat × va_E)) (f_32 : ws[32]? = some ((q32, Sum.inr (4, [Value.ref q33, Value.ref q34, Value.ref q35, Value.null, Value.int 0, Value.int 0])) : Nat × va_E)) (f_33 : ws[33]? = some ((q33, Sum.inl (cF, 4096, Sum.inr (Sum.inr (Sum.inr (Sum.inr (fun _ => none)))))) : Nat × va_E)) (f_34 : ws[34]? = some ((q34, Sum.inl (cF, 4096, Sum.inr (Sum.inr (Sum.inr (Sum.inr (fun _ => none)))))) : Nat × va_E)) (f_35 : ws[35]? = some ((q35, Sum.inl (cZ, 4096, Sum.inl (fun _ => 0))) : Nat × va_E)) (f_36 : ws[36]? = some ((q36, Sum.inr (6, [Value.ref q37, Value.int 0, Value.int 0])) : Nat × va_E)) (f_37 : ws[37]? = some ((q37, Sum.inr (4, [Value.ref q38, Value.ref q39, Value.ref q40, Value.null, Value.int 0, Value.int 0])) : Nat × va_E)) (f_38 : ws[38]? = some ((q38, Sum.inl (cF, 4096, Sum.inr (Sum.inr (Sum.inr (Sum.inr (fun _ => none)))))) : Nat × va_E)) (f_39 : ws[39]? = some ((q39, Sum.inl (cF, 4096, Sum.inr (Sum.inr (Sum.inr (Sum.inr (fun _ => none)))))) : Nat × va_E)) (f_40 : ws[40]? = some ((q40, Sum.inl (cZ, 4096, Sum.inl (fun _ => 0))) : Nat × va_E)) (f_41 : ws[41]? = some ((q41, Sum.inr (6, [Value.ref q42, Value.int 0, Value.int 0])) : Nat × va_E)) (f_42 : ws[42]? = some ((q42, Sum.inr (4, [Value.ref q43, Value.ref q44, Value.ref q45, Value.null, Value.int 0, Value.int 0])) : Nat × va_E)) (f_43 : ws[43]? = some ((q43, Sum.inl (cF, 4096, Sum.inr (Sum.inr (Sum.inr (Sum.inr (fun _ => none)))))) : Nat × va_E)) (f_44 : ws[44]? = some ((q44, Sum.inl (cF, 4096, Sum.inr (Sum.inr (Sum.inr (Sum.inr (fun _ => none)))))) : Nat × va_E)) (f_45 : ws[45]? = some ((q45, Sum.inl (cZ, 4096, Sum.inl (fun _ => 0))) : Nat × va_E)) (f_46 : ws[46]? = some ((q46, Sum.inr (8, [Value.int 0, Value.int 0, Value.ref q47, Value.ref q48, Value.ref q49, Value.int 0, Value.ref q50, Value.ref q51, Value.ref q52, Value.ref q53, Value.int 0, Value.int 0, Value.int 0, Value.int (-1), Value.int 0, Value.ref q54, Value.ref q62, Value.ref q70, Value.int 0, Value.int 0, Value.int 0, Value.ref q78, Value.ref q79, Value.int 0, Value.int 16, Value.int 4, um, Value.ref q80, Value.ref q81, Value.ref q82, Value.int 0, Value.ref q83, Value.int 0, Value.int 0, Value.int 0])) : Nat × va_E)) (f_47 : ws[47]? = some ((q47, Sum.inl (cI, 4096, Sum.inl (fun _ => 0))) : Nat × va_E)) (f_48 : ws[48]? = some ((q48, Sum.inl (cI, 4096, Sum.inl (fun _ => 0))) : Nat × va_E)) (f_49 : ws[49]? = some ((q49, Sum.inl (cI, 4096, Sum.inl (fun _ => 0))) : Nat × va_E)) (f_50 : ws[50]? = some ((q50, Sum.inl (cI, 60000, Sum.inl (fun _ => 0))) : Nat × va_E)) (f_51 : ws[51]? = some ((q51, Sum.inl (cZ, 60000, Sum.inl (fun _ => 0))) : Nat × va_E)) (f_52 : ws[52]? = some ((q52, Sum.inl (cZ, 60000, Sum.inl (fun _ => 0))) : Nat × va_E)) (f_53 : ws[53]? = some ((q53, Sum.inl (cZ, 60000, Sum.inl (fun _ => 0))) : Nat × va_E)) (f_54 : ws[54]? = some ((q54, Sum.inr (9, [Value.ref q55, Value.ref q56, Value.ref q57, Value.ref q58, Value.ref q59, Value.ref q60, Value.ref q61, Value.int 0, Value.int 0, Value.int 0, Value.int 0])) : Nat × va_E)) (f_55 : ws[55]? = some ((q55, Sum.inl (cI, 4097, Sum.inl (fun _ => 0))) : Nat × va_E)) (f_56 : ws[56]? = some ((q56, Sum.inl (cI, 4097, Sum.inl (fun _ => 0))) : Nat × va_E)) (f_57 : ws[57]? = some ((q57, Sum.inl (cI, 4098, Sum.inl (fun _ => 0))) : Nat × va_E)) (f_58 : ws[58]? = some ((q58, Sum.inl (cI, 4097, Sum.inl (fun _ => 0))) : Nat × va_E)) (f_59 : ws[59]? = some ((q59, Sum.inl (cI, 4096, Sum.inl (fun _ => 0))) : Nat × va_E)) (f_60 : ws[60]? = some ((q60, Sum.inl (cZ, 4096, Sum.inl (fun _ => 0))) : Nat × va_E)) (f_61 : ws[61]? = some ((q61, Sum.inl (cZ, 4096, Sum.inl (fun _ => 0))) : Nat × va_E)) (f_62 : ws[62]? = some ((q62, Sum.inr (9, [Value.ref q63, Value.ref q64, Value.ref q65, Value.ref q66, Value.ref q67, Value.ref q68, Value.ref q69, Value.int 0, Value.int 0, Value.int 0, Value.int 0])) : Nat × va_E)) (f_63 : ws[63]? = some ((q63, Sum.inl (cI, 4097, Sum.inl (fun _ => 0))) : Nat × va_E)) (f_64 : ws[64]? = some ((q64, Sum.inl (cI, 4097, Sum.inl (fun _ => 0))) : Nat × va_E)) (f_65 : ws[65]? = some ((q65, Sum.inl (cI, 4098, Sum.inl (fun _ => 0))) : Nat × va_E)) (f_66 : ws[66]? = some ((q66, Sum.inl (cI, 4097, Sum.inl (fun _ => 0))) : Nat × va_E)) (f_67 : ws[67]? = some ((q67, Sum.inl (cI, 4096, Sum.inl (fun _ => 0))) : Nat × va_E)) (f_68 : ws[68]? = some ((q68, Sum.inl (cZ, 4096, Sum.inl (fun _ => 0))) : Nat × va_E)) (f_69 : ws[69]? = some ((q69, Sum.inl (cZ, 4096, Sum.inl (fun _ => 0))) : Nat × va_E)) (f_70 : ws[70]? = some ((q70, Sum.inr (9, [Value.ref q71, Value.ref q72, Value.ref q73, Value.ref q74, Value.ref q75, Value.ref q76, Value.ref q77, Value.int 0, Value.int 0, Value.int 0, Value.int 0])) : Nat × va_E)) (f_71 : ws[71]? = some ((q71, Sum.inl (cI, 4097, Sum.inl (fun _ => 0))) : Nat × va_E)) (f_72 : ws[72]? = some ((q72, Sum.inl (cI, 4097, Sum.inl (fun _ => 0))) : Nat × va_E)) (f_73 : ws[73]? = some ((q73, Sum.inl (cI, 4098, Sum.inl (fun _ => 0))) : Nat × va_E)) (f_74 : ws[74]? = some ((q74, Sum.inl (cI, 4097, Sum.inl (fun _ => 0))) : Nat × va_E)) (f_75 : ws[75]? = some ((q75, Sum.inl (cI, 4096, Sum.inl (fun _ => 0))) : Nat × va_E)) (f_76 : ws[76]? = some ((q76, Sum.inl (cZ, 4096, Sum.inl (fun _ => 0))) : Nat × va_E)) (f_77 : ws[77]? = some ((q77, Sum.inl (cZ, 4096, Sum.inl (fun _ => 0))) : Nat × va_E)) (f_78 : ws[78]? = some ((q78, Sum.inl (cI, 4096, Sum.inl (fun _ => 0))) : Nat × va_E)) (f_79 : ws[79]? = some ((q79, Sum.inl (cZ, 4096, Sum.inl (fun _ => 0))) : Nat × va_E)) (f_80 : ws[80]? = some ((q80, Sum.inl (cI, 4, Sum.inl (fun _ => 0))) : Nat × va_E)) (f_81 : ws[81]? = some ((q81, Sum.inl (cI, 4, Sum.inl (fun _ => 0))) : Nat × va_E)) (f_82 : ws[82]? = some ((q82, Sum.inl (cI, 4, Sum.inl (fun _ => 0))) : Nat × va_E)) (f_83 : ws[83]? = some ((q83, Sum.inl (cV, 4, Sum.inr (Sum.inr (Sum.inr (Sum.inr (va_up (va_up (va_up (va_up (fun _ => none) 0 (some q84)) 1 (some q92)) 2 (some q100)) 3 (some q108))))))) : Nat × va_E)) (f_84 : ws[84]? = some ((q84, Sum.inr (9, [Value.ref q85, Value.ref q86, Value.ref q87, Value.ref q88, Value.ref q89, Value.ref q90, Value.ref q91, Value.int 0, Value.int 0, Value.int 0, Value.int 0])) : Nat × va_E)) (f_85 : ws[85]? = some ((q85, Sum.inl (cI, 4097, Sum.inl (fun _ => 0))) : Nat × va_E)) (f_86 : ws[86]? = some ((q86, Sum.inl (cI, 4097, Sum.inl (fun _ => 0))) : Nat × va_E)) (f_87 : ws[87]? = some ((q87, Sum.inl (cI, 4098, Sum.inl (fun _ => 0))) : Nat × va_E)) (f_88 : ws[88]? = some ((q88, Sum.inl (cI, 4097, Sum.inl (fun _ => 0))) : Nat × va_E)) (f_89 : ws[89]? = some ((q89, Sum.inl (cI, 4096, Sum.inl (fun _ => 0))) : Nat × va_E)) (f_90 : ws[90]? = some ((q90, Sum.inl (cZ, 4096, Sum.inl (fun _ => 0))) : Nat × va_E)) (f_91 : ws[91]? = some ((q91, Sum.inl (cZ, 4096, Sum.inl (fun _ => 0))) : Nat × va_E)) (f_92 : ws[92]? = some ((q92, Sum.inr (9, [Value.ref q93, Value.ref q94, Value.ref q95, Value.ref q96, Value.ref q97, Value.ref q98, Value.ref q99, Value.int 0, Value.int 0, Value.int 0, Value.int 0])) : Nat × va_E)) (f_93 : ws[93]? = some ((q93, Sum.inl (cI, 4097, Sum.inl (fun _ => 0))) : Nat × va_E)) (f_94 : ws[94]? = some ((q94, Sum.inl (cI, 4097, Sum.inl (fun _ => 0))) : Nat × va_E)) (f_95 : ws[95]? = some ((q95, Sum.inl (cI, 4098, Sum.inl (fun _ => 0))) : Nat × va_E)) (f_96 : ws[96]? = some ((q96, Sum.inl (cI, 4097, Sum.inl (fun _ => 0))) : Nat × va_E)) (f_97 : ws[97]? = some ((q97, Sum.inl (cI, 4096, Sum.inl (fun _ => 0))) : Nat × va_E)) (f_98 : ws[98]? = some ((q98, Sum.inl (cZ, 4096, Sum.inl (fun _ => 0))) : Nat × va_E)) (f_99 : ws[99]? = some ((q99, Sum.inl (cZ, 4096, Sum.inl (fun _ => 0))) : Nat × va_E)) (f_100 : ws[100]? = some ((q100, Sum.inr (9, [Value.ref q101, Value.ref q102, Value.ref q103, Value.ref q104, Value.ref q105, Value.ref q106, Value.ref q107, Value.int 0, Value.int 0, Value.int 0, Value.int 0])) : Nat × va_E)) (f_101 : ws[101]? = some ((q101, Sum.inl (cI, 4097, Sum.inl (fun _ => 0))) : Nat × va_E)) (f_102 : ws[102]? = some ((q102, Sum.inl (cI, 4097, Sum.inl (fun _ => 0))) : Nat × va_E)) (f_103 : ws[103]? = some ((q103, Sum.inl (cI, 4098, Sum.inl (fun _ => 0))) : Nat × va_E)) (f_104 : ws[104]? = some ((q104, Sum.inl (cI, 4097, Sum.inl (fun _ => 0))) : Nat × va_E)) (f_105 : ws[105]? = some ((q105, Sum.inl (cI, 4096, Sum.inl (fun _ => 0))) : Nat × va_E)) (f_106 : ws[106]? = some ((q106, Sum.inl (cZ, 4096, Sum.inl (fun _ => 0))) : Nat × va_E)) (f_107 : ws[107]? = some ((q107, Sum.inl (cZ, 4096, Sum.inl (fun _ => 0))) : Nat × va_E)) (f_108 : ws[108]? = some ((q108, Sum.inr (9, [Value.ref q109, Value.ref q110, Value.ref q111, Value.ref q112, Value.ref q113, Value.ref q114, Value.ref q115, Value.int 0, Value.int 0, Value.int 0, Value.int 0])) : Nat × va_E)) (f_109 : ws[109]? = some ((q109, Sum.inl (cI, 4097, Sum.inl (fun _ => 0))) : Nat × va_E)) (f_110 : ws[110]? = some ((q110, Sum.inl (cI, 4097, Sum.inl (fun _ => 0))) : Nat × va_E)) (f_111 : ws[111]? = some ((q111, Sum.inl (cI, 4098, Sum.inl (fun _ => 0))) : Nat × va_E)) (f_112 : ws[112]? = some ((q112, Sum.inl (cI, 4097, Sum.inl (fun _ => 0))) : Nat × va_E)) (f_113 : ws[113]? = some ((q113, Sum.inl (cI, 4096, Sum.inl (fun _ => 0))) : Nat × va_E)) (f_114 : ws[114]? = some ((q114, Sum.inl (cZ, 4096, Sum.inl (fun _ => 0))) : Nat × va_E)) (f_115 : ws[115]? = some ((q115, Sum.inl (cZ, 4096, Sum.inl (fun _ => 0))) : Nat × va_E)) (f_116 : ws[116]? = some ((q116, Sum.inl (cJ, 1, Sum.inr (Sum.inl (fun _ => 0)))) : Nat × va_E)), lv_has ls 7 [(4, Value.int 0), (3, Value.ref q116), (2, Value.ref q46), (1, Value.ref q0), (0, Value.ref b)] → W p l e room_1 s m #[Value.ref b] below meth c H locs 122 677754 Q (F0 m 23 ls [])) :
    W p l e room_1 s m #[Value.ref b] below meth c s.heap [] 0 0 Q (entryFrame m ([Value.ref b] : List Value).toArray 7) := by
  obtain ⟨D, cI, cZ, cF, cM, cR, cV, cJ, hK⟩ := gx_K0 (gx_hts0 hts1 hgv)
  obtain ⟨tys, htys⟩ : ∃ x : List (ClassId × FieldType), x = [(cI, FieldType.int), (cZ, FieldType.boolean), (cF, FieldType.object "CommitLedger$LedgerFile"), (cM, FieldType.object "CommitLedger$Merge"), (cR, FieldType.object "CommitLedger$Reader"), (cV, FieldType.object "CommitLedgerModel$Version"), (cJ, FieldType.long)] := ⟨_, rfl⟩
  rw [← htys] at hK
  have ht0 : tys[0]? = some ((cI, FieldType.int) : ClassId × FieldType) := by rw [htys]; rfl
  have ht1 : tys[1]? = some ((cZ, FieldType.boolean) : ClassId × FieldType) := by rw [htys]; rfl
  have ht2 : tys[2]? = some ((cF, FieldType.object "CommitLedger$LedgerFile") : ClassId × FieldType) := by rw [htys]; rfl
  have ht3 : tys[3]? = some ((cM, FieldType.object "CommitLedger$Merge") : ClassId × FieldType) := by rw [htys]; rfl
  have ht4 : tys[4]? = some ((cR, FieldType.object "CommitLedger$Reader") : ClassId × FieldType) := by rw [htys]; rfl
  have ht5 : tys[5]? = some ((cV, FieldType.object "CommitLedgerModel$Version") : ClassId × FieldType) := by rw [htys]; rfl
  have ht6 : tys[6]? = some ((cJ, FieldType.long) : ClassId × FieldType) := by rw [htys]; rfl
  have hY := gx_Y0 hts1 hgv
  have hts := gx_hts0 hts1 hgv
  obtain ⟨z, hzz⟩ : ∃ x : Nat, x = s.heap.size := ⟨_, rfl⟩
  rw [← hzz] at hY
  have hz : z ≤ s.heap.size := Nat.le_of_eq hzz
  have hAz : ∀ q : Nat, (fun q : Nat => s.heap.size ≤ q) q → z ≤ q := fun q h => by rw [hzz]; exact h
  have hA : ∀ q : Nat, s.heap.size ≤ q → (fun q : Nat => s.heap.size ≤ q) q := fun _ h => h
  have hN : gx_NS (fun q : Nat => s.heap.size ≤ q) s := fun q cell h hc => absurd (Array.getElem?_eq_some_iff.mp hc).1 (Nat.not_lt.mpr h)
  have hS : va_S (fun q : Nat => s.heap.size ≤ q) s.heap s.heap [] := va_S.rf
  obtain ⟨ws, hws⟩ : ∃ x : va_W, x = [] := ⟨_, rfl⟩
  have hlen : ws.length = 0 := by rw [hws]; rfl
  have hlen0 := hlen
  have hU : gx_g ws ws 0 [] := gx_g.rf
  have hP : va_P D classes ws s.heap := by rw [hws]; exact fun k q h => by simp at h
  have hD : va_D (fun q : Nat => s.heap.size ≤ q) ws := by rw [hws]; exact ⟨fun i j p q h => by simp at h, fun k q h => by simp at h⟩
  generalize hAe : (fun q : Nat => s.heap.size ≤ q) = A at hD hN hA hAz hS k
  have hl := lv_entry ([Value.ref b]) (n := 7) (Nat.le_of_ble_eq_true rfl)
  rw [lg_entry_eq]
  generalize (lg_sl ([Value.ref b]) ++ List.replicate (7 - (lg_sl ([Value.ref b])).length) Slot.unset).toArray = ls at hl ⊢
  have hl : lv_has ls 7 [(0, Value.ref b)] := hl
  refine va_new (ci := 0) (fs := [Value.null, Value.null, Value.null, Value.null, Value.null, Value.null, Value.null, Value.int 0, Value.int 0, Value.int 0, Value.int 0, Value.int 0, Value.int 0, Value.int 0, Value.int 0, Value.int 0, Value.int 0, Value.int 0]) (C := "CommitLedger") (T := F_Le) (N := 18) hx hb hts i_Le t_Le t_Le_ok hown (hts _ kk_Lw_8) (hts _ kX_Le) (hts _ kN_Le) hK hP hD hS hA rfl (by decide) (Nat.le_of_ble_eq_true rfl) (Nat.le_of_ble_eq_true rfl) d_Lw_law_0 (fun q1 H hP9 hD9 hS9 => ?_)
  obtain ⟨ws2, e_ws2⟩ : ∃ x : va_W, x = ws ++ [((q1, Sum.inr (0, [Value.null, Value.null, Value.null, Value.null, Value.null, Value.null, Value.null, Value.int 0, Value.int 0, Value.int 0, Value.int 0, Value.int 0, Value.int 0, Value.int 0, Value.int 0, Value.int 0, Value.int 0, Value.int 0])) : Nat × va_E)] := ⟨_, rfl⟩
  replace hP : va_P D classes ws2 H := by rw [e_ws2]; exact hP9
  replace hD : va_D A ws2 := by rw [e_ws2]; exact hD9
  replace hS := hS9
  clear hP9 hD9 hS9
  have f_0_ws2 : ws2[0]? = some ((q1, Sum.inr (0, [Value.null, Value.null, Value.null, Value.null, Value.null, Value.null, Value.null, Value.int 0, Value.int 0, Value.int 0, Value.int 0, Value.int 0, Value.int 0, Value.int 0, Value.int 0, Value.int 0, Value.int 0, Value.int 0])) : Nat × va_E) := by rw [e_ws2]; exact gs_last hlen
  replace hlen : ws2.length = 1 := by rw [e_ws2]; exact gs_len hlen
  replace hU : gx_g ws ws2 1 [] := by rw [e_ws2]; exact hU.push
  refine W.widen (k := 1) (n := 18) (by decide) (by decide) ?_
  refine lv_dup hx hb d_Lw_law_3 rfl ?_
  refine gx_call (ig := .invokespecial 88) (c_Le_init l htr D tys z _ ws2 cI cZ cF cM cR q1 f_0_ws2 ht0 ht1 ht2 ht3 ht4 hlen) (gx_invI (As := []) (rest := [Value.ref q1]) hx hb hown hts km_Lw_88 kI_Le_init kc_Le_init (by decide) rfl (show (parseMethodDescriptor y_Le_init.desc).map (fun d => d.parameters.length) = some 0 by decide +kernel) rfl rfl d_Lw_law_4) (gx_cw (z := 0) hts kc_Le_init kN_Le rfl rfl ⟨Nat.le_of_ble_eq_true rfl, Nat.le_of_ble_eq_true rfl⟩) hb hml gx_blind (gx_pre hz hP hK hD hY hS hAz [Value.ref q1]) rfl hl.1 (lv_room (Nat.le_of_ble_eq_true rfl)) d_Lw_law_4 ⟨Nat.le_of_ble_eq_true rfl, Nat.le_of_ble_eq_true rfl⟩ (fun v3 st3 t3 L3 h0_3 hW_3 hQ_3 hL_3 => ?_) (fun v3 st3 t3 L3 h0_3 hW_3 hQ_3 hL_3 => ?_)
  · obtain ⟨ws4, hp, hP9, -, hD9, hS9⟩ := gx_back h0_3 hW_3 hQ_3 hL_3 hD hS hA
    clear hQ_3 h0_3 hL_3 hW_3 hP hD hS
    have hP := hP9
    have hD := hD9
    have hS := hS9
    clear hP9 hD9 hS9
    rcases hp with ⟨q5, q6, q7, q8, q9, q10, q11, q12, q13, q14, q15, q16, q17, q18, q19, q20, q21, q22, q23, q24, q25, q26, q27, q28, q29, q30, q31, q32, q33, q34, q35, q36, q37, q38, q39, q40, q41, q42, q43, q44, q45, q46, q47, q48, q49, v50, v51, hv9, e_ws4, f_0_ws4, f_1_ws4, f_2_ws4, f_3_ws4, f_4_ws4, f_5_ws4, f_6_ws4, f_7_ws4, f_8_ws4, f_9_ws4, f_10_ws4, f_11_ws4, f_12_ws4, f_13_ws4, f_14_ws4, f_15_ws4, f_16_ws4, f_17_ws4, f_18_ws4, f_19_ws4, f_20_ws4, f_21_ws4, f_22_ws4, f_23_ws4, f_24_ws4, f_25_ws4, f_26_ws4, f_27_ws4, f_28_ws4, f_29_ws4, f_30_ws4, f_31_ws4, f_32_ws4, f_33_ws4, f_34_ws4, f_35_ws4, f_36_ws4, f_37_ws4, f_38_ws4, f_39_ws4, f_40_ws4, f_41_ws4, f_42_ws4, f_43_ws4, f_44_ws4, f_45_ws4⟩
    cases hv9
    have f_0_ws4 : ws4[0]? = some ((q1, Sum.inr (0, [Value.ref q5, Value.ref q9, Value.ref q12, Value.ref q24, Value.ref q29, Value.ref q16, Value.ref q20, Value.int 0, Value.int 0, Value.int 0, Value.int 16, Value.int 4, Value.int 0, Value.int 0, Value.int 0, Value.int 0, Value.int 0, Value.int (-1)])) : Nat × va_E) := f_0_ws4
    have f_1_ws4 : ws4[1]? = some ((q5, Sum.inr (1, [Value.ref q6, Value.ref q7, Value.ref q8, Value.int 0])) : Nat × va_E) := f_1_ws4
    have f_2_ws4 : ws4[2]? = some ((q6, Sum.inl (cI, 4096, Sum.inl (fun _ => 0))) : Nat × va_E) := f_2_ws4
    have f_3_ws4 : ws4[3]? = some ((q7, Sum.inl (cI, 4096, Sum.inl (fun _ => 0))) : Nat × va_E) := f_3_ws4
    have f_4_ws4 : ws4[4]? = some ((q8, Sum.inl (cI, 4096, Sum.inl (fun _ => 0))) : Nat × va_E) := f_4_ws4
    have f_5_ws4 : ws4[5]? = some ((q9, Sum.inr (2, [Value.ref q10, Value.ref q11, Value.int 0, Value.int 0])) : Nat × va_E) := f_5_ws4
    have f_6_ws4 : ws4[6]? = some ((q10, Sum.inr (3, [v50, Value.int 0, Value.int 0])) : Nat × va_E) := f_6_ws4
    have f_7_ws4 : ws4[7]? = some ((q11, Sum.inr (3, [v51, Value.int 0, Value.int 0])) : Nat × va_E) := f_7_ws4
    have f_8_ws4 : ws4[8]? = some ((q12, Sum.inr (4, [Value.ref q13, Value.ref q14, Value.ref q15, Value.null, Value.int 0, Value.int 0])) : Nat × va_E) := f_8_ws4
    have f_9_ws4 : ws4[9]? = some ((q13, Sum.inl (cF, 4096, Sum.inr (Sum.inr (Sum.inr (Sum.inr (fun _ => none)))))) : Nat × va_E) := f_9_ws4
    have f_10_ws4 : ws4[10]? = some ((q14, Sum.inl (cF, 4096, Sum.inr (Sum.inr (Sum.inr (Sum.inr (fun _ => none)))))) : Nat × va_E) := f_10_ws4
    have f_11_ws4 : ws4[11]? = some ((q15, Sum.inl (cZ, 4096, Sum.inl (fun _ => 0))) : Nat × va_E) := f_11_ws4
    have f_12_ws4 : ws4[12]? = some ((q16, Sum.inr (4, [Value.ref q17, Value.ref q18, Value.ref q19, Value.null, Value.int 0, Value.int 0])) : Nat × va_E) := f_12_ws4
    have f_13_ws4 : ws4[13]? = some ((q17, Sum.inl (cF, 4096, Sum.inr (Sum.inr (Sum.inr (Sum.inr (fun _ => none)))))) : Nat × va_E) := f_13_ws4
    have f_14_ws4 : ws4[14]? = some ((q18, Sum.inl (cF, 4096, Sum.inr (Sum.inr (Sum.inr (Sum.inr (fun _ => none)))))) : Nat × va_E) := f_14_ws4
    have f_15_ws4 : ws4[15]? = some ((q19, Sum.inl (cZ, 4096, Sum.inl (fun _ => 0))) : Nat × va_E) := f_15_ws4
    have f_16_ws4 : ws4[16]? = some ((q20, Sum.inr (4, [Value.ref q21, Value.ref q22, Value.ref q23, Value.null, Value.int 0, Value.int 0])) : Nat × va_E) := f_16_ws4
    have f_17_ws4 : ws4[17]? = some ((q21, Sum.inl (cF, 4096, Sum.inr (Sum.inr (Sum.inr (Sum.inr (fun _ => none)))))) : Nat × va_E) := f_17_ws4
    have f_18_ws4 : ws4[18]? = some ((q22, Sum.inl (cF, 4096, Sum.inr (Sum.inr (Sum.inr (Sum.inr (fun _ => none)))))) : Nat × va_E) := f_18_ws4
    have f_19_ws4 : ws4[19]? = some ((q23, Sum.inl (cZ, 4096, Sum.inl (fun _ => 0))) : Nat × va_E) := f_19_ws4
    have f_20_ws4 : ws4[20]? = some ((q24, Sum.inl (cM, 4, Sum.inr (Sum.inr (Sum.inr (Sum.inr (va_up (va_up (va_up (va_up (fun _ => none) 0 (some q25)) 1 (some q26)) 2 (some q27)) 3 (some q28))))))) : Nat × va_E) := f_20_ws4
    have f_21_ws4 : ws4[21]? = some ((q25, Sum.inr (5, [Value.int 0, Value.int 0, Value.int 0, Value.null])) : Nat × va_E) := f_21_ws4
    have f_22_ws4 : ws4[22]? = some ((q26, Sum.inr (5, [Value.int 0, Value.int 0, Value.int 0, Value.null])) : Nat × va_E) := f_22_ws4
    have f_23_ws4 : ws4[23]? = some ((q27, Sum.inr (5, [Value.int 0, Value.int 0, Value.int 0, Value.null])) : Nat × va_E) := f_23_ws4
    have f_24_ws4 : ws4[24]? = some ((q28, Sum.inr (5, [Value.int 0, Value.int 0, Value.int 0, Value.null])) : Nat × va_E) := f_24_ws4
    have f_25_ws4 : ws4[25]? = some ((q29, Sum.inl (cR, 4, Sum.inr (Sum.inr (Sum.inr (Sum.inr (va_up (va_up (va_up (va_up (fun _ => none) 0 (some q30)) 1 (some q35)) 2 (some q40)) 3 (some q45))))))) : Nat × va_E) := f_25_ws4
    have f_26_ws4 : ws4[26]? = some ((q30, Sum.inr (6, [Value.ref q31, Value.int 0, Value.int 0])) : Nat × va_E) := f_26_ws4
    have f_27_ws4 : ws4[27]? = some ((q31, Sum.inr (4, [Value.ref q32, Value.ref q33, Value.ref q34, Value.null, Value.int 0, Value.int 0])) : Nat × va_E) := f_27_ws4
    have f_28_ws4 : ws4[28]? = some ((q32, Sum.inl (cF, 4096, Sum.inr (Sum.inr (Sum.inr (Sum.inr (fun _ => none)))))) : Nat × va_E) := f_28_ws4
    have f_29_ws4 : ws4[29]? = some ((q33, Sum.inl (cF, 4096, Sum.inr (Sum.inr (Sum.inr (Sum.inr (fun _ => none)))))) : Nat × va_E) := f_29_ws4
    have f_30_ws4 : ws4[30]? = some ((q34, Sum.inl (cZ, 4096, Sum.inl (fun _ => 0))) : Nat × va_E) := f_30_ws4
    have f_31_ws4 : ws4[31]? = some ((q35, Sum.inr (6, [Value.ref q36, Value.int 0, Value.int 0])) : Nat × va_E) := f_31_ws4
    have f_32_ws4 : ws4[32]? = some ((q36, Sum.inr (4, [Value.ref q37, Value.ref q38, Value.ref q39, Value.null, Value.int 0, Value.int 0])) : Nat × va_E) := f_32_ws4
    have f_33_ws4 : ws4[33]? = some ((q37, Sum.inl (cF, 4096, Sum.inr (Sum.inr (Sum.inr (Sum.inr (fun _ => none)))))) : Nat × va_E) := f_33_ws4
    have f_34_ws4 : ws4[34]? = some ((q38, Sum.inl (cF, 4096, Sum.inr (Sum.inr (Sum.inr (Sum.inr (fun _ => none)))))) : Nat × va_E) := f_34_ws4
    have f_35_ws4 : ws4[35]? = some ((q39, Sum.inl (cZ, 4096, Sum.inl (fun _ => 0))) : Nat × va_E) := f_35_ws4
    have f_36_ws4 : ws4[36]? = some ((q40, Sum.inr (6, [Value.ref q41, Value.int 0, Value.int 0])) : Nat × va_E) := f_36_ws4
    have f_37_ws4 : ws4[37]? = some ((q41, Sum.inr (4, [Value.ref q42, Value.ref q43, Value.ref q44, Value.null, Value.int 0, Value.int 0])) : Nat × va_E) := f_37_ws4
    have f_38_ws4 : ws4[38]? = some ((q42, Sum.inl (cF, 4096, Sum.inr (Sum.inr (Sum.inr (Sum.inr (fun _ => none)))))) : Nat × va_E) := f_38_ws4
    have f_39_ws4 : ws4[39]? = some ((q43, Sum.inl (cF, 4096, Sum.inr (Sum.inr (Sum.inr (Sum.inr (fun _ => none)))))) : Nat × va_E) := f_39_ws4
    have f_40_ws4 : ws4[40]? = some ((q44, Sum.inl (cZ, 4096, Sum.inl (fun _ => 0))) : Nat × va_E) := f_40_ws4
    have f_41_ws4 : ws4[41]? = some ((q45, Sum.inr (6, [Value.ref q46, Value.int 0, Value.int 0])) : Nat × va_E) := f_41_ws4
    have f_42_ws4 : ws4[42]? = some ((q46, Sum.inr (4, [Value.ref q47, Value.ref q48, Value.ref q49, Value.null, Value.int 0, Value.int 0])) : Nat × va_E) := f_42_ws4
    have f_43_ws4 : ws4[43]? = some ((q47, Sum.inl (cF, 4096, Sum.inr (Sum.inr (Sum.inr (Sum.inr (fun _ => none)))))) : Nat × va_E) := f_43_ws4
    have f_44_ws4 : ws4[44]? = some ((q48, Sum.inl (cF, 4096, Sum.inr (Sum.inr (Sum.inr (Sum.inr (fun _ => none)))))) : Nat × va_E) := f_44_ws4
    have f_45_ws4 : ws4[45]? = some ((q49, Sum.inl (cZ, 4096, Sum.inl (fun _ => 0))) : Nat × va_E) := f_45_ws4
    replace hlen : ws4.length = 46 := by rw [e_ws4.1, hlen]
    replace hU : gx_g ws ws4 46 [] := hU.call e_ws4 (by rw [hlen0]; decide)
    refine W.eq (g2 := F0 m 7 ls [Value.ref q1]) rfl ?_
    refine W.widen (k := 46) (n := 200018) (by decide) (by decide) ?_
    generalize t3.heap = H at hP hS ⊢
    generalize [] ++ L3 = locs at hS ⊢
    refine lv_astore_n (lv' := [(1, Value.ref q1), (0, Value.ref b)]) hx hb d_Lw_law_7 rfl hl (by decide) rfl (fun ls hl => ?_)
    refine va_new (ci := 8) (fs := [Value.int 0, Value.int 0, Value.null, Value.null, Value.null, Value.int 0, Value.null, Value.null, Value.null, Value.null, Value.int 0, Value.int 0, Value.int 0, Value.int 0, Value.int 0, Value.null, Value.null, Value.null, Value.int 0, Value.int 0, Value.int 0, Value.null, Value.null, Value.int 0, Value.int 0, Value.int 0, Value.null, Value.null, Value.null, Value.null, Value.int 0, Value.null, Value.int 0, Value.int 0, Value.int 0]) (C := "CommitLedgerModel") (T := F_Mo) (N := 35) hx hb hts i_Mo t_Mo t_Mo_ok hown (hts _ kk_Lw_89) (hts _ kX_Mo) (hts _ kN_Mo) hK hP hD hS hA rfl (by decide) (Nat.le_of_ble_eq_true rfl) (Nat.le_of_ble_eq_true rfl) d_Lw_law_8 (fun q52 H hP9 hD9 hS9 => ?_)
    obtain ⟨ws53, e_ws53⟩ : ∃ x : va_W, x = ws4 ++ [((q52, Sum.inr (8, [Value.int 0, Value.int 0, Value.null, Value.null, Value.null, Value.int 0, Value.null, Value.null, Value.null, Value.null, Value.int 0, Value.int 0, Value.int 0, Value.int 0, Value.int 0, Value.null, Value.null, Value.null, Value.int 0, Value.int 0, Value.int 0, Value.null, Value.null, Value.int 0, Value.int 0, Value.int 0, Value.null, Value.null, Value.null, Value.null, Value.int 0, Value.null, Value.int 0, Value.int 0, Value.int 0])) : Nat × va_E)] := ⟨_, rfl⟩
    replace hP : va_P D classes ws53 H := by rw [e_ws53]; exact hP9
    replace hD : va_D A ws53 := by rw [e_ws53]; exact hD9
    replace hS := hS9
    clear hP9 hD9 hS9
    have f_46_ws53 : ws53[46]? = some ((q52, Sum.inr (8, [Value.int 0, Value.int 0, Value.null, Value.null, Value.null, Value.int 0, Value.null, Value.null, Value.null, Value.null, Value.int 0, Value.int 0, Value.int 0, Value.int 0, Value.int 0, Value.null, Value.null, Value.null, Value.int 0, Value.int 0, Value.int 0, Value.null, Value.null, Value.int 0, Value.int 0, Value.int 0, Value.null, Value.null, Value.null, Value.null, Value.int 0, Value.null, Value.int 0, Value.int 0, Value.int 0])) : Nat × va_E) := by rw [e_ws53]; exact gs_last hlen
    replace hlen : ws53.length = 47 := by rw [e_ws53]; exact gs_len hlen
    replace hU : gx_g ws ws53 47 [] := by rw [e_ws53]; exact hU.push
    refine W.widen (k := 47) (n := 200053) (by decide) (by decide) ?_
    refine lv_dup hx hb d_Lw_law_11 rfl ?_
    refine gx_call (ig := .invokespecial 91) (c_Mo_init l htr D tys z _ ws53 cI cZ cV q52 f_46_ws53 ht0 ht1 ht5 hlen) (gx_invI (As := []) (rest := [Value.ref q52]) hx hb hown hts km_Lw_91 kI_Mo_init kc_Mo_init (by decide) rfl (show (parseMethodDescriptor y_Mo_init.desc).map (fun d => d.parameters.length) = some 0 by decide +kernel) rfl rfl d_Lw_law_12) (gx_cw (z := 0) hts kc_Mo_init kN_Mo rfl rfl ⟨Nat.le_of_ble_eq_true rfl, Nat.le_of_ble_eq_true rfl⟩) hb hml gx_blind (gx_pre hz hP hK hD hY hS hAz [Value.ref q52]) rfl hl.1 (lv_room (Nat.le_of_ble_eq_true rfl)) d_Lw_law_12 ⟨Nat.le_of_ble_eq_true rfl, Nat.le_of_ble_eq_true rfl⟩ (fun v54 st54 t54 L54 h0_54 hW_54 hQ_54 hL_54 => ?_) (fun v54 st54 t54 L54 h0_54 hW_54 hQ_54 hL_54 => ?_)
    · obtain ⟨ws55, hp, hP9, -, hD9, hS9⟩ := gx_back h0_54 hW_54 hQ_54 hL_54 hD hS hA
      clear hQ_54 h0_54 hL_54 hW_54 hP hD hS
      have hP := hP9
      have hD := hD9
      have hS := hS9
      clear hP9 hD9 hS9
      rcases hp with ⟨q56, q57, q58, q59, q60, q61, q62, q63, q64, q65, q66, q67, q68, q69, q70, q71, q72, q73, q74, q75, q76, q77, q78, q79, q80, q81, q82, q83, q84, q85, q86, q87, q88, q89, q90, q91, q92, q93, q94, q95, q96, q97, q98, q99, q100, q101, q102, q103, q104, q105, q106, q107, q108, q109, q110, q111, q112, q113, q114, q115, q116, q117, q118, q119, q120, q121, q122, q123, q124, v125, hv9, e_ws55, f_46_ws55, f_47_ws55, f_48_ws55, f_49_ws55, f_78_ws55, f_50_ws55, f_51_ws55, f_52_ws55, f_53_ws55, f_79_ws55, f_80_ws55, f_81_ws55, f_82_ws55, f_54_ws55, f_55_ws55, f_56_ws55, f_57_ws55, f_58_ws55, f_59_ws55, f_60_ws55, f_61_ws55, f_62_ws55, f_63_ws55, f_64_ws55, f_65_ws55, f_66_ws55, f_67_ws55, f_68_ws55, f_69_ws55, f_70_ws55, f_71_ws55, f_72_ws55, f_73_ws55, f_74_ws55, f_75_ws55, f_76_ws55, f_77_ws55, f_84_ws55, f_85_ws55, f_86_ws55, f_87_ws55, f_88_ws55, f_89_ws55, f_90_ws55, f_91_ws55, f_92_ws55, f_93_ws55, f_94_ws55, f_95_ws55, f_96_ws55, f_97_ws55, f_98_ws55, f_99_ws55, f_100_ws55, f_101_ws55, f_102_ws55, f_103_ws55, f_104_ws55, f_105_ws55, f_106_ws55, f_107_ws55, f_108_ws55, f_109_ws55, f_110_ws55, f_111_ws55, f_112_ws55, f_113_ws55, f_114_ws55, f_115_ws55, f_83_ws55⟩
      cases hv9
      have f_46_ws55 : ws55[46]? = some ((q52, Sum.inr (8, [Value.int 0, Value.int 0, Value.ref q56, Value.ref q57, Value.ref q58, Value.int 0, Value.ref q59, Value.ref q60, Value.ref q61, Value.ref q62, Value.int 0, Value.int 0, Value.int 0, Value.int (-1), Value.int 0, Value.ref q63, Value.ref q71, Value.ref q79, Value.int 0, Value.int 0, Value.int 0, Value.ref q87, Value.ref q88, Value.int 0, Value.int 16, Value.int 4, v125, Value.ref q89, Value.ref q90, Value.ref q91, Value.int 0, Value.ref q92, Value.int 0, Value.int 0, Value.int 0])) : Nat × va_E) := f_46_ws55
      have f_47_ws55 : ws55[47]? = some ((q56, Sum.inl (cI, 4096, Sum.inl (fun _ => 0))) : Nat × va_E) := f_47_ws55
      have f_48_ws55 : ws55[48]? = some ((q57, Sum.inl (cI, 4096, Sum.inl (fun _ => 0))) : Nat × va_E) := f_48_ws55
      have f_49_ws55 : ws55[49]? = some ((q58, Sum.inl (cI, 4096, Sum.inl (fun _ => 0))) : Nat × va_E) := f_49_ws55
      have f_78_ws55 : ws55[78]? = some ((q87, Sum.inl (cI, 4096, Sum.inl (fun _ => 0))) : Nat × va_E) := f_78_ws55
      have f_50_ws55 : ws55[50]? = some ((q59, Sum.inl (cI, 60000, Sum.inl (fun _ => 0))) : Nat × va_E) := f_50_ws55
      have f_51_ws55 : ws55[51]? = some ((q60, Sum.inl (cZ, 60000, Sum.inl (fun _ => 0))) : Nat × va_E) := f_51_ws55
      have f_52_ws55 : ws55[52]? = some ((q61, Sum.inl (cZ, 60000, Sum.inl (fun _ => 0))) : Nat × va_E) := f_52_ws55
      have f_53_ws55 : ws55[53]? = some ((q62, Sum.inl (cZ, 60000, Sum.inl (fun _ => 0))) : Nat × va_E) := f_53_ws55
      have f_79_ws55 : ws55[79]? = some ((q88, Sum.inl (cZ, 4096, Sum.inl (fun _ => 0))) : Nat × va_E) := f_79_ws55
      have f_80_ws55 : ws55[80]? = some ((q89, Sum.inl (cI, 4, Sum.inl (fun _ => 0))) : Nat × va_E) := f_80_ws55
      have f_81_ws55 : ws55[81]? = some ((q90, Sum.inl (cI, 4, Sum.inl (fun _ => 0))) : Nat × va_E) := f_81_ws55
      have f_82_ws55 : ws55[82]? = some ((q91, Sum.inl (cI, 4, Sum.inl (fun _ => 0))) : Nat × va_E) := f_82_ws55
      have f_54_ws55 : ws55[54]? = some ((q63, Sum.inr (9, [Value.ref q64, Value.ref q65, Value.ref q66, Value.ref q67, Value.ref q68, Value.ref q69, Value.ref q70, Value.int 0, Value.int 0, Value.int 0, Value.int 0])) : Nat × va_E) := f_54_ws55
      have f_55_ws55 : ws55[55]? = some ((q64, Sum.inl (cI, 4097, Sum.inl (fun _ => 0))) : Nat × va_E) := f_55_ws55
      have f_56_ws55 : ws55[56]? = some ((q65, Sum.inl (cI, 4097, Sum.inl (fun _ => 0))) : Nat × va_E) := f_56_ws55
      have f_57_ws55 : ws55[57]? = some ((q66, Sum.inl (cI, 4098, Sum.inl (fun _ => 0))) : Nat × va_E) := f_57_ws55
      have f_58_ws55 : ws55[58]? = some ((q67, Sum.inl (cI, 4097, Sum.inl (fun _ => 0))) : Nat × va_E) := f_58_ws55
      have f_59_ws55 : ws55[59]? = some ((q68, Sum.inl (cI, 4096, Sum.inl (fun _ => 0))) : Nat × va_E) := f_59_ws55
      have f_60_ws55 : ws55[60]? = some ((q69, Sum.inl (cZ, 4096, Sum.inl (fun _ => 0))) : Nat × va_E) := f_60_ws55
      have f_61_ws55 : ws55[61]? = some ((q70, Sum.inl (cZ, 4096, Sum.inl (fun _ => 0))) : Nat × va_E) := f_61_ws55
      have f_62_ws55 : ws55[62]? = some ((q71, Sum.inr (9, [Value.ref q72, Value.ref q73, Value.ref q74, Value.ref q75, Value.ref q76, Value.ref q77, Value.ref q78, Value.int 0, Value.int 0, Value.int 0, Value.int 0])) : Nat × va_E) := f_62_ws55
      have f_63_ws55 : ws55[63]? = some ((q72, Sum.inl (cI, 4097, Sum.inl (fun _ => 0))) : Nat × va_E) := f_63_ws55
      have f_64_ws55 : ws55[64]? = some ((q73, Sum.inl (cI, 4097, Sum.inl (fun _ => 0))) : Nat × va_E) := f_64_ws55
      have f_65_ws55 : ws55[65]? = some ((q74, Sum.inl (cI, 4098, Sum.inl (fun _ => 0))) : Nat × va_E) := f_65_ws55
      have f_66_ws55 : ws55[66]? = some ((q75, Sum.inl (cI, 4097, Sum.inl (fun _ => 0))) : Nat × va_E) := f_66_ws55
      have f_67_ws55 : ws55[67]? = some ((q76, Sum.inl (cI, 4096, Sum.inl (fun _ => 0))) : Nat × va_E) := f_67_ws55
      have f_68_ws55 : ws55[68]? = some ((q77, Sum.inl (cZ, 4096, Sum.inl (fun _ => 0))) : Nat × va_E) := f_68_ws55
      have f_69_ws55 : ws55[69]? = some ((q78, Sum.inl (cZ, 4096, Sum.inl (fun _ => 0))) : Nat × va_E) := f_69_ws55
      have f_70_ws55 : ws55[70]? = some ((q79, Sum.inr (9, [Value.ref q80, Value.ref q81, Value.ref q82, Value.ref q83, Value.ref q84, Value.ref q85, Value.ref q86, Value.int 0, Value.int 0, Value.int 0, Value.int 0])) : Nat × va_E) := f_70_ws55
      have f_71_ws55 : ws55[71]? = some ((q80, Sum.inl (cI, 4097, Sum.inl (fun _ => 0))) : Nat × va_E) := f_71_ws55
      have f_72_ws55 : ws55[72]? = some ((q81, Sum.inl (cI, 4097, Sum.inl (fun _ => 0))) : Nat × va_E) := f_72_ws55
      have f_73_ws55 : ws55[73]? = some ((q82, Sum.inl (cI, 4098, Sum.inl (fun _ => 0))) : Nat × va_E) := f_73_ws55
      have f_74_ws55 : ws55[74]? = some ((q83, Sum.inl (cI, 4097, Sum.inl (fun _ => 0))) : Nat × va_E) := f_74_ws55
      have f_75_ws55 : ws55[75]? = some ((q84, Sum.inl (cI, 4096, Sum.inl (fun _ => 0))) : Nat × va_E) := f_75_ws55
      have f_76_ws55 : ws55[76]? = some ((q85, Sum.inl (cZ, 4096, Sum.inl (fun _ => 0))) : Nat × va_E) := f_76_ws55
      have f_77_ws55 : ws55[77]? = some ((q86, Sum.inl (cZ, 4096, Sum.inl (fun _ => 0))) : Nat × va_E) := f_77_ws55
      have f_84_ws55 : ws55[84]? = some ((q93, Sum.inr (9, [Value.ref q94, Value.ref q95, Value.ref q96, Value.ref q97, Value.ref q98, Value.ref q99, Value.ref q100, Value.int 0, Value.int 0, Value.int 0, Value.int 0])) : Nat × va_E) := f_84_ws55
      have f_85_ws55 : ws55[85]? = some ((q94, Sum.inl (cI, 4097, Sum.inl (fun _ => 0))) : Nat × va_E) := f_85_ws55
      have f_86_ws55 : ws55[86]? = some ((q95, Sum.inl (cI, 4097, Sum.inl (fun _ => 0))) : Nat × va_E) := f_86_ws55
      have f_87_ws55 : ws55[87]? = some ((q96, Sum.inl (cI, 4098, Sum.inl (fun _ => 0))) : Nat × va_E) := f_87_ws55
      have f_88_ws55 : ws55[88]? = some ((q97, Sum.inl (cI, 4097, Sum.inl (fun _ => 0))) : Nat × va_E) := f_88_ws55
      have f_89_ws55 : ws55[89]? = some ((q98, Sum.inl (cI, 4096, Sum.inl (fun _ => 0))) : Nat × va_E) := f_89_ws55
      have f_90_ws55 : ws55[90]? = some ((q99, Sum.inl (cZ, 4096, Sum.inl (fun _ => 0))) : Nat × va_E) := f_90_ws55
      have f_91_ws55 : ws55[91]? = some ((q100, Sum.inl (cZ, 4096, Sum.inl (fun _ => 0))) : Nat × va_E) := f_91_ws55
      have f_92_ws55 : ws55[92]? = some ((q101, Sum.inr (9, [Value.ref q102, Value.ref q103, Value.ref q104, Value.ref q105, Value.ref q106, Value.ref q107, Value.ref q108, Value.int 0, Value.int 0, Value.int 0, Value.int 0])) : Nat × va_E) := f_92_ws55
      have f_93_ws55 : ws55[93]? = some ((q102, Sum.inl (cI, 4097, Sum.inl (fun _ => 0))) : Nat × va_E) := f_93_ws55
      have f_94_ws55 : ws55[94]? = some ((q103, Sum.inl (cI, 4097, Sum.inl (fun _ => 0))) : Nat × va_E) := f_94_ws55
      have f_95_ws55 : ws55[95]? = some ((q104, Sum.inl (cI, 4098, Sum.inl (fun _ => 0))) : Nat × va_E) := f_95_ws55
      have f_96_ws55 : ws55[96]? = some ((q105, Sum.inl (cI, 4097, Sum.inl (fun _ => 0))) : Nat × va_E) := f_96_ws55
      have f_97_ws55 : ws55[97]? = some ((q106, Sum.inl (cI, 4096, Sum.inl (fun _ => 0))) : Nat × va_E) := f_97_ws55
      have f_98_ws55 : ws55[98]? = some ((q107, Sum.inl (cZ, 4096, Sum.inl (fun _ => 0))) : Nat × va_E) := f_98_ws55
      have f_99_ws55 : ws55[99]? = some ((q108, Sum.inl (cZ, 4096, Sum.inl (fun _ => 0))) : Nat × va_E) := f_99_ws55
      have f_100_ws55 : ws55[100]? = some ((q109, Sum.inr (9, [Value.ref q110, Value.ref q111, Value.ref q112, Value.ref q113, Value.ref q114, Value.ref q115, Value.ref q116, Value.int 0, Value.int 0, Value.int 0, Value.int 0])) : Nat × va_E) := f_100_ws55
      have f_101_ws55 : ws55[101]? = some ((q110, Sum.inl (cI, 4097, Sum.inl (fun _ => 0))) : Nat × va_E) := f_101_ws55
      have f_102_ws55 : ws55[102]? = some ((q111, Sum.inl (cI, 4097, Sum.inl (fun _ => 0))) : Nat × va_E) := f_102_ws55
      have f_103_ws55 : ws55[103]? = some ((q112, Sum.inl (cI, 4098, Sum.inl (fun _ => 0))) : Nat × va_E) := f_103_ws55
      have f_104_ws55 : ws55[104]? = some ((q113, Sum.inl (cI, 4097, Sum.inl (fun _ => 0))) : Nat × va_E) := f_104_ws55
      have f_105_ws55 : ws55[105]? = some ((q114, Sum.inl (cI, 4096, Sum.inl (fun _ => 0))) : Nat × va_E) := f_105_ws55
      have f_106_ws55 : ws55[106]? = some ((q115, Sum.inl (cZ, 4096, Sum.inl (fun _ => 0))) : Nat × va_E) := f_106_ws55
      have f_107_ws55 : ws55[107]? = some ((q116, Sum.inl (cZ, 4096, Sum.inl (fun _ => 0))) : Nat × va_E) := f_107_ws55
      have f_108_ws55 : ws55[108]? = some ((q117, Sum.inr (9, [Value.ref q118, Value.ref q119, Value.ref q120, Value.ref q121, Value.ref q122, Value.ref q123, Value.ref q124, Value.int 0, Value.int 0, Value.int 0, Value.int 0])) : Nat × va_E) := f_108_ws55
      have f_109_ws55 : ws55[109]? = some ((q118, Sum.inl (cI, 4097, Sum.inl (fun _ => 0))) : Nat × va_E) := f_109_ws55
      have f_110_ws55 : ws55[110]? = some ((q119, Sum.inl (cI, 4097, Sum.inl (fun _ => 0))) : Nat × va_E) := f_110_ws55
      have f_111_ws55 : ws55[111]? = some ((q120, Sum.inl (cI, 4098, Sum.inl (fun _ => 0))) : Nat × va_E) := f_111_ws55
      have f_112_ws55 : ws55[112]? = some ((q121, Sum.inl (cI, 4097, Sum.inl (fun _ => 0))) : Nat × va_E) := f_112_ws55
      have f_113_ws55 : ws55[113]? = some ((q122, Sum.inl (cI, 4096, Sum.inl (fun _ => 0))) : Nat × va_E) := f_113_ws55
      have f_114_ws55 : ws55[114]? = some ((q123, Sum.inl (cZ, 4096, Sum.inl (fun _ => 0))) : Nat × va_E) := f_114_ws55
      have f_115_ws55 : ws55[115]? = some ((q124, Sum.inl (cZ, 4096, Sum.inl (fun _ => 0))) : Nat × va_E) := f_115_ws55
      have f_83_ws55 : ws55[83]? = some ((q92, Sum.inl (cV, 4, Sum.inr (Sum.inr (Sum.inr (Sum.inr (va_up (va_up (va_up (va_up (fun _ => none) 0 (some q93)) 1 (some q101)) 2 (some q109)) 3 (some q117))))))) : Nat × va_E) := f_83_ws55
      replace hlen : ws55.length = 116 := by rw [e_ws55.1, hlen]
      replace hU : gx_g ws ws55 116 [] := hU.call e_ws55 (by rw [hlen0]; decide)
      refine W.eq (g2 := F0 m 15 ls [Value.ref q52]) rfl ?_
      refine W.widen (k := 121) (n := 677753) (by decide) (by decide) ?_
      generalize t54.heap = H at hP hS ⊢
      generalize locs ++ L54 = locs at hS ⊢
      refine lv_astore_n (lv' := [(2, Value.ref q52), (1, Value.ref q1), (0, Value.ref b)]) hx hb d_Lw_law_15 rfl hl (by decide) rfl (fun ls hl => ?_)
      refine lv_iconst (v := 1) hx hb d_Lw_law_16 (by decide) ?_
      refine gx_newa (atype := .long) (ty := .long) (N' := 1) (a0 := (1, Sum.inr (Sum.inl (fun _ => 0)))) hx hb (hts _ kA_long) rfl hK hP hD hS hA 6 ht6 (fun _ => rfl) (by decide) (by decide) (by decide) (Nat.le_of_ble_eq_true rfl) (Nat.le_of_ble_eq_true rfl) d_Lw_law_17 (fun q126 H hP9 hD9 hS9 => ?_)
      obtain ⟨ws127, e_ws127⟩ : ∃ x : va_W, x = ws55 ++ [((q126, Sum.inl (cJ, 1, Sum.inr (Sum.inl (fun _ => 0)))) : Nat × va_E)] := ⟨_, rfl⟩
      replace hP : va_P D classes ws127 H := by rw [e_ws127]; exact hP9
      replace hD : va_D A ws127 := by rw [e_ws127]; exact hD9
      replace hS := hS9
      clear hP9 hD9 hS9
      have f_116_ws127 : ws127[116]? = some ((q126, Sum.inl (cJ, 1, Sum.inr (Sum.inl (fun _ => 0)))) : Nat × va_E) := by rw [e_ws127]; exact gs_last hlen
      replace hlen : ws127.length = 117 := by rw [e_ws127]; exact gs_len hlen
      replace hU : gx_g ws ws127 117 [] := by rw [e_ws127]; exact hU.push
      refine W.widen (k := 122) (n := 677754) (by decide) (by decide) ?_
      refine lv_astore_n (lv' := [(3, Value.ref q126), (2, Value.ref q52), (1, Value.ref q1), (0, Value.ref b)]) hx hb d_Lw_law_19 rfl hl (by decide) rfl (fun ls hl => ?_)
      refine lv_iconst (v := 0) hx hb d_Lw_law_20 (by decide) ?_
      refine lv_istore (lv' := [(4, Value.int 0), (3, Value.ref q126), (2, Value.ref q52), (1, Value.ref q1), (0, Value.ref b)]) hx hb d_Lw_law_21 hl (by decide) rfl (fun ls hl => ?_)
      have f_0_ws53 : ws53[0]? = some ((q1, Sum.inr (0, [Value.ref q5, Value.ref q9, Value.ref q12, Value.ref q24, Value.ref q29, Value.ref q16, Value.ref q20, Value.int 0, Value.int 0, Value.int 0, Value.int 16, Value.int 4, Value.int 0, Value.int 0, Value.int 0, Value.int 0, Value.int 0, Value.int (-1)])) : Nat × va_E) := by rw [e_ws53]; exact gs_app f_0_ws4
      clear f_0_ws4
      have f_0_ws55 : ws55[0]? = some ((q1, Sum.inr (0, [Value.ref q5, Value.ref q9, Value.ref q12, Value.ref q24, Value.ref q29, Value.ref q16, Value.ref q20, Value.int 0, Value.int 0, Value.int 0, Value.int 16, Value.int 4, Value.int 0, Value.int 0, Value.int 0, Value.int 0, Value.int 0, Value.int (-1)])) : Nat × va_E) := e_ws55.at (by first | decide | (simp; done) | (simp; omega)) f_0_ws53
      clear f_0_ws53
      have f_0_ws127 : ws127[0]? = some ((q1, Sum.inr (0, [Value.ref q5, Value.ref q9, Value.ref q12, Value.ref q24, Value.ref q29, Value.ref q16, Value.ref q20, Value.int 0, Value.int 0, Value.int 0, Value.int 16, Value.int 4, Value.int 0, Value.int 0, Value.int 0, Value.int 0, Value.int 0, Value.int (-1)])) : Nat × va_E) := by rw [e_ws127]; exact gs_app f_0_ws55
      clear f_0_ws55
      have f_1_ws53 : ws53[1]? = some ((q5, Sum.inr (1, [Value.ref q6, Value.ref q7, Value.ref q8, Value.int 0])) : Nat × va_E) := by rw [e_ws53]; exact gs_app f_1_ws4
      clear f_1_ws4
      have f_1_ws55 : ws55[1]? = some ((q5, Sum.inr (1, [Value.ref q6, Value.ref q7, Value.ref q8, Value.int 0])) : Nat × va_E) := e_ws55.at (by first | decide | (simp; done) | (simp; omega)) f_1_ws53
      clear f_1_ws53
      have f_1_ws127 : ws127[1]? = some ((q5, Sum.inr (1, [Value.ref q6, Value.ref q7, Value.ref q8, Value.int 0])) : Nat × va_E) := by rw [e_ws127]; exact gs_app f_1_ws55
      clear f_1_ws55
      have f_2_ws53 : ws53[2]? = some ((q6, Sum.inl (cI, 4096, Sum.inl (fun _ => 0))) : Nat × va_E) := by rw [e_ws53]; exact gs_app f_2_ws4
      clear f_2_ws4
      have f_2_ws55 : ws55[2]? = some ((q6, Sum.inl (cI, 4096, Sum.inl (fun _ => 0))) : Nat × va_E) := e_ws55.at (by first | decide | (simp; done) | (simp; omega)) f_2_ws53
      clear f_2_ws53
      have f_2_ws127 : ws127[2]? = some ((q6, Sum.inl (cI, 4096, Sum.inl (fun _ => 0))) : Nat × va_E) := by rw [e_ws127]; exact gs_app f_2_ws55
      clear f_2_ws55
      have f_3_ws53 : ws53[3]? = some ((q7, Sum.inl (cI, 4096, Sum.inl (fun _ => 0))) : Nat × va_E) := by rw [e_ws53]; exact gs_app f_3_ws4
      clear f_3_ws4
      have f_3_ws55 : ws55[3]? = some ((q7, Sum.inl (cI, 4096, Sum.inl (fun _ => 0))) : Nat × va_E) := e_ws55.at (by first | decide | (simp; done) | (simp; omega)) f_3_ws53
      clear f_3_ws53
      have f_3_ws127 : ws127[3]? = some ((q7, Sum.inl (cI, 4096, Sum.inl (fun _ => 0))) : Nat × va_E) := by rw [e_ws127]; exact gs_app f_3_ws55
      clear f_3_ws55
      have f_4_ws53 : ws53[4]? = some ((q8, Sum.inl (cI, 4096, Sum.inl (fun _ => 0))) : Nat × va_E) := by rw [e_ws53]; exact gs_app f_4_ws4
      clear f_4_ws4
      have f_4_ws55 : ws55[4]? = some ((q8, Sum.inl (cI, 4096, Sum.inl (fun _ => 0))) : Nat × va_E) := e_ws55.at (by first | decide | (simp; done) | (simp; omega)) f_4_ws53
      clear f_4_ws53
      have f_4_ws127 : ws127[4]? = some ((q8, Sum.inl (cI, 4096, Sum.inl (fun _ => 0))) : Nat × va_E) := by rw [e_ws127]; exact gs_app f_4_ws55
      clear f_4_ws55
      have f_5_ws53 : ws53[5]? = some ((q9, Sum.inr (2, [Value.ref q10, Value.ref q11, Value.int 0, Value.int 0])) : Nat × va_E) := by rw [e_ws53]; exact gs_app f_5_ws4
      clear f_5_ws4
      have f_5_ws55 : ws55[5]? = some ((q9, Sum.inr (2, [Value.ref q10, Value.ref q11, Value.int 0, Value.int 0])) : Nat × va_E) := e_ws55.at (by first | decide | (simp; done) | (simp; omega)) f_5_ws53
      clear f_5_ws53
      have f_5_ws127 : ws127[5]? = some ((q9, Sum.inr (2, [Value.ref q10, Value.ref q11, Value.int 0, Value.int 0])) : Nat × va_E) := by rw [e_ws127]; exact gs_app f_5_ws55
      clear f_5_ws55
      have f_6_ws53 : ws53[6]? = some ((q10, Sum.inr (3, [v50, Value.int 0, Value.int 0])) : Nat × va_E) := by rw [e_ws53]; exact gs_app f_6_ws4
      clear f_6_ws4
      have f_6_ws55 : ws55[6]? = some ((q10, Sum.inr (3, [v50, Value.int 0, Value.int 0])) : Nat × va_E) := e_ws55.at (by first | decide | (simp; done) | (simp; omega)) f_6_ws53
      clear f_6_ws53
      have f_6_ws127 : ws127[6]? = some ((q10, Sum.inr (3, [v50, Value.int 0, Value.int 0])) : Nat × va_E) := by rw [e_ws127]; exact gs_app f_6_ws55
      clear f_6_ws55
      have f_7_ws53 : ws53[7]? = some ((q11, Sum.inr (3, [v51, Value.int 0, Value.int 0])) : Nat × va_E) := by rw [e_ws53]; exact gs_app f_7_ws4
      clear f_7_ws4
      have f_7_ws55 : ws55[7]? = some ((q11, Sum.inr (3, [v51, Value.int 0, Value.int 0])) : Nat × va_E) := e_ws55.at (by first | decide | (simp; done) | (simp; omega)) f_7_ws53
      clear f_7_ws53
      have f_7_ws127 : ws127[7]? = some ((q11, Sum.inr (3, [v51, Value.int 0, Value.int 0])) : Nat × va_E) := by rw [e_ws127]; exact gs_app f_7_ws55
      clear f_7_ws55
      have f_8_ws53 : ws53[8]? = some ((q12, Sum.inr (4, [Value.ref q13, Value.ref q14, Value.ref q15, Value.null, Value.int 0, Value.int 0])) : Nat × va_E) := by rw [e_ws53]; exact gs_app f_8_ws4
      clear f_8_ws4
      have f_8_ws55 : ws55[8]? = some ((q12, Sum.inr (4, [Value.ref q13, Value.ref q14, Value.ref q15, Value.null, Value.int 0, Value.int 0])) : Nat × va_E) := e_ws55.at (by first | decide | (simp; done) | (simp; omega)) f_8_ws53
      clear f_8_ws53
      have f_8_ws127 : ws127[8]? = some ((q12, Sum.inr (4, [Value.ref q13, Value.ref q14, Value.ref q15, Value.null, Value.int 0, Value.int 0])) : Nat × va_E) := by rw [e_ws127]; exact gs_app f_8_ws55
      clear f_8_ws55
      have f_9_ws53 : ws53[9]? = some ((q13, Sum.inl (cF, 4096, Sum.inr (Sum.inr (Sum.inr (Sum.inr (fun _ => none)))))) : Nat × va_E) := by rw [e_ws53]; exact gs_app f_9_ws4
      clear f_9_ws4
      have f_9_ws55 : ws55[9]? = some ((q13, Sum.inl (cF, 4096, Sum.inr (Sum.inr (Sum.inr (Sum.inr (fun _ => none)))))) : Nat × va_E) := e_ws55.at (by first | decide | (simp; done) | (simp; omega)) f_9_ws53
      clear f_9_ws53
      have f_9_ws127 : ws127[9]? = some ((q13, Sum.inl (cF, 4096, Sum.inr (Sum.inr (Sum.inr (Sum.inr (fun _ => none)))))) : Nat × va_E) := by rw [e_ws127]; exact gs_app f_9_ws55
      clear f_9_ws55
      have f_10_ws53 : ws53[10]? = some ((q14, Sum.inl (cF, 4096, Sum.inr (Sum.inr (Sum.inr (Sum.inr (fun _ => none)))))) : Nat × va_E) := by rw [e_ws53]; exact gs_app f_10_ws4
      clear f_10_ws4
      have f_10_ws55 : ws55[10]? = some ((q14, Sum.inl (cF, 4096, Sum.inr (Sum.inr (Sum.inr (Sum.inr (fun _ => none)))))) : Nat × va_E) := e_ws55.at (by first | decide | (simp; done) | (simp; omega)) f_10_ws53
      clear f_10_ws53
      have f_10_ws127 : ws127[10]? = some ((q14, Sum.inl (cF, 4096, Sum.inr (Sum.inr (Sum.inr (Sum.inr (fun _ => none)))))) : Nat × va_E) := by rw [e_ws127]; exact gs_app f_10_ws55
      clear f_10_ws55
      have f_11_ws53 : ws53[11]? = some ((q15, Sum.inl (cZ, 4096, Sum.inl (fun _ => 0))) : Nat × va_E) := by rw [e_ws53]; exact gs_app f_11_ws4
      clear f_11_ws4
      have f_11_ws55 : ws55[11]? = some ((q15, Sum.inl (cZ, 4096, Sum.inl (fun _ => 0))) : Nat × va_E) := e_ws55.at (by first | decide | (simp; done) | (simp; omega)) f_11_ws53
      clear f_11_ws53
      have f_11_ws127 : ws127[11]? = some ((q15, Sum.inl (cZ, 4096, Sum.inl (fun _ => 0))) : Nat × va_E) := by rw [e_ws127]; exact gs_app f_11_ws55
      clear f_11_ws55
      have f_12_ws53 : ws53[12]? = some ((q16, Sum.inr (4, [Value.ref q17, Value.ref q18, Value.ref q19, Value.null, Value.int 0, Value.int 0])) : Nat × va_E) := by rw [e_ws53]; exact gs_app f_12_ws4
      clear f_12_ws4
      have f_12_ws55 : ws55[12]? = some ((q16, Sum.inr (4, [Value.ref q17, Value.ref q18, Value.ref q19, Value.null, Value.int 0, Value.int 0])) : Nat × va_E) := e_ws55.at (by first | decide | (simp; done) | (simp; omega)) f_12_ws53
      clear f_12_ws53
      have f_12_ws127 : ws127[12]? = some ((q16, Sum.inr (4, [Value.ref q17, Value.ref q18, Value.ref q19, Value.null, Value.int 0, Value.int 0])) : Nat × va_E) := by rw [e_ws127]; exact gs_app f_12_ws55
      clear f_12_ws55
      have f_13_ws53 : ws53[13]? = some ((q17, Sum.inl (cF, 4096, Sum.inr (Sum.inr (Sum.inr (Sum.inr (fun _ => none)))))) : Nat × va_E) := by rw [e_ws53]; exact gs_app f_13_ws4
      clear f_13_ws4
      have f_13_ws55 : ws55[13]? = some ((q17, Sum.inl (cF, 4096, Sum.inr (Sum.inr (Sum.inr (Sum.inr (fun _ => none)))))) : Nat × va_E) := e_ws55.at (by first | decide | (simp; done) | (simp; omega)) f_13_ws53
      clear f_13_ws53
      have f_13_ws127 : ws127[13]? = some ((q17, Sum.inl (cF, 4096, Sum.inr (Sum.inr (Sum.inr (Sum.inr (fun _ => none)))))) : Nat × va_E) := by rw [e_ws127]; exact gs_app f_13_ws55
      clear f_13_ws55
      have f_14_ws53 : ws53[14]? = some ((q18, Sum.inl (cF, 4096, Sum.inr (Sum.inr (Sum.inr (Sum.inr (fun _ => none)))))) : Nat × va_E) := by rw [e_ws53]; exact gs_app f_14_ws4
      clear f_14_ws4
      have f_14_ws55 : ws55[14]? = some ((q18, Sum.inl (cF, 4096, Sum.inr (Sum.inr (Sum.inr (Sum.inr (fun _ => none)))))) : Nat × va_E) := e_ws55.at (by first | decide | (simp; done) | (simp; omega)) f_14_ws53
      clear f_14_ws53
      have f_14_ws127 : ws127[14]? = some ((q18, Sum.inl (cF, 4096, Sum.inr (Sum.inr (Sum.inr (Sum.inr (fun _ => none)))))) : Nat × va_E) := by rw [e_ws127]; exact gs_app f_14_ws55
      clear f_14_ws55
      have f_15_ws53 : ws53[15]? = some ((q19, Sum.inl (cZ, 4096, Sum.inl (fun _ => 0))) : Nat × va_E) := by rw [e_ws53]; exact gs_app f_15_ws4
      clear f_15_ws4
      have f_15_ws55 : ws55[15]? = some ((q19, Sum.inl (cZ, 4096, Sum.inl (fun _ => 0))) : Nat × va_E) := e_ws55.at (by first | decide | (simp; done) | (simp; omega)) f_15_ws53
      clear f_15_ws53
      have f_15_ws127 : ws127[15]? = some ((q19, Sum.inl (cZ, 4096, Sum.inl (fun _ => 0))) : Nat × va_E) := by rw [e_ws127]; exact gs_app f_15_ws55
      clear f_15_ws55
      have f_16_ws53 : ws53[16]? = some ((q20, Sum.inr (4, [Value.ref q21, Value.ref q22, Value.ref q23, Value.null, Value.int 0, Value.int 0])) : Nat × va_E) := by rw [e_ws53]; exact gs_app f_16_ws4
      clear f_16_ws4
      have f_16_ws55 : ws55[16]? = some ((q20, Sum.inr (4, [Value.ref q21, Value.ref q22, Value.ref q23, Value.null, Value.int 0, Value.int 0])) : Nat × va_E) := e_ws55.at (by first | decide | (simp; done) | (simp; omega)) f_16_ws53
      clear f_16_ws53
      have f_16_ws127 : ws127[16]? = some ((q20, Sum.inr (4, [Value.ref q21, Value.ref q22, Value.ref q23, Value.null, Value.int 0, Value.int 0])) : Nat × va_E) := by rw [e_ws127]; exact gs_app f_16_ws55
      clear f_16_ws55
      have f_17_ws53 : ws53[17]? = some ((q21, Sum.inl (cF, 4096, Sum.inr (Sum.inr (Sum.inr (Sum.inr (fun _ => none)))))) : Nat × va_E) := by rw [e_ws53]; exact gs_app f_17_ws4
      clear f_17_ws4
      have f_17_ws55 : ws55[17]? = some ((q21, Sum.inl (cF, 4096, Sum.inr (Sum.inr (Sum.inr (Sum.inr (fun _ => none)))))) : Nat × va_E) := e_ws55.at (by first | decide | (simp; done) | (simp; omega)) f_17_ws53
      clear f_17_ws53
      have f_17_ws127 : ws127[17]? = some ((q21, Sum.inl (cF, 4096, Sum.inr (Sum.inr (Sum.inr (Sum.inr (fun _ => none)))))) : Nat × va_E) := by rw [e_ws127]; exact gs_app f_17_ws55
      clear f_17_ws55
      have f_18_ws53 : ws53[18]? = some ((q22, Sum.inl (cF, 4096, Sum.inr (Sum.inr (Sum.inr (Sum.inr (fun _ => none)))))) : Nat × va_E) := by rw [e_ws53]; exact gs_app f_18_ws4
      clear f_18_ws4
      have f_18_ws55 : ws55[18]? = some ((q22, Sum.inl (cF, 4096, Sum.inr (Sum.inr (Sum.inr (Sum.inr (fun _ => none)))))) : Nat × va_E) := e_ws55.at (by first | decide | (simp; done) | (simp; omega)) f_18_ws53
      clear f_18_ws53
      have f_18_ws127 : ws127[18]? = some ((q22, Sum.inl (cF, 4096, Sum.inr (Sum.inr (Sum.inr (Sum.inr (fun _ => none)))))) : Nat × va_E) := by rw [e_ws127]; exact gs_app f_18_ws55
      clear f_18_ws55
      have f_19_ws53 : ws53[19]? = some ((q23, Sum.inl (cZ, 4096, Sum.inl (fun _ => 0))) : Nat × va_E) := by rw [e_ws53]; exact gs_app f_19_ws4
      clear f_19_ws4
      have f_19_ws55 : ws55[19]? = some ((q23, Sum.inl (cZ, 4096, Sum.inl (fun _ => 0))) : Nat × va_E) := e_ws55.at (by first | decide | (simp; done) | (simp; omega)) f_19_ws53
      clear f_19_ws53
      have f_19_ws127 : ws127[19]? = some ((q23, Sum.inl (cZ, 4096, Sum.inl (fun _ => 0))) : Nat × va_E) := by rw [e_ws127]; exact gs_app f_19_ws55
      clear f_19_ws55
      have f_20_ws53 : ws53[20]? = some ((q24, Sum.inl (cM, 4, Sum.inr (Sum.inr (Sum.inr (Sum.inr (va_up (va_up (va_up (va_up (fun _ => none) 0 (some q25)) 1 (some q26)) 2 (some q27)) 3 (some q28))))))) : Nat × va_E) := by rw [e_ws53]; exact gs_app f_20_ws4
      clear f_20_ws4
      have f_20_ws55 : ws55[20]? = some ((q24, Sum.inl (cM, 4, Sum.inr (Sum.inr (Sum.inr (Sum.inr (va_up (va_up (va_up (va_up (fun _ => none) 0 (some q25)) 1 (some q26)) 2 (some q27)) 3 (some q28))))))) : Nat × va_E) := e_ws55.at (by first | decide | (simp; done) | (simp; omega)) f_20_ws53
      clear f_20_ws53
      have f_20_ws127 : ws127[20]? = some ((q24, Sum.inl (cM, 4, Sum.inr (Sum.inr (Sum.inr (Sum.inr (va_up (va_up (va_up (va_up (fun _ => none) 0 (some q25)) 1 (some q26)) 2 (some q27)) 3 (some q28))))))) : Nat × va_E) := by rw [e_ws127]; exact gs_app f_20_ws55
      clear f_20_ws55
      have f_21_ws53 : ws53[21]? = some ((q25, Sum.inr (5, [Value.int 0, Value.int 0, Value.int 0, Value.null])) : Nat × va_E) := by rw [e_ws53]; exact gs_app f_21_ws4
      clear f_21_ws4
      have f_21_ws55 : ws55[21]? = some ((q25, Sum.inr (5, [Value.int 0, Value.int 0, Value.int 0, Value.null])) : Nat × va_E) := e_ws55.at (by first | decide | (simp; done) | (simp; omega)) f_21_ws53
      clear f_21_ws53
      have f_21_ws127 : ws127[21]? = some ((q25, Sum.inr (5, [Value.int 0, Value.int 0, Value.int 0, Value.null])) : Nat × va_E) := by rw [e_ws127]; exact gs_app f_21_ws55
      clear f_21_ws55
      have f_22_ws53 : ws53[22]? = some ((q26, Sum.inr (5, [Value.int 0, Value.int 0, Value.int 0, Value.null])) : Nat × va_E) := by rw [e_ws53]; exact gs_app f_22_ws4
      clear f_22_ws4
      have f_22_ws55 : ws55[22]? = some ((q26, Sum.inr (5, [Value.int 0, Value.int 0, Value.int 0, Value.null])) : Nat × va_E) := e_ws55.at (by first | decide | (simp; done) | (simp; omega)) f_22_ws53
      clear f_22_ws53
      have f_22_ws127 : ws127[22]? = some ((q26, Sum.inr (5, [Value.int 0, Value.int 0, Value.int 0, Value.null])) : Nat × va_E) := by rw [e_ws127]; exact gs_app f_22_ws55
      clear f_22_ws55
      have f_23_ws53 : ws53[23]? = some ((q27, Sum.inr (5, [Value.int 0, Value.int 0, Value.int 0, Value.null])) : Nat × va_E) := by rw [e_ws53]; exact gs_app f_23_ws4
      clear f_23_ws4
      have f_23_ws55 : ws55[23]? = some ((q27, Sum.inr (5, [Value.int 0, Value.int 0, Value.int 0, Value.null])) : Nat × va_E) := e_ws55.at (by first | decide | (simp; done) | (simp; omega)) f_23_ws53
      clear f_23_ws53
      have f_23_ws127 : ws127[23]? = some ((q27, Sum.inr (5, [Value.int 0, Value.int 0, Value.int 0, Value.null])) : Nat × va_E) := by rw [e_ws127]; exact gs_app f_23_ws55
      clear f_23_ws55
      have f_24_ws53 : ws53[24]? = some ((q28, Sum.inr (5, [Value.int 0, Value.int 0, Value.int 0, Value.null])) : Nat × va_E) := by rw [e_ws53]; exact gs_app f_24_ws4
      clear f_24_ws4
      have f_24_ws55 : ws55[24]? = some ((q28, Sum.inr (5, [Value.int 0, Value.int 0, Value.int 0, Value.null])) : Nat × va_E) := e_ws55.at (by first | decide | (simp; done) | (simp; omega)) f_24_ws53
      clear f_24_ws53
      have f_24_ws127 : ws127[24]? = some ((q28, Sum.inr (5, [Value.int 0, Value.int 0, Value.int 0, Value.null])) : Nat × va_E) := by rw [e_ws127]; exact gs_app f_24_ws55
      clear f_24_ws55
      have f_25_ws53 : ws53[25]? = some ((q29, Sum.inl (cR, 4, Sum.inr (Sum.inr (Sum.inr (Sum.inr (va_up (va_up (va_up (va_up (fun _ => none) 0 (some q30)) 1 (some q35)) 2 (some q40)) 3 (some q45))))))) : Nat × va_E) := by rw [e_ws53]; exact gs_app f_25_ws4
      clear f_25_ws4
      have f_25_ws55 : ws55[25]? = some ((q29, Sum.inl (cR, 4, Sum.inr (Sum.inr (Sum.inr (Sum.inr (va_up (va_up (va_up (va_up (fun _ => none) 0 (some q30)) 1 (some q35)) 2 (some q40)) 3 (some q45))))))) : Nat × va_E) := e_ws55.at (by first | decide | (simp; done) | (simp; omega)) f_25_ws53
      clear f_25_ws53
      have f_25_ws127 : ws127[25]? = some ((q29, Sum.inl (cR, 4, Sum.inr (Sum.inr (Sum.inr (Sum.inr (va_up (va_up (va_up (va_up (fun _ => none) 0 (some q30)) 1 (some q35)) 2 (some q40)) 3 (some q45))))))) : Nat × va_E) := by rw [e_ws127]; exact gs_app f_25_ws55
      clear f_25_ws55
      have f_26_ws53 : ws53[26]? = some ((q30, Sum.inr (6, [Value.ref q31, Value.int 0, Value.int 0])) : Nat × va_E) := by rw [e_ws53]; exact gs_app f_26_ws4
      clear f_26_ws4
      have f_26_ws55 : ws55[26]? = some ((q30, Sum.inr (6, [Value.ref q31, Value.int 0, Value.int 0])) : Nat × va_E) := e_ws55.at (by first | decide | (simp; done) | (simp; omega)) f_26_ws53
      clear f_26_ws53
      have f_26_ws127 : ws127[26]? = some ((q30, Sum.inr (6, [Value.ref q31, Value.int 0, Value.int 0])) : Nat × va_E) := by rw [e_ws127]; exact gs_app f_26_ws55
      clear f_26_ws55
      have f_27_ws53 : ws53[27]? = some ((q31, Sum.inr (4, [Value.ref q32, Value.ref q33, Value.ref q34, Value.null, Value.int 0, Value.int 0])) : Nat × va_E) := by rw [e_ws53]; exact gs_app f_27_ws4
      clear f_27_ws4
      have f_27_ws55 : ws55[27]? = some ((q31, Sum.inr (4, [Value.ref q32, Value.ref q33, Value.ref q34, Value.null, Value.int 0, Value.int 0])) : Nat × va_E) := e_ws55.at (by first | decide | (simp; done) | (simp; omega)) f_27_ws53
      clear f_27_ws53
      have f_27_ws127 : ws127[27]? = some ((q31, Sum.inr (4, [Value.ref q32, Value.ref q33, Value.ref q34, Value.null, Value.int 0, Value.int 0])) : Nat × va_E) := by rw [e_ws127]; exact gs_app f_27_ws55
      clear f_27_ws55
      have f_28_ws53 : ws53[28]? = some ((q32, Sum.inl (cF, 4096, Sum.inr (Sum.inr (Sum.inr (Sum.inr (fun _ => none)))))) : Nat × va_E) := by rw [e_ws53]; exact gs_app f_28_ws4
      clear f_28_ws4
      have f_28_ws55 : ws55[28]? = some ((q32, Sum.inl (cF, 4096, Sum.inr (Sum.inr (Sum.inr (Sum.inr (fun _ => none)))))) : Nat × va_E) := e_ws55.at (by first | decide | (simp; done) | (simp; omega)) f_28_ws53
      clear f_28_ws53
      have f_28_ws127 : ws127[28]? = some ((q32, Sum.inl (cF, 4096, Sum.inr (Sum.inr (Sum.inr (Sum.inr (fun _ => none)))))) : Nat × va_E) := by rw [e_ws127]; exact gs_app f_28_ws55
      clear f_28_ws55
      have f_29_ws53 : ws53[29]? = some ((q33, Sum.inl (cF, 4096, Sum.inr (Sum.inr (Sum.inr (Sum.inr (fun _ => none)))))) : Nat × va_E) := by rw [e_ws53]; exact gs_app f_29_ws4
      clear f_29_ws4
      have f_29_ws55 : ws55[29]? = some ((q33, Sum.inl (cF, 4096, Sum.inr (Sum.inr (Sum.inr (Sum.inr (fun _ => none)))))) : Nat × va_E) := e_ws55.at (by first | decide | (simp; done) | (simp; omega)) f_29_ws53
      clear f_29_ws53
      have f_29_ws127 : ws127[29]? = some ((q33, Sum.inl (cF, 4096, Sum.inr (Sum.inr (Sum.inr (Sum.inr (fun _ => none)))))) : Nat × va_E) := by rw [e_ws127]; exact gs_app f_29_ws55
      clear f_29_ws55
      have f_30_ws53 : ws53[30]? = some ((q34, Sum.inl (cZ, 4096, Sum.inl (fun _ => 0))) : Nat × va_E) := by rw [e_ws53]; exact gs_app f_30_ws4
      clear f_30_ws4
      have f_30_ws55 : ws55[30]? = some ((q34, Sum.inl (cZ, 4096, Sum.inl (fun _ => 0))) : Nat × va_E) := e_ws55.at (by first | decide | (simp; done) | (simp; omega)) f_30_ws53
      clear f_30_ws53
      have f_30_ws127 : ws127[30]? = some ((q34, Sum.inl (cZ, 4096, Sum.inl (fun _ => 0))) : Nat × va_E) := by rw [e_ws127]; exact gs_app f_30_ws55
      clear f_30_ws55
      have f_31_ws53 : ws53[31]? = some ((q35, Sum.inr (6, [Value.ref q36, Value.int 0, Value.int 0])) : Nat × va_E) := by rw [e_ws53]; exact gs_app f_31_ws4
      clear f_31_ws4
      have f_31_ws55 : ws55[31]? = some ((q35, Sum.inr (6, [Value.ref q36, Value.int 0, Value.int 0])) : Nat × va_E) := e_ws55.at (by first | decide | (simp; done) | (simp; omega)) f_31_ws53
      clear f_31_ws53
      have f_31_ws127 : ws127[31]? = some ((q35, Sum.inr (6, [Value.ref q36, Value.int 0, Value.int 0])) : Nat × va_E) := by rw [e_ws127]; exact gs_app f_31_ws55
      clear f_31_ws55
      have f_32_ws53 : ws53[32]? = some ((q36, Sum.inr (4, [Value.ref q37, Value.ref q38, Value.ref q39, Value.null, Value.int 0, Value.int 0])) : Nat × va_E) := by rw [e_ws53]; exact gs_app f_32_ws4
      clear f_32_ws4
      have f_32_ws55 : ws55[32]? = some ((q36, Sum.inr (4, [Value.ref q37, Value.ref q38, Value.ref q39, Value.null, Value.int 0, Value.int 0])) : Nat × va_E) := e_ws55.at (by first | decide | (simp; done) | (simp; omega)) f_32_ws53
      clear f_32_ws53
      have f_32_ws127 : ws127[32]? = some ((q36, Sum.inr (4, [Value.ref q37, Value.ref q38, Value.ref q39, Value.null, Value.int 0, Value.int 0])) : Nat × va_E) := by rw [e_ws127]; exact gs_app f_32_ws55
      clear f_32_ws55
      have f_33_ws53 : ws53[33]? = some ((q37, Sum.inl (cF, 4096, Sum.inr (Sum.inr (Sum.inr (Sum.inr (fun _ => none)))))) : Nat × va_E) := by rw [e_ws53]; exact gs_app f_33_ws4
      clear f_33_ws4
      have f_33_ws55 : ws55[33]? = some ((q37, Sum.inl (cF, 4096, Sum.inr (Sum.inr (Sum.inr (Sum.inr (fun _ => none)))))) : Nat × va_E) := e_ws55.at (by first | decide | (simp; done) | (simp; omega)) f_33_ws53
      clear f_33_ws53
      have f_33_ws127 : ws127[33]? = some ((q37, Sum.inl (cF, 4096, Sum.inr (Sum.inr (Sum.inr (Sum.inr (fun _ => none)))))) : Nat × va_E) := by rw [e_ws127]; exact gs_app f_33_ws55
      clear f_33_ws55
      have f_34_ws53 : ws53[34]? = some ((q38, Sum.inl (cF, 4096, Sum.inr (Sum.inr (Sum.inr (Sum.inr (fun _ => none)))))) : Nat × va_E) := by rw [e_ws53]; exact gs_app f_34_ws4
      clear f_34_ws4
      have f_34_ws55 : ws55[34]? = some ((q38, Sum.inl (cF, 4096, Sum.inr (Sum.inr (Sum.inr (Sum.inr (fun _ => none)))))) : Nat × va_E) := e_ws55.at (by first | decide | (simp; done) | (simp; omega)) f_34_ws53
      clear f_34_ws53
      have f_34_ws127 : ws127[34]? = some ((q38, Sum.inl (cF, 4096, Sum.inr (Sum.inr (Sum.inr (Sum.inr (fun _ => none)))))) : Nat × va_E) := by rw [e_ws127]; exact gs_app f_34_ws55
      clear f_34_ws55
      have f_35_ws53 : ws53[35]? = some ((q39, Sum.inl (cZ, 4096, Sum.inl (fun _ => 0))) : Nat × va_E) := by rw [e_ws53]; exact gs_app f_35_ws4
      clear f_35_ws4
      have f_35_ws55 : ws55[35]? = some ((q39, Sum.inl (cZ, 4096, Sum.inl (fun _ => 0))) : Nat × va_E) := e_ws55.at (by first | decide | (simp; done) | (simp; omega)) f_35_ws53
      clear f_35_ws53
      have f_35_ws127 : ws127[35]? = some ((q39, Sum.inl (cZ, 4096, Sum.inl (fun _ => 0))) : Nat × va_E) := by rw [e_ws127]; exact gs_app f_35_ws55
      clear f_35_ws55
      have f_36_ws53 : ws53[36]? = some ((q40, Sum.inr (6, [Value.ref q41, Value.int 0, Value.int 0])) : Nat × va_E) := by rw [e_ws53]; exact gs_app f_36_ws4
      clear f_36_ws4
      have f_36_ws55 : ws55[36]? = some ((q40, Sum.inr (6, [Value.ref q41, Value.int 0, Value.int 0])) : Nat × va_E) := e_ws55.at (by first | decide | (simp; done) | (simp; omega)) f_36_ws53
      clear f_36_ws53
      have f_36_ws127 : ws127[36]? = some ((q40, Sum.inr (6, [Value.ref q41, Value.int 0, Value.int 0])) : Nat × va_E) := by rw [e_ws127]; exact gs_app f_36_ws55
      clear f_36_ws55
      have f_37_ws53 : ws53[37]? = some ((q41, Sum.inr (4, [Value.ref q42, Value.ref q43, Value.ref q44, Value.null, Value.int 0, Value.int 0])) : Nat × va_E) := by rw [e_ws53]; exact gs_app f_37_ws4
      clear f_37_ws4
      have f_37_ws55 : ws55[37]? = some ((q41, Sum.inr (4, [Value.ref q42, Value.ref q43, Value.ref q44, Value.null, Value.int 0, Value.int 0])) : Nat × va_E) := e_ws55.at (by first | decide | (simp; done) | (simp; omega)) f_37_ws53
      clear f_37_ws53
      have f_37_ws127 : ws127[37]? = some ((q41, Sum.inr (4, [Value.ref q42, Value.ref q43, Value.ref q44, Value.null, Value.int 0, Value.int 0])) : Nat × va_E) := by rw [e_ws127]; exact gs_app f_37_ws55
      clear f_37_ws55
      have f_38_ws53 : ws53[38]? = some ((q42, Sum.inl (cF, 4096, Sum.inr (Sum.inr (Sum.inr (Sum.inr (fun _ => none)))))) : Nat × va_E) := by rw [e_ws53]; exact gs_app f_38_ws4
      clear f_38_ws4
      have f_38_ws55 : ws55[38]? = some ((q42, Sum.inl (cF, 4096, Sum.inr (Sum.inr (Sum.inr (Sum.inr (fun _ => none)))))) : Nat × va_E) := e_ws55.at (by first | decide | (simp; done) | (simp; omega)) f_38_ws53
      clear f_38_ws53
      have f_38_ws127 : ws127[38]? = some ((q42, Sum.inl (cF, 4096, Sum.inr (Sum.inr (Sum.inr (Sum.inr (fun _ => none)))))) : Nat × va_E) := by rw [e_ws127]; exact gs_app f_38_ws55
      clear f_38_ws55
      have f_39_ws53 : ws53[39]? = some ((q43, Sum.inl (cF, 4096, Sum.inr (Sum.inr (Sum.inr (Sum.inr (fun _ => none)))))) : Nat × va_E) := by rw [e_ws53]; exact gs_app f_39_ws4
      clear f_39_ws4
      have f_39_ws55 : ws55[39]? = some ((q43, Sum.inl (cF, 4096, Sum.inr (Sum.inr (Sum.inr (Sum.inr (fun _ => none)))))) : Nat × va_E) := e_ws55.at (by first | decide | (simp; done) | (simp; omega)) f_39_ws53
      clear f_39_ws53
      have f_39_ws127 : ws127[39]? = some ((q43, Sum.inl (cF, 4096, Sum.inr (Sum.inr (Sum.inr (Sum.inr (fun _ => none)))))) : Nat × va_E) := by rw [e_ws127]; exact gs_app f_39_ws55
      clear f_39_ws55
      have f_40_ws53 : ws53[40]? = some ((q44, Sum.inl (cZ, 4096, Sum.inl (fun _ => 0))) : Nat × va_E) := by rw [e_ws53]; exact gs_app f_40_ws4
      clear f_40_ws4
      have f_40_ws55 : ws55[40]? = some ((q44, Sum.inl (cZ, 4096, Sum.inl (fun _ => 0))) : Nat × va_E) := e_ws55.at (by first | decide | (simp; done) | (simp; omega)) f_40_ws53
      clear f_40_ws53
      have f_40_ws127 : ws127[40]? = some ((q44, Sum.inl (cZ, 4096, Sum.inl (fun _ => 0))) : Nat × va_E) := by rw [e_ws127]; exact gs_app f_40_ws55
      clear f_40_ws55
      have f_41_ws53 : ws53[41]? = some ((q45, Sum.inr (6, [Value.ref q46, Value.int 0, Value.int 0])) : Nat × va_E) := by rw [e_ws53]; exact gs_app f_41_ws4
      clear f_41_ws4
      have f_41_ws55 : ws55[41]? = some ((q45, Sum.inr (6, [Value.ref q46, Value.int 0, Value.int 0])) : Nat × va_E) := e_ws55.at (by first | decide | (simp; done) | (simp; omega)) f_41_ws53
      clear f_41_ws53
      have f_41_ws127 : ws127[41]? = some ((q45, Sum.inr (6, [Value.ref q46, Value.int 0, Value.int 0])) : Nat × va_E) := by rw [e_ws127]; exact gs_app f_41_ws55
      clear f_41_ws55
      have f_42_ws53 : ws53[42]? = some ((q46, Sum.inr (4, [Value.ref q47, Value.ref q48, Value.ref q49, Value.null, Value.int 0, Value.int 0])) : Nat × va_E) := by rw [e_ws53]; exact gs_app f_42_ws4
      clear f_42_ws4
      have f_42_ws55 : ws55[42]? = some ((q46, Sum.inr (4, [Value.ref q47, Value.ref q48, Value.ref q49, Value.null, Value.int 0, Value.int 0])) : Nat × va_E) := e_ws55.at (by first | decide | (simp; done) | (simp; omega)) f_42_ws53
      clear f_42_ws53
      have f_42_ws127 : ws127[42]? = some ((q46, Sum.inr (4, [Value.ref q47, Value.ref q48, Value.ref q49, Value.null, Value.int 0, Value.int 0])) : Nat × va_E) := by rw [e_ws127]; exact gs_app f_42_ws55
      clear f_42_ws55
      have f_43_ws53 : ws53[43]? = some ((q47, Sum.inl (cF, 4096, Sum.inr (Sum.inr (Sum.inr (Sum.inr (fun _ => none)))))) : Nat × va_E) := by rw [e_ws53]; exact gs_app f_43_ws4
      clear f_43_ws4
      have f_43_ws55 : ws55[43]? = some ((q47, Sum.inl (cF, 4096, Sum.inr (Sum.inr (Sum.inr (Sum.inr (fun _ => none)))))) : Nat × va_E) := e_ws55.at (by first | decide | (simp; done) | (simp; omega)) f_43_ws53
      clear f_43_ws53
      have f_43_ws127 : ws127[43]? = some ((q47, Sum.inl (cF, 4096, Sum.inr (Sum.inr (Sum.inr (Sum.inr (fun _ => none)))))) : Nat × va_E) := by rw [e_ws127]; exact gs_app f_43_ws55
      clear f_43_ws55
      have f_44_ws53 : ws53[44]? = some ((q48, Sum.inl (cF, 4096, Sum.inr (Sum.inr (Sum.inr (Sum.inr (fun _ => none)))))) : Nat × va_E) := by rw [e_ws53]; exact gs_app f_44_ws4
      clear f_44_ws4
      have f_44_ws55 : ws55[44]? = some ((q48, Sum.inl (cF, 4096, Sum.inr (Sum.inr (Sum.inr (Sum.inr (fun _ => none)))))) : Nat × va_E) := e_ws55.at (by first | decide | (simp; done) | (simp; omega)) f_44_ws53
      clear f_44_ws53
      have f_44_ws127 : ws127[44]? = some ((q48, Sum.inl (cF, 4096, Sum.inr (Sum.inr (Sum.inr (Sum.inr (fun _ => none)))))) : Nat × va_E) := by rw [e_ws127]; exact gs_app f_44_ws55
      clear f_44_ws55
      have f_45_ws53 : ws53[45]? = some ((q49, Sum.inl (cZ, 4096, Sum.inl (fun _ => 0))) : Nat × va_E) := by rw [e_ws53]; exact gs_app f_45_ws4
      clear f_45_ws4
      have f_45_ws55 : ws55[45]? = some ((q49, Sum.inl (cZ, 4096, Sum.inl (fun _ => 0))) : Nat × va_E) := e_ws55.at (by first | decide | (simp; done) | (simp; omega)) f_45_ws53
      clear f_45_ws53
      have f_45_ws127 : ws127[45]? = some ((q49, Sum.inl (cZ, 4096, Sum.inl (fun _ => 0))) : Nat × va_E) := by rw [e_ws127]; exact gs_app f_45_ws55
      clear f_45_ws55
      have f_46_ws127 : ws127[46]? = some ((q52, Sum.inr (8, [Value.int 0, Value.int 0, Value.ref q56, Value.ref q57, Value.ref q58, Value.int 0, Value.ref q59, Value.ref q60, Value.ref q61, Value.ref q62, Value.int 0, Value.int 0, Value.int 0, Value.int (-1), Value.int 0, Value.ref q63, Value.ref q71, Value.ref q79, Value.int 0, Value.int 0, Value.int 0, Value.ref q87, Value.ref q88, Value.int 0, Value.int 16, Value.int 4, v125, Value.ref q89, Value.ref q90, Value.ref q91, Value.int 0, Value.ref q92, Value.int 0, Value.int 0, Value.int 0])) : Nat × va_E) := by rw [e_ws127]; exact gs_app f_46_ws55
      clear f_46_ws55
      have f_47_ws127 : ws127[47]? = some ((q56, Sum.inl (cI, 4096, Sum.inl (fun _ => 0))) : Nat × va_E) := by rw [e_ws127]; exact gs_app f_47_ws55
      clear f_47_ws55
      have f_48_ws127 : ws127[48]? = some ((q57, Sum.inl (cI, 4096, Sum.inl (fun _ => 0))) : Nat × va_E) := by rw [e_ws127]; exact gs_app f_48_ws55
      clear f_48_ws55
      have f_49_ws127 : ws127[49]? = some ((q58, Sum.inl (cI, 4096, Sum.inl (fun _ => 0))) : Nat × va_E) := by rw [e_ws127]; exact gs_app f_49_ws55
      clear f_49_ws55
      have f_50_ws127 : ws127[50]? = some ((q59, Sum.inl (cI, 60000, Sum.inl (fun _ => 0))) : Nat × va_E) := by rw [e_ws127]; exact gs_app f_50_ws55
      clear f_50_ws55
      have f_51_ws127 : ws127[51]? = some ((q60, Sum.inl (cZ, 60000, Sum.inl (fun _ => 0))) : Nat × va_E) := by rw [e_ws127]; exact gs_app f_51_ws55
      clear f_51_ws55
      have f_52_ws127 : ws127[52]? = some ((q61, Sum.inl (cZ, 60000, Sum.inl (fun _ => 0))) : Nat × va_E) := by rw [e_ws127]; exact gs_app f_52_ws55
      clear f_52_ws55
      have f_53_ws127 : ws127[53]? = some ((q62, Sum.inl (cZ, 60000, Sum.inl (fun _ => 0))) : Nat × va_E) := by rw [e_ws127]; exact gs_app f_53_ws55
      clear f_53_ws55
      have f_54_ws127 : ws127[54]? = some ((q63, Sum.inr (9, [Value.ref q64, Value.ref q65, Value.ref q66, Value.ref q67, Value.ref q68, Value.ref q69, Value.ref q70, Value.int 0, Value.int 0, Value.int 0, Value.int 0])) : Nat × va_E) := by rw [e_ws127]; exact gs_app f_54_ws55
      clear f_54_ws55
      have f_55_ws127 : ws127[55]? = some ((q64, Sum.inl (cI, 4097, Sum.inl (fun _ => 0))) : Nat × va_E) := by rw [e_ws127]; exact gs_app f_55_ws55
      clear f_55_ws55
      have f_56_ws127 : ws127[56]? = some ((q65, Sum.inl (cI, 4097, Sum.inl (fun _ => 0))) : Nat × va_E) := by rw [e_ws127]; exact gs_app f_56_ws55
      clear f_56_ws55
      have f_57_ws127 : ws127[57]? = some ((q66, Sum.inl (cI, 4098, Sum.inl (fun _ => 0))) : Nat × va_E) := by rw [e_ws127]; exact gs_app f_57_ws55
      clear f_57_ws55
      have f_58_ws127 : ws127[58]? = some ((q67, Sum.inl (cI, 4097, Sum.inl (fun _ => 0))) : Nat × va_E) := by rw [e_ws127]; exact gs_app f_58_ws55
      clear f_58_ws55
      have f_59_ws127 : ws127[59]? = some ((q68, Sum.inl (cI, 4096, Sum.inl (fun _ => 0))) : Nat × va_E) := by rw [e_ws127]; exact gs_app f_59_ws55
      clear f_59_ws55
      have f_60_ws127 : ws127[60]? = some ((q69, Sum.inl (cZ, 4096, Sum.inl (fun _ => 0))) : Nat × va_E) := by rw [e_ws127]; exact gs_app f_60_ws55
      clear f_60_ws55
      have f_61_ws127 : ws127[61]? = some ((q70, Sum.inl (cZ, 4096, Sum.inl (fun _ => 0))) : Nat × va_E) := by rw [e_ws127]; exact gs_app f_61_ws55
      clear f_61_ws55
      have f_62_ws127 : ws127[62]? = some ((q71, Sum.inr (9, [Value.ref q72, Value.ref q73, Value.ref q74, Value.ref q75, Value.ref q76, Value.ref q77, Value.ref q78, Value.int 0, Value.int 0, Value.int 0, Value.int 0])) : Nat × va_E) := by rw [e_ws127]; exact gs_app f_62_ws55
      clear f_62_ws55
      have f_63_ws127 : ws127[63]? = some ((q72, Sum.inl (cI, 4097, Sum.inl (fun _ => 0))) : Nat × va_E) := by rw [e_ws127]; exact gs_app f_63_ws55
      clear f_63_ws55
      have f_64_ws127 : ws127[64]? = some ((q73, Sum.inl (cI, 4097, Sum.inl (fun _ => 0))) : Nat × va_E) := by rw [e_ws127]; exact gs_app f_64_ws55
      clear f_64_ws55
      have f_65_ws127 : ws127[65]? = some ((q74, Sum.inl (cI, 4098, Sum.inl (fun _ => 0))) : Nat × va_E) := by rw [e_ws127]; exact gs_app f_65_ws55
      clear f_65_ws55
      have f_66_ws127 : ws127[66]? = some ((q75, Sum.inl (cI, 4097, Sum.inl (fun _ => 0))) : Nat × va_E) := by rw [e_ws127]; exact gs_app f_66_ws55
      clear f_66_ws55
      have f_67_ws127 : ws127[67]? = some ((q76, Sum.inl (cI, 4096, Sum.inl (fun _ => 0))) : Nat × va_E) := by rw [e_ws127]; exact gs_app f_67_ws55
      clear f_67_ws55
      have f_68_ws127 : ws127[68]? = some ((q77, Sum.inl (cZ, 4096, Sum.inl (fun _ => 0))) : Nat × va_E) := by rw [e_ws127]; exact gs_app f_68_ws55
      clear f_68_ws55
      have f_69_ws127 : ws127[69]? = some ((q78, Sum.inl (cZ, 4096, Sum.inl (fun _ => 0))) : Nat × va_E) := by rw [e_ws127]; exact gs_app f_69_ws55
      clear f_69_ws55
      have f_70_ws127 : ws127[70]? = some ((q79, Sum.inr (9, [Value.ref q80, Value.ref q81, Value.ref q82, Value.ref q83, Value.ref q84, Value.ref q85, Value.ref q86, Value.int 0, Value.int 0, Value.int 0, Value.int 0])) : Nat × va_E) := by rw [e_ws127]; exact gs_app f_70_ws55
      clear f_70_ws55
      have f_71_ws127 : ws127[71]? = some ((q80, Sum.inl (cI, 4097, Sum.inl (fun _ => 0))) : Nat × va_E) := by rw [e_ws127]; exact gs_app f_71_ws55
      clear f_71_ws55
      have f_72_ws127 : ws127[72]? = some ((q81, Sum.inl (cI, 4097, Sum.inl (fun _ => 0))) : Nat × va_E) := by rw [e_ws127]; exact gs_app f_72_ws55
      clear f_72_ws55
      have f_73_ws127 : ws127[73]? = some ((q82, Sum.inl (cI, 4098, Sum.inl (fun _ => 0))) : Nat × va_E) := by rw [e_ws127]; exact gs_app f_73_ws55
      clear f_73_ws55
      have f_74_ws127 : ws127[74]? = some ((q83, Sum.inl (cI, 4097, Sum.inl (fun _ => 0))) : Nat × va_E) := by rw [e_ws127]; exact gs_app f_74_ws55
      clear f_74_ws55
      have f_75_ws127 : ws127[75]? = some ((q84, Sum.inl (cI, 4096, Sum.inl (fun _ => 0))) : Nat × va_E) := by rw [e_ws127]; exact gs_app f_75_ws55
      clear f_75_ws55
      have f_76_ws127 : ws127[76]? = some ((q85, Sum.inl (cZ, 4096, Sum.inl (fun _ => 0))) : Nat × va_E) := by rw [e_ws127]; exact gs_app f_76_ws55
      clear f_76_ws55
      have f_77_ws127 : ws127[77]? = some ((q86, Sum.inl (cZ, 4096, Sum.inl (fun _ => 0))) : Nat × va_E) := by rw [e_ws127]; exact gs_app f_77_ws55
      clear f_77_ws55
      have f_78_ws127 : ws127[78]? = some ((q87, Sum.inl (cI, 4096, Sum.inl (fun _ => 0))) : Nat × va_E) := by rw [e_ws127]; exact gs_app f_78_ws55
      clear f_78_ws55
      have f_79_ws127 : ws127[79]? = some ((q88, Sum.inl (cZ, 4096, Sum.inl (fun _ => 0))) : Nat × va_E) := by rw [e_ws127]; exact gs_app f_79_ws55
      clear f_79_ws55
      have f_80_ws127 : ws127[80]? = some ((q89, Sum.inl (cI, 4, Sum.inl (fun _ => 0))) : Nat × va_E) := by rw [e_ws127]; exact gs_app f_80_ws55
      clear f_80_ws55
      have f_81_ws127 : ws127[81]? = some ((q90, Sum.inl (cI, 4, Sum.inl (fun _ => 0))) : Nat × va_E) := by rw [e_ws127]; exact gs_app f_81_ws55
      clear f_81_ws55
      have f_82_ws127 : ws127[82]? = some ((q91, Sum.inl (cI, 4, Sum.inl (fun _ => 0))) : Nat × va_E) := by rw [e_ws127]; exact gs_app f_82_ws55
      clear f_82_ws55
      have f_83_ws127 : ws127[83]? = some ((q92, Sum.inl (cV, 4, Sum.inr (Sum.inr (Sum.inr (Sum.inr (va_up (va_up (va_up (va_up (fun _ => none) 0 (some q93)) 1 (some q101)) 2 (some q109)) 3 (some q117))))))) : Nat × va_E) := by rw [e_ws127]; exact gs_app f_83_ws55
      clear f_83_ws55
      have f_84_ws127 : ws127[84]? = some ((q93, Sum.inr (9, [Value.ref q94, Value.ref q95, Value.ref q96, Value.ref q97, Value.ref q98, Value.ref q99, Value.ref q100, Value.int 0, Value.int 0, Value.int 0, Value.int 0])) : Nat × va_E) := by rw [e_ws127]; exact gs_app f_84_ws55
      clear f_84_ws55
      have f_85_ws127 : ws127[85]? = some ((q94, Sum.inl (cI, 4097, Sum.inl (fun _ => 0))) : Nat × va_E) := by rw [e_ws127]; exact gs_app f_85_ws55
      clear f_85_ws55
      have f_86_ws127 : ws127[86]? = some ((q95, Sum.inl (cI, 4097, Sum.inl (fun _ => 0))) : Nat × va_E) := by rw [e_ws127]; exact gs_app f_86_ws55
      clear f_86_ws55
      have f_87_ws127 : ws127[87]? = some ((q96, Sum.inl (cI, 4098, Sum.inl (fun _ => 0))) : Nat × va_E) := by rw [e_ws127]; exact gs_app f_87_ws55
      clear f_87_ws55
      have f_88_ws127 : ws127[88]? = some ((q97, Sum.inl (cI, 4097, Sum.inl (fun _ => 0))) : Nat × va_E) := by rw [e_ws127]; exact gs_app f_88_ws55
      clear f_88_ws55
      have f_89_ws127 : ws127[89]? = some ((q98, Sum.inl (cI, 4096, Sum.inl (fun _ => 0))) : Nat × va_E) := by rw [e_ws127]; exact gs_app f_89_ws55
      clear f_89_ws55
      have f_90_ws127 : ws127[90]? = some ((q99, Sum.inl (cZ, 4096, Sum.inl (fun _ => 0))) : Nat × va_E) := by rw [e_ws127]; exact gs_app f_90_ws55
      clear f_90_ws55
      have f_91_ws127 : ws127[91]? = some ((q100, Sum.inl (cZ, 4096, Sum.inl (fun _ => 0))) : Nat × va_E) := by rw [e_ws127]; exact gs_app f_91_ws55
      clear f_91_ws55
      have f_92_ws127 : ws127[92]? = some ((q101, Sum.inr (9, [Value.ref q102, Value.ref q103, Value.ref q104, Value.ref q105, Value.ref q106, Value.ref q107, Value.ref q108, Value.int 0, Value.int 0, Value.int 0, Value.int 0])) : Nat × va_E) := by rw [e_ws127]; exact gs_app f_92_ws55
      clear f_92_ws55
      have f_93_ws127 : ws127[93]? = some ((q102, Sum.inl (cI, 4097, Sum.inl (fun _ => 0))) : Nat × va_E) := by rw [e_ws127]; exact gs_app f_93_ws55
      clear f_93_ws55
      have f_94_ws127 : ws127[94]? = some ((q103, Sum.inl (cI, 4097, Sum.inl (fun _ => 0))) : Nat × va_E) := by rw [e_ws127]; exact gs_app f_94_ws55
      clear f_94_ws55
      have f_95_ws127 : ws127[95]? = some ((q104, Sum.inl (cI, 4098, Sum.inl (fun _ => 0))) : Nat × va_E) := by rw [e_ws127]; exact gs_app f_95_ws55
      clear f_95_ws55
      have f_96_ws127 : ws127[96]? = some ((q105, Sum.inl (cI, 4097, Sum.inl (fun _ => 0))) : Nat × va_E) := by rw [e_ws127]; exact gs_app f_96_ws55
      clear f_96_ws55
      have f_97_ws127 : ws127[97]? = some ((q106, Sum.inl (cI, 4096, Sum.inl (fun _ => 0))) : Nat × va_E) := by rw [e_ws127]; exact gs_app f_97_ws55
      clear f_97_ws55
      have f_98_ws127 : ws127[98]? = some ((q107, Sum.inl (cZ, 4096, Sum.inl (fun _ => 0))) : Nat × va_E) := by rw [e_ws127]; exact gs_app f_98_ws55
      clear f_98_ws55
      have f_99_ws127 : ws127[99]? = some ((q108, Sum.inl (cZ, 4096, Sum.inl (fun _ => 0))) : Nat × va_E) := by rw [e_ws127]; exact gs_app f_99_ws55
      clear f_99_ws55
      have f_100_ws127 : ws127[100]? = some ((q109, Sum.inr (9, [Value.ref q110, Value.ref q111, Value.ref q112, Value.ref q113, Value.ref q114, Value.ref q115, Value.ref q116, Value.int 0, Value.int 0, Value.int 0, Value.int 0])) : Nat × va_E) := by rw [e_ws127]; exact gs_app f_100_ws55
      clear f_100_ws55
      have f_101_ws127 : ws127[101]? = some ((q110, Sum.inl (cI, 4097, Sum.inl (fun _ => 0))) : Nat × va_E) := by rw [e_ws127]; exact gs_app f_101_ws55
      clear f_101_ws55
      have f_102_ws127 : ws127[102]? = some ((q111, Sum.inl (cI, 4097, Sum.inl (fun _ => 0))) : Nat × va_E) := by rw [e_ws127]; exact gs_app f_102_ws55
      clear f_102_ws55
      have f_103_ws127 : ws127[103]? = some ((q112, Sum.inl (cI, 4098, Sum.inl (fun _ => 0))) : Nat × va_E) := by rw [e_ws127]; exact gs_app f_103_ws55
      clear f_103_ws55
      have f_104_ws127 : ws127[104]? = some ((q113, Sum.inl (cI, 4097, Sum.inl (fun _ => 0))) : Nat × va_E) := by rw [e_ws127]; exact gs_app f_104_ws55
      clear f_104_ws55
      have f_105_ws127 : ws127[105]? = some ((q114, Sum.inl (cI, 4096, Sum.inl (fun _ => 0))) : Nat × va_E) := by rw [e_ws127]; exact gs_app f_105_ws55
      clear f_105_ws55
      have f_106_ws127 : ws127[106]? = some ((q115, Sum.inl (cZ, 4096, Sum.inl (fun _ => 0))) : Nat × va_E) := by rw [e_ws127]; exact gs_app f_106_ws55
      clear f_106_ws55
      have f_107_ws127 : ws127[107]? = some ((q116, Sum.inl (cZ, 4096, Sum.inl (fun _ => 0))) : Nat × va_E) := by rw [e_ws127]; exact gs_app f_107_ws55
      clear f_107_ws55
      have f_108_ws127 : ws127[108]? = some ((q117, Sum.inr (9, [Value.ref q118, Value.ref q119, Value.ref q120, Value.ref q121, Value.ref q122, Value.ref q123, Value.ref q124, Value.int 0, Value.int 0, Value.int 0, Value.int 0])) : Nat × va_E) := by rw [e_ws127]; exact gs_app f_108_ws55
      clear f_108_ws55
      have f_109_ws127 : ws127[109]? = some ((q118, Sum.inl (cI, 4097, Sum.inl (fun _ => 0))) : Nat × va_E) := by rw [e_ws127]; exact gs_app f_109_ws55
      clear f_109_ws55
      have f_110_ws127 : ws127[110]? = some ((q119, Sum.inl (cI, 4097, Sum.inl (fun _ => 0))) : Nat × va_E) := by rw [e_ws127]; exact gs_app f_110_ws55
      clear f_110_ws55
      have f_111_ws127 : ws127[111]? = some ((q120, Sum.inl (cI, 4098, Sum.inl (fun _ => 0))) : Nat × va_E) := by rw [e_ws127]; exact gs_app f_111_ws55
      clear f_111_ws55
      have f_112_ws127 : ws127[112]? = some ((q121, Sum.inl (cI, 4097, Sum.inl (fun _ => 0))) : Nat × va_E) := by rw [e_ws127]; exact gs_app f_112_ws55
      clear f_112_ws55
      have f_113_ws127 : ws127[113]? = some ((q122, Sum.inl (cI, 4096, Sum.inl (fun _ => 0))) : Nat × va_E) := by rw [e_ws127]; exact gs_app f_113_ws55
      clear f_113_ws55
      have f_114_ws127 : ws127[114]? = some ((q123, Sum.inl (cZ, 4096, Sum.inl (fun _ => 0))) : Nat × va_E) := by rw [e_ws127]; exact gs_app f_114_ws55
      clear f_114_ws55
      have f_115_ws127 : ws127[115]? = some ((q124, Sum.inl (cZ, 4096, Sum.inl (fun _ => 0))) : Nat × va_E) := by rw [e_ws127]; exact gs_app f_115_ws55
      clear f_115_ws55
      exact k D tys cI cZ cF cM cR cV cJ q1 q5 q6 q7 q8 q9 q10 q11 q12 q13 q14 q15 q16 q17 q18 q19 q20 q21 q22 q23 q24 q25 q26 q27 q28 q29 q30 q31 q32 q33 q34 q35 q36 q37 q38 q39 q40 q41 q42 q43 q44 q45 q46 q47 q48 q49 q52 q56 q57 q58 q59 q60 q61 q62 q63 q64 q65 q66 q67 q68 q69 q70 q71 q72 q73 q74 q75 q76 q77 q78 q79 q80 q81 q82 q83 q84 q85 q86 q87 q88 q89 q90 q91 q92 q93 q94 q95 q96 q97 q98 q99 q100 q101 q102 q103 q104 q105 q106 q107 q108 q109 q110 q111 q112 q113 q114 q115 q116 q117 q118 q119 q120 q121 q122 q123 q124 q126 v50 v51 v125 ws127 H locs ls hK htys hP hD hS hlen f_0_ws127 f_1_ws127 f_2_ws127 f_3_ws127 f_4_ws127 f_5_ws127 f_6_ws127 f_7_ws127 f_8_ws127 f_9_ws127 f_10_ws127 f_11_ws127 f_12_ws127 f_13_ws127 f_14_ws127 f_15_ws127 f_16_ws127 f_17_ws127 f_18_ws127 f_19_ws127 f_20_ws127 f_21_ws127 f_22_ws127 f_23_ws127 f_24_ws127 f_25_ws127 f_26_ws127 f_27_ws127 f_28_ws127 f_29_ws127 f_30_ws127 f_31_ws127 f_32_ws127 f_33_ws127 f_34_ws127 f_35_ws127 f_36_ws127 f_37_ws127 f_38_ws127 f_39_ws127 f_40_ws127 f_41_ws127 f_42_ws127 f_43_ws127 f_44_ws127 f_45_ws127 f_46_ws127 f_47_ws127 f_48_ws127 f_49_ws127 f_50_ws127 f_51_ws127 f_52_ws127 f_53_ws127 f_54_ws127 f_55_ws127 f_56_ws127 f_57_ws127 f_58_ws127 f_59_ws127 f_60_ws127 f_61_ws127 f_62_ws127 f_63_ws127 f_64_ws127 f_65_ws127 f_66_ws127 f_67_ws127 f_68_ws127 f_69_ws127 f_70_ws127 f_71_ws127 f_72_ws127 f_73_ws127 f_74_ws127 f_75_ws127 f_76_ws127 f_77_ws127 f_78_ws127 f_79_ws127 f_80_ws127 f_81_ws127 f_82_ws127 f_83_ws127 f_84_ws127 f_85_ws127 f_86_ws127 f_87_ws127 f_88_ws127 f_89_ws127 f_90_ws127 f_91_ws127 f_92_ws127 f_93_ws127 f_94_ws127 f_95_ws127 f_96_ws127 f_97_ws127 f_98_ws127 f_99_ws127 f_100_ws127 f_101_ws127 f_102_ws127 f_103_ws127 f_104_ws127 f_105_ws127 f_106_ws127 f_107_ws127 f_108_ws127 f_109_ws127 f_110_ws127 f_111_ws127 f_112_ws127 f_113_ws127 f_114_ws127 f_115_ws127 f_116_ws127 hl
    · obtain ⟨E9, ws128, ce, hp, hce, hP9, -, hD9, hS9⟩ := gx_backT h0_54 hW_54 hQ_54 hL_54 hD hS hA
      clear hQ_54 h0_54 hL_54 hW_54 hP hD hS
      have hP := hP9
      have hD := hD9
      have hS := hS9
      clear hP9 hD9 hS9
      rcases hp with ⟨q129, q130, q131, q132, q133, q134, q135, q136, q137, q138, q139, q140, q141, q142, q143, q144, q145, q146, q147, q148, q149, q150, q151, q152, q153, q154, q155, q156, q157, q158, q159, q160, q161, q162, q163, q164, q165, q166, q167, q168, q169, q170, q171, q172, q173, q174, q175, q176, q177, q178, q179, q180, q181, q182, q183, q184, q185, q186, q187, q188, q189, q190, q191, q192, q193, q194, q195, q196, q197, v198, hv9, e_ws128, f_46_ws128, f_47_ws128, f_48_ws128, f_49_ws128, f_78_ws128, f_50_ws128, f_51_ws128, f_52_ws128, f_53_ws128, f_79_ws128, f_80_ws128, f_81_ws128, f_82_ws128, f_54_ws128, f_55_ws128, f_56_ws128, f_57_ws128, f_58_ws128, f_59_ws128, f_60_ws128, f_61_ws128, f_62_ws128, f_63_ws128, f_64_ws128, f_65_ws128, f_66_ws128, f_67_ws128, f_68_ws128, f_69_ws128, f_70_ws128, f_71_ws128, f_72_ws128, f_73_ws128, f_74_ws128, f_75_ws128, f_76_ws128, f_77_ws128, f_84_ws128, f_85_ws128, f_86_ws128, f_87_ws128, f_88_ws128, f_89_ws128, f_90_ws128, f_91_ws128, f_92_ws128, f_93_ws128, f_94_ws128, f_95_ws128, f_96_ws128, f_97_ws128, f_98_ws128, f_99_ws128, f_100_ws128, f_101_ws128, f_102_ws128, f_103_ws128, f_104_ws128, f_105_ws128, f_106_ws128, f_107_ws128, f_108_ws128, f_109_ws128, f_110_ws128, f_111_ws128, f_112_ws128, f_113_ws128, f_114_ws128, f_115_ws128, f_83_ws128⟩
      cases hv9
  · obtain ⟨E9, ws199, ce, hp, hce, hP9, -, hD9, hS9⟩ := gx_backT h0_3 hW_3 hQ_3 hL_3 hD hS hA
    clear hQ_3 h0_3 hL_3 hW_3 hP hD hS
    have hP := hP9
    have hD := hD9
    have hS := hS9
    clear hP9 hD9 hS9
    rcases hp with ⟨q200, q201, q202, q203, q204, q205, q206, q207, q208, q209, q210, q211, q212, q213, q214, q215, q216, q217, q218, q219, q220, q221, q222, q223, q224, q225, q226, q227, q228, q229, q230, q231, q232, q233, q234, q235, q236, q237, q238, q239, q240, q241, q242, q243, q244, v245, v246, hv9, e_ws199, f_0_ws199, f_1_ws199, f_2_ws199, f_3_ws199, f_4_ws199, f_5_ws199, f_6_ws199, f_7_ws199, f_8_ws199, f_9_ws199, f_10_ws199, f_11_ws199, f_12_ws199, f_13_ws199, f_14_ws199, f_15_ws199, f_16_ws199, f_17_ws199, f_18_ws199, f_19_ws199, f_20_ws199, f_21_ws199, f_22_ws199, f_23_ws199, f_24_ws199, f_25_ws199, f_26_ws199, f_27_ws199, f_28_ws199, f_29_ws199, f_30_ws199, f_31_ws199, f_32_ws199, f_33_ws199, f_34_ws199, f_35_ws199, f_36_ws199, f_37_ws199, f_38_ws199, f_39_ws199, f_40_ws199, f_41_ws199, f_42_ws199, f_43_ws199, f_44_ws199, f_45_ws199⟩
    cases hv9
