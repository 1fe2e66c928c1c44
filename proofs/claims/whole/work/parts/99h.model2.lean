/-! CONTRACT of CommitLedgerModel() with mergeDocs in the world, rows printed by an own text program -/
def mp_G0 (cI cZ cV cN : ClassId) (q : Nat → Nat) (ws : va_W) : Prop := ws[46]? = some (((q 46), Sum.inr (8, [Value.int 0, Value.int 0, Value.ref (q 47), Value.ref (q 48), Value.ref (q 49), Value.int 0, Value.ref (q 50), Value.ref (q 51), Value.ref (q 52), Value.ref (q 53), Value.int 0, Value.int 0, Value.int 0, Value.int (-1), Value.int 0, Value.ref (q 54), Value.ref (q 62), Value.ref (q 70), Value.int 0, Value.int 0, Value.int 0, Value.ref (q 78), Value.ref (q 79), Value.int 0, Value.int 16, Value.int 4, Value.ref (q 80), Value.ref (q 85), Value.ref (q 86), Value.ref (q 87), Value.int 0, Value.ref (q 88), Value.int 0, Value.int 0, Value.int 0])) : Nat × va_E) ∧ ws[47]? = some (((q 47), Sum.inl (cI, 4096, Sum.inl (fun _ => 0))) : Nat × va_E) ∧ ws[48]? = some (((q 48), Sum.inl (cI, 4096, Sum.inl (fun _ => 0))) : Nat × va_E) ∧ ws[49]? = some (((q 49), Sum.inl (cI, 4096, Sum.inl (fun _ => 0))) : Nat × va_E) ∧ ws[50]? = some (((q 50), Sum.inl (cI, 60000, Sum.inl (fun _ => 0))) : Nat × va_E) ∧ ws[51]? = some (((q 51), Sum.inl (cZ, 60000, Sum.inl (fun _ => 0))) : Nat × va_E) ∧ ws[52]? = some (((q 52), Sum.inl (cZ, 60000, Sum.inl (fun _ => 0))) : Nat × va_E) ∧ ws[53]? = some (((q 53), Sum.inl (cZ, 60000, Sum.inl (fun _ => 0))) : Nat × va_E) ∧ ws[54]? = some (((q 54), Sum.inr (9, [Value.ref (q 55), Value.ref (q 56), Value.ref (q 57), Value.ref (q 58), Value.ref (q 59), Value.ref (q 60), Value.ref (q 61), Value.int 0, Value.int 0, Value.int 0, Value.int 0])) : Nat × va_E) ∧ ws[55]? = some (((q 55), Sum.inl (cI, 4097, Sum.inl (fun _ => 0))) : Nat × va_E) ∧ ws[56]? = some (((q 56), Sum.inl (cI, 4097, Sum.inl (fun _ => 0))) : Nat × va_E) ∧ ws[57]? = some (((q 57), Sum.inl (cI, 4098, Sum.inl (fun _ => 0))) : Nat × va_E) ∧ ws[58]? = some (((q 58), Sum.inl (cI, 4097, Sum.inl (fun _ => 0))) : Nat × va_E) ∧ ws[59]? = some (((q 59), Sum.inl (cI, 4096, Sum.inl (fun _ => 0))) : Nat × va_E) ∧ ws[60]? = some (((q 60), Sum.inl (cZ, 4096, Sum.inl (fun _ => 0))) : Nat × va_E) ∧ ws[61]? = some (((q 61), Sum.inl (cZ, 4096, Sum.inl (fun _ => 0))) : Nat × va_E)
theorem mp_G0_mono {cI cZ cV cN : ClassId} {q : Nat → Nat} {ws ws1 : va_W} {j : Nat} (h : gx_g ws ws1 j []) (g : mp_G0 cI cZ cV cN q ws) : mp_G0 cI cZ cV cN q ws1 := by
  unfold mp_G0 at g ⊢
  obtain ⟨f_46, f_47, f_48, f_49, f_50, f_51, f_52, f_53, f_54, f_55, f_56, f_57, f_58, f_59, f_60, f_61⟩ := g
  exact ⟨h.at (by decide) f_46, h.at (by decide) f_47, h.at (by decide) f_48, h.at (by decide) f_49, h.at (by decide) f_50, h.at (by decide) f_51, h.at (by decide) f_52, h.at (by decide) f_53, h.at (by decide) f_54, h.at (by decide) f_55, h.at (by decide) f_56, h.at (by decide) f_57, h.at (by decide) f_58, h.at (by decide) f_59, h.at (by decide) f_60, h.at (by decide) f_61⟩
def mp_G1 (cI cZ cV cN : ClassId) (q : Nat → Nat) (ws : va_W) : Prop := ws[62]? = some (((q 62), Sum.inr (9, [Value.ref (q 63), Value.ref (q 64), Value.ref (q 65), Value.ref (q 66), Value.ref (q 67), Value.ref (q 68), Value.ref (q 69), Value.int 0, Value.int 0, Value.int 0, Value.int 0])) : Nat × va_E) ∧ ws[63]? = some (((q 63), Sum.inl (cI, 4097, Sum.inl (fun _ => 0))) : Nat × va_E) ∧ ws[64]? = some (((q 64), Sum.inl (cI, 4097, Sum.inl (fun _ => 0))) : Nat × va_E) ∧ ws[65]? = some (((q 65), Sum.inl (cI, 4098, Sum.inl (fun _ => 0))) : Nat × va_E) ∧ ws[66]? = some (((q 66), Sum.inl (cI, 4097, Sum.inl (fun _ => 0))) : Nat × va_E) ∧ ws[67]? = some (((q 67), Sum.inl (cI, 4096, Sum.inl (fun _ => 0))) : Nat × va_E) ∧ ws[68]? = some (((q 68), Sum.inl (cZ, 4096, Sum.inl (fun _ => 0))) : Nat × va_E) ∧ ws[69]? = some (((q 69), Sum.inl (cZ, 4096, Sum.inl (fun _ => 0))) : Nat × va_E) ∧ ws[70]? = some (((q 70), Sum.inr (9, [Value.ref (q 71), Value.ref (q 72), Value.ref (q 73), Value.ref (q 74), Value.ref (q 75), Value.ref (q 76), Value.ref (q 77), Value.int 0, Value.int 0, Value.int 0, Value.int 0])) : Nat × va_E) ∧ ws[71]? = some (((q 71), Sum.inl (cI, 4097, Sum.inl (fun _ => 0))) : Nat × va_E) ∧ ws[72]? = some (((q 72), Sum.inl (cI, 4097, Sum.inl (fun _ => 0))) : Nat × va_E) ∧ ws[73]? = some (((q 73), Sum.inl (cI, 4098, Sum.inl (fun _ => 0))) : Nat × va_E) ∧ ws[74]? = some (((q 74), Sum.inl (cI, 4097, Sum.inl (fun _ => 0))) : Nat × va_E) ∧ ws[75]? = some (((q 75), Sum.inl (cI, 4096, Sum.inl (fun _ => 0))) : Nat × va_E) ∧ ws[76]? = some (((q 76), Sum.inl (cZ, 4096, Sum.inl (fun _ => 0))) : Nat × va_E) ∧ ws[77]? = some (((q 77), Sum.inl (cZ, 4096, Sum.inl (fun _ => 0))) : Nat × va_E)
theorem mp_G1_mono {cI cZ cV cN : ClassId} {q : Nat → Nat} {ws ws1 : va_W} {j : Nat} (h : gx_g ws ws1 j []) (g : mp_G1 cI cZ cV cN q ws) : mp_G1 cI cZ cV cN q ws1 := by
  unfold mp_G1 at g ⊢
  obtain ⟨f_62, f_63, f_64, f_65, f_66, f_67, f_68, f_69, f_70, f_71, f_72, f_73, f_74, f_75, f_76, f_77⟩ := g
  exact ⟨h.at (by decide) f_62, h.at (by decide) f_63, h.at (by decide) f_64, h.at (by decide) f_65, h.at (by decide) f_66, h.at (by decide) f_67, h.at (by decide) f_68, h.at (by decide) f_69, h.at (by decide) f_70, h.at (by decide) f_71, h.at (by decide) f_72, h.at (by decide) f_73, h.at (by decide) f_74, h.at (by decide) f_75, h.at (by decide) f_76, h.at (by decide) f_77⟩
def mp_G2 (cI cZ cV cN : ClassId) (q : Nat → Nat) (ws : va_W) : Prop := ws[78]? = some (((q 78), Sum.inl (cI, 4096, Sum.inl (fun _ => 0))) : Nat × va_E) ∧ ws[79]? = some (((q 79), Sum.inl (cZ, 4096, Sum.inl (fun _ => 0))) : Nat × va_E) ∧ ws[80]? = some (((q 80), Sum.inl (cN, 4, Sum.inr (Sum.inr (Sum.inr (Sum.inr (va_up (va_up (va_up (va_up (fun _ => none) 0 (some (q 81))) 1 (some (q 82))) 2 (some (q 83))) 3 (some (q 84)))))))) : Nat × va_E) ∧ ws[81]? = some (((q 81), Sum.inl (cI, 4096, Sum.inl (fun _ => 0))) : Nat × va_E) ∧ ws[82]? = some (((q 82), Sum.inl (cI, 4096, Sum.inl (fun _ => 0))) : Nat × va_E) ∧ ws[83]? = some (((q 83), Sum.inl (cI, 4096, Sum.inl (fun _ => 0))) : Nat × va_E) ∧ ws[84]? = some (((q 84), Sum.inl (cI, 4096, Sum.inl (fun _ => 0))) : Nat × va_E) ∧ ws[85]? = some (((q 85), Sum.inl (cI, 4, Sum.inl (fun _ => 0))) : Nat × va_E) ∧ ws[86]? = some (((q 86), Sum.inl (cI, 4, Sum.inl (fun _ => 0))) : Nat × va_E) ∧ ws[87]? = some (((q 87), Sum.inl (cI, 4, Sum.inl (fun _ => 0))) : Nat × va_E) ∧ ws[88]? = some (((q 88), Sum.inl (cV, 4, Sum.inr (Sum.inr (Sum.inr (Sum.inr (va_up (va_up (va_up (va_up (fun _ => none) 0 (some (q 89))) 1 (some (q 97))) 2 (some (q 105))) 3 (some (q 113)))))))) : Nat × va_E) ∧ ws[89]? = some (((q 89), Sum.inr (9, [Value.ref (q 90), Value.ref (q 91), Value.ref (q 92), Value.ref (q 93), Value.ref (q 94), Value.ref (q 95), Value.ref (q 96), Value.int 0, Value.int 0, Value.int 0, Value.int 0])) : Nat × va_E) ∧ ws[90]? = some (((q 90), Sum.inl (cI, 4097, Sum.inl (fun _ => 0))) : Nat × va_E) ∧ ws[91]? = some (((q 91), Sum.inl (cI, 4097, Sum.inl (fun _ => 0))) : Nat × va_E) ∧ ws[92]? = some (((q 92), Sum.inl (cI, 4098, Sum.inl (fun _ => 0))) : Nat × va_E) ∧ ws[93]? = some (((q 93), Sum.inl (cI, 4097, Sum.inl (fun _ => 0))) : Nat × va_E)
theorem mp_G2_mono {cI cZ cV cN : ClassId} {q : Nat → Nat} {ws ws1 : va_W} {j : Nat} (h : gx_g ws ws1 j []) (g : mp_G2 cI cZ cV cN q ws) : mp_G2 cI cZ cV cN q ws1 := by
  unfold mp_G2 at g ⊢
  obtain ⟨f_78, f_79, f_80, f_81, f_82, f_83, f_84, f_85, f_86, f_87, f_88, f_89, f_90, f_91, f_92, f_93⟩ := g
  exact ⟨h.at (by decide) f_78, h.at (by decide) f_79, h.at (by decide) f_80, h.at (by decide) f_81, h.at (by decide) f_82, h.at (by decide) f_83, h.at (by decide) f_84, h.at (by decide) f_85, h.at (by decide) f_86, h.at (by decide) f_87, h.at (by decide) f_88, h.at (by decide) f_89, h.at (by decide) f_90, h.at (by decide) f_91, h.at (by decide) f_92, h.at (by decide) f_93⟩
def mp_G3 (cI cZ cV cN : ClassId) (q : Nat → Nat) (ws : va_W) : Prop := ws[94]? = some (((q 94), Sum.inl (cI, 4096, Sum.inl (fun _ => 0))) : Nat × va_E) ∧ ws[95]? = some (((q 95), Sum.inl (cZ, 4096, Sum.inl (fun _ => 0))) : Nat × va_E) ∧ ws[96]? = some (((q 96), Sum.inl (cZ, 4096, Sum.inl (fun _ => 0))) : Nat × va_E) ∧ ws[97]? = some (((q 97), Sum.inr (9, [Value.ref (q 98), Value.ref (q 99), Value.ref (q 100), Value.ref (q 101), Value.ref (q 102), Value.ref (q 103), Value.ref (q 104), Value.int 0, Value.int 0, Value.int 0, Value.int 0])) : Nat × va_E) ∧ ws[98]? = some (((q 98), Sum.inl (cI, 4097, Sum.inl (fun _ => 0))) : Nat × va_E) ∧ ws[99]? = some (((q 99), Sum.inl (cI, 4097, Sum.inl (fun _ => 0))) : Nat × va_E) ∧ ws[100]? = some (((q 100), Sum.inl (cI, 4098, Sum.inl (fun _ => 0))) : Nat × va_E) ∧ ws[101]? = some (((q 101), Sum.inl (cI, 4097, Sum.inl (fun _ => 0))) : Nat × va_E) ∧ ws[102]? = some (((q 102), Sum.inl (cI, 4096, Sum.inl (fun _ => 0))) : Nat × va_E) ∧ ws[103]? = some (((q 103), Sum.inl (cZ, 4096, Sum.inl (fun _ => 0))) : Nat × va_E) ∧ ws[104]? = some (((q 104), Sum.inl (cZ, 4096, Sum.inl (fun _ => 0))) : Nat × va_E) ∧ ws[105]? = some (((q 105), Sum.inr (9, [Value.ref (q 106), Value.ref (q 107), Value.ref (q 108), Value.ref (q 109), Value.ref (q 110), Value.ref (q 111), Value.ref (q 112), Value.int 0, Value.int 0, Value.int 0, Value.int 0])) : Nat × va_E) ∧ ws[106]? = some (((q 106), Sum.inl (cI, 4097, Sum.inl (fun _ => 0))) : Nat × va_E) ∧ ws[107]? = some (((q 107), Sum.inl (cI, 4097, Sum.inl (fun _ => 0))) : Nat × va_E) ∧ ws[108]? = some (((q 108), Sum.inl (cI, 4098, Sum.inl (fun _ => 0))) : Nat × va_E) ∧ ws[109]? = some (((q 109), Sum.inl (cI, 4097, Sum.inl (fun _ => 0))) : Nat × va_E)
theorem mp_G3_mono {cI cZ cV cN : ClassId} {q : Nat → Nat} {ws ws1 : va_W} {j : Nat} (h : gx_g ws ws1 j []) (g : mp_G3 cI cZ cV cN q ws) : mp_G3 cI cZ cV cN q ws1 := by
  unfold mp_G3 at g ⊢
  obtain ⟨f_94, f_95, f_96, f_97, f_98, f_99, f_100, f_101, f_102, f_103, f_104, f_105, f_106, f_107, f_108, f_109⟩ := g
  exact ⟨h.at (by decide) f_94, h.at (by decide) f_95, h.at (by decide) f_96, h.at (by decide) f_97, h.at (by decide) f_98, h.at (by decide) f_99, h.at (by decide) f_100, h.at (by decide) f_101, h.at (by decide) f_102, h.at (by decide) f_103, h.at (by decide) f_104, h.at (by decide) f_105, h.at (by decide) f_106, h.at (by decide) f_107, h.at (by decide) f_108, h.at (by decide) f_109⟩
def mp_G4 (cI cZ cV cN : ClassId) (q : Nat → Nat) (ws : va_W) : Prop := ws[110]? = some (((q 110), Sum.inl (cI, 4096, Sum.inl (fun _ => 0))) : Nat × va_E) ∧ ws[111]? = some (((q 111), Sum.inl (cZ, 4096, Sum.inl (fun _ => 0))) : Nat × va_E) ∧ ws[112]? = some (((q 112), Sum.inl (cZ, 4096, Sum.inl (fun _ => 0))) : Nat × va_E) ∧ ws[113]? = some (((q 113), Sum.inr (9, [Value.ref (q 114), Value.ref (q 115), Value.ref (q 116), Value.ref (q 117), Value.ref (q 118), Value.ref (q 119), Value.ref (q 120), Value.int 0, Value.int 0, Value.int 0, Value.int 0])) : Nat × va_E) ∧ ws[114]? = some (((q 114), Sum.inl (cI, 4097, Sum.inl (fun _ => 0))) : Nat × va_E) ∧ ws[115]? = some (((q 115), Sum.inl (cI, 4097, Sum.inl (fun _ => 0))) : Nat × va_E) ∧ ws[116]? = some (((q 116), Sum.inl (cI, 4098, Sum.inl (fun _ => 0))) : Nat × va_E) ∧ ws[117]? = some (((q 117), Sum.inl (cI, 4097, Sum.inl (fun _ => 0))) : Nat × va_E) ∧ ws[118]? = some (((q 118), Sum.inl (cI, 4096, Sum.inl (fun _ => 0))) : Nat × va_E) ∧ ws[119]? = some (((q 119), Sum.inl (cZ, 4096, Sum.inl (fun _ => 0))) : Nat × va_E) ∧ ws[120]? = some (((q 120), Sum.inl (cZ, 4096, Sum.inl (fun _ => 0))) : Nat × va_E)
theorem mp_G4_mono {cI cZ cV cN : ClassId} {q : Nat → Nat} {ws ws1 : va_W} {j : Nat} (h : gx_g ws ws1 j []) (g : mp_G4 cI cZ cV cN q ws) : mp_G4 cI cZ cV cN q ws1 := by
  unfold mp_G4 at g ⊢
  obtain ⟨f_110, f_111, f_112, f_113, f_114, f_115, f_116, f_117, f_118, f_119, f_120⟩ := g
  exact ⟨h.at (by decide) f_110, h.at (by decide) f_111, h.at (by decide) f_112, h.at (by decide) f_113, h.at (by decide) f_114, h.at (by decide) f_115, h.at (by decide) f_116, h.at (by decide) f_117, h.at (by decide) f_118, h.at (by decide) f_119, h.at (by decide) f_120⟩
set_option maxHeartbeats 4000000 in
set_option maxRecDepth 100000 in
theorem c_Mo_init2 (l : Launch) (htr : l.stackTraces = false) (D : va_G) (tys : List (ClassId × FieldType)) (z sz : Nat) (ws : va_W) (cI : ClassId) (cZ : ClassId) (cV : ClassId) (cN : ClassId) (a : Nat) (f_46 : ws[46]? = some ((a, Sum.inr (8, [Value.int 0, Value.int 0, Value.null, Value.null, Value.null, Value.int 0, Value.null, Value.null, Value.null, Value.null, Value.int 0, Value.int 0, Value.int 0, Value.int 0, Value.int 0, Value.null, Value.null, Value.null, Value.int 0, Value.int 0, Value.int 0, Value.null, Value.null, Value.int 0, Value.int 0, Value.int 0, Value.null, Value.null, Value.null, Value.null, Value.int 0, Value.null, Value.int 0, Value.int 0, Value.int 0])) : Nat × va_E)) (ht0 : tys[0]? = some ((cI, FieldType.int) : ClassId × FieldType)) (ht1 : tys[1]? = some ((cZ, FieldType.boolean) : ClassId × FieldType)) (ht5 : tys[5]? = some ((cV, FieldType.object "CommitLedgerModel$Version") : ClassId × FieldType)) (ht8 : tys[8]? = some ((cN, FieldType.array .int) : ClassId × FieldType)) (hlen : ws.length = 47) : gx_Met l y_Mo_init [Cond.code y_Mo_init b_Mo_init 1 none] { frames := 2, cells := 74, slots := 477700, locals := 40 } (gx_P z sz D classes tys ws [Value.ref a]) (gx_Q D classes tys (va_A ws sz) (fun r ws' => r = Sum.inl none ∧ gx_g ws ws' 74 [46] ∧ ∃ (q : Nat → Nat), q 46 = a ∧ mp_G0 cI cZ cV cN q ws' ∧ mp_G1 cI cZ cV cN q ws' ∧ mp_G2 cI cZ cV cN q ws' ∧ mp_G3 cI cZ cV cN q ws' ∧ mp_G4 cI cZ cV cN q ws')) 74 477700 (va_A ws sz) := by
  refine gx_ofW (cc := b_Mo_init) (maxL := 1) (ret := none) (by decide) rfl ?_
  intro p e s m args below meth c s₁ B hml hv
  obtain ⟨rfl, hsz, hz, hP, hK, hD0, hY⟩ := hv
  have hx := B.exec
  have hb := B.bytes
  have hr := B.returns
  have hts := hY.hts (#[Value.ref a] : Array Value)
  have hown : s.vm.findClass "CommitLedgerModel" = some m.cls := findClass_of_methodNamed B.named
  have hlocks := B.notSynchronized
  have hin : meth.name = "<init>" := (name_of_methodNamed B.named B.method).1
  have hne : c.exceptionTable.isEmpty = true := B.noHandlers (atoms_spec (ws := [Cond.code y_Mo_init b_Mo_init 1 none]) B.pre _ List.mem_cons_self)
  subst hsz
  have hAz := gx_az hD0 hz
  have hD := hD0.self (sz := s.heap.size)
  have hN := gx_ns hP
  have hA : ∀ q : Nat, s.heap.size ≤ q → va_A ws s.heap.size q := fun q h => Or.inr h
  generalize va_A ws s.heap.size = A at hD hN hA hAz ⊢
  generalize hPQ : (fun (r : Option Value ⊕ String) (ws' : va_W) => r = Sum.inl none ∧ gx_g ws ws' 74 [46] ∧ ∃ (q : Nat → Nat), q 46 = a ∧ mp_G0 cI cZ cV cN q ws' ∧ mp_G1 cI cZ cV cN q ws' ∧ mp_G2 cI cZ cV cN q ws' ∧ mp_G3 cI cZ cV cN q ws' ∧ mp_G4 cI cZ cV cN q ws') = PQ
  have hS : va_S A s.heap s.heap [] := va_S.rf
  have hlen0 := hlen
  have hU : gx_g ws ws 0 [46] := gx_g.rf
  have hl := lv_entry ([Value.ref a]) (n := 1) (Nat.le_of_ble_eq_true rfl)
  rw [lg_entry_eq]
  generalize (lg_sl ([Value.ref a]) ++ List.replicate (1 - (lg_sl ([Value.ref a])).length) Slot.unset).toArray = ls at hl ⊢
  have hl : lv_has ls 1 [(0, Value.ref a)] := hl
  refine lv_aload_n hx hb d_Mo_init_0 rfl (lv_at hl 0 rfl) ?_
  refine W.objInit hx hb hown (hts _ km_Mo_1) (hts _ kI_Object_init) (hts _ kc_Object_init) rfl (by rw [hml]; exact hl.1) rfl d_Mo_init_1 (Nat.le_of_ble_eq_true rfl) (Nat.le_of_ble_eq_true rfl) ?_
  refine W.eq (g2 := F0 m 4 ls []) rfl ?_
  refine lv_aload_n hx hb d_Mo_init_4 rfl (lv_at hl 0 rfl) ?_
  refine lv_sipush (v := 4096) hx hb d_Mo_init_5 (by decide) ?_
  refine gx_newa (atype := .int) (ty := .int) (N' := 4096) (a0 := (4096, Sum.inl (fun _ => 0))) hx hb (hts _ kA_int) rfl hK hP hD hS hA 0 ht0 (fun _ => rfl) (by decide) (by decide) (by decide) (Nat.le_of_ble_eq_true rfl) (Nat.le_of_ble_eq_true rfl) d_Mo_init_8 (fun q1 H hP9 hD9 hS9 => ?_)
  obtain ⟨ws2, e_ws2⟩ : ∃ x : va_W, x = ws ++ [((q1, Sum.inl (cI, 4096, Sum.inl (fun _ => 0))) : Nat × va_E)] := ⟨_, rfl⟩
  replace hP : va_P D classes ws2 H := by rw [e_ws2]; exact hP9
  replace hD : va_D A ws2 := by rw [e_ws2]; exact hD9
  replace hS := hS9
  clear hP9 hD9 hS9
  have f_47_ws2 : ws2[47]? = some ((q1, Sum.inl (cI, 4096, Sum.inl (fun _ => 0))) : Nat × va_E) := by rw [e_ws2]; exact gs_last hlen
  replace hlen : ws2.length = 48 := by rw [e_ws2]; exact gs_len hlen
  replace hU : gx_g ws ws2 1 [46] := by rw [e_ws2]; exact hU.push
  refine W.widen (k := 1) (n := 4096) (by decide) (by decide) ?_
  have f_46_ws2 : ws2[46]? = some ((a, Sum.inr (8, [Value.int 0, Value.int 0, Value.null, Value.null, Value.null, Value.int 0, Value.null, Value.null, Value.null, Value.null, Value.int 0, Value.int 0, Value.int 0, Value.int 0, Value.int 0, Value.null, Value.null, Value.null, Value.int 0, Value.int 0, Value.int 0, Value.null, Value.null, Value.int 0, Value.int 0, Value.int 0, Value.null, Value.null, Value.null, Value.null, Value.int 0, Value.null, Value.int 0, Value.int 0, Value.int 0])) : Nat × va_E) := by rw [e_ws2]; exact gs_app f_46
  clear f_46
  refine va_putF (D := D) (ci := 8) (v := Value.ref q1) (ty := .array .int) (C := "CommitLedgerModel") (T := F_Mo) (N := 35) hx hb hts i_Mo t_Mo t_Mo_ok n_Mo hown hK hP hD hS 46 f_46_ws2 rfl 2 (by decide) (hts _ kf_Mo_9) (fun _ h9 => h9) rfl hin rfl (by decide +kernel) rfl rfl (Nat.le_of_ble_eq_true rfl) d_Mo_init_10 (fun H locs hP9 hD9 hS9 => ?_)
  obtain ⟨ws3, e_ws3⟩ : ∃ x : va_W, x = ws2.set 46 ((a, Sum.inr (8, [Value.int 0, Value.int 0, Value.ref q1, Value.null, Value.null, Value.int 0, Value.null, Value.null, Value.null, Value.null, Value.int 0, Value.int 0, Value.int 0, Value.int 0, Value.int 0, Value.null, Value.null, Value.null, Value.int 0, Value.int 0, Value.int 0, Value.null, Value.null, Value.int 0, Value.int 0, Value.int 0, Value.null, Value.null, Value.null, Value.null, Value.int 0, Value.null, Value.int 0, Value.int 0, Value.int 0])) : Nat × va_E) := ⟨_, rfl⟩
  replace hP : va_P D classes ws3 H := by rw [e_ws3]; exact hP9
  replace hD : va_D A ws3 := by rw [e_ws3]; exact hD9
  replace hS := hS9
  clear hP9 hD9 hS9
  have f_46_ws3 : ws3[46]? = some ((a, Sum.inr (8, [Value.int 0, Value.int 0, Value.ref q1, Value.null, Value.null, Value.int 0, Value.null, Value.null, Value.null, Value.null, Value.int 0, Value.int 0, Value.int 0, Value.int 0, Value.int 0, Value.null, Value.null, Value.null, Value.int 0, Value.int 0, Value.int 0, Value.null, Value.null, Value.int 0, Value.int 0, Value.int 0, Value.null, Value.null, Value.null, Value.null, Value.int 0, Value.null, Value.int 0, Value.int 0, Value.int 0])) : Nat × va_E) := by rw [e_ws3]; exact gs_self f_46_ws2
  replace hlen : ws3.length = 48 := by rw [e_ws3]; exact gs_lens hlen
  replace hU : gx_g ws ws3 1 [46] := by rw [e_ws3]; exact hU.put (Or.inl (by simp))
  refine lv_aload_n hx hb d_Mo_init_13 rfl (lv_at hl 0 rfl) ?_
  refine lv_sipush (v := 4096) hx hb d_Mo_init_14 (by decide) ?_
  refine gx_newa (atype := .int) (ty := .int) (N' := 4096) (a0 := (4096, Sum.inl (fun _ => 0))) hx hb (hts _ kA_int) rfl hK hP hD hS hA 0 ht0 (fun _ => rfl) (by decide) (by decide) (by decide) (Nat.le_of_ble_eq_true rfl) (Nat.le_of_ble_eq_true rfl) d_Mo_init_17 (fun q4 H hP9 hD9 hS9 => ?_)
  obtain ⟨ws5, e_ws5⟩ : ∃ x : va_W, x = ws3 ++ [((q4, Sum.inl (cI, 4096, Sum.inl (fun _ => 0))) : Nat × va_E)] := ⟨_, rfl⟩
  replace hP : va_P D classes ws5 H := by rw [e_ws5]; exact hP9
  replace hD : va_D A ws5 := by rw [e_ws5]; exact hD9
  replace hS := hS9
  clear hP9 hD9 hS9
  have f_48_ws5 : ws5[48]? = some ((q4, Sum.inl (cI, 4096, Sum.inl (fun _ => 0))) : Nat × va_E) := by rw [e_ws5]; exact gs_last hlen
  replace hlen : ws5.length = 49 := by rw [e_ws5]; exact gs_len hlen
  replace hU : gx_g ws ws5 2 [46] := by rw [e_ws5]; exact hU.push
  refine W.widen (k := 2) (n := 8192) (by decide) (by decide) ?_
  have f_46_ws5 : ws5[46]? = some ((a, Sum.inr (8, [Value.int 0, Value.int 0, Value.ref q1, Value.null, Value.null, Value.int 0, Value.null, Value.null, Value.null, Value.null, Value.int 0, Value.int 0, Value.int 0, Value.int 0, Value.int 0, Value.null, Value.null, Value.null, Value.int 0, Value.int 0, Value.int 0, Value.null, Value.null, Value.int 0, Value.int 0, Value.int 0, Value.null, Value.null, Value.null, Value.null, Value.int 0, Value.null, Value.int 0, Value.int 0, Value.int 0])) : Nat × va_E) := by rw [e_ws5]; exact gs_app f_46_ws3
  clear f_46_ws3
  refine va_putF (D := D) (ci := 8) (v := Value.ref q4) (ty := .array .int) (C := "CommitLedgerModel") (T := F_Mo) (N := 35) hx hb hts i_Mo t_Mo t_Mo_ok n_Mo hown hK hP hD hS 46 f_46_ws5 rfl 3 (by decide) (hts _ kf_Mo_13) (fun _ h9 => h9) rfl hin rfl (by decide +kernel) rfl rfl (Nat.le_of_ble_eq_true rfl) d_Mo_init_19 (fun H locs hP9 hD9 hS9 => ?_)
  obtain ⟨ws6, e_ws6⟩ : ∃ x : va_W, x = ws5.set 46 ((a, Sum.inr (8, [Value.int 0, Value.int 0, Value.ref q1, Value.ref q4, Value.null, Value.int 0, Value.null, Value.null, Value.null, Value.null, Value.int 0, Value.int 0, Value.int 0, Value.int 0, Value.int 0, Value.null, Value.null, Value.null, Value.int 0, Value.int 0, Value.int 0, Value.null, Value.null, Value.int 0, Value.int 0, Value.int 0, Value.null, Value.null, Value.null, Value.null, Value.int 0, Value.null, Value.int 0, Value.int 0, Value.int 0])) : Nat × va_E) := ⟨_, rfl⟩
  replace hP : va_P D classes ws6 H := by rw [e_ws6]; exact hP9
  replace hD : va_D A ws6 := by rw [e_ws6]; exact hD9
  replace hS := hS9
  clear hP9 hD9 hS9
  have f_46_ws6 : ws6[46]? = some ((a, Sum.inr (8, [Value.int 0, Value.int 0, Value.ref q1, Value.ref q4, Value.null, Value.int 0, Value.null, Value.null, Value.null, Value.null, Value.int 0, Value.int 0, Value.int 0, Value.int 0, Value.int 0, Value.null, Value.null, Value.null, Value.int 0, Value.int 0, Value.int 0, Value.null, Value.null, Value.int 0, Value.int 0, Value.int 0, Value.null, Value.null, Value.null, Value.null, Value.int 0, Value.null, Value.int 0, Value.int 0, Value.int 0])) : Nat × va_E) := by rw [e_ws6]; exact gs_self f_46_ws5
  replace hlen : ws6.length = 49 := by rw [e_ws6]; exact gs_lens hlen
  replace hU : gx_g ws ws6 2 [46] := by rw [e_ws6]; exact hU.put (Or.inl (by simp))
  refine lv_aload_n hx hb d_Mo_init_22 rfl (lv_at hl 0 rfl) ?_
  refine lv_sipush (v := 4096) hx hb d_Mo_init_23 (by decide) ?_
  refine gx_newa (atype := .int) (ty := .int) (N' := 4096) (a0 := (4096, Sum.inl (fun _ => 0))) hx hb (hts _ kA_int) rfl hK hP hD hS hA 0 ht0 (fun _ => rfl) (by decide) (by decide) (by decide) (Nat.le_of_ble_eq_true rfl) (Nat.le_of_ble_eq_true rfl) d_Mo_init_26 (fun q7 H hP9 hD9 hS9 => ?_)
  obtain ⟨ws8, e_ws8⟩ : ∃ x : va_W, x = ws6 ++ [((q7, Sum.inl (cI, 4096, Sum.inl (fun _ => 0))) : Nat × va_E)] := ⟨_, rfl⟩
  replace hP : va_P D classes ws8 H := by rw [e_ws8]; exact hP9
  replace hD : va_D A ws8 := by rw [e_ws8]; exact hD9
  replace hS := hS9
  clear hP9 hD9 hS9
  have f_49_ws8 : ws8[49]? = some ((q7, Sum.inl (cI, 4096, Sum.inl (fun _ => 0))) : Nat × va_E) := by rw [e_ws8]; exact gs_last hlen
  replace hlen : ws8.length = 50 := by rw [e_ws8]; exact gs_len hlen
  replace hU : gx_g ws ws8 3 [46] := by rw [e_ws8]; exact hU.push
  refine W.widen (k := 3) (n := 12288) (by decide) (by decide) ?_
  have f_46_ws8 : ws8[46]? = some ((a, Sum.inr (8, [Value.int 0, Value.int 0, Value.ref q1, Value.ref q4, Value.null, Value.int 0, Value.null, Value.null, Value.null, Value.null, Value.int 0, Value.int 0, Value.int 0, Value.int 0, Value.int 0, Value.null, Value.null, Value.null, Value.int 0, Value.int 0, Value.int 0, Value.null, Value.null, Value.int 0, Value.int 0, Value.int 0, Value.null, Value.null, Value.null, Value.null, Value.int 0, Value.null, Value.int 0, Value.int 0, Value.int 0])) : Nat × va_E) := by rw [e_ws8]; exact gs_app f_46_ws6
  clear f_46_ws6
  refine va_putF (D := D) (ci := 8) (v := Value.ref q7) (ty := .array .int) (C := "CommitLedgerModel") (T := F_Mo) (N := 35) hx hb hts i_Mo t_Mo t_Mo_ok n_Mo hown hK hP hD hS 46 f_46_ws8 rfl 4 (by decide) (hts _ kf_Mo_16) (fun _ h9 => h9) rfl hin rfl (by decide +kernel) rfl rfl (Nat.le_of_ble_eq_true rfl) d_Mo_init_28 (fun H locs hP9 hD9 hS9 => ?_)
  obtain ⟨ws9, e_ws9⟩ : ∃ x : va_W, x = ws8.set 46 ((a, Sum.inr (8, [Value.int 0, Value.int 0, Value.ref q1, Value.ref q4, Value.ref q7, Value.int 0, Value.null, Value.null, Value.null, Value.null, Value.int 0, Value.int 0, Value.int 0, Value.int 0, Value.int 0, Value.null, Value.null, Value.null, Value.int 0, Value.int 0, Value.int 0, Value.null, Value.null, Value.int 0, Value.int 0, Value.int 0, Value.null, Value.null, Value.null, Value.null, Value.int 0, Value.null, Value.int 0, Value.int 0, Value.int 0])) : Nat × va_E) := ⟨_, rfl⟩
  replace hP : va_P D classes ws9 H := by rw [e_ws9]; exact hP9
  replace hD : va_D A ws9 := by rw [e_ws9]; exact hD9
  replace hS := hS9
  clear hP9 hD9 hS9
  have f_46_ws9 : ws9[46]? = some ((a, Sum.inr (8, [Value.int 0, Value.int 0, Value.ref q1, Value.ref q4, Value.ref q7, Value.int 0, Value.null, Value.null, Value.null, Value.null, Value.int 0, Value.int 0, Value.int 0, Value.int 0, Value.int 0, Value.null, Value.null, Value.null, Value.int 0, Value.int 0, Value.int 0, Value.null, Value.null, Value.int 0, Value.int 0, Value.int 0, Value.null, Value.null, Value.null, Value.null, Value.int 0, Value.null, Value.int 0, Value.int 0, Value.int 0])) : Nat × va_E) := by rw [e_ws9]; exact gs_self f_46_ws8
  replace hlen : ws9.length = 50 := by rw [e_ws9]; exact gs_lens hlen
  replace hU : gx_g ws ws9 3 [46] := by rw [e_ws9]; exact hU.put (Or.inl (by simp))
  refine lv_aload_n hx hb d_Mo_init_31 rfl (lv_at hl 0 rfl) ?_
  refine lv_ldc (v := 60000) hx hb hown (hts _ ki_Mo_19) d_Mo_init_32 ?_
  refine gx_newa (atype := .int) (ty := .int) (N' := 60000) (a0 := (60000, Sum.inl (fun _ => 0))) hx hb (hts _ kA_int) rfl hK hP hD hS hA 0 ht0 (fun _ => rfl) (by decide) (by decide) (by decide) (Nat.le_of_ble_eq_true rfl) (Nat.le_of_ble_eq_true rfl) d_Mo_init_34 (fun q10 H hP9 hD9 hS9 => ?_)
  obtain ⟨ws11, e_ws11⟩ : ∃ x : va_W, x = ws9 ++ [((q10, Sum.inl (cI, 60000, Sum.inl (fun _ => 0))) : Nat × va_E)] := ⟨_, rfl⟩
  replace hP : va_P D classes ws11 H := by rw [e_ws11]; exact hP9
  replace hD : va_D A ws11 := by rw [e_ws11]; exact hD9
  replace hS := hS9
  clear hP9 hD9 hS9
  have f_50_ws11 : ws11[50]? = some ((q10, Sum.inl (cI, 60000, Sum.inl (fun _ => 0))) : Nat × va_E) := by rw [e_ws11]; exact gs_last hlen
  replace hlen : ws11.length = 51 := by rw [e_ws11]; exact gs_len hlen
  replace hU : gx_g ws ws11 4 [46] := by rw [e_ws11]; exact hU.push
  refine W.widen (k := 4) (n := 72288) (by decide) (by decide) ?_
  have f_46_ws11 : ws11[46]? = some ((a, Sum.inr (8, [Value.int 0, Value.int 0, Value.ref q1, Value.ref q4, Value.ref q7, Value.int 0, Value.null, Value.null, Value.null, Value.null, Value.int 0, Value.int 0, Value.int 0, Value.int 0, Value.int 0, Value.null, Value.null, Value.null, Value.int 0, Value.int 0, Value.int 0, Value.null, Value.null, Value.int 0, Value.int 0, Value.int 0, Value.null, Value.null, Value.null, Value.null, Value.int 0, Value.null, Value.int 0, Value.int 0, Value.int 0])) : Nat × va_E) := by rw [e_ws11]; exact gs_app f_46_ws9
  clear f_46_ws9
  refine va_putF (D := D) (ci := 8) (v := Value.ref q10) (ty := .array .int) (C := "CommitLedgerModel") (T := F_Mo) (N := 35) hx hb hts i_Mo t_Mo t_Mo_ok n_Mo hown hK hP hD hS 46 f_46_ws11 rfl 6 (by decide) (hts _ kf_Mo_20) (fun _ h9 => h9) rfl hin rfl (by decide +kernel) rfl rfl (Nat.le_of_ble_eq_true rfl) d_Mo_init_36 (fun H locs hP9 hD9 hS9 => ?_)
  obtain ⟨ws12, e_ws12⟩ : ∃ x : va_W, x = ws11.set 46 ((a, Sum.inr (8, [Value.int 0, Value.int 0, Value.ref q1, Value.ref q4, Value.ref q7, Value.int 0, Value.ref q10, Value.null, Value.null, Value.null, Value.int 0, Value.int 0, Value.int 0, Value.int 0, Value.int 0, Value.null, Value.null, Value.null, Value.int 0, Value.int 0, Value.int 0, Value.null, Value.null, Value.int 0, Value.int 0, Value.int 0, Value.null, Value.null, Value.null, Value.null, Value.int 0, Value.null, Value.int 0, Value.int 0, Value.int 0])) : Nat × va_E) := ⟨_, rfl⟩
  replace hP : va_P D classes ws12 H := by rw [e_ws12]; exact hP9
  replace hD : va_D A ws12 := by rw [e_ws12]; exact hD9
  replace hS := hS9
  clear hP9 hD9 hS9
  have f_46_ws12 : ws12[46]? = some ((a, Sum.inr (8, [Value.int 0, Value.int 0, Value.ref q1, Value.ref q4, Value.ref q7, Value.int 0, Value.ref q10, Value.null, Value.null, Value.null, Value.int 0, Value.int 0, Value.int 0, Value.int 0, Value.int 0, Value.null, Value.null, Value.null, Value.int 0, Value.int 0, Value.int 0, Value.null, Value.null, Value.int 0, Value.int 0, Value.int 0, Value.null, Value.null, Value.null, Value.null, Value.int 0, Value.null, Value.int 0, Value.int 0, Value.int 0])) : Nat × va_E) := by rw [e_ws12]; exact gs_self f_46_ws11
  replace hlen : ws12.length = 51 := by rw [e_ws12]; exact gs_lens hlen
  replace hU : gx_g ws ws12 4 [46] := by rw [e_ws12]; exact hU.put (Or.inl (by simp))
  refine lv_aload_n hx hb d_Mo_init_39 rfl (lv_at hl 0 rfl) ?_
  refine lv_ldc (v := 60000) hx hb hown (hts _ ki_Mo_19) d_Mo_init_40 ?_
  refine gx_newa (atype := .boolean) (ty := .boolean) (N' := 60000) (a0 := (60000, Sum.inl (fun _ => 0))) hx hb (hts _ kA_boolean) rfl hK hP hD hS hA 1 ht1 (fun _ => rfl) (by decide) (by decide) (by decide) (Nat.le_of_ble_eq_true rfl) (Nat.le_of_ble_eq_true rfl) d_Mo_init_42 (fun q13 H hP9 hD9 hS9 => ?_)
  obtain ⟨ws14, e_ws14⟩ : ∃ x : va_W, x = ws12 ++ [((q13, Sum.inl (cZ, 60000, Sum.inl (fun _ => 0))) : Nat × va_E)] := ⟨_, rfl⟩
  replace hP : va_P D classes ws14 H := by rw [e_ws14]; exact hP9
  replace hD : va_D A ws14 := by rw [e_ws14]; exact hD9
  replace hS := hS9
  clear hP9 hD9 hS9
  have f_51_ws14 : ws14[51]? = some ((q13, Sum.inl (cZ, 60000, Sum.inl (fun _ => 0))) : Nat × va_E) := by rw [e_ws14]; exact gs_last hlen
  replace hlen : ws14.length = 52 := by rw [e_ws14]; exact gs_len hlen
  replace hU : gx_g ws ws14 5 [46] := by rw [e_ws14]; exact hU.push
  refine W.widen (k := 5) (n := 132288) (by decide) (by decide) ?_
  have f_46_ws14 : ws14[46]? = some ((a, Sum.inr (8, [Value.int 0, Value.int 0, Value.ref q1, Value.ref q4, Value.ref q7, Value.int 0, Value.ref q10, Value.null, Value.null, Value.null, Value.int 0, Value.int 0, Value.int 0, Value.int 0, Value.int 0, Value.null, Value.null, Value.null, Value.int 0, Value.int 0, Value.int 0, Value.null, Value.null, Value.int 0, Value.int 0, Value.int 0, Value.null, Value.null, Value.null, Value.null, Value.int 0, Value.null, Value.int 0, Value.int 0, Value.int 0])) : Nat × va_E) := by rw [e_ws14]; exact gs_app f_46_ws12
  clear f_46_ws12
  refine va_putF (D := D) (ci := 8) (v := Value.ref q13) (ty := .array .boolean) (C := "CommitLedgerModel") (T := F_Mo) (N := 35) hx hb hts i_Mo t_Mo t_Mo_ok n_Mo hown hK hP hD hS 46 f_46_ws14 rfl 7 (by decide) (hts _ kf_Mo_23) (fun _ h9 => h9) rfl hin rfl (by decide +kernel) rfl rfl (Nat.le_of_ble_eq_true rfl) d_Mo_init_44 (fun H locs hP9 hD9 hS9 => ?_)
  obtain ⟨ws15, e_ws15⟩ : ∃ x : va_W, x = ws14.set 46 ((a, Sum.inr (8, [Value.int 0, Value.int 0, Value.ref q1, Value.ref q4, Value.ref q7, Value.int 0, Value.ref q10, Value.ref q13, Value.null, Value.null, Value.int 0, Value.int 0, Value.int 0, Value.int 0, Value.int 0, Value.null, Value.null, Value.null, Value.int 0, Value.int 0, Value.int 0, Value.null, Value.null, Value.int 0, Value.int 0, Value.int 0, Value.null, Value.null, Value.null, Value.null, Value.int 0, Value.null, Value.int 0, Value.int 0, Value.int 0])) : Nat × va_E) := ⟨_, rfl⟩
  replace hP : va_P D classes ws15 H := by rw [e_ws15]; exact hP9
  replace hD : va_D A ws15 := by rw [e_ws15]; exact hD9
  replace hS := hS9
  clear hP9 hD9 hS9
  have f_46_ws15 : ws15[46]? = some ((a, Sum.inr (8, [Value.int 0, Value.int 0, Value.ref q1, Value.ref q4, Value.ref q7, Value.int 0, Value.ref q10, Value.ref q13, Value.null, Value.null, Value.int 0, Value.int 0, Value.int 0, Value.int 0, Value.int 0, Value.null, Value.null, Value.null, Value.int 0, Value.int 0, Value.int 0, Value.null, Value.null, Value.int 0, Value.int 0, Value.int 0, Value.null, Value.null, Value.null, Value.null, Value.int 0, Value.null, Value.int 0, Value.int 0, Value.int 0])) : Nat × va_E) := by rw [e_ws15]; exact gs_self f_46_ws14
  replace hlen : ws15.length = 52 := by rw [e_ws15]; exact gs_lens hlen
  replace hU : gx_g ws ws15 5 [46] := by rw [e_ws15]; exact hU.put (Or.inl (by simp))
  refine lv_aload_n hx hb d_Mo_init_47 rfl (lv_at hl 0 rfl) ?_
  refine lv_ldc (v := 60000) hx hb hown (hts _ ki_Mo_19) d_Mo_init_48 ?_
  refine gx_newa (atype := .boolean) (ty := .boolean) (N' := 60000) (a0 := (60000, Sum.inl (fun _ => 0))) hx hb (hts _ kA_boolean) rfl hK hP hD hS hA 1 ht1 (fun _ => rfl) (by decide) (by decide) (by decide) (Nat.le_of_ble_eq_true rfl) (Nat.le_of_ble_eq_true rfl) d_Mo_init_50 (fun q16 H hP9 hD9 hS9 => ?_)
  obtain ⟨ws17, e_ws17⟩ : ∃ x : va_W, x = ws15 ++ [((q16, Sum.inl (cZ, 60000, Sum.inl (fun _ => 0))) : Nat × va_E)] := ⟨_, rfl⟩
  replace hP : va_P D classes ws17 H := by rw [e_ws17]; exact hP9
  replace hD : va_D A ws17 := by rw [e_ws17]; exact hD9
  replace hS := hS9
  clear hP9 hD9 hS9
  have f_52_ws17 : ws17[52]? = some ((q16, Sum.inl (cZ, 60000, Sum.inl (fun _ => 0))) : Nat × va_E) := by rw [e_ws17]; exact gs_last hlen
  replace hlen : ws17.length = 53 := by rw [e_ws17]; exact gs_len hlen
  replace hU : gx_g ws ws17 6 [46] := by rw [e_ws17]; exact hU.push
  refine W.widen (k := 6) (n := 192288) (by decide) (by decide) ?_
  have f_46_ws17 : ws17[46]? = some ((a, Sum.inr (8, [Value.int 0, Value.int 0, Value.ref q1, Value.ref q4, Value.ref q7, Value.int 0, Value.ref q10, Value.ref q13, Value.null, Value.null, Value.int 0, Value.int 0, Value.int 0, Value.int 0, Value.int 0, Value.null, Value.null, Value.null, Value.int 0, Value.int 0, Value.int 0, Value.null, Value.null, Value.int 0, Value.int 0, Value.int 0, Value.null, Value.null, Value.null, Value.null, Value.int 0, Value.null, Value.int 0, Value.int 0, Value.int 0])) : Nat × va_E) := by rw [e_ws17]; exact gs_app f_46_ws15
  clear f_46_ws15
  refine va_putF (D := D) (ci := 8) (v := Value.ref q16) (ty := .array .boolean) (C := "CommitLedgerModel") (T := F_Mo) (N := 35) hx hb hts i_Mo t_Mo t_Mo_ok n_Mo hown hK hP hD hS 46 f_46_ws17 rfl 8 (by decide) (hts _ kf_Mo_27) (fun _ h9 => h9) rfl hin rfl (by decide +kernel) rfl rfl (Nat.le_of_ble_eq_true rfl) d_Mo_init_52 (fun H locs hP9 hD9 hS9 => ?_)
  obtain ⟨ws18, e_ws18⟩ : ∃ x : va_W, x = ws17.set 46 ((a, Sum.inr (8, [Value.int 0, Value.int 0, Value.ref q1, Value.ref q4, Value.ref q7, Value.int 0, Value.ref q10, Value.ref q13, Value.ref q16, Value.null, Value.int 0, Value.int 0, Value.int 0, Value.int 0, Value.int 0, Value.null, Value.null, Value.null, Value.int 0, Value.int 0, Value.int 0, Value.null, Value.null, Value.int 0, Value.int 0, Value.int 0, Value.null, Value.null, Value.null, Value.null, Value.int 0, Value.null, Value.int 0, Value.int 0, Value.int 0])) : Nat × va_E) := ⟨_, rfl⟩
  replace hP : va_P D classes ws18 H := by rw [e_ws18]; exact hP9
  replace hD : va_D A ws18 := by rw [e_ws18]; exact hD9
  replace hS := hS9
  clear hP9 hD9 hS9
  have f_46_ws18 : ws18[46]? = some ((a, Sum.inr (8, [Value.int 0, Value.int 0, Value.ref q1, Value.ref q4, Value.ref q7, Value.int 0, Value.ref q10, Value.ref q13, Value.ref q16, Value.null, Value.int 0, Value.int 0, Value.int 0, Value.int 0, Value.int 0, Value.null, Value.null, Value.null, Value.int 0, Value.int 0, Value.int 0, Value.null, Value.null, Value.int 0, Value.int 0, Value.int 0, Value.null, Value.null, Value.null, Value.null, Value.int 0, Value.null, Value.int 0, Value.int 0, Value.int 0])) : Nat × va_E) := by rw [e_ws18]; exact gs_self f_46_ws17
  replace hlen : ws18.length = 53 := by rw [e_ws18]; exact gs_lens hlen
  replace hU : gx_g ws ws18 6 [46] := by rw [e_ws18]; exact hU.put (Or.inl (by simp))
  refine lv_aload_n hx hb d_Mo_init_55 rfl (lv_at hl 0 rfl) ?_
  refine lv_ldc (v := 60000) hx hb hown (hts _ ki_Mo_19) d_Mo_init_56 ?_
  refine gx_newa (atype := .boolean) (ty := .boolean) (N' := 60000) (a0 := (60000, Sum.inl (fun _ => 0))) hx hb (hts _ kA_boolean) rfl hK hP hD hS hA 1 ht1 (fun _ => rfl) (by decide) (by decide) (by decide) (Nat.le_of_ble_eq_true rfl) (Nat.le_of_ble_eq_true rfl) d_Mo_init_58 (fun q19 H hP9 hD9 hS9 => ?_)
  obtain ⟨ws20, e_ws20⟩ : ∃ x : va_W, x = ws18 ++ [((q19, Sum.inl (cZ, 60000, Sum.inl (fun _ => 0))) : Nat × va_E)] := ⟨_, rfl⟩
  replace hP : va_P D classes ws20 H := by rw [e_ws20]; exact hP9
  replace hD : va_D A ws20 := by rw [e_ws20]; exact hD9
  replace hS := hS9
  clear hP9 hD9 hS9
  have f_53_ws20 : ws20[53]? = some ((q19, Sum.inl (cZ, 60000, Sum.inl (fun _ => 0))) : Nat × va_E) := by rw [e_ws20]; exact gs_last hlen
  replace hlen : ws20.length = 54 := by rw [e_ws20]; exact gs_len hlen
  replace hU : gx_g ws ws20 7 [46] := by rw [e_ws20]; exact hU.push
  refine W.widen (k := 7) (n := 252288) (by decide) (by decide) ?_
  have f_46_ws20 : ws20[46]? = some ((a, Sum.inr (8, [Value.int 0, Value.int 0, Value.ref q1, Value.ref q4, Value.ref q7, Value.int 0, Value.ref q10, Value.ref q13, Value.ref q16, Value.null, Value.int 0, Value.int 0, Value.int 0, Value.int 0, Value.int 0, Value.null, Value.null, Value.null, Value.int 0, Value.int 0, Value.int 0, Value.null, Value.null, Value.int 0, Value.int 0, Value.int 0, Value.null, Value.null, Value.null, Value.null, Value.int 0, Value.null, Value.int 0, Value.int 0, Value.int 0])) : Nat × va_E) := by rw [e_ws20]; exact gs_app f_46_ws18
  clear f_46_ws18
  refine va_putF (D := D) (ci := 8) (v := Value.ref q19) (ty := .array .boolean) (C := "CommitLedgerModel") (T := F_Mo) (N := 35) hx hb hts i_Mo t_Mo t_Mo_ok n_Mo hown hK hP hD hS 46 f_46_ws20 rfl 9 (by decide) (hts _ kf_Mo_30) (fun _ h9 => h9) rfl hin rfl (by decide +kernel) rfl rfl (Nat.le_of_ble_eq_true rfl) d_Mo_init_60 (fun H locs hP9 hD9 hS9 => ?_)
  obtain ⟨ws21, e_ws21⟩ : ∃ x : va_W, x = ws20.set 46 ((a, Sum.inr (8, [Value.int 0, Value.int 0, Value.ref q1, Value.ref q4, Value.ref q7, Value.int 0, Value.ref q10, Value.ref q13, Value.ref q16, Value.ref q19, Value.int 0, Value.int 0, Value.int 0, Value.int 0, Value.int 0, Value.null, Value.null, Value.null, Value.int 0, Value.int 0, Value.int 0, Value.null, Value.null, Value.int 0, Value.int 0, Value.int 0, Value.null, Value.null, Value.null, Value.null, Value.int 0, Value.null, Value.int 0, Value.int 0, Value.int 0])) : Nat × va_E) := ⟨_, rfl⟩
  replace hP : va_P D classes ws21 H := by rw [e_ws21]; exact hP9
  replace hD : va_D A ws21 := by rw [e_ws21]; exact hD9
  replace hS := hS9
  clear hP9 hD9 hS9
  have f_46_ws21 : ws21[46]? = some ((a, Sum.inr (8, [Value.int 0, Value.int 0, Value.ref q1, Value.ref q4, Value.ref q7, Value.int 0, Value.ref q10, Value.ref q13, Value.ref q16, Value.ref q19, Value.int 0, Value.int 0, Value.int 0, Value.int 0, Value.int 0, Value.null, Value.null, Value.null, Value.int 0, Value.int 0, Value.int 0, Value.null, Value.null, Value.int 0, Value.int 0, Value.int 0, Value.null, Value.null, Value.null, Value.null, Value.int 0, Value.null, Value.int 0, Value.int 0, Value.int 0])) : Nat × va_E) := by rw [e_ws21]; exact gs_self f_46_ws20
  replace hlen : ws21.length = 54 := by rw [e_ws21]; exact gs_lens hlen
  replace hU : gx_g ws ws21 7 [46] := by rw [e_ws21]; exact hU.put (Or.inl (by simp))
  refine lv_aload_n hx hb d_Mo_init_63 rfl (lv_at hl 0 rfl) ?_
  refine lv_iconst (v := (-1)) hx hb d_Mo_init_64 (by decide) ?_
  refine va_put (D := D) (ci := 8) (v := Value.int (-1)) (ty := .int) (C := "CommitLedgerModel") (T := F_Mo) (N := 35) hx hb hts i_Mo t_Mo t_Mo_ok n_Mo hown hK hP hD hS 46 f_46_ws21 rfl 13 (by decide) (hts _ kf_Mo_33) (fun _ h9 => h9) rfl (by decide +kernel) rfl rfl (Nat.le_of_ble_eq_true rfl) d_Mo_init_65 (fun H locs hP9 hD9 hS9 => ?_)
  obtain ⟨ws22, e_ws22⟩ : ∃ x : va_W, x = ws21.set 46 ((a, Sum.inr (8, [Value.int 0, Value.int 0, Value.ref q1, Value.ref q4, Value.ref q7, Value.int 0, Value.ref q10, Value.ref q13, Value.ref q16, Value.ref q19, Value.int 0, Value.int 0, Value.int 0, Value.int (-1), Value.int 0, Value.null, Value.null, Value.null, Value.int 0, Value.int 0, Value.int 0, Value.null, Value.null, Value.int 0, Value.int 0, Value.int 0, Value.null, Value.null, Value.null, Value.null, Value.int 0, Value.null, Value.int 0, Value.int 0, Value.int 0])) : Nat × va_E) := ⟨_, rfl⟩
  replace hP : va_P D classes ws22 H := by rw [e_ws22]; exact hP9
  replace hD : va_D A ws22 := by rw [e_ws22]; exact hD9
  replace hS := hS9
  clear hP9 hD9 hS9
  have f_46_ws22 : ws22[46]? = some ((a, Sum.inr (8, [Value.int 0, Value.int 0, Value.ref q1, Value.ref q4, Value.ref q7, Value.int 0, Value.ref q10, Value.ref q13, Value.ref q16, Value.ref q19, Value.int 0, Value.int 0, Value.int 0, Value.int (-1), Value.int 0, Value.null, Value.null, Value.null, Value.int 0, Value.int 0, Value.int 0, Value.null, Value.null, Value.int 0, Value.int 0, Value.int 0, Value.null, Value.null, Value.null, Value.null, Value.int 0, Value.null, Value.int 0, Value.int 0, Value.int 0])) : Nat × va_E) := by rw [e_ws22]; exact gs_self f_46_ws21
  replace hlen : ws22.length = 54 := by rw [e_ws22]; exact gs_lens hlen
  replace hU : gx_g ws ws22 7 [46] := by rw [e_ws22]; exact hU.put (Or.inl (by simp))
  refine lv_aload_n hx hb d_Mo_init_68 rfl (lv_at hl 0 rfl) ?_
  refine va_new (ci := 9) (fs := [Value.null, Value.null, Value.null, Value.null, Value.null, Value.null, Value.null, Value.int 0, Value.int 0, Value.int 0, Value.int 0]) (C := "CommitLedgerModel$Version") (T := F_Ve) (N := 11) hx hb hts i_Ve t_Ve t_Ve_ok hown (hts _ kk_Mo_37) (hts _ kX_Ve) (hts _ kN_Ve) hK hP hD hS hA rfl (by decide) (Nat.le_of_ble_eq_true rfl) (Nat.le_of_ble_eq_true rfl) d_Mo_init_69 (fun q23 H hP9 hD9 hS9 => ?_)
  obtain ⟨ws24, e_ws24⟩ : ∃ x : va_W, x = ws22 ++ [((q23, Sum.inr (9, [Value.null, Value.null, Value.null, Value.null, Value.null, Value.null, Value.null, Value.int 0, Value.int 0, Value.int 0, Value.int 0])) : Nat × va_E)] := ⟨_, rfl⟩
  replace hP : va_P D classes ws24 H := by rw [e_ws24]; exact hP9
  replace hD : va_D A ws24 := by rw [e_ws24]; exact hD9
  replace hS := hS9
  clear hP9 hD9 hS9
  have f_54_ws24 : ws24[54]? = some ((q23, Sum.inr (9, [Value.null, Value.null, Value.null, Value.null, Value.null, Value.null, Value.null, Value.int 0, Value.int 0, Value.int 0, Value.int 0])) : Nat × va_E) := by rw [e_ws24]; exact gs_last hlen
  replace hlen : ws24.length = 55 := by rw [e_ws24]; exact gs_len hlen
  replace hU : gx_g ws ws24 8 [46] := by rw [e_ws24]; exact hU.push
  refine W.widen (k := 8) (n := 252299) (by decide) (by decide) ?_
  refine lv_dup hx hb d_Mo_init_72 rfl ?_
  refine gx_call (ig := .invokespecial 39) (c_Ve_init l htr D tys z _ ws24 cI cZ q23 54 55 f_54_ws24 ht0 ht1 hlen (by decide)) (gx_invIN (As := []) (rest := [Value.ref q23, Value.ref a]) hx hb hown hts km_Mo_39 kI_Ve_init kc_Ve_init (by decide) rfl (show (parseMethodDescriptor y_Ve_init.desc).map (fun d => d.parameters.length) = some 0 by decide +kernel) rfl rfl d_Mo_init_73) (gx_cw (z := 0) hts kc_Ve_init kN_Ve rfl rfl ⟨Nat.le_of_ble_eq_true rfl, Nat.le_of_ble_eq_true rfl⟩) hb hml gx_blind (gx_pre hz hP hK hD hY hS hAz [Value.ref q23]) rfl hl.1 (lv_room (Nat.le_of_ble_eq_true rfl)) d_Mo_init_73 ⟨Nat.le_of_ble_eq_true rfl, Nat.le_of_ble_eq_true rfl⟩ (fun v25 st25 t25 L25 h0_25 hW_25 hQ_25 hL_25 => ?_) (fun v25 st25 t25 L25 h0_25 hW_25 hQ_25 hL_25 => ?_)
  · obtain ⟨ws26, hp, hP9, -, hD9, hS9⟩ := gx_back h0_25 hW_25 hQ_25 hL_25 hD hS hA
    clear hQ_25 h0_25 hL_25 hW_25 hP hD hS
    have hP := hP9
    have hD := hD9
    have hS := hS9
    clear hP9 hD9 hS9
    rcases hp with ⟨q27, q28, q29, q30, q31, q32, q33, hv9, e_ws26, f_54_ws26, f_55_ws26, f_56_ws26, f_57_ws26, f_58_ws26, f_59_ws26, f_60_ws26, f_61_ws26⟩
    cases hv9
    have f_54_ws26 : ws26[54]? = some ((q23, Sum.inr (9, [Value.ref q27, Value.ref q28, Value.ref q29, Value.ref q30, Value.ref q31, Value.ref q32, Value.ref q33, Value.int 0, Value.int 0, Value.int 0, Value.int 0])) : Nat × va_E) := f_54_ws26
    have f_55_ws26 : ws26[55]? = some ((q27, Sum.inl (cI, 4097, Sum.inl (fun _ => 0))) : Nat × va_E) := f_55_ws26
    have f_56_ws26 : ws26[56]? = some ((q28, Sum.inl (cI, 4097, Sum.inl (fun _ => 0))) : Nat × va_E) := f_56_ws26
    have f_57_ws26 : ws26[57]? = some ((q29, Sum.inl (cI, 4098, Sum.inl (fun _ => 0))) : Nat × va_E) := f_57_ws26
    have f_58_ws26 : ws26[58]? = some ((q30, Sum.inl (cI, 4097, Sum.inl (fun _ => 0))) : Nat × va_E) := f_58_ws26
    have f_59_ws26 : ws26[59]? = some ((q31, Sum.inl (cI, 4096, Sum.inl (fun _ => 0))) : Nat × va_E) := f_59_ws26
    have f_60_ws26 : ws26[60]? = some ((q32, Sum.inl (cZ, 4096, Sum.inl (fun _ => 0))) : Nat × va_E) := f_60_ws26
    have f_61_ws26 : ws26[61]? = some ((q33, Sum.inl (cZ, 4096, Sum.inl (fun _ => 0))) : Nat × va_E) := f_61_ws26
    replace hlen : ws26.length = 62 := by rw [e_ws26.1, hlen]
    replace hU : gx_g ws ws26 15 [46] := hU.call e_ws26 (by rw [hlen0]; decide)
    refine W.eq (g2 := F0 m 76 ls [Value.ref q23, Value.ref a]) rfl ?_
    refine W.widen (k := 15) (n := 280976) (by decide) (by decide) ?_
    generalize t25.heap = H at hP hS ⊢
    generalize locs ++ L25 = locs at hS ⊢
    have f_46_ws24 : ws24[46]? = some ((a, Sum.inr (8, [Value.int 0, Value.int 0, Value.ref q1, Value.ref q4, Value.ref q7, Value.int 0, Value.ref q10, Value.ref q13, Value.ref q16, Value.ref q19, Value.int 0, Value.int 0, Value.int 0, Value.int (-1), Value.int 0, Value.null, Value.null, Value.null, Value.int 0, Value.int 0, Value.int 0, Value.null, Value.null, Value.int 0, Value.int 0, Value.int 0, Value.null, Value.null, Value.null, Value.null, Value.int 0, Value.null, Value.int 0, Value.int 0, Value.int 0])) : Nat × va_E) := by rw [e_ws24]; exact gs_app f_46_ws22
    clear f_46_ws22
    have f_46_ws26 : ws26[46]? = some ((a, Sum.inr (8, [Value.int 0, Value.int 0, Value.ref q1, Value.ref q4, Value.ref q7, Value.int 0, Value.ref q10, Value.ref q13, Value.ref q16, Value.ref q19, Value.int 0, Value.int 0, Value.int 0, Value.int (-1), Value.int 0, Value.null, Value.null, Value.null, Value.int 0, Value.int 0, Value.int 0, Value.null, Value.null, Value.int 0, Value.int 0, Value.int 0, Value.null, Value.null, Value.null, Value.null, Value.int 0, Value.null, Value.int 0, Value.int 0, Value.int 0])) : Nat × va_E) := e_ws26.at (by first | decide | (simp; done) | (simp; omega)) f_46_ws24
    clear f_46_ws24
    refine va_putF (D := D) (ci := 8) (v := Value.ref q23) (ty := .object "CommitLedgerModel$Version") (C := "CommitLedgerModel") (T := F_Mo) (N := 35) hx hb hts i_Mo t_Mo t_Mo_ok n_Mo hown hK hP hD hS 46 f_46_ws26 rfl 15 (by decide) (hts _ kf_Mo_40) (fun _ h9 => h9) rfl hin rfl (by decide +kernel) rfl rfl (Nat.le_of_ble_eq_true rfl) d_Mo_init_76 (fun H locs hP9 hD9 hS9 => ?_)
    obtain ⟨ws34, e_ws34⟩ : ∃ x : va_W, x = ws26.set 46 ((a, Sum.inr (8, [Value.int 0, Value.int 0, Value.ref q1, Value.ref q4, Value.ref q7, Value.int 0, Value.ref q10, Value.ref q13, Value.ref q16, Value.ref q19, Value.int 0, Value.int 0, Value.int 0, Value.int (-1), Value.int 0, Value.ref q23, Value.null, Value.null, Value.int 0, Value.int 0, Value.int 0, Value.null, Value.null, Value.int 0, Value.int 0, Value.int 0, Value.null, Value.null, Value.null, Value.null, Value.int 0, Value.null, Value.int 0, Value.int 0, Value.int 0])) : Nat × va_E) := ⟨_, rfl⟩
    replace hP : va_P D classes ws34 H := by rw [e_ws34]; exact hP9
    replace hD : va_D A ws34 := by rw [e_ws34]; exact hD9
    replace hS := hS9
    clear hP9 hD9 hS9
    have f_46_ws34 : ws34[46]? = some ((a, Sum.inr (8, [Value.int 0, Value.int 0, Value.ref q1, Value.ref q4, Value.ref q7, Value.int 0, Value.ref q10, Value.ref q13, Value.ref q16, Value.ref q19, Value.int 0, Value.int 0, Value.int 0, Value.int (-1), Value.int 0, Value.ref q23, Value.null, Value.null, Value.int 0, Value.int 0, Value.int 0, Value.null, Value.null, Value.int 0, Value.int 0, Value.int 0, Value.null, Value.null, Value.null, Value.null, Value.int 0, Value.null, Value.int 0, Value.int 0, Value.int 0])) : Nat × va_E) := by rw [e_ws34]; exact gs_self f_46_ws26
    replace hlen : ws34.length = 62 := by rw [e_ws34]; exact gs_lens hlen
    replace hU : gx_g ws ws34 15 [46] := by rw [e_ws34]; exact hU.put (Or.inl (by simp))
    refine lv_aload_n hx hb d_Mo_init_79 rfl (lv_at hl 0 rfl) ?_
    refine va_new (ci := 9) (fs := [Value.null, Value.null, Value.null, Value.null, Value.null, Value.null, Value.null, Value.int 0, Value.int 0, Value.int 0, Value.int 0]) (C := "CommitLedgerModel$Version") (T := F_Ve) (N := 11) hx hb hts i_Ve t_Ve t_Ve_ok hown (hts _ kk_Mo_37) (hts _ kX_Ve) (hts _ kN_Ve) hK hP hD hS hA rfl (by decide) (Nat.le_of_ble_eq_true rfl) (Nat.le_of_ble_eq_true rfl) d_Mo_init_80 (fun q35 H hP9 hD9 hS9 => ?_)
    obtain ⟨ws36, e_ws36⟩ : ∃ x : va_W, x = ws34 ++ [((q35, Sum.inr (9, [Value.null, Value.null, Value.null, Value.null, Value.null, Value.null, Value.null, Value.int 0, Value.int 0, Value.int 0, Value.int 0])) : Nat × va_E)] := ⟨_, rfl⟩
    replace hP : va_P D classes ws36 H := by rw [e_ws36]; exact hP9
    replace hD : va_D A ws36 := by rw [e_ws36]; exact hD9
    replace hS := hS9
    clear hP9 hD9 hS9
    have f_62_ws36 : ws36[62]? = some ((q35, Sum.inr (9, [Value.null, Value.null, Value.null, Value.null, Value.null, Value.null, Value.null, Value.int 0, Value.int 0, Value.int 0, Value.int 0])) : Nat × va_E) := by rw [e_ws36]; exact gs_last hlen
    replace hlen : ws36.length = 63 := by rw [e_ws36]; exact gs_len hlen
    replace hU : gx_g ws ws36 16 [46] := by rw [e_ws36]; exact hU.push
    refine W.widen (k := 16) (n := 280987) (by decide) (by decide) ?_
    refine lv_dup hx hb d_Mo_init_83 rfl ?_
    refine gx_call (ig := .invokespecial 39) (c_Ve_init l htr D tys z _ ws36 cI cZ q35 62 63 f_62_ws36 ht0 ht1 hlen (by decide)) (gx_invIN (As := []) (rest := [Value.ref q35, Value.ref a]) hx hb hown hts km_Mo_39 kI_Ve_init kc_Ve_init (by decide) rfl (show (parseMethodDescriptor y_Ve_init.desc).map (fun d => d.parameters.length) = some 0 by decide +kernel) rfl rfl d_Mo_init_84) (gx_cw (z := 0) hts kc_Ve_init kN_Ve rfl rfl ⟨Nat.le_of_ble_eq_true rfl, Nat.le_of_ble_eq_true rfl⟩) hb hml gx_blind (gx_pre hz hP hK hD hY hS hAz [Value.ref q35]) rfl hl.1 (lv_room (Nat.le_of_ble_eq_true rfl)) d_Mo_init_84 ⟨Nat.le_of_ble_eq_true rfl, Nat.le_of_ble_eq_true rfl⟩ (fun v37 st37 t37 L37 h0_37 hW_37 hQ_37 hL_37 => ?_) (fun v37 st37 t37 L37 h0_37 hW_37 hQ_37 hL_37 => ?_)
    · obtain ⟨ws38, hp, hP9, -, hD9, hS9⟩ := gx_back h0_37 hW_37 hQ_37 hL_37 hD hS hA
      clear hQ_37 h0_37 hL_37 hW_37 hP hD hS
      have hP := hP9
      have hD := hD9
      have hS := hS9
      clear hP9 hD9 hS9
      rcases hp with ⟨q39, q40, q41, q42, q43, q44, q45, hv9, e_ws38, f_62_ws38, f_63_ws38, f_64_ws38, f_65_ws38, f_66_ws38, f_67_ws38, f_68_ws38, f_69_ws38⟩
      cases hv9
      have f_62_ws38 : ws38[62]? = some ((q35, Sum.inr (9, [Value.ref q39, Value.ref q40, Value.ref q41, Value.ref q42, Value.ref q43, Value.ref q44, Value.ref q45, Value.int 0, Value.int 0, Value.int 0, Value.int 0])) : Nat × va_E) := f_62_ws38
      have f_63_ws38 : ws38[63]? = some ((q39, Sum.inl (cI, 4097, Sum.inl (fun _ => 0))) : Nat × va_E) := f_63_ws38
      have f_64_ws38 : ws38[64]? = some ((q40, Sum.inl (cI, 4097, Sum.inl (fun _ => 0))) : Nat × va_E) := f_64_ws38
      have f_65_ws38 : ws38[65]? = some ((q41, Sum.inl (cI, 4098, Sum.inl (fun _ => 0))) : Nat × va_E) := f_65_ws38
      have f_66_ws38 : ws38[66]? = some ((q42, Sum.inl (cI, 4097, Sum.inl (fun _ => 0))) : Nat × va_E) := f_66_ws38
      have f_67_ws38 : ws38[67]? = some ((q43, Sum.inl (cI, 4096, Sum.inl (fun _ => 0))) : Nat × va_E) := f_67_ws38
      have f_68_ws38 : ws38[68]? = some ((q44, Sum.inl (cZ, 4096, Sum.inl (fun _ => 0))) : Nat × va_E) := f_68_ws38
      have f_69_ws38 : ws38[69]? = some ((q45, Sum.inl (cZ, 4096, Sum.inl (fun _ => 0))) : Nat × va_E) := f_69_ws38
      replace hlen : ws38.length = 70 := by rw [e_ws38.1, hlen]
      replace hU : gx_g ws ws38 23 [46] := hU.call e_ws38 (by rw [hlen0]; decide)
      refine W.eq (g2 := F0 m 87 ls [Value.ref q35, Value.ref a]) rfl ?_
      refine W.widen (k := 23) (n := 309664) (by decide) (by decide) ?_
      generalize t37.heap = H at hP hS ⊢
      generalize locs ++ L37 = locs at hS ⊢
      have f_46_ws36 : ws36[46]? = some ((a, Sum.inr (8, [Value.int 0, Value.int 0, Value.ref q1, Value.ref q4, Value.ref q7, Value.int 0, Value.ref q10, Value.ref q13, Value.ref q16, Value.ref q19, Value.int 0, Value.int 0, Value.int 0, Value.int (-1), Value.int 0, Value.ref q23, Value.null, Value.null, Value.int 0, Value.int 0, Value.int 0, Value.null, Value.null, Value.int 0, Value.int 0, Value.int 0, Value.null, Value.null, Value.null, Value.null, Value.int 0, Value.null, Value.int 0, Value.int 0, Value.int 0])) : Nat × va_E) := by rw [e_ws36]; exact gs_app f_46_ws34
      clear f_46_ws34
      have f_46_ws38 : ws38[46]? = some ((a, Sum.inr (8, [Value.int 0, Value.int 0, Value.ref q1, Value.ref q4, Value.ref q7, Value.int 0, Value.ref q10, Value.ref q13, Value.ref q16, Value.ref q19, Value.int 0, Value.int 0, Value.int 0, Value.int (-1), Value.int 0, Value.ref q23, Value.null, Value.null, Value.int 0, Value.int 0, Value.int 0, Value.null, Value.null, Value.int 0, Value.int 0, Value.int 0, Value.null, Value.null, Value.null, Value.null, Value.int 0, Value.null, Value.int 0, Value.int 0, Value.int 0])) : Nat × va_E) := e_ws38.at (by first | decide | (simp; done) | (simp; omega)) f_46_ws36
      clear f_46_ws36
      refine va_putF (D := D) (ci := 8) (v := Value.ref q35) (ty := .object "CommitLedgerModel$Version") (C := "CommitLedgerModel") (T := F_Mo) (N := 35) hx hb hts i_Mo t_Mo t_Mo_ok n_Mo hown hK hP hD hS 46 f_46_ws38 rfl 16 (by decide) (hts _ kf_Mo_44) (fun _ h9 => h9) rfl hin rfl (by decide +kernel) rfl rfl (Nat.le_of_ble_eq_true rfl) d_Mo_init_87 (fun H locs hP9 hD9 hS9 => ?_)
      obtain ⟨ws46, e_ws46⟩ : ∃ x : va_W, x = ws38.set 46 ((a, Sum.inr (8, [Value.int 0, Value.int 0, Value.ref q1, Value.ref q4, Value.ref q7, Value.int 0, Value.ref q10, Value.ref q13, Value.ref q16, Value.ref q19, Value.int 0, Value.int 0, Value.int 0, Value.int (-1), Value.int 0, Value.ref q23, Value.ref q35, Value.null, Value.int 0, Value.int 0, Value.int 0, Value.null, Value.null, Value.int 0, Value.int 0, Value.int 0, Value.null, Value.null, Value.null, Value.null, Value.int 0, Value.null, Value.int 0, Value.int 0, Value.int 0])) : Nat × va_E) := ⟨_, rfl⟩
      replace hP : va_P D classes ws46 H := by rw [e_ws46]; exact hP9
      replace hD : va_D A ws46 := by rw [e_ws46]; exact hD9
      replace hS := hS9
      clear hP9 hD9 hS9
      have f_46_ws46 : ws46[46]? = some ((a, Sum.inr (8, [Value.int 0, Value.int 0, Value.ref q1, Value.ref q4, Value.ref q7, Value.int 0, Value.ref q10, Value.ref q13, Value.ref q16, Value.ref q19, Value.int 0, Value.int 0, Value.int 0, Value.int (-1), Value.int 0, Value.ref q23, Value.ref q35, Value.null, Value.int 0, Value.int 0, Value.int 0, Value.null, Value.null, Value.int 0, Value.int 0, Value.int 0, Value.null, Value.null, Value.null, Value.null, Value.int 0, Value.null, Value.int 0, Value.int 0, Value.int 0])) : Nat × va_E) := by rw [e_ws46]; exact gs_self f_46_ws38
      replace hlen : ws46.length = 70 := by rw [e_ws46]; exact gs_lens hlen
      replace hU : gx_g ws ws46 23 [46] := by rw [e_ws46]; exact hU.put (Or.inl (by simp))
      refine lv_aload_n hx hb d_Mo_init_90 rfl (lv_at hl 0 rfl) ?_
      refine va_new (ci := 9) (fs := [Value.null, Value.null, Value.null, Value.null, Value.null, Value.null, Value.null, Value.int 0, Value.int 0, Value.int 0, Value.int 0]) (C := "CommitLedgerModel$Version") (T := F_Ve) (N := 11) hx hb hts i_Ve t_Ve t_Ve_ok hown (hts _ kk_Mo_37) (hts _ kX_Ve) (hts _ kN_Ve) hK hP hD hS hA rfl (by decide) (Nat.le_of_ble_eq_true rfl) (Nat.le_of_ble_eq_true rfl) d_Mo_init_91 (fun q47 H hP9 hD9 hS9 => ?_)
      obtain ⟨ws48, e_ws48⟩ : ∃ x : va_W, x = ws46 ++ [((q47, Sum.inr (9, [Value.null, Value.null, Value.null, Value.null, Value.null, Value.null, Value.null, Value.int 0, Value.int 0, Value.int 0, Value.int 0])) : Nat × va_E)] := ⟨_, rfl⟩
      replace hP : va_P D classes ws48 H := by rw [e_ws48]; exact hP9
      replace hD : va_D A ws48 := by rw [e_ws48]; exact hD9
      replace hS := hS9
      clear hP9 hD9 hS9
      have f_70_ws48 : ws48[70]? = some ((q47, Sum.inr (9, [Value.null, Value.null, Value.null, Value.null, Value.null, Value.null, Value.null, Value.int 0, Value.int 0, Value.int 0, Value.int 0])) : Nat × va_E) := by rw [e_ws48]; exact gs_last hlen
      replace hlen : ws48.length = 71 := by rw [e_ws48]; exact gs_len hlen
      replace hU : gx_g ws ws48 24 [46] := by rw [e_ws48]; exact hU.push
      refine W.widen (k := 24) (n := 309675) (by decide) (by decide) ?_
      refine lv_dup hx hb d_Mo_init_94 rfl ?_
      refine gx_call (ig := .invokespecial 39) (c_Ve_init l htr D tys z _ ws48 cI cZ q47 70 71 f_70_ws48 ht0 ht1 hlen (by decide)) (gx_invIN (As := []) (rest := [Value.ref q47, Value.ref a]) hx hb hown hts km_Mo_39 kI_Ve_init kc_Ve_init (by decide) rfl (show (parseMethodDescriptor y_Ve_init.desc).map (fun d => d.parameters.length) = some 0 by decide +kernel) rfl rfl d_Mo_init_95) (gx_cw (z := 0) hts kc_Ve_init kN_Ve rfl rfl ⟨Nat.le_of_ble_eq_true rfl, Nat.le_of_ble_eq_true rfl⟩) hb hml gx_blind (gx_pre hz hP hK hD hY hS hAz [Value.ref q47]) rfl hl.1 (lv_room (Nat.le_of_ble_eq_true rfl)) d_Mo_init_95 ⟨Nat.le_of_ble_eq_true rfl, Nat.le_of_ble_eq_true rfl⟩ (fun v49 st49 t49 L49 h0_49 hW_49 hQ_49 hL_49 => ?_) (fun v49 st49 t49 L49 h0_49 hW_49 hQ_49 hL_49 => ?_)
      · obtain ⟨ws50, hp, hP9, -, hD9, hS9⟩ := gx_back h0_49 hW_49 hQ_49 hL_49 hD hS hA
        clear hQ_49 h0_49 hL_49 hW_49 hP hD hS
        have hP := hP9
        have hD := hD9
        have hS := hS9
        clear hP9 hD9 hS9
        rcases hp with ⟨q51, q52, q53, q54, q55, q56, q57, hv9, e_ws50, f_70_ws50, f_71_ws50, f_72_ws50, f_73_ws50, f_74_ws50, f_75_ws50, f_76_ws50, f_77_ws50⟩
        cases hv9
        have f_70_ws50 : ws50[70]? = some ((q47, Sum.inr (9, [Value.ref q51, Value.ref q52, Value.ref q53, Value.ref q54, Value.ref q55, Value.ref q56, Value.ref q57, Value.int 0, Value.int 0, Value.int 0, Value.int 0])) : Nat × va_E) := f_70_ws50
        have f_71_ws50 : ws50[71]? = some ((q51, Sum.inl (cI, 4097, Sum.inl (fun _ => 0))) : Nat × va_E) := f_71_ws50
        have f_72_ws50 : ws50[72]? = some ((q52, Sum.inl (cI, 4097, Sum.inl (fun _ => 0))) : Nat × va_E) := f_72_ws50
        have f_73_ws50 : ws50[73]? = some ((q53, Sum.inl (cI, 4098, Sum.inl (fun _ => 0))) : Nat × va_E) := f_73_ws50
        have f_74_ws50 : ws50[74]? = some ((q54, Sum.inl (cI, 4097, Sum.inl (fun _ => 0))) : Nat × va_E) := f_74_ws50
        have f_75_ws50 : ws50[75]? = some ((q55, Sum.inl (cI, 4096, Sum.inl (fun _ => 0))) : Nat × va_E) := f_75_ws50
        have f_76_ws50 : ws50[76]? = some ((q56, Sum.inl (cZ, 4096, Sum.inl (fun _ => 0))) : Nat × va_E) := f_76_ws50
        have f_77_ws50 : ws50[77]? = some ((q57, Sum.inl (cZ, 4096, Sum.inl (fun _ => 0))) : Nat × va_E) := f_77_ws50
        replace hlen : ws50.length = 78 := by rw [e_ws50.1, hlen]
        replace hU : gx_g ws ws50 31 [46] := hU.call e_ws50 (by rw [hlen0]; decide)
        refine W.eq (g2 := F0 m 98 ls [Value.ref q47, Value.ref a]) rfl ?_
        refine W.widen (k := 31) (n := 338352) (by decide) (by decide) ?_
        generalize t49.heap = H at hP hS ⊢
        generalize locs ++ L49 = locs at hS ⊢
        have f_46_ws48 : ws48[46]? = some ((a, Sum.inr (8, [Value.int 0, Value.int 0, Value.ref q1, Value.ref q4, Value.ref q7, Value.int 0, Value.ref q10, Value.ref q13, Value.ref q16, Value.ref q19, Value.int 0, Value.int 0, Value.int 0, Value.int (-1), Value.int 0, Value.ref q23, Value.ref q35, Value.null, Value.int 0, Value.int 0, Value.int 0, Value.null, Value.null, Value.int 0, Value.int 0, Value.int 0, Value.null, Value.null, Value.null, Value.null, Value.int 0, Value.null, Value.int 0, Value.int 0, Value.int 0])) : Nat × va_E) := by rw [e_ws48]; exact gs_app f_46_ws46
        clear f_46_ws46
        have f_46_ws50 : ws50[46]? = some ((a, Sum.inr (8, [Value.int 0, Value.int 0, Value.ref q1, Value.ref q4, Value.ref q7, Value.int 0, Value.ref q10, Value.ref q13, Value.ref q16, Value.ref q19, Value.int 0, Value.int 0, Value.int 0, Value.int (-1), Value.int 0, Value.ref q23, Value.ref q35, Value.null, Value.int 0, Value.int 0, Value.int 0, Value.null, Value.null, Value.int 0, Value.int 0, Value.int 0, Value.null, Value.null, Value.null, Value.null, Value.int 0, Value.null, Value.int 0, Value.int 0, Value.int 0])) : Nat × va_E) := e_ws50.at (by first | decide | (simp; done) | (simp; omega)) f_46_ws48
        clear f_46_ws48
        refine va_putF (D := D) (ci := 8) (v := Value.ref q47) (ty := .object "CommitLedgerModel$Version") (C := "CommitLedgerModel") (T := F_Mo) (N := 35) hx hb hts i_Mo t_Mo t_Mo_ok n_Mo hown hK hP hD hS 46 f_46_ws50 rfl 17 (by decide) (hts _ kf_Mo_47) (fun _ h9 => h9) rfl hin rfl (by decide +kernel) rfl rfl (Nat.le_of_ble_eq_true rfl) d_Mo_init_98 (fun H locs hP9 hD9 hS9 => ?_)
        obtain ⟨ws58, e_ws58⟩ : ∃ x : va_W, x = ws50.set 46 ((a, Sum.inr (8, [Value.int 0, Value.int 0, Value.ref q1, Value.ref q4, Value.ref q7, Value.int 0, Value.ref q10, Value.ref q13, Value.ref q16, Value.ref q19, Value.int 0, Value.int 0, Value.int 0, Value.int (-1), Value.int 0, Value.ref q23, Value.ref q35, Value.ref q47, Value.int 0, Value.int 0, Value.int 0, Value.null, Value.null, Value.int 0, Value.int 0, Value.int 0, Value.null, Value.null, Value.null, Value.null, Value.int 0, Value.null, Value.int 0, Value.int 0, Value.int 0])) : Nat × va_E) := ⟨_, rfl⟩
        replace hP : va_P D classes ws58 H := by rw [e_ws58]; exact hP9
        replace hD : va_D A ws58 := by rw [e_ws58]; exact hD9
        replace hS := hS9
        clear hP9 hD9 hS9
        have f_46_ws58 : ws58[46]? = some ((a, Sum.inr (8, [Value.int 0, Value.int 0, Value.ref q1, Value.ref q4, Value.ref q7, Value.int 0, Value.ref q10, Value.ref q13, Value.ref q16, Value.ref q19, Value.int 0, Value.int 0, Value.int 0, Value.int (-1), Value.int 0, Value.ref q23, Value.ref q35, Value.ref q47, Value.int 0, Value.int 0, Value.int 0, Value.null, Value.null, Value.int 0, Value.int 0, Value.int 0, Value.null, Value.null, Value.null, Value.null, Value.int 0, Value.null, Value.int 0, Value.int 0, Value.int 0])) : Nat × va_E) := by rw [e_ws58]; exact gs_self f_46_ws50
        replace hlen : ws58.length = 78 := by rw [e_ws58]; exact gs_lens hlen
        replace hU : gx_g ws ws58 31 [46] := by rw [e_ws58]; exact hU.put (Or.inl (by simp))
        refine lv_aload_n hx hb d_Mo_init_101 rfl (lv_at hl 0 rfl) ?_
        refine lv_sipush (v := 4096) hx hb d_Mo_init_102 (by decide) ?_
        refine gx_newa (atype := .int) (ty := .int) (N' := 4096) (a0 := (4096, Sum.inl (fun _ => 0))) hx hb (hts _ kA_int) rfl hK hP hD hS hA 0 ht0 (fun _ => rfl) (by decide) (by decide) (by decide) (Nat.le_of_ble_eq_true rfl) (Nat.le_of_ble_eq_true rfl) d_Mo_init_105 (fun q59 H hP9 hD9 hS9 => ?_)
        obtain ⟨ws60, e_ws60⟩ : ∃ x : va_W, x = ws58 ++ [((q59, Sum.inl (cI, 4096, Sum.inl (fun _ => 0))) : Nat × va_E)] := ⟨_, rfl⟩
        replace hP : va_P D classes ws60 H := by rw [e_ws60]; exact hP9
        replace hD : va_D A ws60 := by rw [e_ws60]; exact hD9
        replace hS := hS9
        clear hP9 hD9 hS9
        have f_78_ws60 : ws60[78]? = some ((q59, Sum.inl (cI, 4096, Sum.inl (fun _ => 0))) : Nat × va_E) := by rw [e_ws60]; exact gs_last hlen
        replace hlen : ws60.length = 79 := by rw [e_ws60]; exact gs_len hlen
        replace hU : gx_g ws ws60 32 [46] := by rw [e_ws60]; exact hU.push
        refine W.widen (k := 32) (n := 342448) (by decide) (by decide) ?_
        have f_46_ws60 : ws60[46]? = some ((a, Sum.inr (8, [Value.int 0, Value.int 0, Value.ref q1, Value.ref q4, Value.ref q7, Value.int 0, Value.ref q10, Value.ref q13, Value.ref q16, Value.ref q19, Value.int 0, Value.int 0, Value.int 0, Value.int (-1), Value.int 0, Value.ref q23, Value.ref q35, Value.ref q47, Value.int 0, Value.int 0, Value.int 0, Value.null, Value.null, Value.int 0, Value.int 0, Value.int 0, Value.null, Value.null, Value.null, Value.null, Value.int 0, Value.null, Value.int 0, Value.int 0, Value.int 0])) : Nat × va_E) := by rw [e_ws60]; exact gs_app f_46_ws58
        clear f_46_ws58
        refine va_putF (D := D) (ci := 8) (v := Value.ref q59) (ty := .array .int) (C := "CommitLedgerModel") (T := F_Mo) (N := 35) hx hb hts i_Mo t_Mo t_Mo_ok n_Mo hown hK hP hD hS 46 f_46_ws60 rfl 21 (by decide) (hts _ kf_Mo_50) (fun _ h9 => h9) rfl hin rfl (by decide +kernel) rfl rfl (Nat.le_of_ble_eq_true rfl) d_Mo_init_107 (fun H locs hP9 hD9 hS9 => ?_)
        obtain ⟨ws61, e_ws61⟩ : ∃ x : va_W, x = ws60.set 46 ((a, Sum.inr (8, [Value.int 0, Value.int 0, Value.ref q1, Value.ref q4, Value.ref q7, Value.int 0, Value.ref q10, Value.ref q13, Value.ref q16, Value.ref q19, Value.int 0, Value.int 0, Value.int 0, Value.int (-1), Value.int 0, Value.ref q23, Value.ref q35, Value.ref q47, Value.int 0, Value.int 0, Value.int 0, Value.ref q59, Value.null, Value.int 0, Value.int 0, Value.int 0, Value.null, Value.null, Value.null, Value.null, Value.int 0, Value.null, Value.int 0, Value.int 0, Value.int 0])) : Nat × va_E) := ⟨_, rfl⟩
        replace hP : va_P D classes ws61 H := by rw [e_ws61]; exact hP9
        replace hD : va_D A ws61 := by rw [e_ws61]; exact hD9
        replace hS := hS9
        clear hP9 hD9 hS9
        have f_46_ws61 : ws61[46]? = some ((a, Sum.inr (8, [Value.int 0, Value.int 0, Value.ref q1, Value.ref q4, Value.ref q7, Value.int 0, Value.ref q10, Value.ref q13, Value.ref q16, Value.ref q19, Value.int 0, Value.int 0, Value.int 0, Value.int (-1), Value.int 0, Value.ref q23, Value.ref q35, Value.ref q47, Value.int 0, Value.int 0, Value.int 0, Value.ref q59, Value.null, Value.int 0, Value.int 0, Value.int 0, Value.null, Value.null, Value.null, Value.null, Value.int 0, Value.null, Value.int 0, Value.int 0, Value.int 0])) : Nat × va_E) := by rw [e_ws61]; exact gs_self f_46_ws60
        replace hlen : ws61.length = 79 := by rw [e_ws61]; exact gs_lens hlen
        replace hU : gx_g ws ws61 32 [46] := by rw [e_ws61]; exact hU.put (Or.inl (by simp))
        refine lv_aload_n hx hb d_Mo_init_110 rfl (lv_at hl 0 rfl) ?_
        refine lv_sipush (v := 4096) hx hb d_Mo_init_111 (by decide) ?_
        refine gx_newa (atype := .boolean) (ty := .boolean) (N' := 4096) (a0 := (4096, Sum.inl (fun _ => 0))) hx hb (hts _ kA_boolean) rfl hK hP hD hS hA 1 ht1 (fun _ => rfl) (by decide) (by decide) (by decide) (Nat.le_of_ble_eq_true rfl) (Nat.le_of_ble_eq_true rfl) d_Mo_init_114 (fun q62 H hP9 hD9 hS9 => ?_)
        obtain ⟨ws63, e_ws63⟩ : ∃ x : va_W, x = ws61 ++ [((q62, Sum.inl (cZ, 4096, Sum.inl (fun _ => 0))) : Nat × va_E)] := ⟨_, rfl⟩
        replace hP : va_P D classes ws63 H := by rw [e_ws63]; exact hP9
        replace hD : va_D A ws63 := by rw [e_ws63]; exact hD9
        replace hS := hS9
        clear hP9 hD9 hS9
        have f_79_ws63 : ws63[79]? = some ((q62, Sum.inl (cZ, 4096, Sum.inl (fun _ => 0))) : Nat × va_E) := by rw [e_ws63]; exact gs_last hlen
        replace hlen : ws63.length = 80 := by rw [e_ws63]; exact gs_len hlen
        replace hU : gx_g ws ws63 33 [46] := by rw [e_ws63]; exact hU.push
        refine W.widen (k := 33) (n := 346544) (by decide) (by decide) ?_
        have f_46_ws63 : ws63[46]? = some ((a, Sum.inr (8, [Value.int 0, Value.int 0, Value.ref q1, Value.ref q4, Value.ref q7, Value.int 0, Value.ref q10, Value.ref q13, Value.ref q16, Value.ref q19, Value.int 0, Value.int 0, Value.int 0, Value.int (-1), Value.int 0, Value.ref q23, Value.ref q35, Value.ref q47, Value.int 0, Value.int 0, Value.int 0, Value.ref q59, Value.null, Value.int 0, Value.int 0, Value.int 0, Value.null, Value.null, Value.null, Value.null, Value.int 0, Value.null, Value.int 0, Value.int 0, Value.int 0])) : Nat × va_E) := by rw [e_ws63]; exact gs_app f_46_ws61
        clear f_46_ws61
        refine va_putF (D := D) (ci := 8) (v := Value.ref q62) (ty := .array .boolean) (C := "CommitLedgerModel") (T := F_Mo) (N := 35) hx hb hts i_Mo t_Mo t_Mo_ok n_Mo hown hK hP hD hS 46 f_46_ws63 rfl 22 (by decide) (hts _ kf_Mo_53) (fun _ h9 => h9) rfl hin rfl (by decide +kernel) rfl rfl (Nat.le_of_ble_eq_true rfl) d_Mo_init_116 (fun H locs hP9 hD9 hS9 => ?_)
        obtain ⟨ws64, e_ws64⟩ : ∃ x : va_W, x = ws63.set 46 ((a, Sum.inr (8, [Value.int 0, Value.int 0, Value.ref q1, Value.ref q4, Value.ref q7, Value.int 0, Value.ref q10, Value.ref q13, Value.ref q16, Value.ref q19, Value.int 0, Value.int 0, Value.int 0, Value.int (-1), Value.int 0, Value.ref q23, Value.ref q35, Value.ref q47, Value.int 0, Value.int 0, Value.int 0, Value.ref q59, Value.ref q62, Value.int 0, Value.int 0, Value.int 0, Value.null, Value.null, Value.null, Value.null, Value.int 0, Value.null, Value.int 0, Value.int 0, Value.int 0])) : Nat × va_E) := ⟨_, rfl⟩
        replace hP : va_P D classes ws64 H := by rw [e_ws64]; exact hP9
        replace hD : va_D A ws64 := by rw [e_ws64]; exact hD9
        replace hS := hS9
        clear hP9 hD9 hS9
        have f_46_ws64 : ws64[46]? = some ((a, Sum.inr (8, [Value.int 0, Value.int 0, Value.ref q1, Value.ref q4, Value.ref q7, Value.int 0, Value.ref q10, Value.ref q13, Value.ref q16, Value.ref q19, Value.int 0, Value.int 0, Value.int 0, Value.int (-1), Value.int 0, Value.ref q23, Value.ref q35, Value.ref q47, Value.int 0, Value.int 0, Value.int 0, Value.ref q59, Value.ref q62, Value.int 0, Value.int 0, Value.int 0, Value.null, Value.null, Value.null, Value.null, Value.int 0, Value.null, Value.int 0, Value.int 0, Value.int 0])) : Nat × va_E) := by rw [e_ws64]; exact gs_self f_46_ws63
        replace hlen : ws64.length = 80 := by rw [e_ws64]; exact gs_lens hlen
        replace hU : gx_g ws ws64 33 [46] := by rw [e_ws64]; exact hU.put (Or.inl (by simp))
        refine lv_aload_n hx hb d_Mo_init_119 rfl (lv_at hl 0 rfl) ?_
        refine lv_bipush (v := 16) hx hb d_Mo_init_120 (by decide) ?_
        refine va_put (D := D) (ci := 8) (v := Value.int 16) (ty := .int) (C := "CommitLedgerModel") (T := F_Mo) (N := 35) hx hb hts i_Mo t_Mo t_Mo_ok n_Mo hown hK hP hD hS 46 f_46_ws64 rfl 24 (by decide) (hts _ kf_Mo_56) (fun _ h9 => h9) rfl (by decide +kernel) rfl rfl (Nat.le_of_ble_eq_true rfl) d_Mo_init_122 (fun H locs hP9 hD9 hS9 => ?_)
        obtain ⟨ws65, e_ws65⟩ : ∃ x : va_W, x = ws64.set 46 ((a, Sum.inr (8, [Value.int 0, Value.int 0, Value.ref q1, Value.ref q4, Value.ref q7, Value.int 0, Value.ref q10, Value.ref q13, Value.ref q16, Value.ref q19, Value.int 0, Value.int 0, Value.int 0, Value.int (-1), Value.int 0, Value.ref q23, Value.ref q35, Value.ref q47, Value.int 0, Value.int 0, Value.int 0, Value.ref q59, Value.ref q62, Value.int 0, Value.int 16, Value.int 0, Value.null, Value.null, Value.null, Value.null, Value.int 0, Value.null, Value.int 0, Value.int 0, Value.int 0])) : Nat × va_E) := ⟨_, rfl⟩
        replace hP : va_P D classes ws65 H := by rw [e_ws65]; exact hP9
        replace hD : va_D A ws65 := by rw [e_ws65]; exact hD9
        replace hS := hS9
        clear hP9 hD9 hS9
        have f_46_ws65 : ws65[46]? = some ((a, Sum.inr (8, [Value.int 0, Value.int 0, Value.ref q1, Value.ref q4, Value.ref q7, Value.int 0, Value.ref q10, Value.ref q13, Value.ref q16, Value.ref q19, Value.int 0, Value.int 0, Value.int 0, Value.int (-1), Value.int 0, Value.ref q23, Value.ref q35, Value.ref q47, Value.int 0, Value.int 0, Value.int 0, Value.ref q59, Value.ref q62, Value.int 0, Value.int 16, Value.int 0, Value.null, Value.null, Value.null, Value.null, Value.int 0, Value.null, Value.int 0, Value.int 0, Value.int 0])) : Nat × va_E) := by rw [e_ws65]; exact gs_self f_46_ws64
        replace hlen : ws65.length = 80 := by rw [e_ws65]; exact gs_lens hlen
        replace hU : gx_g ws ws65 33 [46] := by rw [e_ws65]; exact hU.put (Or.inl (by simp))
        refine lv_aload_n hx hb d_Mo_init_125 rfl (lv_at hl 0 rfl) ?_
        refine lv_iconst (v := 4) hx hb d_Mo_init_126 (by decide) ?_
        refine va_put (D := D) (ci := 8) (v := Value.int 4) (ty := .int) (C := "CommitLedgerModel") (T := F_Mo) (N := 35) hx hb hts i_Mo t_Mo t_Mo_ok n_Mo hown hK hP hD hS 46 f_46_ws65 rfl 25 (by decide) (hts _ kf_Mo_59) (fun _ h9 => h9) rfl (by decide +kernel) rfl rfl (Nat.le_of_ble_eq_true rfl) d_Mo_init_127 (fun H locs hP9 hD9 hS9 => ?_)
        obtain ⟨ws66, e_ws66⟩ : ∃ x : va_W, x = ws65.set 46 ((a, Sum.inr (8, [Value.int 0, Value.int 0, Value.ref q1, Value.ref q4, Value.ref q7, Value.int 0, Value.ref q10, Value.ref q13, Value.ref q16, Value.ref q19, Value.int 0, Value.int 0, Value.int 0, Value.int (-1), Value.int 0, Value.ref q23, Value.ref q35, Value.ref q47, Value.int 0, Value.int 0, Value.int 0, Value.ref q59, Value.ref q62, Value.int 0, Value.int 16, Value.int 4, Value.null, Value.null, Value.null, Value.null, Value.int 0, Value.null, Value.int 0, Value.int 0, Value.int 0])) : Nat × va_E) := ⟨_, rfl⟩
        replace hP : va_P D classes ws66 H := by rw [e_ws66]; exact hP9
        replace hD : va_D A ws66 := by rw [e_ws66]; exact hD9
        replace hS := hS9
        clear hP9 hD9 hS9
        have f_46_ws66 : ws66[46]? = some ((a, Sum.inr (8, [Value.int 0, Value.int 0, Value.ref q1, Value.ref q4, Value.ref q7, Value.int 0, Value.ref q10, Value.ref q13, Value.ref q16, Value.ref q19, Value.int 0, Value.int 0, Value.int 0, Value.int (-1), Value.int 0, Value.ref q23, Value.ref q35, Value.ref q47, Value.int 0, Value.int 0, Value.int 0, Value.ref q59, Value.ref q62, Value.int 0, Value.int 16, Value.int 4, Value.null, Value.null, Value.null, Value.null, Value.int 0, Value.null, Value.int 0, Value.int 0, Value.int 0])) : Nat × va_E) := by rw [e_ws66]; exact gs_self f_46_ws65
        replace hlen : ws66.length = 80 := by rw [e_ws66]; exact gs_lens hlen
        replace hU : gx_g ws ws66 33 [46] := by rw [e_ws66]; exact hU.put (Or.inl (by simp))
        refine lv_aload_n hx hb d_Mo_init_130 rfl (lv_at hl 0 rfl) ?_
        refine lv_iconst (v := 4) hx hb d_Mo_init_131 (by decide) ?_
        refine lv_sipush (v := 4096) hx hb d_Mo_init_132 (by decide) ?_
        refine gx_multi2 hx hb hown hts kk_Mo_62 kO_ints kA_int hK ht0 ht8 hP hD hS hA d_Mo_init_135 (Nat.le_of_ble_eq_true rfl) (Nat.le_of_ble_eq_true rfl) (fun q67 q68 q69 q70 q71 H locs hP9 hD9 hS9 => ?_)
        obtain ⟨ws72, e_ws72⟩ : ∃ x : va_W, x = ws66 ++ [((q67, Sum.inl (cN, 4, Sum.inr (Sum.inr (Sum.inr (Sum.inr (va_up (va_up (va_up (va_up (fun _ => none) 0 (some q68)) 1 (some q69)) 2 (some q70)) 3 (some q71))))))) : Nat × va_E)] := ⟨_, rfl⟩
        have f_80_ws72 : ws72[80]? = some ((q67, Sum.inl (cN, 4, Sum.inr (Sum.inr (Sum.inr (Sum.inr (va_up (va_up (va_up (va_up (fun _ => none) 0 (some q68)) 1 (some q69)) 2 (some q70)) 3 (some q71))))))) : Nat × va_E) := by rw [e_ws72]; exact gs_last hlen
        replace hlen : ws72.length = 81 := by rw [e_ws72]; exact gs_len hlen
        replace hU : gx_g ws ws72 34 [46] := by rw [e_ws72]; exact hU.push
        obtain ⟨ws73, e_ws73⟩ : ∃ x : va_W, x = ws72 ++ [((q68, Sum.inl (cI, 4096, Sum.inl (fun _ => 0))) : Nat × va_E)] := ⟨_, rfl⟩
        have f_81_ws73 : ws73[81]? = some ((q68, Sum.inl (cI, 4096, Sum.inl (fun _ => 0))) : Nat × va_E) := by rw [e_ws73]; exact gs_last hlen
        replace hlen : ws73.length = 82 := by rw [e_ws73]; exact gs_len hlen
        replace hU : gx_g ws ws73 35 [46] := by rw [e_ws73]; exact hU.push
        obtain ⟨ws74, e_ws74⟩ : ∃ x : va_W, x = ws73 ++ [((q69, Sum.inl (cI, 4096, Sum.inl (fun _ => 0))) : Nat × va_E)] := ⟨_, rfl⟩
        have f_82_ws74 : ws74[82]? = some ((q69, Sum.inl (cI, 4096, Sum.inl (fun _ => 0))) : Nat × va_E) := by rw [e_ws74]; exact gs_last hlen
        replace hlen : ws74.length = 83 := by rw [e_ws74]; exact gs_len hlen
        replace hU : gx_g ws ws74 36 [46] := by rw [e_ws74]; exact hU.push
        obtain ⟨ws75, e_ws75⟩ : ∃ x : va_W, x = ws74 ++ [((q70, Sum.inl (cI, 4096, Sum.inl (fun _ => 0))) : Nat × va_E)] := ⟨_, rfl⟩
        have f_83_ws75 : ws75[83]? = some ((q70, Sum.inl (cI, 4096, Sum.inl (fun _ => 0))) : Nat × va_E) := by rw [e_ws75]; exact gs_last hlen
        replace hlen : ws75.length = 84 := by rw [e_ws75]; exact gs_len hlen
        replace hU : gx_g ws ws75 37 [46] := by rw [e_ws75]; exact hU.push
        obtain ⟨ws76, e_ws76⟩ : ∃ x : va_W, x = ws75 ++ [((q71, Sum.inl (cI, 4096, Sum.inl (fun _ => 0))) : Nat × va_E)] := ⟨_, rfl⟩
        have f_84_ws76 : ws76[84]? = some ((q71, Sum.inl (cI, 4096, Sum.inl (fun _ => 0))) : Nat × va_E) := by rw [e_ws76]; exact gs_last hlen
        replace hlen : ws76.length = 85 := by rw [e_ws76]; exact gs_len hlen
        replace hU : gx_g ws ws76 38 [46] := by rw [e_ws76]; exact hU.push
        replace hP : va_P D classes ws76 H := by rw [e_ws76, e_ws75, e_ws74, e_ws73, e_ws72]; exact hP9
        replace hD : va_D A ws76 := by rw [e_ws76, e_ws75, e_ws74, e_ws73, e_ws72]; exact hD9
        replace hS := hS9
        clear hP9 hD9 hS9
        refine W.widen (k := 38) (n := 362932) (by decide) (by decide) ?_
        have f_46_ws72 : ws72[46]? = some ((a, Sum.inr (8, [Value.int 0, Value.int 0, Value.ref q1, Value.ref q4, Value.ref q7, Value.int 0, Value.ref q10, Value.ref q13, Value.ref q16, Value.ref q19, Value.int 0, Value.int 0, Value.int 0, Value.int (-1), Value.int 0, Value.ref q23, Value.ref q35, Value.ref q47, Value.int 0, Value.int 0, Value.int 0, Value.ref q59, Value.ref q62, Value.int 0, Value.int 16, Value.int 4, Value.null, Value.null, Value.null, Value.null, Value.int 0, Value.null, Value.int 0, Value.int 0, Value.int 0])) : Nat × va_E) := by rw [e_ws72]; exact gs_app f_46_ws66
        clear f_46_ws66
        have f_46_ws73 : ws73[46]? = some ((a, Sum.inr (8, [Value.int 0, Value.int 0, Value.ref q1, Value.ref q4, Value.ref q7, Value.int 0, Value.ref q10, Value.ref q13, Value.ref q16, Value.ref q19, Value.int 0, Value.int 0, Value.int 0, Value.int (-1), Value.int 0, Value.ref q23, Value.ref q35, Value.ref q47, Value.int 0, Value.int 0, Value.int 0, Value.ref q59, Value.ref q62, Value.int 0, Value.int 16, Value.int 4, Value.null, Value.null, Value.null, Value.null, Value.int 0, Value.null, Value.int 0, Value.int 0, Value.int 0])) : Nat × va_E) := by rw [e_ws73]; exact gs_app f_46_ws72
        clear f_46_ws72
        have f_46_ws74 : ws74[46]? = some ((a, Sum.inr (8, [Value.int 0, Value.int 0, Value.ref q1, Value.ref q4, Value.ref q7, Value.int 0, Value.ref q10, Value.ref q13, Value.ref q16, Value.ref q19, Value.int 0, Value.int 0, Value.int 0, Value.int (-1), Value.int 0, Value.ref q23, Value.ref q35, Value.ref q47, Value.int 0, Value.int 0, Value.int 0, Value.ref q59, Value.ref q62, Value.int 0, Value.int 16, Value.int 4, Value.null, Value.null, Value.null, Value.null, Value.int 0, Value.null, Value.int 0, Value.int 0, Value.int 0])) : Nat × va_E) := by rw [e_ws74]; exact gs_app f_46_ws73
        clear f_46_ws73
        have f_46_ws75 : ws75[46]? = some ((a, Sum.inr (8, [Value.int 0, Value.int 0, Value.ref q1, Value.ref q4, Value.ref q7, Value.int 0, Value.ref q10, Value.ref q13, Value.ref q16, Value.ref q19, Value.int 0, Value.int 0, Value.int 0, Value.int (-1), Value.int 0, Value.ref q23, Value.ref q35, Value.ref q47, Value.int 0, Value.int 0, Value.int 0, Value.ref q59, Value.ref q62, Value.int 0, Value.int 16, Value.int 4, Value.null, Value.null, Value.null, Value.null, Value.int 0, Value.null, Value.int 0, Value.int 0, Value.int 0])) : Nat × va_E) := by rw [e_ws75]; exact gs_app f_46_ws74
        clear f_46_ws74
        have f_46_ws76 : ws76[46]? = some ((a, Sum.inr (8, [Value.int 0, Value.int 0, Value.ref q1, Value.ref q4, Value.ref q7, Value.int 0, Value.ref q10, Value.ref q13, Value.ref q16, Value.ref q19, Value.int 0, Value.int 0, Value.int 0, Value.int (-1), Value.int 0, Value.ref q23, Value.ref q35, Value.ref q47, Value.int 0, Value.int 0, Value.int 0, Value.ref q59, Value.ref q62, Value.int 0, Value.int 16, Value.int 4, Value.null, Value.null, Value.null, Value.null, Value.int 0, Value.null, Value.int 0, Value.int 0, Value.int 0])) : Nat × va_E) := by rw [e_ws76]; exact gs_app f_46_ws75
        clear f_46_ws75
        refine va_putF (D := D) (ci := 8) (v := Value.ref q67) (ty := .array (.array .int)) (C := "CommitLedgerModel") (T := F_Mo) (N := 35) hx hb hts i_Mo t_Mo t_Mo_ok n_Mo hown hK hP hD hS 46 f_46_ws76 rfl 26 (by decide) (hts _ kf_Mo_64) (fun _ h9 => h9) rfl hin rfl (by decide +kernel) rfl rfl (Nat.le_of_ble_eq_true rfl) d_Mo_init_139 (fun H locs hP9 hD9 hS9 => ?_)
        obtain ⟨ws77, e_ws77⟩ : ∃ x : va_W, x = ws76.set 46 ((a, Sum.inr (8, [Value.int 0, Value.int 0, Value.ref q1, Value.ref q4, Value.ref q7, Value.int 0, Value.ref q10, Value.ref q13, Value.ref q16, Value.ref q19, Value.int 0, Value.int 0, Value.int 0, Value.int (-1), Value.int 0, Value.ref q23, Value.ref q35, Value.ref q47, Value.int 0, Value.int 0, Value.int 0, Value.ref q59, Value.ref q62, Value.int 0, Value.int 16, Value.int 4, Value.ref q67, Value.null, Value.null, Value.null, Value.int 0, Value.null, Value.int 0, Value.int 0, Value.int 0])) : Nat × va_E) := ⟨_, rfl⟩
        replace hP : va_P D classes ws77 H := by rw [e_ws77]; exact hP9
        replace hD : va_D A ws77 := by rw [e_ws77]; exact hD9
        replace hS := hS9
        clear hP9 hD9 hS9
        have f_46_ws77 : ws77[46]? = some ((a, Sum.inr (8, [Value.int 0, Value.int 0, Value.ref q1, Value.ref q4, Value.ref q7, Value.int 0, Value.ref q10, Value.ref q13, Value.ref q16, Value.ref q19, Value.int 0, Value.int 0, Value.int 0, Value.int (-1), Value.int 0, Value.ref q23, Value.ref q35, Value.ref q47, Value.int 0, Value.int 0, Value.int 0, Value.ref q59, Value.ref q62, Value.int 0, Value.int 16, Value.int 4, Value.ref q67, Value.null, Value.null, Value.null, Value.int 0, Value.null, Value.int 0, Value.int 0, Value.int 0])) : Nat × va_E) := by rw [e_ws77]; exact gs_self f_46_ws76
        replace hlen : ws77.length = 85 := by rw [e_ws77]; exact gs_lens hlen
        replace hU : gx_g ws ws77 38 [46] := by rw [e_ws77]; exact hU.put (Or.inl (by simp))
        refine lv_aload_n hx hb d_Mo_init_142 rfl (lv_at hl 0 rfl) ?_
        refine lv_iconst (v := 4) hx hb d_Mo_init_143 (by decide) ?_
        refine gx_newa (atype := .int) (ty := .int) (N' := 4) (a0 := (4, Sum.inl (fun _ => 0))) hx hb (hts _ kA_int) rfl hK hP hD hS hA 0 ht0 (fun _ => rfl) (by decide) (by decide) (by decide) (Nat.le_of_ble_eq_true rfl) (Nat.le_of_ble_eq_true rfl) d_Mo_init_144 (fun q78 H hP9 hD9 hS9 => ?_)
        obtain ⟨ws79, e_ws79⟩ : ∃ x : va_W, x = ws77 ++ [((q78, Sum.inl (cI, 4, Sum.inl (fun _ => 0))) : Nat × va_E)] := ⟨_, rfl⟩
        replace hP : va_P D classes ws79 H := by rw [e_ws79]; exact hP9
        replace hD : va_D A ws79 := by rw [e_ws79]; exact hD9
        replace hS := hS9
        clear hP9 hD9 hS9
        have f_85_ws79 : ws79[85]? = some ((q78, Sum.inl (cI, 4, Sum.inl (fun _ => 0))) : Nat × va_E) := by rw [e_ws79]; exact gs_last hlen
        replace hlen : ws79.length = 86 := by rw [e_ws79]; exact gs_len hlen
        replace hU : gx_g ws ws79 39 [46] := by rw [e_ws79]; exact hU.push
        refine W.widen (k := 39) (n := 362936) (by decide) (by decide) ?_
        have f_46_ws79 : ws79[46]? = some ((a, Sum.inr (8, [Value.int 0, Value.int 0, Value.ref q1, Value.ref q4, Value.ref q7, Value.int 0, Value.ref q10, Value.ref q13, Value.ref q16, Value.ref q19, Value.int 0, Value.int 0, Value.int 0, Value.int (-1), Value.int 0, Value.ref q23, Value.ref q35, Value.ref q47, Value.int 0, Value.int 0, Value.int 0, Value.ref q59, Value.ref q62, Value.int 0, Value.int 16, Value.int 4, Value.ref q67, Value.null, Value.null, Value.null, Value.int 0, Value.null, Value.int 0, Value.int 0, Value.int 0])) : Nat × va_E) := by rw [e_ws79]; exact gs_app f_46_ws77
        clear f_46_ws77
        refine va_putF (D := D) (ci := 8) (v := Value.ref q78) (ty := .array .int) (C := "CommitLedgerModel") (T := F_Mo) (N := 35) hx hb hts i_Mo t_Mo t_Mo_ok n_Mo hown hK hP hD hS 46 f_46_ws79 rfl 27 (by decide) (hts _ kf_Mo_67) (fun _ h9 => h9) rfl hin rfl (by decide +kernel) rfl rfl (Nat.le_of_ble_eq_true rfl) d_Mo_init_146 (fun H locs hP9 hD9 hS9 => ?_)
        obtain ⟨ws80, e_ws80⟩ : ∃ x : va_W, x = ws79.set 46 ((a, Sum.inr (8, [Value.int 0, Value.int 0, Value.ref q1, Value.ref q4, Value.ref q7, Value.int 0, Value.ref q10, Value.ref q13, Value.ref q16, Value.ref q19, Value.int 0, Value.int 0, Value.int 0, Value.int (-1), Value.int 0, Value.ref q23, Value.ref q35, Value.ref q47, Value.int 0, Value.int 0, Value.int 0, Value.ref q59, Value.ref q62, Value.int 0, Value.int 16, Value.int 4, Value.ref q67, Value.ref q78, Value.null, Value.null, Value.int 0, Value.null, Value.int 0, Value.int 0, Value.int 0])) : Nat × va_E) := ⟨_, rfl⟩
        replace hP : va_P D classes ws80 H := by rw [e_ws80]; exact hP9
        replace hD : va_D A ws80 := by rw [e_ws80]; exact hD9
        replace hS := hS9
        clear hP9 hD9 hS9
        have f_46_ws80 : ws80[46]? = some ((a, Sum.inr (8, [Value.int 0, Value.int 0, Value.ref q1, Value.ref q4, Value.ref q7, Value.int 0, Value.ref q10, Value.ref q13, Value.ref q16, Value.ref q19, Value.int 0, Value.int 0, Value.int 0, Value.int (-1), Value.int 0, Value.ref q23, Value.ref q35, Value.ref q47, Value.int 0, Value.int 0, Value.int 0, Value.ref q59, Value.ref q62, Value.int 0, Value.int 16, Value.int 4, Value.ref q67, Value.ref q78, Value.null, Value.null, Value.int 0, Value.null, Value.int 0, Value.int 0, Value.int 0])) : Nat × va_E) := by rw [e_ws80]; exact gs_self f_46_ws79
        replace hlen : ws80.length = 86 := by rw [e_ws80]; exact gs_lens hlen
        replace hU : gx_g ws ws80 39 [46] := by rw [e_ws80]; exact hU.put (Or.inl (by simp))
        refine lv_aload_n hx hb d_Mo_init_149 rfl (lv_at hl 0 rfl) ?_
        refine lv_iconst (v := 4) hx hb d_Mo_init_150 (by decide) ?_
        refine gx_newa (atype := .int) (ty := .int) (N' := 4) (a0 := (4, Sum.inl (fun _ => 0))) hx hb (hts _ kA_int) rfl hK hP hD hS hA 0 ht0 (fun _ => rfl) (by decide) (by decide) (by decide) (Nat.le_of_ble_eq_true rfl) (Nat.le_of_ble_eq_true rfl) d_Mo_init_151 (fun q81 H hP9 hD9 hS9 => ?_)
        obtain ⟨ws82, e_ws82⟩ : ∃ x : va_W, x = ws80 ++ [((q81, Sum.inl (cI, 4, Sum.inl (fun _ => 0))) : Nat × va_E)] := ⟨_, rfl⟩
        replace hP : va_P D classes ws82 H := by rw [e_ws82]; exact hP9
        replace hD : va_D A ws82 := by rw [e_ws82]; exact hD9
        replace hS := hS9
        clear hP9 hD9 hS9
        have f_86_ws82 : ws82[86]? = some ((q81, Sum.inl (cI, 4, Sum.inl (fun _ => 0))) : Nat × va_E) := by rw [e_ws82]; exact gs_last hlen
        replace hlen : ws82.length = 87 := by rw [e_ws82]; exact gs_len hlen
        replace hU : gx_g ws ws82 40 [46] := by rw [e_ws82]; exact hU.push
        refine W.widen (k := 40) (n := 362940) (by decide) (by decide) ?_
        have f_46_ws82 : ws82[46]? = some ((a, Sum.inr (8, [Value.int 0, Value.int 0, Value.ref q1, Value.ref q4, Value.ref q7, Value.int 0, Value.ref q10, Value.ref q13, Value.ref q16, Value.ref q19, Value.int 0, Value.int 0, Value.int 0, Value.int (-1), Value.int 0, Value.ref q23, Value.ref q35, Value.ref q47, Value.int 0, Value.int 0, Value.int 0, Value.ref q59, Value.ref q62, Value.int 0, Value.int 16, Value.int 4, Value.ref q67, Value.ref q78, Value.null, Value.null, Value.int 0, Value.null, Value.int 0, Value.int 0, Value.int 0])) : Nat × va_E) := by rw [e_ws82]; exact gs_app f_46_ws80
        clear f_46_ws80
        refine va_putF (D := D) (ci := 8) (v := Value.ref q81) (ty := .array .int) (C := "CommitLedgerModel") (T := F_Mo) (N := 35) hx hb hts i_Mo t_Mo t_Mo_ok n_Mo hown hK hP hD hS 46 f_46_ws82 rfl 28 (by decide) (hts _ kf_Mo_70) (fun _ h9 => h9) rfl hin rfl (by decide +kernel) rfl rfl (Nat.le_of_ble_eq_true rfl) d_Mo_init_153 (fun H locs hP9 hD9 hS9 => ?_)
        obtain ⟨ws83, e_ws83⟩ : ∃ x : va_W, x = ws82.set 46 ((a, Sum.inr (8, [Value.int 0, Value.int 0, Value.ref q1, Value.ref q4, Value.ref q7, Value.int 0, Value.ref q10, Value.ref q13, Value.ref q16, Value.ref q19, Value.int 0, Value.int 0, Value.int 0, Value.int (-1), Value.int 0, Value.ref q23, Value.ref q35, Value.ref q47, Value.int 0, Value.int 0, Value.int 0, Value.ref q59, Value.ref q62, Value.int 0, Value.int 16, Value.int 4, Value.ref q67, Value.ref q78, Value.ref q81, Value.null, Value.int 0, Value.null, Value.int 0, Value.int 0, Value.int 0])) : Nat × va_E) := ⟨_, rfl⟩
        replace hP : va_P D classes ws83 H := by rw [e_ws83]; exact hP9
        replace hD : va_D A ws83 := by rw [e_ws83]; exact hD9
        replace hS := hS9
        clear hP9 hD9 hS9
        have f_46_ws83 : ws83[46]? = some ((a, Sum.inr (8, [Value.int 0, Value.int 0, Value.ref q1, Value.ref q4, Value.ref q7, Value.int 0, Value.ref q10, Value.ref q13, Value.ref q16, Value.ref q19, Value.int 0, Value.int 0, Value.int 0, Value.int (-1), Value.int 0, Value.ref q23, Value.ref q35, Value.ref q47, Value.int 0, Value.int 0, Value.int 0, Value.ref q59, Value.ref q62, Value.int 0, Value.int 16, Value.int 4, Value.ref q67, Value.ref q78, Value.ref q81, Value.null, Value.int 0, Value.null, Value.int 0, Value.int 0, Value.int 0])) : Nat × va_E) := by rw [e_ws83]; exact gs_self f_46_ws82
        replace hlen : ws83.length = 87 := by rw [e_ws83]; exact gs_lens hlen
        replace hU : gx_g ws ws83 40 [46] := by rw [e_ws83]; exact hU.put (Or.inl (by simp))
        refine lv_aload_n hx hb d_Mo_init_156 rfl (lv_at hl 0 rfl) ?_
        refine lv_iconst (v := 4) hx hb d_Mo_init_157 (by decide) ?_
        refine gx_newa (atype := .int) (ty := .int) (N' := 4) (a0 := (4, Sum.inl (fun _ => 0))) hx hb (hts _ kA_int) rfl hK hP hD hS hA 0 ht0 (fun _ => rfl) (by decide) (by decide) (by decide) (Nat.le_of_ble_eq_true rfl) (Nat.le_of_ble_eq_true rfl) d_Mo_init_158 (fun q84 H hP9 hD9 hS9 => ?_)
        obtain ⟨ws85, e_ws85⟩ : ∃ x : va_W, x = ws83 ++ [((q84, Sum.inl (cI, 4, Sum.inl (fun _ => 0))) : Nat × va_E)] := ⟨_, rfl⟩
        replace hP : va_P D classes ws85 H := by rw [e_ws85]; exact hP9
        replace hD : va_D A ws85 := by rw [e_ws85]; exact hD9
        replace hS := hS9
        clear hP9 hD9 hS9
        have f_87_ws85 : ws85[87]? = some ((q84, Sum.inl (cI, 4, Sum.inl (fun _ => 0))) : Nat × va_E) := by rw [e_ws85]; exact gs_last hlen
        replace hlen : ws85.length = 88 := by rw [e_ws85]; exact gs_len hlen
        replace hU : gx_g ws ws85 41 [46] := by rw [e_ws85]; exact hU.push
        refine W.widen (k := 41) (n := 362944) (by decide) (by decide) ?_
        have f_46_ws85 : ws85[46]? = some ((a, Sum.inr (8, [Value.int 0, Value.int 0, Value.ref q1, Value.ref q4, Value.ref q7, Value.int 0, Value.ref q10, Value.ref q13, Value.ref q16, Value.ref q19, Value.int 0, Value.int 0, Value.int 0, Value.int (-1), Value.int 0, Value.ref q23, Value.ref q35, Value.ref q47, Value.int 0, Value.int 0, Value.int 0, Value.ref q59, Value.ref q62, Value.int 0, Value.int 16, Value.int 4, Value.ref q67, Value.ref q78, Value.ref q81, Value.null, Value.int 0, Value.null, Value.int 0, Value.int 0, Value.int 0])) : Nat × va_E) := by rw [e_ws85]; exact gs_app f_46_ws83
        clear f_46_ws83
        refine va_putF (D := D) (ci := 8) (v := Value.ref q84) (ty := .array .int) (C := "CommitLedgerModel") (T := F_Mo) (N := 35) hx hb hts i_Mo t_Mo t_Mo_ok n_Mo hown hK hP hD hS 46 f_46_ws85 rfl 29 (by decide) (hts _ kf_Mo_73) (fun _ h9 => h9) rfl hin rfl (by decide +kernel) rfl rfl (Nat.le_of_ble_eq_true rfl) d_Mo_init_160 (fun H locs hP9 hD9 hS9 => ?_)
        obtain ⟨ws86, e_ws86⟩ : ∃ x : va_W, x = ws85.set 46 ((a, Sum.inr (8, [Value.int 0, Value.int 0, Value.ref q1, Value.ref q4, Value.ref q7, Value.int 0, Value.ref q10, Value.ref q13, Value.ref q16, Value.ref q19, Value.int 0, Value.int 0, Value.int 0, Value.int (-1), Value.int 0, Value.ref q23, Value.ref q35, Value.ref q47, Value.int 0, Value.int 0, Value.int 0, Value.ref q59, Value.ref q62, Value.int 0, Value.int 16, Value.int 4, Value.ref q67, Value.ref q78, Value.ref q81, Value.ref q84, Value.int 0, Value.null, Value.int 0, Value.int 0, Value.int 0])) : Nat × va_E) := ⟨_, rfl⟩
        replace hP : va_P D classes ws86 H := by rw [e_ws86]; exact hP9
        replace hD : va_D A ws86 := by rw [e_ws86]; exact hD9
        replace hS := hS9
        clear hP9 hD9 hS9
        have f_46_ws86 : ws86[46]? = some ((a, Sum.inr (8, [Value.int 0, Value.int 0, Value.ref q1, Value.ref q4, Value.ref q7, Value.int 0, Value.ref q10, Value.ref q13, Value.ref q16, Value.ref q19, Value.int 0, Value.int 0, Value.int 0, Value.int (-1), Value.int 0, Value.ref q23, Value.ref q35, Value.ref q47, Value.int 0, Value.int 0, Value.int 0, Value.ref q59, Value.ref q62, Value.int 0, Value.int 16, Value.int 4, Value.ref q67, Value.ref q78, Value.ref q81, Value.ref q84, Value.int 0, Value.null, Value.int 0, Value.int 0, Value.int 0])) : Nat × va_E) := by rw [e_ws86]; exact gs_self f_46_ws85
        replace hlen : ws86.length = 88 := by rw [e_ws86]; exact gs_lens hlen
        replace hU : gx_g ws ws86 41 [46] := by rw [e_ws86]; exact hU.put (Or.inl (by simp))
        refine lv_aload_n hx hb d_Mo_init_163 rfl (lv_at hl 0 rfl) ?_
        refine lv_iconst (v := 4) hx hb d_Mo_init_164 (by decide) ?_
        refine gx_newq (C := "CommitLedgerModel$Version") (N' := 4) hx hb hown (hts _ kk_Mo_37) (hts _ kO_Ve) hK hP hD hS hA 5 ht5 (by decide) (by decide) (by decide) (Nat.le_of_ble_eq_true rfl) (Nat.le_of_ble_eq_true rfl) d_Mo_init_165 (fun q87 H hP9 hD9 hS9 => ?_)
        obtain ⟨ws88, e_ws88⟩ : ∃ x : va_W, x = ws86 ++ [((q87, Sum.inl (cV, 4, Sum.inr (Sum.inr (Sum.inr (Sum.inr (fun _ => none)))))) : Nat × va_E)] := ⟨_, rfl⟩
        replace hP : va_P D classes ws88 H := by rw [e_ws88]; exact hP9
        replace hD : va_D A ws88 := by rw [e_ws88]; exact hD9
        replace hS := hS9
        clear hP9 hD9 hS9
        have f_88_ws88 : ws88[88]? = some ((q87, Sum.inl (cV, 4, Sum.inr (Sum.inr (Sum.inr (Sum.inr (fun _ => none)))))) : Nat × va_E) := by rw [e_ws88]; exact gs_last hlen
        replace hlen : ws88.length = 89 := by rw [e_ws88]; exact gs_len hlen
        replace hU : gx_g ws ws88 42 [46] := by rw [e_ws88]; exact hU.push
        refine W.widen (k := 42) (n := 362948) (by decide) (by decide) ?_
        refine lv_dup hx hb d_Mo_init_168 rfl ?_
        refine lv_iconst (v := 0) hx hb d_Mo_init_169 (by decide) ?_
        refine va_new (ci := 9) (fs := [Value.null, Value.null, Value.null, Value.null, Value.null, Value.null, Value.null, Value.int 0, Value.int 0, Value.int 0, Value.int 0]) (C := "CommitLedgerModel$Version") (T := F_Ve) (N := 11) hx hb hts i_Ve t_Ve t_Ve_ok hown (hts _ kk_Mo_37) (hts _ kX_Ve) (hts _ kN_Ve) hK hP hD hS hA rfl (by decide) (Nat.le_of_ble_eq_true rfl) (Nat.le_of_ble_eq_true rfl) d_Mo_init_170 (fun q89 H hP9 hD9 hS9 => ?_)
        obtain ⟨ws90, e_ws90⟩ : ∃ x : va_W, x = ws88 ++ [((q89, Sum.inr (9, [Value.null, Value.null, Value.null, Value.null, Value.null, Value.null, Value.null, Value.int 0, Value.int 0, Value.int 0, Value.int 0])) : Nat × va_E)] := ⟨_, rfl⟩
        replace hP : va_P D classes ws90 H := by rw [e_ws90]; exact hP9
        replace hD : va_D A ws90 := by rw [e_ws90]; exact hD9
        replace hS := hS9
        clear hP9 hD9 hS9
        have f_89_ws90 : ws90[89]? = some ((q89, Sum.inr (9, [Value.null, Value.null, Value.null, Value.null, Value.null, Value.null, Value.null, Value.int 0, Value.int 0, Value.int 0, Value.int 0])) : Nat × va_E) := by rw [e_ws90]; exact gs_last hlen
        replace hlen : ws90.length = 90 := by rw [e_ws90]; exact gs_len hlen
        replace hU : gx_g ws ws90 43 [46] := by rw [e_ws90]; exact hU.push
        refine W.widen (k := 43) (n := 362959) (by decide) (by decide) ?_
        refine lv_dup hx hb d_Mo_init_173 rfl ?_
        refine gx_call (ig := .invokespecial 39) (c_Ve_init l htr D tys z _ ws90 cI cZ q89 89 90 f_89_ws90 ht0 ht1 hlen (by decide)) (gx_invIN (As := []) (rest := [Value.ref q89, Value.int 0, Value.ref q87, Value.ref q87, Value.ref a]) hx hb hown hts km_Mo_39 kI_Ve_init kc_Ve_init (by decide) rfl (show (parseMethodDescriptor y_Ve_init.desc).map (fun d => d.parameters.length) = some 0 by decide +kernel) rfl rfl d_Mo_init_174) (gx_cw (z := 0) hts kc_Ve_init kN_Ve rfl rfl ⟨Nat.le_of_ble_eq_true rfl, Nat.le_of_ble_eq_true rfl⟩) hb hml gx_blind (gx_pre hz hP hK hD hY hS hAz [Value.ref q89]) rfl hl.1 (lv_room (Nat.le_of_ble_eq_true rfl)) d_Mo_init_174 ⟨Nat.le_of_ble_eq_true rfl, Nat.le_of_ble_eq_true rfl⟩ (fun v91 st91 t91 L91 h0_91 hW_91 hQ_91 hL_91 => ?_) (fun v91 st91 t91 L91 h0_91 hW_91 hQ_91 hL_91 => ?_)
        · obtain ⟨ws92, hp, hP9, -, hD9, hS9⟩ := gx_back h0_91 hW_91 hQ_91 hL_91 hD hS hA
          clear hQ_91 h0_91 hL_91 hW_91 hP hD hS
          have hP := hP9
          have hD := hD9
          have hS := hS9
          clear hP9 hD9 hS9
          rcases hp with ⟨q93, q94, q95, q96, q97, q98, q99, hv9, e_ws92, f_89_ws92, f_90_ws92, f_91_ws92, f_92_ws92, f_93_ws92, f_94_ws92, f_95_ws92, f_96_ws92⟩
          cases hv9
          have f_89_ws92 : ws92[89]? = some ((q89, Sum.inr (9, [Value.ref q93, Value.ref q94, Value.ref q95, Value.ref q96, Value.ref q97, Value.ref q98, Value.ref q99, Value.int 0, Value.int 0, Value.int 0, Value.int 0])) : Nat × va_E) := f_89_ws92
          have f_90_ws92 : ws92[90]? = some ((q93, Sum.inl (cI, 4097, Sum.inl (fun _ => 0))) : Nat × va_E) := f_90_ws92
          have f_91_ws92 : ws92[91]? = some ((q94, Sum.inl (cI, 4097, Sum.inl (fun _ => 0))) : Nat × va_E) := f_91_ws92
          have f_92_ws92 : ws92[92]? = some ((q95, Sum.inl (cI, 4098, Sum.inl (fun _ => 0))) : Nat × va_E) := f_92_ws92
          have f_93_ws92 : ws92[93]? = some ((q96, Sum.inl (cI, 4097, Sum.inl (fun _ => 0))) : Nat × va_E) := f_93_ws92
          have f_94_ws92 : ws92[94]? = some ((q97, Sum.inl (cI, 4096, Sum.inl (fun _ => 0))) : Nat × va_E) := f_94_ws92
          have f_95_ws92 : ws92[95]? = some ((q98, Sum.inl (cZ, 4096, Sum.inl (fun _ => 0))) : Nat × va_E) := f_95_ws92
          have f_96_ws92 : ws92[96]? = some ((q99, Sum.inl (cZ, 4096, Sum.inl (fun _ => 0))) : Nat × va_E) := f_96_ws92
          replace hlen : ws92.length = 97 := by rw [e_ws92.1, hlen]
          replace hU : gx_g ws ws92 50 [46] := hU.call e_ws92 (by rw [hlen0]; decide)
          refine W.eq (g2 := F0 m 177 ls [Value.ref q89, Value.int 0, Value.ref q87, Value.ref q87, Value.ref a]) rfl ?_
          refine W.widen (k := 50) (n := 391636) (by decide) (by decide) ?_
          generalize t91.heap = H at hP hS ⊢
          generalize locs ++ L91 = locs at hS ⊢
          have f_88_ws90 : ws90[88]? = some ((q87, Sum.inl (cV, 4, Sum.inr (Sum.inr (Sum.inr (Sum.inr (fun _ => none)))))) : Nat × va_E) := by rw [e_ws90]; exact gs_app f_88_ws88
          clear f_88_ws88
          have f_88_ws92 : ws92[88]? = some ((q87, Sum.inl (cV, 4, Sum.inr (Sum.inr (Sum.inr (Sum.inr (fun _ => none)))))) : Nat × va_E) := e_ws92.at (by first | decide | (simp; done) | (simp; omega)) f_88_ws90
          clear f_88_ws90
          refine gx_aast (D := D) (j := 0) hx hb hK hP hD hS 88 5 89 9 f_88_ws92 ht5 f_89_ws92 rfl (gx_inl (by decide)) (by decide) d_Mo_init_177 (fun H locs hP9 hD9 hS9 => ?_)
          obtain ⟨ws100, e_ws100⟩ : ∃ x : va_W, x = ws92.set 88 ((q87, Sum.inl (cV, 4, Sum.inr (Sum.inr (Sum.inr (Sum.inr (va_up (fun _ => none) 0 (some q89))))))) : Nat × va_E) := ⟨_, rfl⟩
          replace hP : va_P D classes ws100 H := by rw [e_ws100]; exact hP9
          replace hD : va_D A ws100 := by rw [e_ws100]; exact hD9
          replace hS := hS9
          clear hP9 hD9 hS9
          have f_88_ws100 : ws100[88]? = some ((q87, Sum.inl (cV, 4, Sum.inr (Sum.inr (Sum.inr (Sum.inr (va_up (fun _ => none) 0 (some q89))))))) : Nat × va_E) := by rw [e_ws100]; exact gs_self f_88_ws92
          replace hlen : ws100.length = 97 := by rw [e_ws100]; exact gs_lens hlen
          replace hU : gx_g ws ws100 50 [46] := by rw [e_ws100]; exact hU.put (Or.inr (by rw [hlen0]; decide))
          refine lv_dup hx hb d_Mo_init_178 rfl ?_
          refine lv_iconst (v := 1) hx hb d_Mo_init_179 (by decide) ?_
          refine va_new (ci := 9) (fs := [Value.null, Value.null, Value.null, Value.null, Value.null, Value.null, Value.null, Value.int 0, Value.int 0, Value.int 0, Value.int 0]) (C := "CommitLedgerModel$Version") (T := F_Ve) (N := 11) hx hb hts i_Ve t_Ve t_Ve_ok hown (hts _ kk_Mo_37) (hts _ kX_Ve) (hts _ kN_Ve) hK hP hD hS hA rfl (by decide) (Nat.le_of_ble_eq_true rfl) (Nat.le_of_ble_eq_true rfl) d_Mo_init_180 (fun q101 H hP9 hD9 hS9 => ?_)
          obtain ⟨ws102, e_ws102⟩ : ∃ x : va_W, x = ws100 ++ [((q101, Sum.inr (9, [Value.null, Value.null, Value.null, Value.null, Value.null, Value.null, Value.null, Value.int 0, Value.int 0, Value.int 0, Value.int 0])) : Nat × va_E)] := ⟨_, rfl⟩
          replace hP : va_P D classes ws102 H := by rw [e_ws102]; exact hP9
          replace hD : va_D A ws102 := by rw [e_ws102]; exact hD9
          replace hS := hS9
          clear hP9 hD9 hS9
          have f_97_ws102 : ws102[97]? = some ((q101, Sum.inr (9, [Value.null, Value.null, Value.null, Value.null, Value.null, Value.null, Value.null, Value.int 0, Value.int 0, Value.int 0, Value.int 0])) : Nat × va_E) := by rw [e_ws102]; exact gs_last hlen
          replace hlen : ws102.length = 98 := by rw [e_ws102]; exact gs_len hlen
          replace hU : gx_g ws ws102 51 [46] := by rw [e_ws102]; exact hU.push
          refine W.widen (k := 51) (n := 391647) (by decide) (by decide) ?_
          refine lv_dup hx hb d_Mo_init_183 rfl ?_
          refine gx_call (ig := .invokespecial 39) (c_Ve_init l htr D tys z _ ws102 cI cZ q101 97 98 f_97_ws102 ht0 ht1 hlen (by decide)) (gx_invIN (As := []) (rest := [Value.ref q101, Value.int 1, Value.ref q87, Value.ref q87, Value.ref a]) hx hb hown hts km_Mo_39 kI_Ve_init kc_Ve_init (by decide) rfl (show (parseMethodDescriptor y_Ve_init.desc).map (fun d => d.parameters.length) = some 0 by decide +kernel) rfl rfl d_Mo_init_184) (gx_cw (z := 0) hts kc_Ve_init kN_Ve rfl rfl ⟨Nat.le_of_ble_eq_true rfl, Nat.le_of_ble_eq_true rfl⟩) hb hml gx_blind (gx_pre hz hP hK hD hY hS hAz [Value.ref q101]) rfl hl.1 (lv_room (Nat.le_of_ble_eq_true rfl)) d_Mo_init_184 ⟨Nat.le_of_ble_eq_true rfl, Nat.le_of_ble_eq_true rfl⟩ (fun v103 st103 t103 L103 h0_103 hW_103 hQ_103 hL_103 => ?_) (fun v103 st103 t103 L103 h0_103 hW_103 hQ_103 hL_103 => ?_)
          · obtain ⟨ws104, hp, hP9, -, hD9, hS9⟩ := gx_back h0_103 hW_103 hQ_103 hL_103 hD hS hA
            clear hQ_103 h0_103 hL_103 hW_103 hP hD hS
            have hP := hP9
            have hD := hD9
            have hS := hS9
            clear hP9 hD9 hS9
            rcases hp with ⟨q105, q106, q107, q108, q109, q110, q111, hv9, e_ws104, f_97_ws104, f_98_ws104, f_99_ws104, f_100_ws104, f_101_ws104, f_102_ws104, f_103_ws104, f_104_ws104⟩
            cases hv9
            have f_97_ws104 : ws104[97]? = some ((q101, Sum.inr (9, [Value.ref q105, Value.ref q106, Value.ref q107, Value.ref q108, Value.ref q109, Value.ref q110, Value.ref q111, Value.int 0, Value.int 0, Value.int 0, Value.int 0])) : Nat × va_E) := f_97_ws104
            have f_98_ws104 : ws104[98]? = some ((q105, Sum.inl (cI, 4097, Sum.inl (fun _ => 0))) : Nat × va_E) := f_98_ws104
            have f_99_ws104 : ws104[99]? = some ((q106, Sum.inl (cI, 4097, Sum.inl (fun _ => 0))) : Nat × va_E) := f_99_ws104
            have f_100_ws104 : ws104[100]? = some ((q107, Sum.inl (cI, 4098, Sum.inl (fun _ => 0))) : Nat × va_E) := f_100_ws104
            have f_101_ws104 : ws104[101]? = some ((q108, Sum.inl (cI, 4097, Sum.inl (fun _ => 0))) : Nat × va_E) := f_101_ws104
            have f_102_ws104 : ws104[102]? = some ((q109, Sum.inl (cI, 4096, Sum.inl (fun _ => 0))) : Nat × va_E) := f_102_ws104
            have f_103_ws104 : ws104[103]? = some ((q110, Sum.inl (cZ, 4096, Sum.inl (fun _ => 0))) : Nat × va_E) := f_103_ws104
            have f_104_ws104 : ws104[104]? = some ((q111, Sum.inl (cZ, 4096, Sum.inl (fun _ => 0))) : Nat × va_E) := f_104_ws104
            replace hlen : ws104.length = 105 := by rw [e_ws104.1, hlen]
            replace hU : gx_g ws ws104 58 [46] := hU.call e_ws104 (by rw [hlen0]; decide)
            refine W.eq (g2 := F0 m 187 ls [Value.ref q101, Value.int 1, Value.ref q87, Value.ref q87, Value.ref a]) rfl ?_
            refine W.widen (k := 58) (n := 420324) (by decide) (by decide) ?_
            generalize t103.heap = H at hP hS ⊢
            generalize locs ++ L103 = locs at hS ⊢
            have f_88_ws102 : ws102[88]? = some ((q87, Sum.inl (cV, 4, Sum.inr (Sum.inr (Sum.inr (Sum.inr (va_up (fun _ => none) 0 (some q89))))))) : Nat × va_E) := by rw [e_ws102]; exact gs_app f_88_ws100
            clear f_88_ws100
            have f_88_ws104 : ws104[88]? = some ((q87, Sum.inl (cV, 4, Sum.inr (Sum.inr (Sum.inr (Sum.inr (va_up (fun _ => none) 0 (some q89))))))) : Nat × va_E) := e_ws104.at (by first | decide | (simp; done) | (simp; omega)) f_88_ws102
            clear f_88_ws102
            refine gx_aast (D := D) (j := 1) hx hb hK hP hD hS 88 5 97 9 f_88_ws104 ht5 f_97_ws104 rfl (gx_inl (by decide)) (by decide) d_Mo_init_187 (fun H locs hP9 hD9 hS9 => ?_)
            obtain ⟨ws112, e_ws112⟩ : ∃ x : va_W, x = ws104.set 88 ((q87, Sum.inl (cV, 4, Sum.inr (Sum.inr (Sum.inr (Sum.inr (va_up (va_up (fun _ => none) 0 (some q89)) 1 (some q101))))))) : Nat × va_E) := ⟨_, rfl⟩
            replace hP : va_P D classes ws112 H := by rw [e_ws112]; exact hP9
            replace hD : va_D A ws112 := by rw [e_ws112]; exact hD9
            replace hS := hS9
            clear hP9 hD9 hS9
            have f_88_ws112 : ws112[88]? = some ((q87, Sum.inl (cV, 4, Sum.inr (Sum.inr (Sum.inr (Sum.inr (va_up (va_up (fun _ => none) 0 (some q89)) 1 (some q101))))))) : Nat × va_E) := by rw [e_ws112]; exact gs_self f_88_ws104
            replace hlen : ws112.length = 105 := by rw [e_ws112]; exact gs_lens hlen
            replace hU : gx_g ws ws112 58 [46] := by rw [e_ws112]; exact hU.put (Or.inr (by rw [hlen0]; decide))
            refine lv_dup hx hb d_Mo_init_188 rfl ?_
            refine lv_iconst (v := 2) hx hb d_Mo_init_189 (by decide) ?_
            refine va_new (ci := 9) (fs := [Value.null, Value.null, Value.null, Value.null, Value.null, Value.null, Value.null, Value.int 0, Value.int 0, Value.int 0, Value.int 0]) (C := "CommitLedgerModel$Version") (T := F_Ve) (N := 11) hx hb hts i_Ve t_Ve t_Ve_ok hown (hts _ kk_Mo_37) (hts _ kX_Ve) (hts _ kN_Ve) hK hP hD hS hA rfl (by decide) (Nat.le_of_ble_eq_true rfl) (Nat.le_of_ble_eq_true rfl) d_Mo_init_190 (fun q113 H hP9 hD9 hS9 => ?_)
            obtain ⟨ws114, e_ws114⟩ : ∃ x : va_W, x = ws112 ++ [((q113, Sum.inr (9, [Value.null, Value.null, Value.null, Value.null, Value.null, Value.null, Value.null, Value.int 0, Value.int 0, Value.int 0, Value.int 0])) : Nat × va_E)] := ⟨_, rfl⟩
            replace hP : va_P D classes ws114 H := by rw [e_ws114]; exact hP9
            replace hD : va_D A ws114 := by rw [e_ws114]; exact hD9
            replace hS := hS9
            clear hP9 hD9 hS9
            have f_105_ws114 : ws114[105]? = some ((q113, Sum.inr (9, [Value.null, Value.null, Value.null, Value.null, Value.null, Value.null, Value.null, Value.int 0, Value.int 0, Value.int 0, Value.int 0])) : Nat × va_E) := by rw [e_ws114]; exact gs_last hlen
            replace hlen : ws114.length = 106 := by rw [e_ws114]; exact gs_len hlen
            replace hU : gx_g ws ws114 59 [46] := by rw [e_ws114]; exact hU.push
            refine W.widen (k := 59) (n := 420335) (by decide) (by decide) ?_
            refine lv_dup hx hb d_Mo_init_193 rfl ?_
            refine gx_call (ig := .invokespecial 39) (c_Ve_init l htr D tys z _ ws114 cI cZ q113 105 106 f_105_ws114 ht0 ht1 hlen (by decide)) (gx_invIN (As := []) (rest := [Value.ref q113, Value.int 2, Value.ref q87, Value.ref q87, Value.ref a]) hx hb hown hts km_Mo_39 kI_Ve_init kc_Ve_init (by decide) rfl (show (parseMethodDescriptor y_Ve_init.desc).map (fun d => d.parameters.length) = some 0 by decide +kernel) rfl rfl d_Mo_init_194) (gx_cw (z := 0) hts kc_Ve_init kN_Ve rfl rfl ⟨Nat.le_of_ble_eq_true rfl, Nat.le_of_ble_eq_true rfl⟩) hb hml gx_blind (gx_pre hz hP hK hD hY hS hAz [Value.ref q113]) rfl hl.1 (lv_room (Nat.le_of_ble_eq_true rfl)) d_Mo_init_194 ⟨Nat.le_of_ble_eq_true rfl, Nat.le_of_ble_eq_true rfl⟩ (fun v115 st115 t115 L115 h0_115 hW_115 hQ_115 hL_115 => ?_) (fun v115 st115 t115 L115 h0_115 hW_115 hQ_115 hL_115 => ?_)
            · obtain ⟨ws116, hp, hP9, -, hD9, hS9⟩ := gx_back h0_115 hW_115 hQ_115 hL_115 hD hS hA
              clear hQ_115 h0_115 hL_115 hW_115 hP hD hS
              have hP := hP9
              have hD := hD9
              have hS := hS9
              clear hP9 hD9 hS9
              rcases hp with ⟨q117, q118, q119, q120, q121, q122, q123, hv9, e_ws116, f_105_ws116, f_106_ws116, f_107_ws116, f_108_ws116, f_109_ws116, f_110_ws116, f_111_ws116, f_112_ws116⟩
              cases hv9
              have f_105_ws116 : ws116[105]? = some ((q113, Sum.inr (9, [Value.ref q117, Value.ref q118, Value.ref q119, Value.ref q120, Value.ref q121, Value.ref q122, Value.ref q123, Value.int 0, Value.int 0, Value.int 0, Value.int 0])) : Nat × va_E) := f_105_ws116
              have f_106_ws116 : ws116[106]? = some ((q117, Sum.inl (cI, 4097, Sum.inl (fun _ => 0))) : Nat × va_E) := f_106_ws116
              have f_107_ws116 : ws116[107]? = some ((q118, Sum.inl (cI, 4097, Sum.inl (fun _ => 0))) : Nat × va_E) := f_107_ws116
              have f_108_ws116 : ws116[108]? = some ((q119, Sum.inl (cI, 4098, Sum.inl (fun _ => 0))) : Nat × va_E) := f_108_ws116
              have f_109_ws116 : ws116[109]? = some ((q120, Sum.inl (cI, 4097, Sum.inl (fun _ => 0))) : Nat × va_E) := f_109_ws116
              have f_110_ws116 : ws116[110]? = some ((q121, Sum.inl (cI, 4096, Sum.inl (fun _ => 0))) : Nat × va_E) := f_110_ws116
              have f_111_ws116 : ws116[111]? = some ((q122, Sum.inl (cZ, 4096, Sum.inl (fun _ => 0))) : Nat × va_E) := f_111_ws116
              have f_112_ws116 : ws116[112]? = some ((q123, Sum.inl (cZ, 4096, Sum.inl (fun _ => 0))) : Nat × va_E) := f_112_ws116
              replace hlen : ws116.length = 113 := by rw [e_ws116.1, hlen]
              replace hU : gx_g ws ws116 66 [46] := hU.call e_ws116 (by rw [hlen0]; decide)
              refine W.eq (g2 := F0 m 197 ls [Value.ref q113, Value.int 2, Value.ref q87, Value.ref q87, Value.ref a]) rfl ?_
              refine W.widen (k := 66) (n := 449012) (by decide) (by decide) ?_
              generalize t115.heap = H at hP hS ⊢
              generalize locs ++ L115 = locs at hS ⊢
              have f_88_ws114 : ws114[88]? = some ((q87, Sum.inl (cV, 4, Sum.inr (Sum.inr (Sum.inr (Sum.inr (va_up (va_up (fun _ => none) 0 (some q89)) 1 (some q101))))))) : Nat × va_E) := by rw [e_ws114]; exact gs_app f_88_ws112
              clear f_88_ws112
              have f_88_ws116 : ws116[88]? = some ((q87, Sum.inl (cV, 4, Sum.inr (Sum.inr (Sum.inr (Sum.inr (va_up (va_up (fun _ => none) 0 (some q89)) 1 (some q101))))))) : Nat × va_E) := e_ws116.at (by first | decide | (simp; done) | (simp; omega)) f_88_ws114
              clear f_88_ws114
              refine gx_aast (D := D) (j := 2) hx hb hK hP hD hS 88 5 105 9 f_88_ws116 ht5 f_105_ws116 rfl (gx_inl (by decide)) (by decide) d_Mo_init_197 (fun H locs hP9 hD9 hS9 => ?_)
              obtain ⟨ws124, e_ws124⟩ : ∃ x : va_W, x = ws116.set 88 ((q87, Sum.inl (cV, 4, Sum.inr (Sum.inr (Sum.inr (Sum.inr (va_up (va_up (va_up (fun _ => none) 0 (some q89)) 1 (some q101)) 2 (some q113))))))) : Nat × va_E) := ⟨_, rfl⟩
              replace hP : va_P D classes ws124 H := by rw [e_ws124]; exact hP9
              replace hD : va_D A ws124 := by rw [e_ws124]; exact hD9
              replace hS := hS9
              clear hP9 hD9 hS9
              have f_88_ws124 : ws124[88]? = some ((q87, Sum.inl (cV, 4, Sum.inr (Sum.inr (Sum.inr (Sum.inr (va_up (va_up (va_up (fun _ => none) 0 (some q89)) 1 (some q101)) 2 (some q113))))))) : Nat × va_E) := by rw [e_ws124]; exact gs_self f_88_ws116
              replace hlen : ws124.length = 113 := by rw [e_ws124]; exact gs_lens hlen
              replace hU : gx_g ws ws124 66 [46] := by rw [e_ws124]; exact hU.put (Or.inr (by rw [hlen0]; decide))
              refine lv_dup hx hb d_Mo_init_198 rfl ?_
              refine lv_iconst (v := 3) hx hb d_Mo_init_199 (by decide) ?_
              refine va_new (ci := 9) (fs := [Value.null, Value.null, Value.null, Value.null, Value.null, Value.null, Value.null, Value.int 0, Value.int 0, Value.int 0, Value.int 0]) (C := "CommitLedgerModel$Version") (T := F_Ve) (N := 11) hx hb hts i_Ve t_Ve t_Ve_ok hown (hts _ kk_Mo_37) (hts _ kX_Ve) (hts _ kN_Ve) hK hP hD hS hA rfl (by decide) (Nat.le_of_ble_eq_true rfl) (Nat.le_of_ble_eq_true rfl) d_Mo_init_200 (fun q125 H hP9 hD9 hS9 => ?_)
              obtain ⟨ws126, e_ws126⟩ : ∃ x : va_W, x = ws124 ++ [((q125, Sum.inr (9, [Value.null, Value.null, Value.null, Value.null, Value.null, Value.null, Value.null, Value.int 0, Value.int 0, Value.int 0, Value.int 0])) : Nat × va_E)] := ⟨_, rfl⟩
              replace hP : va_P D classes ws126 H := by rw [e_ws126]; exact hP9
              replace hD : va_D A ws126 := by rw [e_ws126]; exact hD9
              replace hS := hS9
              clear hP9 hD9 hS9
              have f_113_ws126 : ws126[113]? = some ((q125, Sum.inr (9, [Value.null, Value.null, Value.null, Value.null, Value.null, Value.null, Value.null, Value.int 0, Value.int 0, Value.int 0, Value.int 0])) : Nat × va_E) := by rw [e_ws126]; exact gs_last hlen
              replace hlen : ws126.length = 114 := by rw [e_ws126]; exact gs_len hlen
              replace hU : gx_g ws ws126 67 [46] := by rw [e_ws126]; exact hU.push
              refine W.widen (k := 67) (n := 449023) (by decide) (by decide) ?_
              refine lv_dup hx hb d_Mo_init_203 rfl ?_
              refine gx_call (ig := .invokespecial 39) (c_Ve_init l htr D tys z _ ws126 cI cZ q125 113 114 f_113_ws126 ht0 ht1 hlen (by decide)) (gx_invIN (As := []) (rest := [Value.ref q125, Value.int 3, Value.ref q87, Value.ref q87, Value.ref a]) hx hb hown hts km_Mo_39 kI_Ve_init kc_Ve_init (by decide) rfl (show (parseMethodDescriptor y_Ve_init.desc).map (fun d => d.parameters.length) = some 0 by decide +kernel) rfl rfl d_Mo_init_204) (gx_cw (z := 0) hts kc_Ve_init kN_Ve rfl rfl ⟨Nat.le_of_ble_eq_true rfl, Nat.le_of_ble_eq_true rfl⟩) hb hml gx_blind (gx_pre hz hP hK hD hY hS hAz [Value.ref q125]) rfl hl.1 (lv_room (Nat.le_of_ble_eq_true rfl)) d_Mo_init_204 ⟨Nat.le_of_ble_eq_true rfl, Nat.le_of_ble_eq_true rfl⟩ (fun v127 st127 t127 L127 h0_127 hW_127 hQ_127 hL_127 => ?_) (fun v127 st127 t127 L127 h0_127 hW_127 hQ_127 hL_127 => ?_)
              · obtain ⟨ws128, hp, hP9, -, hD9, hS9⟩ := gx_back h0_127 hW_127 hQ_127 hL_127 hD hS hA
                clear hQ_127 h0_127 hL_127 hW_127 hP hD hS
                have hP := hP9
                have hD := hD9
                have hS := hS9
                clear hP9 hD9 hS9
                rcases hp with ⟨q129, q130, q131, q132, q133, q134, q135, hv9, e_ws128, f_113_ws128, f_114_ws128, f_115_ws128, f_116_ws128, f_117_ws128, f_118_ws128, f_119_ws128, f_120_ws128⟩
                cases hv9
                have f_113_ws128 : ws128[113]? = some ((q125, Sum.inr (9, [Value.ref q129, Value.ref q130, Value.ref q131, Value.ref q132, Value.ref q133, Value.ref q134, Value.ref q135, Value.int 0, Value.int 0, Value.int 0, Value.int 0])) : Nat × va_E) := f_113_ws128
                have f_114_ws128 : ws128[114]? = some ((q129, Sum.inl (cI, 4097, Sum.inl (fun _ => 0))) : Nat × va_E) := f_114_ws128
                have f_115_ws128 : ws128[115]? = some ((q130, Sum.inl (cI, 4097, Sum.inl (fun _ => 0))) : Nat × va_E) := f_115_ws128
                have f_116_ws128 : ws128[116]? = some ((q131, Sum.inl (cI, 4098, Sum.inl (fun _ => 0))) : Nat × va_E) := f_116_ws128
                have f_117_ws128 : ws128[117]? = some ((q132, Sum.inl (cI, 4097, Sum.inl (fun _ => 0))) : Nat × va_E) := f_117_ws128
                have f_118_ws128 : ws128[118]? = some ((q133, Sum.inl (cI, 4096, Sum.inl (fun _ => 0))) : Nat × va_E) := f_118_ws128
                have f_119_ws128 : ws128[119]? = some ((q134, Sum.inl (cZ, 4096, Sum.inl (fun _ => 0))) : Nat × va_E) := f_119_ws128
                have f_120_ws128 : ws128[120]? = some ((q135, Sum.inl (cZ, 4096, Sum.inl (fun _ => 0))) : Nat × va_E) := f_120_ws128
                replace hlen : ws128.length = 121 := by rw [e_ws128.1, hlen]
                replace hU : gx_g ws ws128 74 [46] := hU.call e_ws128 (by rw [hlen0]; decide)
                refine W.eq (g2 := F0 m 207 ls [Value.ref q125, Value.int 3, Value.ref q87, Value.ref q87, Value.ref a]) rfl ?_
                refine W.widen (k := 74) (n := 477700) (by decide) (by decide) ?_
                generalize t127.heap = H at hP hS ⊢
                generalize locs ++ L127 = locs at hS ⊢
                have f_88_ws126 : ws126[88]? = some ((q87, Sum.inl (cV, 4, Sum.inr (Sum.inr (Sum.inr (Sum.inr (va_up (va_up (va_up (fun _ => none) 0 (some q89)) 1 (some q101)) 2 (some q113))))))) : Nat × va_E) := by rw [e_ws126]; exact gs_app f_88_ws124
                clear f_88_ws124
                have f_88_ws128 : ws128[88]? = some ((q87, Sum.inl (cV, 4, Sum.inr (Sum.inr (Sum.inr (Sum.inr (va_up (va_up (va_up (fun _ => none) 0 (some q89)) 1 (some q101)) 2 (some q113))))))) : Nat × va_E) := e_ws128.at (by first | decide | (simp; done) | (simp; omega)) f_88_ws126
                clear f_88_ws126
                refine gx_aast (D := D) (j := 3) hx hb hK hP hD hS 88 5 113 9 f_88_ws128 ht5 f_113_ws128 rfl (gx_inl (by decide)) (by decide) d_Mo_init_207 (fun H locs hP9 hD9 hS9 => ?_)
                obtain ⟨ws136, e_ws136⟩ : ∃ x : va_W, x = ws128.set 88 ((q87, Sum.inl (cV, 4, Sum.inr (Sum.inr (Sum.inr (Sum.inr (va_up (va_up (va_up (va_up (fun _ => none) 0 (some q89)) 1 (some q101)) 2 (some q113)) 3 (some q125))))))) : Nat × va_E) := ⟨_, rfl⟩
                replace hP : va_P D classes ws136 H := by rw [e_ws136]; exact hP9
                replace hD : va_D A ws136 := by rw [e_ws136]; exact hD9
                replace hS := hS9
                clear hP9 hD9 hS9
                have f_88_ws136 : ws136[88]? = some ((q87, Sum.inl (cV, 4, Sum.inr (Sum.inr (Sum.inr (Sum.inr (va_up (va_up (va_up (va_up (fun _ => none) 0 (some q89)) 1 (some q101)) 2 (some q113)) 3 (some q125))))))) : Nat × va_E) := by rw [e_ws136]; exact gs_self f_88_ws128
                replace hlen : ws136.length = 121 := by rw [e_ws136]; exact gs_lens hlen
                replace hU : gx_g ws ws136 74 [46] := by rw [e_ws136]; exact hU.put (Or.inr (by rw [hlen0]; decide))
                have f_46_ws88 : ws88[46]? = some ((a, Sum.inr (8, [Value.int 0, Value.int 0, Value.ref q1, Value.ref q4, Value.ref q7, Value.int 0, Value.ref q10, Value.ref q13, Value.ref q16, Value.ref q19, Value.int 0, Value.int 0, Value.int 0, Value.int (-1), Value.int 0, Value.ref q23, Value.ref q35, Value.ref q47, Value.int 0, Value.int 0, Value.int 0, Value.ref q59, Value.ref q62, Value.int 0, Value.int 16, Value.int 4, Value.ref q67, Value.ref q78, Value.ref q81, Value.ref q84, Value.int 0, Value.null, Value.int 0, Value.int 0, Value.int 0])) : Nat × va_E) := by rw [e_ws88]; exact gs_app f_46_ws86
                clear f_46_ws86
                have f_46_ws90 : ws90[46]? = some ((a, Sum.inr (8, [Value.int 0, Value.int 0, Value.ref q1, Value.ref q4, Value.ref q7, Value.int 0, Value.ref q10, Value.ref q13, Value.ref q16, Value.ref q19, Value.int 0, Value.int 0, Value.int 0, Value.int (-1), Value.int 0, Value.ref q23, Value.ref q35, Value.ref q47, Value.int 0, Value.int 0, Value.int 0, Value.ref q59, Value.ref q62, Value.int 0, Value.int 16, Value.int 4, Value.ref q67, Value.ref q78, Value.ref q81, Value.ref q84, Value.int 0, Value.null, Value.int 0, Value.int 0, Value.int 0])) : Nat × va_E) := by rw [e_ws90]; exact gs_app f_46_ws88
                clear f_46_ws88
                have f_46_ws92 : ws92[46]? = some ((a, Sum.inr (8, [Value.int 0, Value.int 0, Value.ref q1, Value.ref q4, Value.ref q7, Value.int 0, Value.ref q10, Value.ref q13, Value.ref q16, Value.ref q19, Value.int 0, Value.int 0, Value.int 0, Value.int (-1), Value.int 0, Value.ref q23, Value.ref q35, Value.ref q47, Value.int 0, Value.int 0, Value.int 0, Value.ref q59, Value.ref q62, Value.int 0, Value.int 16, Value.int 4, Value.ref q67, Value.ref q78, Value.ref q81, Value.ref q84, Value.int 0, Value.null, Value.int 0, Value.int 0, Value.int 0])) : Nat × va_E) := e_ws92.at (by first | decide | (simp; done) | (simp; omega)) f_46_ws90
                clear f_46_ws90
                have f_46_ws100 : ws100[46]? = some ((a, Sum.inr (8, [Value.int 0, Value.int 0, Value.ref q1, Value.ref q4, Value.ref q7, Value.int 0, Value.ref q10, Value.ref q13, Value.ref q16, Value.ref q19, Value.int 0, Value.int 0, Value.int 0, Value.int (-1), Value.int 0, Value.ref q23, Value.ref q35, Value.ref q47, Value.int 0, Value.int 0, Value.int 0, Value.ref q59, Value.ref q62, Value.int 0, Value.int 16, Value.int 4, Value.ref q67, Value.ref q78, Value.ref q81, Value.ref q84, Value.int 0, Value.null, Value.int 0, Value.int 0, Value.int 0])) : Nat × va_E) := by rw [e_ws100]; exact gs_ne (by decide) f_46_ws92
                clear f_46_ws92
                have f_46_ws102 : ws102[46]? = some ((a, Sum.inr (8, [Value.int 0, Value.int 0, Value.ref q1, Value.ref q4, Value.ref q7, Value.int 0, Value.ref q10, Value.ref q13, Value.ref q16, Value.ref q19, Value.int 0, Value.int 0, Value.int 0, Value.int (-1), Value.int 0, Value.ref q23, Value.ref q35, Value.ref q47, Value.int 0, Value.int 0, Value.int 0, Value.ref q59, Value.ref q62, Value.int 0, Value.int 16, Value.int 4, Value.ref q67, Value.ref q78, Value.ref q81, Value.ref q84, Value.int 0, Value.null, Value.int 0, Value.int 0, Value.int 0])) : Nat × va_E) := by rw [e_ws102]; exact gs_app f_46_ws100
                clear f_46_ws100
                have f_46_ws104 : ws104[46]? = some ((a, Sum.inr (8, [Value.int 0, Value.int 0, Value.ref q1, Value.ref q4, Value.ref q7, Value.int 0, Value.ref q10, Value.ref q13, Value.ref q16, Value.ref q19, Value.int 0, Value.int 0, Value.int 0, Value.int (-1), Value.int 0, Value.ref q23, Value.ref q35, Value.ref q47, Value.int 0, Value.int 0, Value.int 0, Value.ref q59, Value.ref q62, Value.int 0, Value.int 16, Value.int 4, Value.ref q67, Value.ref q78, Value.ref q81, Value.ref q84, Value.int 0, Value.null, Value.int 0, Value.int 0, Value.int 0])) : Nat × va_E) := e_ws104.at (by first | decide | (simp; done) | (simp; omega)) f_46_ws102
                clear f_46_ws102
                have f_46_ws112 : ws112[46]? = some ((a, Sum.inr (8, [Value.int 0, Value.int 0, Value.ref q1, Value.ref q4, Value.ref q7, Value.int 0, Value.ref q10, Value.ref q13, Value.ref q16, Value.ref q19, Value.int 0, Value.int 0, Value.int 0, Value.int (-1), Value.int 0, Value.ref q23, Value.ref q35, Value.ref q47, Value.int 0, Value.int 0, Value.int 0, Value.ref q59, Value.ref q62, Value.int 0, Value.int 16, Value.int 4, Value.ref q67, Value.ref q78, Value.ref q81, Value.ref q84, Value.int 0, Value.null, Value.int 0, Value.int 0, Value.int 0])) : Nat × va_E) := by rw [e_ws112]; exact gs_ne (by decide) f_46_ws104
                clear f_46_ws104
                have f_46_ws114 : ws114[46]? = some ((a, Sum.inr (8, [Value.int 0, Value.int 0, Value.ref q1, Value.ref q4, Value.ref q7, Value.int 0, Value.ref q10, Value.ref q13, Value.ref q16, Value.ref q19, Value.int 0, Value.int 0, Value.int 0, Value.int (-1), Value.int 0, Value.ref q23, Value.ref q35, Value.ref q47, Value.int 0, Value.int 0, Value.int 0, Value.ref q59, Value.ref q62, Value.int 0, Value.int 16, Value.int 4, Value.ref q67, Value.ref q78, Value.ref q81, Value.ref q84, Value.int 0, Value.null, Value.int 0, Value.int 0, Value.int 0])) : Nat × va_E) := by rw [e_ws114]; exact gs_app f_46_ws112
                clear f_46_ws112
                have f_46_ws116 : ws116[46]? = some ((a, Sum.inr (8, [Value.int 0, Value.int 0, Value.ref q1, Value.ref q4, Value.ref q7, Value.int 0, Value.ref q10, Value.ref q13, Value.ref q16, Value.ref q19, Value.int 0, Value.int 0, Value.int 0, Value.int (-1), Value.int 0, Value.ref q23, Value.ref q35, Value.ref q47, Value.int 0, Value.int 0, Value.int 0, Value.ref q59, Value.ref q62, Value.int 0, Value.int 16, Value.int 4, Value.ref q67, Value.ref q78, Value.ref q81, Value.ref q84, Value.int 0, Value.null, Value.int 0, Value.int 0, Value.int 0])) : Nat × va_E) := e_ws116.at (by first | decide | (simp; done) | (simp; omega)) f_46_ws114
                clear f_46_ws114
                have f_46_ws124 : ws124[46]? = some ((a, Sum.inr (8, [Value.int 0, Value.int 0, Value.ref q1, Value.ref q4, Value.ref q7, Value.int 0, Value.ref q10, Value.ref q13, Value.ref q16, Value.ref q19, Value.int 0, Value.int 0, Value.int 0, Value.int (-1), Value.int 0, Value.ref q23, Value.ref q35, Value.ref q47, Value.int 0, Value.int 0, Value.int 0, Value.ref q59, Value.ref q62, Value.int 0, Value.int 16, Value.int 4, Value.ref q67, Value.ref q78, Value.ref q81, Value.ref q84, Value.int 0, Value.null, Value.int 0, Value.int 0, Value.int 0])) : Nat × va_E) := by rw [e_ws124]; exact gs_ne (by decide) f_46_ws116
                clear f_46_ws116
                have f_46_ws126 : ws126[46]? = some ((a, Sum.inr (8, [Value.int 0, Value.int 0, Value.ref q1, Value.ref q4, Value.ref q7, Value.int 0, Value.ref q10, Value.ref q13, Value.ref q16, Value.ref q19, Value.int 0, Value.int 0, Value.int 0, Value.int (-1), Value.int 0, Value.ref q23, Value.ref q35, Value.ref q47, Value.int 0, Value.int 0, Value.int 0, Value.ref q59, Value.ref q62, Value.int 0, Value.int 16, Value.int 4, Value.ref q67, Value.ref q78, Value.ref q81, Value.ref q84, Value.int 0, Value.null, Value.int 0, Value.int 0, Value.int 0])) : Nat × va_E) := by rw [e_ws126]; exact gs_app f_46_ws124
                clear f_46_ws124
                have f_46_ws128 : ws128[46]? = some ((a, Sum.inr (8, [Value.int 0, Value.int 0, Value.ref q1, Value.ref q4, Value.ref q7, Value.int 0, Value.ref q10, Value.ref q13, Value.ref q16, Value.ref q19, Value.int 0, Value.int 0, Value.int 0, Value.int (-1), Value.int 0, Value.ref q23, Value.ref q35, Value.ref q47, Value.int 0, Value.int 0, Value.int 0, Value.ref q59, Value.ref q62, Value.int 0, Value.int 16, Value.int 4, Value.ref q67, Value.ref q78, Value.ref q81, Value.ref q84, Value.int 0, Value.null, Value.int 0, Value.int 0, Value.int 0])) : Nat × va_E) := e_ws128.at (by first | decide | (simp; done) | (simp; omega)) f_46_ws126
                clear f_46_ws126
                have f_46_ws136 : ws136[46]? = some ((a, Sum.inr (8, [Value.int 0, Value.int 0, Value.ref q1, Value.ref q4, Value.ref q7, Value.int 0, Value.ref q10, Value.ref q13, Value.ref q16, Value.ref q19, Value.int 0, Value.int 0, Value.int 0, Value.int (-1), Value.int 0, Value.ref q23, Value.ref q35, Value.ref q47, Value.int 0, Value.int 0, Value.int 0, Value.ref q59, Value.ref q62, Value.int 0, Value.int 16, Value.int 4, Value.ref q67, Value.ref q78, Value.ref q81, Value.ref q84, Value.int 0, Value.null, Value.int 0, Value.int 0, Value.int 0])) : Nat × va_E) := by rw [e_ws136]; exact gs_ne (by decide) f_46_ws128
                clear f_46_ws128
                refine va_putF (D := D) (ci := 8) (v := Value.ref q87) (ty := .array (.object "CommitLedgerModel$Version")) (C := "CommitLedgerModel") (T := F_Mo) (N := 35) hx hb hts i_Mo t_Mo t_Mo_ok n_Mo hown hK hP hD hS 46 f_46_ws136 rfl 31 (by decide) (hts _ kf_Mo_76) (fun _ h9 => h9) rfl hin rfl (by decide +kernel) rfl rfl (Nat.le_of_ble_eq_true rfl) d_Mo_init_208 (fun H locs hP9 hD9 hS9 => ?_)
                obtain ⟨ws137, e_ws137⟩ : ∃ x : va_W, x = ws136.set 46 ((a, Sum.inr (8, [Value.int 0, Value.int 0, Value.ref q1, Value.ref q4, Value.ref q7, Value.int 0, Value.ref q10, Value.ref q13, Value.ref q16, Value.ref q19, Value.int 0, Value.int 0, Value.int 0, Value.int (-1), Value.int 0, Value.ref q23, Value.ref q35, Value.ref q47, Value.int 0, Value.int 0, Value.int 0, Value.ref q59, Value.ref q62, Value.int 0, Value.int 16, Value.int 4, Value.ref q67, Value.ref q78, Value.ref q81, Value.ref q84, Value.int 0, Value.ref q87, Value.int 0, Value.int 0, Value.int 0])) : Nat × va_E) := ⟨_, rfl⟩
                replace hP : va_P D classes ws137 H := by rw [e_ws137]; exact hP9
                replace hD : va_D A ws137 := by rw [e_ws137]; exact hD9
                replace hS := hS9
                clear hP9 hD9 hS9
                have f_46_ws137 : ws137[46]? = some ((a, Sum.inr (8, [Value.int 0, Value.int 0, Value.ref q1, Value.ref q4, Value.ref q7, Value.int 0, Value.ref q10, Value.ref q13, Value.ref q16, Value.ref q19, Value.int 0, Value.int 0, Value.int 0, Value.int (-1), Value.int 0, Value.ref q23, Value.ref q35, Value.ref q47, Value.int 0, Value.int 0, Value.int 0, Value.ref q59, Value.ref q62, Value.int 0, Value.int 16, Value.int 4, Value.ref q67, Value.ref q78, Value.ref q81, Value.ref q84, Value.int 0, Value.ref q87, Value.int 0, Value.int 0, Value.int 0])) : Nat × va_E) := by rw [e_ws137]; exact gs_self f_46_ws136
                replace hlen : ws137.length = 121 := by rw [e_ws137]; exact gs_lens hlen
                replace hU : gx_g ws ws137 74 [46] := by rw [e_ws137]; exact hU.put (Or.inl (by simp))
                have f_47_ws3 : ws3[47]? = some ((q1, Sum.inl (cI, 4096, Sum.inl (fun _ => 0))) : Nat × va_E) := by rw [e_ws3]; exact gs_ne (by decide) f_47_ws2
                clear f_47_ws2
                have f_47_ws5 : ws5[47]? = some ((q1, Sum.inl (cI, 4096, Sum.inl (fun _ => 0))) : Nat × va_E) := by rw [e_ws5]; exact gs_app f_47_ws3
                clear f_47_ws3
                have f_47_ws6 : ws6[47]? = some ((q1, Sum.inl (cI, 4096, Sum.inl (fun _ => 0))) : Nat × va_E) := by rw [e_ws6]; exact gs_ne (by decide) f_47_ws5
                clear f_47_ws5
                have f_47_ws8 : ws8[47]? = some ((q1, Sum.inl (cI, 4096, Sum.inl (fun _ => 0))) : Nat × va_E) := by rw [e_ws8]; exact gs_app f_47_ws6
                clear f_47_ws6
                have f_47_ws9 : ws9[47]? = some ((q1, Sum.inl (cI, 4096, Sum.inl (fun _ => 0))) : Nat × va_E) := by rw [e_ws9]; exact gs_ne (by decide) f_47_ws8
                clear f_47_ws8
                have f_47_ws11 : ws11[47]? = some ((q1, Sum.inl (cI, 4096, Sum.inl (fun _ => 0))) : Nat × va_E) := by rw [e_ws11]; exact gs_app f_47_ws9
                clear f_47_ws9
                have f_47_ws12 : ws12[47]? = some ((q1, Sum.inl (cI, 4096, Sum.inl (fun _ => 0))) : Nat × va_E) := by rw [e_ws12]; exact gs_ne (by decide) f_47_ws11
                clear f_47_ws11
                have f_47_ws14 : ws14[47]? = some ((q1, Sum.inl (cI, 4096, Sum.inl (fun _ => 0))) : Nat × va_E) := by rw [e_ws14]; exact gs_app f_47_ws12
                clear f_47_ws12
                have f_47_ws15 : ws15[47]? = some ((q1, Sum.inl (cI, 4096, Sum.inl (fun _ => 0))) : Nat × va_E) := by rw [e_ws15]; exact gs_ne (by decide) f_47_ws14
                clear f_47_ws14
                have f_47_ws17 : ws17[47]? = some ((q1, Sum.inl (cI, 4096, Sum.inl (fun _ => 0))) : Nat × va_E) := by rw [e_ws17]; exact gs_app f_47_ws15
                clear f_47_ws15
                have f_47_ws18 : ws18[47]? = some ((q1, Sum.inl (cI, 4096, Sum.inl (fun _ => 0))) : Nat × va_E) := by rw [e_ws18]; exact gs_ne (by decide) f_47_ws17
                clear f_47_ws17
                have f_47_ws20 : ws20[47]? = some ((q1, Sum.inl (cI, 4096, Sum.inl (fun _ => 0))) : Nat × va_E) := by rw [e_ws20]; exact gs_app f_47_ws18
                clear f_47_ws18
                have f_47_ws21 : ws21[47]? = some ((q1, Sum.inl (cI, 4096, Sum.inl (fun _ => 0))) : Nat × va_E) := by rw [e_ws21]; exact gs_ne (by decide) f_47_ws20
                clear f_47_ws20
                have f_47_ws22 : ws22[47]? = some ((q1, Sum.inl (cI, 4096, Sum.inl (fun _ => 0))) : Nat × va_E) := by rw [e_ws22]; exact gs_ne (by decide) f_47_ws21
                clear f_47_ws21
                have f_47_ws24 : ws24[47]? = some ((q1, Sum.inl (cI, 4096, Sum.inl (fun _ => 0))) : Nat × va_E) := by rw [e_ws24]; exact gs_app f_47_ws22
                clear f_47_ws22
                have f_47_ws26 : ws26[47]? = some ((q1, Sum.inl (cI, 4096, Sum.inl (fun _ => 0))) : Nat × va_E) := e_ws26.at (by first | decide | (simp; done) | (simp; omega)) f_47_ws24
                clear f_47_ws24
                have f_47_ws34 : ws34[47]? = some ((q1, Sum.inl (cI, 4096, Sum.inl (fun _ => 0))) : Nat × va_E) := by rw [e_ws34]; exact gs_ne (by decide) f_47_ws26
                clear f_47_ws26
                have f_47_ws36 : ws36[47]? = some ((q1, Sum.inl (cI, 4096, Sum.inl (fun _ => 0))) : Nat × va_E) := by rw [e_ws36]; exact gs_app f_47_ws34
                clear f_47_ws34
                have f_47_ws38 : ws38[47]? = some ((q1, Sum.inl (cI, 4096, Sum.inl (fun _ => 0))) : Nat × va_E) := e_ws38.at (by first | decide | (simp; done) | (simp; omega)) f_47_ws36
                clear f_47_ws36
                have f_47_ws46 : ws46[47]? = some ((q1, Sum.inl (cI, 4096, Sum.inl (fun _ => 0))) : Nat × va_E) := by rw [e_ws46]; exact gs_ne (by decide) f_47_ws38
                clear f_47_ws38
                have f_47_ws48 : ws48[47]? = some ((q1, Sum.inl (cI, 4096, Sum.inl (fun _ => 0))) : Nat × va_E) := by rw [e_ws48]; exact gs_app f_47_ws46
                clear f_47_ws46
                have f_47_ws50 : ws50[47]? = some ((q1, Sum.inl (cI, 4096, Sum.inl (fun _ => 0))) : Nat × va_E) := e_ws50.at (by first | decide | (simp; done) | (simp; omega)) f_47_ws48
                clear f_47_ws48
                have f_47_ws58 : ws58[47]? = some ((q1, Sum.inl (cI, 4096, Sum.inl (fun _ => 0))) : Nat × va_E) := by rw [e_ws58]; exact gs_ne (by decide) f_47_ws50
                clear f_47_ws50
                have f_47_ws60 : ws60[47]? = some ((q1, Sum.inl (cI, 4096, Sum.inl (fun _ => 0))) : Nat × va_E) := by rw [e_ws60]; exact gs_app f_47_ws58
                clear f_47_ws58
                have f_47_ws61 : ws61[47]? = some ((q1, Sum.inl (cI, 4096, Sum.inl (fun _ => 0))) : Nat × va_E) := by rw [e_ws61]; exact gs_ne (by decide) f_47_ws60
                clear f_47_ws60
                have f_47_ws63 : ws63[47]? = some ((q1, Sum.inl (cI, 4096, Sum.inl (fun _ => 0))) : Nat × va_E) := by rw [e_ws63]; exact gs_app f_47_ws61
                clear f_47_ws61
                have f_47_ws64 : ws64[47]? = some ((q1, Sum.inl (cI, 4096, Sum.inl (fun _ => 0))) : Nat × va_E) := by rw [e_ws64]; exact gs_ne (by decide) f_47_ws63
                clear f_47_ws63
                have f_47_ws65 : ws65[47]? = some ((q1, Sum.inl (cI, 4096, Sum.inl (fun _ => 0))) : Nat × va_E) := by rw [e_ws65]; exact gs_ne (by decide) f_47_ws64
                clear f_47_ws64
                have f_47_ws66 : ws66[47]? = some ((q1, Sum.inl (cI, 4096, Sum.inl (fun _ => 0))) : Nat × va_E) := by rw [e_ws66]; exact gs_ne (by decide) f_47_ws65
                clear f_47_ws65
                have f_47_ws72 : ws72[47]? = some ((q1, Sum.inl (cI, 4096, Sum.inl (fun _ => 0))) : Nat × va_E) := by rw [e_ws72]; exact gs_app f_47_ws66
                clear f_47_ws66
                have f_47_ws73 : ws73[47]? = some ((q1, Sum.inl (cI, 4096, Sum.inl (fun _ => 0))) : Nat × va_E) := by rw [e_ws73]; exact gs_app f_47_ws72
                clear f_47_ws72
                have f_47_ws74 : ws74[47]? = some ((q1, Sum.inl (cI, 4096, Sum.inl (fun _ => 0))) : Nat × va_E) := by rw [e_ws74]; exact gs_app f_47_ws73
                clear f_47_ws73
                have f_47_ws75 : ws75[47]? = some ((q1, Sum.inl (cI, 4096, Sum.inl (fun _ => 0))) : Nat × va_E) := by rw [e_ws75]; exact gs_app f_47_ws74
                clear f_47_ws74
                have f_47_ws76 : ws76[47]? = some ((q1, Sum.inl (cI, 4096, Sum.inl (fun _ => 0))) : Nat × va_E) := by rw [e_ws76]; exact gs_app f_47_ws75
                clear f_47_ws75
                have f_47_ws77 : ws77[47]? = some ((q1, Sum.inl (cI, 4096, Sum.inl (fun _ => 0))) : Nat × va_E) := by rw [e_ws77]; exact gs_ne (by decide) f_47_ws76
                clear f_47_ws76
                have f_47_ws79 : ws79[47]? = some ((q1, Sum.inl (cI, 4096, Sum.inl (fun _ => 0))) : Nat × va_E) := by rw [e_ws79]; exact gs_app f_47_ws77
                clear f_47_ws77
                have f_47_ws80 : ws80[47]? = some ((q1, Sum.inl (cI, 4096, Sum.inl (fun _ => 0))) : Nat × va_E) := by rw [e_ws80]; exact gs_ne (by decide) f_47_ws79
                clear f_47_ws79
                have f_47_ws82 : ws82[47]? = some ((q1, Sum.inl (cI, 4096, Sum.inl (fun _ => 0))) : Nat × va_E) := by rw [e_ws82]; exact gs_app f_47_ws80
                clear f_47_ws80
                have f_47_ws83 : ws83[47]? = some ((q1, Sum.inl (cI, 4096, Sum.inl (fun _ => 0))) : Nat × va_E) := by rw [e_ws83]; exact gs_ne (by decide) f_47_ws82
                clear f_47_ws82
                have f_47_ws85 : ws85[47]? = some ((q1, Sum.inl (cI, 4096, Sum.inl (fun _ => 0))) : Nat × va_E) := by rw [e_ws85]; exact gs_app f_47_ws83
                clear f_47_ws83
                have f_47_ws86 : ws86[47]? = some ((q1, Sum.inl (cI, 4096, Sum.inl (fun _ => 0))) : Nat × va_E) := by rw [e_ws86]; exact gs_ne (by decide) f_47_ws85
                clear f_47_ws85
                have f_47_ws88 : ws88[47]? = some ((q1, Sum.inl (cI, 4096, Sum.inl (fun _ => 0))) : Nat × va_E) := by rw [e_ws88]; exact gs_app f_47_ws86
                clear f_47_ws86
                have f_47_ws90 : ws90[47]? = some ((q1, Sum.inl (cI, 4096, Sum.inl (fun _ => 0))) : Nat × va_E) := by rw [e_ws90]; exact gs_app f_47_ws88
                clear f_47_ws88
                have f_47_ws92 : ws92[47]? = some ((q1, Sum.inl (cI, 4096, Sum.inl (fun _ => 0))) : Nat × va_E) := e_ws92.at (by first | decide | (simp; done) | (simp; omega)) f_47_ws90
                clear f_47_ws90
                have f_47_ws100 : ws100[47]? = some ((q1, Sum.inl (cI, 4096, Sum.inl (fun _ => 0))) : Nat × va_E) := by rw [e_ws100]; exact gs_ne (by decide) f_47_ws92
                clear f_47_ws92
                have f_47_ws102 : ws102[47]? = some ((q1, Sum.inl (cI, 4096, Sum.inl (fun _ => 0))) : Nat × va_E) := by rw [e_ws102]; exact gs_app f_47_ws100
                clear f_47_ws100
                have f_47_ws104 : ws104[47]? = some ((q1, Sum.inl (cI, 4096, Sum.inl (fun _ => 0))) : Nat × va_E) := e_ws104.at (by first | decide | (simp; done) | (simp; omega)) f_47_ws102
                clear f_47_ws102
                have f_47_ws112 : ws112[47]? = some ((q1, Sum.inl (cI, 4096, Sum.inl (fun _ => 0))) : Nat × va_E) := by rw [e_ws112]; exact gs_ne (by decide) f_47_ws104
                clear f_47_ws104
                have f_47_ws114 : ws114[47]? = some ((q1, Sum.inl (cI, 4096, Sum.inl (fun _ => 0))) : Nat × va_E) := by rw [e_ws114]; exact gs_app f_47_ws112
                clear f_47_ws112
                have f_47_ws116 : ws116[47]? = some ((q1, Sum.inl (cI, 4096, Sum.inl (fun _ => 0))) : Nat × va_E) := e_ws116.at (by first | decide | (simp; done) | (simp; omega)) f_47_ws114
                clear f_47_ws114
                have f_47_ws124 : ws124[47]? = some ((q1, Sum.inl (cI, 4096, Sum.inl (fun _ => 0))) : Nat × va_E) := by rw [e_ws124]; exact gs_ne (by decide) f_47_ws116
                clear f_47_ws116
                have f_47_ws126 : ws126[47]? = some ((q1, Sum.inl (cI, 4096, Sum.inl (fun _ => 0))) : Nat × va_E) := by rw [e_ws126]; exact gs_app f_47_ws124
                clear f_47_ws124
                have f_47_ws128 : ws128[47]? = some ((q1, Sum.inl (cI, 4096, Sum.inl (fun _ => 0))) : Nat × va_E) := e_ws128.at (by first | decide | (simp; done) | (simp; omega)) f_47_ws126
                clear f_47_ws126
                have f_47_ws136 : ws136[47]? = some ((q1, Sum.inl (cI, 4096, Sum.inl (fun _ => 0))) : Nat × va_E) := by rw [e_ws136]; exact gs_ne (by decide) f_47_ws128
                clear f_47_ws128
                have f_47_ws137 : ws137[47]? = some ((q1, Sum.inl (cI, 4096, Sum.inl (fun _ => 0))) : Nat × va_E) := by rw [e_ws137]; exact gs_ne (by decide) f_47_ws136
                clear f_47_ws136
                have f_48_ws6 : ws6[48]? = some ((q4, Sum.inl (cI, 4096, Sum.inl (fun _ => 0))) : Nat × va_E) := by rw [e_ws6]; exact gs_ne (by decide) f_48_ws5
                clear f_48_ws5
                have f_48_ws8 : ws8[48]? = some ((q4, Sum.inl (cI, 4096, Sum.inl (fun _ => 0))) : Nat × va_E) := by rw [e_ws8]; exact gs_app f_48_ws6
                clear f_48_ws6
                have f_48_ws9 : ws9[48]? = some ((q4, Sum.inl (cI, 4096, Sum.inl (fun _ => 0))) : Nat × va_E) := by rw [e_ws9]; exact gs_ne (by decide) f_48_ws8
                clear f_48_ws8
                have f_48_ws11 : ws11[48]? = some ((q4, Sum.inl (cI, 4096, Sum.inl (fun _ => 0))) : Nat × va_E) := by rw [e_ws11]; exact gs_app f_48_ws9
                clear f_48_ws9
                have f_48_ws12 : ws12[48]? = some ((q4, Sum.inl (cI, 4096, Sum.inl (fun _ => 0))) : Nat × va_E) := by rw [e_ws12]; exact gs_ne (by decide) f_48_ws11
                clear f_48_ws11
                have f_48_ws14 : ws14[48]? = some ((q4, Sum.inl (cI, 4096, Sum.inl (fun _ => 0))) : Nat × va_E) := by rw [e_ws14]; exact gs_app f_48_ws12
                clear f_48_ws12
                have f_48_ws15 : ws15[48]? = some ((q4, Sum.inl (cI, 4096, Sum.inl (fun _ => 0))) : Nat × va_E) := by rw [e_ws15]; exact gs_ne (by decide) f_48_ws14
                clear f_48_ws14
                have f_48_ws17 : ws17[48]? = some ((q4, Sum.inl (cI, 4096, Sum.inl (fun _ => 0))) : Nat × va_E) := by rw [e_ws17]; exact gs_app f_48_ws15
                clear f_48_ws15
                have f_48_ws18 : ws18[48]? = some ((q4, Sum.inl (cI, 4096, Sum.inl (fun _ => 0))) : Nat × va_E) := by rw [e_ws18]; exact gs_ne (by decide) f_48_ws17
                clear f_48_ws17
                have f_48_ws20 : ws20[48]? = some ((q4, Sum.inl (cI, 4096, Sum.inl (fun _ => 0))) : Nat × va_E) := by rw [e_ws20]; exact gs_app f_48_ws18
                clear f_48_ws18
                have f_48_ws21 : ws21[48]? = some ((q4, Sum.inl (cI, 4096, Sum.inl (fun _ => 0))) : Nat × va_E) := by rw [e_ws21]; exact gs_ne (by decide) f_48_ws20
                clear f_48_ws20
                have f_48_ws22 : ws22[48]? = some ((q4, Sum.inl (cI, 4096, Sum.inl (fun _ => 0))) : Nat × va_E) := by rw [e_ws22]; exact gs_ne (by decide) f_48_ws21
                clear f_48_ws21
                have f_48_ws24 : ws24[48]? = some ((q4, Sum.inl (cI, 4096, Sum.inl (fun _ => 0))) : Nat × va_E) := by rw [e_ws24]; exact gs_app f_48_ws22
                clear f_48_ws22
                have f_48_ws26 : ws26[48]? = some ((q4, Sum.inl (cI, 4096, Sum.inl (fun _ => 0))) : Nat × va_E) := e_ws26.at (by first | decide | (simp; done) | (simp; omega)) f_48_ws24
                clear f_48_ws24
                have f_48_ws34 : ws34[48]? = some ((q4, Sum.inl (cI, 4096, Sum.inl (fun _ => 0))) : Nat × va_E) := by rw [e_ws34]; exact gs_ne (by decide) f_48_ws26
                clear f_48_ws26
                have f_48_ws36 : ws36[48]? = some ((q4, Sum.inl (cI, 4096, Sum.inl (fun _ => 0))) : Nat × va_E) := by rw [e_ws36]; exact gs_app f_48_ws34
                clear f_48_ws34
                have f_48_ws38 : ws38[48]? = some ((q4, Sum.inl (cI, 4096, Sum.inl (fun _ => 0))) : Nat × va_E) := e_ws38.at (by first | decide | (simp; done) | (simp; omega)) f_48_ws36
                clear f_48_ws36
                have f_48_ws46 : ws46[48]? = some ((q4, Sum.inl (cI, 4096, Sum.inl (fun _ => 0))) : Nat × va_E) := by rw [e_ws46]; exact gs_ne (by decide) f_48_ws38
                clear f_48_ws38
                have f_48_ws48 : ws48[48]? = some ((q4, Sum.inl (cI, 4096, Sum.inl (fun _ => 0))) : Nat × va_E) := by rw [e_ws48]; exact gs_app f_48_ws46
                clear f_48_ws46
                have f_48_ws50 : ws50[48]? = some ((q4, Sum.inl (cI, 4096, Sum.inl (fun _ => 0))) : Nat × va_E) := e_ws50.at (by first | decide | (simp; done) | (simp; omega)) f_48_ws48
                clear f_48_ws48
                have f_48_ws58 : ws58[48]? = some ((q4, Sum.inl (cI, 4096, Sum.inl (fun _ => 0))) : Nat × va_E) := by rw [e_ws58]; exact gs_ne (by decide) f_48_ws50
                clear f_48_ws50
                have f_48_ws60 : ws60[48]? = some ((q4, Sum.inl (cI, 4096, Sum.inl (fun _ => 0))) : Nat × va_E) := by rw [e_ws60]; exact gs_app f_48_ws58
                clear f_48_ws58
                have f_48_ws61 : ws61[48]? = some ((q4, Sum.inl (cI, 4096, Sum.inl (fun _ => 0))) : Nat × va_E) := by rw [e_ws61]; exact gs_ne (by decide) f_48_ws60
                clear f_48_ws60
                have f_48_ws63 : ws63[48]? = some ((q4, Sum.inl (cI, 4096, Sum.inl (fun _ => 0))) : Nat × va_E) := by rw [e_ws63]; exact gs_app f_48_ws61
                clear f_48_ws61
                have f_48_ws64 : ws64[48]? = some ((q4, Sum.inl (cI, 4096, Sum.inl (fun _ => 0))) : Nat × va_E) := by rw [e_ws64]; exact gs_ne (by decide) f_48_ws63
                clear f_48_ws63
                have f_48_ws65 : ws65[48]? = some ((q4, Sum.inl (cI, 4096, Sum.inl (fun _ => 0))) : Nat × va_E) := by rw [e_ws65]; exact gs_ne (by decide) f_48_ws64
                clear f_48_ws64
                have f_48_ws66 : ws66[48]? = some ((q4, Sum.inl (cI, 4096, Sum.inl (fun _ => 0))) : Nat × va_E) := by rw [e_ws66]; exact gs_ne (by decide) f_48_ws65
                clear f_48_ws65
                have f_48_ws72 : ws72[48]? = some ((q4, Sum.inl (cI, 4096, Sum.inl (fun _ => 0))) : Nat × va_E) := by rw [e_ws72]; exact gs_app f_48_ws66
                clear f_48_ws66
                have f_48_ws73 : ws73[48]? = some ((q4, Sum.inl (cI, 4096, Sum.inl (fun _ => 0))) : Nat × va_E) := by rw [e_ws73]; exact gs_app f_48_ws72
                clear f_48_ws72
                have f_48_ws74 : ws74[48]? = some ((q4, Sum.inl (cI, 4096, Sum.inl (fun _ => 0))) : Nat × va_E) := by rw [e_ws74]; exact gs_app f_48_ws73
                clear f_48_ws73
                have f_48_ws75 : ws75[48]? = some ((q4, Sum.inl (cI, 4096, Sum.inl (fun _ => 0))) : Nat × va_E) := by rw [e_ws75]; exact gs_app f_48_ws74
                clear f_48_ws74
                have f_48_ws76 : ws76[48]? = some ((q4, Sum.inl (cI, 4096, Sum.inl (fun _ => 0))) : Nat × va_E) := by rw [e_ws76]; exact gs_app f_48_ws75
                clear f_48_ws75
                have f_48_ws77 : ws77[48]? = some ((q4, Sum.inl (cI, 4096, Sum.inl (fun _ => 0))) : Nat × va_E) := by rw [e_ws77]; exact gs_ne (by decide) f_48_ws76
                clear f_48_ws76
                have f_48_ws79 : ws79[48]? = some ((q4, Sum.inl (cI, 4096, Sum.inl (fun _ => 0))) : Nat × va_E) := by rw [e_ws79]; exact gs_app f_48_ws77
                clear f_48_ws77
                have f_48_ws80 : ws80[48]? = some ((q4, Sum.inl (cI, 4096, Sum.inl (fun _ => 0))) : Nat × va_E) := by rw [e_ws80]; exact gs_ne (by decide) f_48_ws79
                clear f_48_ws79
                have f_48_ws82 : ws82[48]? = some ((q4, Sum.inl (cI, 4096, Sum.inl (fun _ => 0))) : Nat × va_E) := by rw [e_ws82]; exact gs_app f_48_ws80
                clear f_48_ws80
                have f_48_ws83 : ws83[48]? = some ((q4, Sum.inl (cI, 4096, Sum.inl (fun _ => 0))) : Nat × va_E) := by rw [e_ws83]; exact gs_ne (by decide) f_48_ws82
                clear f_48_ws82
                have f_48_ws85 : ws85[48]? = some ((q4, Sum.inl (cI, 4096, Sum.inl (fun _ => 0))) : Nat × va_E) := by rw [e_ws85]; exact gs_app f_48_ws83
                clear f_48_ws83
                have f_48_ws86 : ws86[48]? = some ((q4, Sum.inl (cI, 4096, Sum.inl (fun _ => 0))) : Nat × va_E) := by rw [e_ws86]; exact gs_ne (by decide) f_48_ws85
                clear f_48_ws85
                have f_48_ws88 : ws88[48]? = some ((q4, Sum.inl (cI, 4096, Sum.inl (fun _ => 0))) : Nat × va_E) := by rw [e_ws88]; exact gs_app f_48_ws86
                clear f_48_ws86
                have f_48_ws90 : ws90[48]? = some ((q4, Sum.inl (cI, 4096, Sum.inl (fun _ => 0))) : Nat × va_E) := by rw [e_ws90]; exact gs_app f_48_ws88
                clear f_48_ws88
                have f_48_ws92 : ws92[48]? = some ((q4, Sum.inl (cI, 4096, Sum.inl (fun _ => 0))) : Nat × va_E) := e_ws92.at (by first | decide | (simp; done) | (simp; omega)) f_48_ws90
                clear f_48_ws90
                have f_48_ws100 : ws100[48]? = some ((q4, Sum.inl (cI, 4096, Sum.inl (fun _ => 0))) : Nat × va_E) := by rw [e_ws100]; exact gs_ne (by decide) f_48_ws92
                clear f_48_ws92
                have f_48_ws102 : ws102[48]? = some ((q4, Sum.inl (cI, 4096, Sum.inl (fun _ => 0))) : Nat × va_E) := by rw [e_ws102]; exact gs_app f_48_ws100
                clear f_48_ws100
                have f_48_ws104 : ws104[48]? = some ((q4, Sum.inl (cI, 4096, Sum.inl (fun _ => 0))) : Nat × va_E) := e_ws104.at (by first | decide | (simp; done) | (simp; omega)) f_48_ws102
                clear f_48_ws102
                have f_48_ws112 : ws112[48]? = some ((q4, Sum.inl (cI, 4096, Sum.inl (fun _ => 0))) : Nat × va_E) := by rw [e_ws112]; exact gs_ne (by decide) f_48_ws104
                clear f_48_ws104
                have f_48_ws114 : ws114[48]? = some ((q4, Sum.inl (cI, 4096, Sum.inl (fun _ => 0))) : Nat × va_E) := by rw [e_ws114]; exact gs_app f_48_ws112
                clear f_48_ws112
                have f_48_ws116 : ws116[48]? = some ((q4, Sum.inl (cI, 4096, Sum.inl (fun _ => 0))) : Nat × va_E) := e_ws116.at (by first | decide | (simp; done) | (simp; omega)) f_48_ws114
                clear f_48_ws114
                have f_48_ws124 : ws124[48]? = some ((q4, Sum.inl (cI, 4096, Sum.inl (fun _ => 0))) : Nat × va_E) := by rw [e_ws124]; exact gs_ne (by decide) f_48_ws116
                clear f_48_ws116
                have f_48_ws126 : ws126[48]? = some ((q4, Sum.inl (cI, 4096, Sum.inl (fun _ => 0))) : Nat × va_E) := by rw [e_ws126]; exact gs_app f_48_ws124
                clear f_48_ws124
                have f_48_ws128 : ws128[48]? = some ((q4, Sum.inl (cI, 4096, Sum.inl (fun _ => 0))) : Nat × va_E) := e_ws128.at (by first | decide | (simp; done) | (simp; omega)) f_48_ws126
                clear f_48_ws126
                have f_48_ws136 : ws136[48]? = some ((q4, Sum.inl (cI, 4096, Sum.inl (fun _ => 0))) : Nat × va_E) := by rw [e_ws136]; exact gs_ne (by decide) f_48_ws128
                clear f_48_ws128
                have f_48_ws137 : ws137[48]? = some ((q4, Sum.inl (cI, 4096, Sum.inl (fun _ => 0))) : Nat × va_E) := by rw [e_ws137]; exact gs_ne (by decide) f_48_ws136
                clear f_48_ws136
                have f_49_ws9 : ws9[49]? = some ((q7, Sum.inl (cI, 4096, Sum.inl (fun _ => 0))) : Nat × va_E) := by rw [e_ws9]; exact gs_ne (by decide) f_49_ws8
                clear f_49_ws8
                have f_49_ws11 : ws11[49]? = some ((q7, Sum.inl (cI, 4096, Sum.inl (fun _ => 0))) : Nat × va_E) := by rw [e_ws11]; exact gs_app f_49_ws9
                clear f_49_ws9
                have f_49_ws12 : ws12[49]? = some ((q7, Sum.inl (cI, 4096, Sum.inl (fun _ => 0))) : Nat × va_E) := by rw [e_ws12]; exact gs_ne (by decide) f_49_ws11
                clear f_49_ws11
                have f_49_ws14 : ws14[49]? = some ((q7, Sum.inl (cI, 4096, Sum.inl (fun _ => 0))) : Nat × va_E) := by rw [e_ws14]; exact gs_app f_49_ws12
                clear f_49_ws12
                have f_49_ws15 : ws15[49]? = some ((q7, Sum.inl (cI, 4096, Sum.inl (fun _ => 0))) : Nat × va_E) := by rw [e_ws15]; exact gs_ne (by decide) f_49_ws14
                clear f_49_ws14
                have f_49_ws17 : ws17[49]? = some ((q7, Sum.inl (cI, 4096, Sum.inl (fun _ => 0))) : Nat × va_E) := by rw [e_ws17]; exact gs_app f_49_ws15
                clear f_49_ws15
                have f_49_ws18 : ws18[49]? = some ((q7, Sum.inl (cI, 4096, Sum.inl (fun _ => 0))) : Nat × va_E) := by rw [e_ws18]; exact gs_ne (by decide) f_49_ws17
                clear f_49_ws17
                have f_49_ws20 : ws20[49]? = some ((q7, Sum.inl (cI, 4096, Sum.inl (fun _ => 0))) : Nat × va_E) := by rw [e_ws20]; exact gs_app f_49_ws18
                clear f_49_ws18
                have f_49_ws21 : ws21[49]? = some ((q7, Sum.inl (cI, 4096, Sum.inl (fun _ => 0))) : Nat × va_E) := by rw [e_ws21]; exact gs_ne (by decide) f_49_ws20
                clear f_49_ws20
                have f_49_ws22 : ws22[49]? = some ((q7, Sum.inl (cI, 4096, Sum.inl (fun _ => 0))) : Nat × va_E) := by rw [e_ws22]; exact gs_ne (by decide) f_49_ws21
                clear f_49_ws21
                have f_49_ws24 : ws24[49]? = some ((q7, Sum.inl (cI, 4096, Sum.inl (fun _ => 0))) : Nat × va_E) := by rw [e_ws24]; exact gs_app f_49_ws22
                clear f_49_ws22
                have f_49_ws26 : ws26[49]? = some ((q7, Sum.inl (cI, 4096, Sum.inl (fun _ => 0))) : Nat × va_E) := e_ws26.at (by first | decide | (simp; done) | (simp; omega)) f_49_ws24
                clear f_49_ws24
                have f_49_ws34 : ws34[49]? = some ((q7, Sum.inl (cI, 4096, Sum.inl (fun _ => 0))) : Nat × va_E) := by rw [e_ws34]; exact gs_ne (by decide) f_49_ws26
                clear f_49_ws26
                have f_49_ws36 : ws36[49]? = some ((q7, Sum.inl (cI, 4096, Sum.inl (fun _ => 0))) : Nat × va_E) := by rw [e_ws36]; exact gs_app f_49_ws34
                clear f_49_ws34
                have f_49_ws38 : ws38[49]? = some ((q7, Sum.inl (cI, 4096, Sum.inl (fun _ => 0))) : Nat × va_E) := e_ws38.at (by first | decide | (simp; done) | (simp; omega)) f_49_ws36
                clear f_49_ws36
                have f_49_ws46 : ws46[49]? = some ((q7, Sum.inl (cI, 4096, Sum.inl (fun _ => 0))) : Nat × va_E) := by rw [e_ws46]; exact gs_ne (by decide) f_49_ws38
                clear f_49_ws38
                have f_49_ws48 : ws48[49]? = some ((q7, Sum.inl (cI, 4096, Sum.inl (fun _ => 0))) : Nat × va_E) := by rw [e_ws48]; exact gs_app f_49_ws46
                clear f_49_ws46
                have f_49_ws50 : ws50[49]? = some ((q7, Sum.inl (cI, 4096, Sum.inl (fun _ => 0))) : Nat × va_E) := e_ws50.at (by first | decide | (simp; done) | (simp; omega)) f_49_ws48
                clear f_49_ws48
                have f_49_ws58 : ws58[49]? = some ((q7, Sum.inl (cI, 4096, Sum.inl (fun _ => 0))) : Nat × va_E) := by rw [e_ws58]; exact gs_ne (by decide) f_49_ws50
                clear f_49_ws50
                have f_49_ws60 : ws60[49]? = some ((q7, Sum.inl (cI, 4096, Sum.inl (fun _ => 0))) : Nat × va_E) := by rw [e_ws60]; exact gs_app f_49_ws58
                clear f_49_ws58
                have f_49_ws61 : ws61[49]? = some ((q7, Sum.inl (cI, 4096, Sum.inl (fun _ => 0))) : Nat × va_E) := by rw [e_ws61]; exact gs_ne (by decide) f_49_ws60
                clear f_49_ws60
                have f_49_ws63 : ws63[49]? = some ((q7, Sum.inl (cI, 4096, Sum.inl (fun _ => 0))) : Nat × va_E) := by rw [e_ws63]; exact gs_app f_49_ws61
                clear f_49_ws61
                have f_49_ws64 : ws64[49]? = some ((q7, Sum.inl (cI, 4096, Sum.inl (fun _ => 0))) : Nat × va_E) := by rw [e_ws64]; exact gs_ne (by decide) f_49_ws63
                clear f_49_ws63
                have f_49_ws65 : ws65[49]? = some ((q7, Sum.inl (cI, 4096, Sum.inl (fun _ => 0))) : Nat × va_E) := by rw [e_ws65]; exact gs_ne (by decide) f_49_ws64
                clear f_49_ws64
                have f_49_ws66 : ws66[49]? = some ((q7, Sum.inl (cI, 4096, Sum.inl (fun _ => 0))) : Nat × va_E) := by rw [e_ws66]; exact gs_ne (by decide) f_49_ws65
                clear f_49_ws65
                have f_49_ws72 : ws72[49]? = some ((q7, Sum.inl (cI, 4096, Sum.inl (fun _ => 0))) : Nat × va_E) := by rw [e_ws72]; exact gs_app f_49_ws66
                clear f_49_ws66
                have f_49_ws73 : ws73[49]? = some ((q7, Sum.inl (cI, 4096, Sum.inl (fun _ => 0))) : Nat × va_E) := by rw [e_ws73]; exact gs_app f_49_ws72
                clear f_49_ws72
                have f_49_ws74 : ws74[49]? = some ((q7, Sum.inl (cI, 4096, Sum.inl (fun _ => 0))) : Nat × va_E) := by rw [e_ws74]; exact gs_app f_49_ws73
                clear f_49_ws73
                have f_49_ws75 : ws75[49]? = some ((q7, Sum.inl (cI, 4096, Sum.inl (fun _ => 0))) : Nat × va_E) := by rw [e_ws75]; exact gs_app f_49_ws74
                clear f_49_ws74
                have f_49_ws76 : ws76[49]? = some ((q7, Sum.inl (cI, 4096, Sum.inl (fun _ => 0))) : Nat × va_E) := by rw [e_ws76]; exact gs_app f_49_ws75
                clear f_49_ws75
                have f_49_ws77 : ws77[49]? = some ((q7, Sum.inl (cI, 4096, Sum.inl (fun _ => 0))) : Nat × va_E) := by rw [e_ws77]; exact gs_ne (by decide) f_49_ws76
                clear f_49_ws76
                have f_49_ws79 : ws79[49]? = some ((q7, Sum.inl (cI, 4096, Sum.inl (fun _ => 0))) : Nat × va_E) := by rw [e_ws79]; exact gs_app f_49_ws77
                clear f_49_ws77
                have f_49_ws80 : ws80[49]? = some ((q7, Sum.inl (cI, 4096, Sum.inl (fun _ => 0))) : Nat × va_E) := by rw [e_ws80]; exact gs_ne (by decide) f_49_ws79
                clear f_49_ws79
                have f_49_ws82 : ws82[49]? = some ((q7, Sum.inl (cI, 4096, Sum.inl (fun _ => 0))) : Nat × va_E) := by rw [e_ws82]; exact gs_app f_49_ws80
                clear f_49_ws80
                have f_49_ws83 : ws83[49]? = some ((q7, Sum.inl (cI, 4096, Sum.inl (fun _ => 0))) : Nat × va_E) := by rw [e_ws83]; exact gs_ne (by decide) f_49_ws82
                clear f_49_ws82
                have f_49_ws85 : ws85[49]? = some ((q7, Sum.inl (cI, 4096, Sum.inl (fun _ => 0))) : Nat × va_E) := by rw [e_ws85]; exact gs_app f_49_ws83
                clear f_49_ws83
                have f_49_ws86 : ws86[49]? = some ((q7, Sum.inl (cI, 4096, Sum.inl (fun _ => 0))) : Nat × va_E) := by rw [e_ws86]; exact gs_ne (by decide) f_49_ws85
                clear f_49_ws85
                have f_49_ws88 : ws88[49]? = some ((q7, Sum.inl (cI, 4096, Sum.inl (fun _ => 0))) : Nat × va_E) := by rw [e_ws88]; exact gs_app f_49_ws86
                clear f_49_ws86
                have f_49_ws90 : ws90[49]? = some ((q7, Sum.inl (cI, 4096, Sum.inl (fun _ => 0))) : Nat × va_E) := by rw [e_ws90]; exact gs_app f_49_ws88
                clear f_49_ws88
                have f_49_ws92 : ws92[49]? = some ((q7, Sum.inl (cI, 4096, Sum.inl (fun _ => 0))) : Nat × va_E) := e_ws92.at (by first | decide | (simp; done) | (simp; omega)) f_49_ws90
                clear f_49_ws90
                have f_49_ws100 : ws100[49]? = some ((q7, Sum.inl (cI, 4096, Sum.inl (fun _ => 0))) : Nat × va_E) := by rw [e_ws100]; exact gs_ne (by decide) f_49_ws92
                clear f_49_ws92
                have f_49_ws102 : ws102[49]? = some ((q7, Sum.inl (cI, 4096, Sum.inl (fun _ => 0))) : Nat × va_E) := by rw [e_ws102]; exact gs_app f_49_ws100
                clear f_49_ws100
                have f_49_ws104 : ws104[49]? = some ((q7, Sum.inl (cI, 4096, Sum.inl (fun _ => 0))) : Nat × va_E) := e_ws104.at (by first | decide | (simp; done) | (simp; omega)) f_49_ws102
                clear f_49_ws102
                have f_49_ws112 : ws112[49]? = some ((q7, Sum.inl (cI, 4096, Sum.inl (fun _ => 0))) : Nat × va_E) := by rw [e_ws112]; exact gs_ne (by decide) f_49_ws104
                clear f_49_ws104
                have f_49_ws114 : ws114[49]? = some ((q7, Sum.inl (cI, 4096, Sum.inl (fun _ => 0))) : Nat × va_E) := by rw [e_ws114]; exact gs_app f_49_ws112
                clear f_49_ws112
                have f_49_ws116 : ws116[49]? = some ((q7, Sum.inl (cI, 4096, Sum.inl (fun _ => 0))) : Nat × va_E) := e_ws116.at (by first | decide | (simp; done) | (simp; omega)) f_49_ws114
                clear f_49_ws114
                have f_49_ws124 : ws124[49]? = some ((q7, Sum.inl (cI, 4096, Sum.inl (fun _ => 0))) : Nat × va_E) := by rw [e_ws124]; exact gs_ne (by decide) f_49_ws116
                clear f_49_ws116
                have f_49_ws126 : ws126[49]? = some ((q7, Sum.inl (cI, 4096, Sum.inl (fun _ => 0))) : Nat × va_E) := by rw [e_ws126]; exact gs_app f_49_ws124
                clear f_49_ws124
                have f_49_ws128 : ws128[49]? = some ((q7, Sum.inl (cI, 4096, Sum.inl (fun _ => 0))) : Nat × va_E) := e_ws128.at (by first | decide | (simp; done) | (simp; omega)) f_49_ws126
                clear f_49_ws126
                have f_49_ws136 : ws136[49]? = some ((q7, Sum.inl (cI, 4096, Sum.inl (fun _ => 0))) : Nat × va_E) := by rw [e_ws136]; exact gs_ne (by decide) f_49_ws128
                clear f_49_ws128
                have f_49_ws137 : ws137[49]? = some ((q7, Sum.inl (cI, 4096, Sum.inl (fun _ => 0))) : Nat × va_E) := by rw [e_ws137]; exact gs_ne (by decide) f_49_ws136
                clear f_49_ws136
                have f_50_ws12 : ws12[50]? = some ((q10, Sum.inl (cI, 60000, Sum.inl (fun _ => 0))) : Nat × va_E) := by rw [e_ws12]; exact gs_ne (by decide) f_50_ws11
                clear f_50_ws11
                have f_50_ws14 : ws14[50]? = some ((q10, Sum.inl (cI, 60000, Sum.inl (fun _ => 0))) : Nat × va_E) := by rw [e_ws14]; exact gs_app f_50_ws12
                clear f_50_ws12
                have f_50_ws15 : ws15[50]? = some ((q10, Sum.inl (cI, 60000, Sum.inl (fun _ => 0))) : Nat × va_E) := by rw [e_ws15]; exact gs_ne (by decide) f_50_ws14
                clear f_50_ws14
                have f_50_ws17 : ws17[50]? = some ((q10, Sum.inl (cI, 60000, Sum.inl (fun _ => 0))) : Nat × va_E) := by rw [e_ws17]; exact gs_app f_50_ws15
                clear f_50_ws15
                have f_50_ws18 : ws18[50]? = some ((q10, Sum.inl (cI, 60000, Sum.inl (fun _ => 0))) : Nat × va_E) := by rw [e_ws18]; exact gs_ne (by decide) f_50_ws17
                clear f_50_ws17
                have f_50_ws20 : ws20[50]? = some ((q10, Sum.inl (cI, 60000, Sum.inl (fun _ => 0))) : Nat × va_E) := by rw [e_ws20]; exact gs_app f_50_ws18
                clear f_50_ws18
                have f_50_ws21 : ws21[50]? = some ((q10, Sum.inl (cI, 60000, Sum.inl (fun _ => 0))) : Nat × va_E) := by rw [e_ws21]; exact gs_ne (by decide) f_50_ws20
                clear f_50_ws20
                have f_50_ws22 : ws22[50]? = some ((q10, Sum.inl (cI, 60000, Sum.inl (fun _ => 0))) : Nat × va_E) := by rw [e_ws22]; exact gs_ne (by decide) f_50_ws21
                clear f_50_ws21
                have f_50_ws24 : ws24[50]? = some ((q10, Sum.inl (cI, 60000, Sum.inl (fun _ => 0))) : Nat × va_E) := by rw [e_ws24]; exact gs_app f_50_ws22
                clear f_50_ws22
                have f_50_ws26 : ws26[50]? = some ((q10, Sum.inl (cI, 60000, Sum.inl (fun _ => 0))) : Nat × va_E) := e_ws26.at (by first | decide | (simp; done) | (simp; omega)) f_50_ws24
                clear f_50_ws24
                have f_50_ws34 : ws34[50]? = some ((q10, Sum.inl (cI, 60000, Sum.inl (fun _ => 0))) : Nat × va_E) := by rw [e_ws34]; exact gs_ne (by decide) f_50_ws26
                clear f_50_ws26
                have f_50_ws36 : ws36[50]? = some ((q10, Sum.inl (cI, 60000, Sum.inl (fun _ => 0))) : Nat × va_E) := by rw [e_ws36]; exact gs_app f_50_ws34
                clear f_50_ws34
                have f_50_ws38 : ws38[50]? = some ((q10, Sum.inl (cI, 60000, Sum.inl (fun _ => 0))) : Nat × va_E) := e_ws38.at (by first | decide | (simp; done) | (simp; omega)) f_50_ws36
                clear f_50_ws36
                have f_50_ws46 : ws46[50]? = some ((q10, Sum.inl (cI, 60000, Sum.inl (fun _ => 0))) : Nat × va_E) := by rw [e_ws46]; exact gs_ne (by decide) f_50_ws38
                clear f_50_ws38
                have f_50_ws48 : ws48[50]? = some ((q10, Sum.inl (cI, 60000, Sum.inl (fun _ => 0))) : Nat × va_E) := by rw [e_ws48]; exact gs_app f_50_ws46
                clear f_50_ws46
                have f_50_ws50 : ws50[50]? = some ((q10, Sum.inl (cI, 60000, Sum.inl (fun _ => 0))) : Nat × va_E) := e_ws50.at (by first | decide | (simp; done) | (simp; omega)) f_50_ws48
                clear f_50_ws48
                have f_50_ws58 : ws58[50]? = some ((q10, Sum.inl (cI, 60000, Sum.inl (fun _ => 0))) : Nat × va_E) := by rw [e_ws58]; exact gs_ne (by decide) f_50_ws50
                clear f_50_ws50
                have f_50_ws60 : ws60[50]? = some ((q10, Sum.inl (cI, 60000, Sum.inl (fun _ => 0))) : Nat × va_E) := by rw [e_ws60]; exact gs_app f_50_ws58
                clear f_50_ws58
                have f_50_ws61 : ws61[50]? = some ((q10, Sum.inl (cI, 60000, Sum.inl (fun _ => 0))) : Nat × va_E) := by rw [e_ws61]; exact gs_ne (by decide) f_50_ws60
                clear f_50_ws60
                have f_50_ws63 : ws63[50]? = some ((q10, Sum.inl (cI, 60000, Sum.inl (fun _ => 0))) : Nat × va_E) := by rw [e_ws63]; exact gs_app f_50_ws61
                clear f_50_ws61
                have f_50_ws64 : ws64[50]? = some ((q10, Sum.inl (cI, 60000, Sum.inl (fun _ => 0))) : Nat × va_E) := by rw [e_ws64]; exact gs_ne (by decide) f_50_ws63
                clear f_50_ws63
                have f_50_ws65 : ws65[50]? = some ((q10, Sum.inl (cI, 60000, Sum.inl (fun _ => 0))) : Nat × va_E) := by rw [e_ws65]; exact gs_ne (by decide) f_50_ws64
                clear f_50_ws64
                have f_50_ws66 : ws66[50]? = some ((q10, Sum.inl (cI, 60000, Sum.inl (fun _ => 0))) : Nat × va_E) := by rw [e_ws66]; exact gs_ne (by decide) f_50_ws65
                clear f_50_ws65
                have f_50_ws72 : ws72[50]? = some ((q10, Sum.inl (cI, 60000, Sum.inl (fun _ => 0))) : Nat × va_E) := by rw [e_ws72]; exact gs_app f_50_ws66
                clear f_50_ws66
                have f_50_ws73 : ws73[50]? = some ((q10, Sum.inl (cI, 60000, Sum.inl (fun _ => 0))) : Nat × va_E) := by rw [e_ws73]; exact gs_app f_50_ws72
                clear f_50_ws72
                have f_50_ws74 : ws74[50]? = some ((q10, Sum.inl (cI, 60000, Sum.inl (fun _ => 0))) : Nat × va_E) := by rw [e_ws74]; exact gs_app f_50_ws73
                clear f_50_ws73
                have f_50_ws75 : ws75[50]? = some ((q10, Sum.inl (cI, 60000, Sum.inl (fun _ => 0))) : Nat × va_E) := by rw [e_ws75]; exact gs_app f_50_ws74
                clear f_50_ws74
                have f_50_ws76 : ws76[50]? = some ((q10, Sum.inl (cI, 60000, Sum.inl (fun _ => 0))) : Nat × va_E) := by rw [e_ws76]; exact gs_app f_50_ws75
                clear f_50_ws75
                have f_50_ws77 : ws77[50]? = some ((q10, Sum.inl (cI, 60000, Sum.inl (fun _ => 0))) : Nat × va_E) := by rw [e_ws77]; exact gs_ne (by decide) f_50_ws76
                clear f_50_ws76
                have f_50_ws79 : ws79[50]? = some ((q10, Sum.inl (cI, 60000, Sum.inl (fun _ => 0))) : Nat × va_E) := by rw [e_ws79]; exact gs_app f_50_ws77
                clear f_50_ws77
                have f_50_ws80 : ws80[50]? = some ((q10, Sum.inl (cI, 60000, Sum.inl (fun _ => 0))) : Nat × va_E) := by rw [e_ws80]; exact gs_ne (by decide) f_50_ws79
                clear f_50_ws79
                have f_50_ws82 : ws82[50]? = some ((q10, Sum.inl (cI, 60000, Sum.inl (fun _ => 0))) : Nat × va_E) := by rw [e_ws82]; exact gs_app f_50_ws80
                clear f_50_ws80
                have f_50_ws83 : ws83[50]? = some ((q10, Sum.inl (cI, 60000, Sum.inl (fun _ => 0))) : Nat × va_E) := by rw [e_ws83]; exact gs_ne (by decide) f_50_ws82
                clear f_50_ws82
                have f_50_ws85 : ws85[50]? = some ((q10, Sum.inl (cI, 60000, Sum.inl (fun _ => 0))) : Nat × va_E) := by rw [e_ws85]; exact gs_app f_50_ws83
                clear f_50_ws83
                have f_50_ws86 : ws86[50]? = some ((q10, Sum.inl (cI, 60000, Sum.inl (fun _ => 0))) : Nat × va_E) := by rw [e_ws86]; exact gs_ne (by decide) f_50_ws85
                clear f_50_ws85
                have f_50_ws88 : ws88[50]? = some ((q10, Sum.inl (cI, 60000, Sum.inl (fun _ => 0))) : Nat × va_E) := by rw [e_ws88]; exact gs_app f_50_ws86
                clear f_50_ws86
                have f_50_ws90 : ws90[50]? = some ((q10, Sum.inl (cI, 60000, Sum.inl (fun _ => 0))) : Nat × va_E) := by rw [e_ws90]; exact gs_app f_50_ws88
                clear f_50_ws88
                have f_50_ws92 : ws92[50]? = some ((q10, Sum.inl (cI, 60000, Sum.inl (fun _ => 0))) : Nat × va_E) := e_ws92.at (by first | decide | (simp; done) | (simp; omega)) f_50_ws90
                clear f_50_ws90
                have f_50_ws100 : ws100[50]? = some ((q10, Sum.inl (cI, 60000, Sum.inl (fun _ => 0))) : Nat × va_E) := by rw [e_ws100]; exact gs_ne (by decide) f_50_ws92
                clear f_50_ws92
                have f_50_ws102 : ws102[50]? = some ((q10, Sum.inl (cI, 60000, Sum.inl (fun _ => 0))) : Nat × va_E) := by rw [e_ws102]; exact gs_app f_50_ws100
                clear f_50_ws100
                have f_50_ws104 : ws104[50]? = some ((q10, Sum.inl (cI, 60000, Sum.inl (fun _ => 0))) : Nat × va_E) := e_ws104.at (by first | decide | (simp; done) | (simp; omega)) f_50_ws102
                clear f_50_ws102
                have f_50_ws112 : ws112[50]? = some ((q10, Sum.inl (cI, 60000, Sum.inl (fun _ => 0))) : Nat × va_E) := by rw [e_ws112]; exact gs_ne (by decide) f_50_ws104
                clear f_50_ws104
                have f_50_ws114 : ws114[50]? = some ((q10, Sum.inl (cI, 60000, Sum.inl (fun _ => 0))) : Nat × va_E) := by rw [e_ws114]; exact gs_app f_50_ws112
                clear f_50_ws112
                have f_50_ws116 : ws116[50]? = some ((q10, Sum.inl (cI, 60000, Sum.inl (fun _ => 0))) : Nat × va_E) := e_ws116.at (by first | decide | (simp; done) | (simp; omega)) f_50_ws114
                clear f_50_ws114
                have f_50_ws124 : ws124[50]? = some ((q10, Sum.inl (cI, 60000, Sum.inl (fun _ => 0))) : Nat × va_E) := by rw [e_ws124]; exact gs_ne (by decide) f_50_ws116
                clear f_50_ws116
                have f_50_ws126 : ws126[50]? = some ((q10, Sum.inl (cI, 60000, Sum.inl (fun _ => 0))) : Nat × va_E) := by rw [e_ws126]; exact gs_app f_50_ws124
                clear f_50_ws124
                have f_50_ws128 : ws128[50]? = some ((q10, Sum.inl (cI, 60000, Sum.inl (fun _ => 0))) : Nat × va_E) := e_ws128.at (by first | decide | (simp; done) | (simp; omega)) f_50_ws126
                clear f_50_ws126
                have f_50_ws136 : ws136[50]? = some ((q10, Sum.inl (cI, 60000, Sum.inl (fun _ => 0))) : Nat × va_E) := by rw [e_ws136]; exact gs_ne (by decide) f_50_ws128
                clear f_50_ws128
                have f_50_ws137 : ws137[50]? = some ((q10, Sum.inl (cI, 60000, Sum.inl (fun _ => 0))) : Nat × va_E) := by rw [e_ws137]; exact gs_ne (by decide) f_50_ws136
                clear f_50_ws136
                have f_51_ws15 : ws15[51]? = some ((q13, Sum.inl (cZ, 60000, Sum.inl (fun _ => 0))) : Nat × va_E) := by rw [e_ws15]; exact gs_ne (by decide) f_51_ws14
                clear f_51_ws14
                have f_51_ws17 : ws17[51]? = some ((q13, Sum.inl (cZ, 60000, Sum.inl (fun _ => 0))) : Nat × va_E) := by rw [e_ws17]; exact gs_app f_51_ws15
                clear f_51_ws15
                have f_51_ws18 : ws18[51]? = some ((q13, Sum.inl (cZ, 60000, Sum.inl (fun _ => 0))) : Nat × va_E) := by rw [e_ws18]; exact gs_ne (by decide) f_51_ws17
                clear f_51_ws17
                have f_51_ws20 : ws20[51]? = some ((q13, Sum.inl (cZ, 60000, Sum.inl (fun _ => 0))) : Nat × va_E) := by rw [e_ws20]; exact gs_app f_51_ws18
                clear f_51_ws18
                have f_51_ws21 : ws21[51]? = some ((q13, Sum.inl (cZ, 60000, Sum.inl (fun _ => 0))) : Nat × va_E) := by rw [e_ws21]; exact gs_ne (by decide) f_51_ws20
                clear f_51_ws20
                have f_51_ws22 : ws22[51]? = some ((q13, Sum.inl (cZ, 60000, Sum.inl (fun _ => 0))) : Nat × va_E) := by rw [e_ws22]; exact gs_ne (by decide) f_51_ws21
                clear f_51_ws21
                have f_51_ws24 : ws24[51]? = some ((q13, Sum.inl (cZ, 60000, Sum.inl (fun _ => 0))) : Nat × va_E) := by rw [e_ws24]; exact gs_app f_51_ws22
                clear f_51_ws22
                have f_51_ws26 : ws26[51]? = some ((q13, Sum.inl (cZ, 60000, Sum.inl (fun _ => 0))) : Nat × va_E) := e_ws26.at (by first | decide | (simp; done) | (simp; omega)) f_51_ws24
                clear f_51_ws24
                have f_51_ws34 : ws34[51]? = some ((q13, Sum.inl (cZ, 60000, Sum.inl (fun _ => 0))) : Nat × va_E) := by rw [e_ws34]; exact gs_ne (by decide) f_51_ws26
                clear f_51_ws26
                have f_51_ws36 : ws36[51]? = some ((q13, Sum.inl (cZ, 60000, Sum.inl (fun _ => 0))) : Nat × va_E) := by rw [e_ws36]; exact gs_app f_51_ws34
                clear f_51_ws34
                have f_51_ws38 : ws38[51]? = some ((q13, Sum.inl (cZ, 60000, Sum.inl (fun _ => 0))) : Nat × va_E) := e_ws38.at (by first | decide | (simp; done) | (simp; omega)) f_51_ws36
                clear f_51_ws36
                have f_51_ws46 : ws46[51]? = some ((q13, Sum.inl (cZ, 60000, Sum.inl (fun _ => 0))) : Nat × va_E) := by rw [e_ws46]; exact gs_ne (by decide) f_51_ws38
                clear f_51_ws38
                have f_51_ws48 : ws48[51]? = some ((q13, Sum.inl (cZ, 60000, Sum.inl (fun _ => 0))) : Nat × va_E) := by rw [e_ws48]; exact gs_app f_51_ws46
                clear f_51_ws46
                have f_51_ws50 : ws50[51]? = some ((q13, Sum.inl (cZ, 60000, Sum.inl (fun _ => 0))) : Nat × va_E) := e_ws50.at (by first | decide | (simp; done) | (simp; omega)) f_51_ws48
                clear f_51_ws48
                have f_51_ws58 : ws58[51]? = some ((q13, Sum.inl (cZ, 60000, Sum.inl (fun _ => 0))) : Nat × va_E) := by rw [e_ws58]; exact gs_ne (by decide) f_51_ws50
                clear f_51_ws50
                have f_51_ws60 : ws60[51]? = some ((q13, Sum.inl (cZ, 60000, Sum.inl (fun _ => 0))) : Nat × va_E) := by rw [e_ws60]; exact gs_app f_51_ws58
                clear f_51_ws58
                have f_51_ws61 : ws61[51]? = some ((q13, Sum.inl (cZ, 60000, Sum.inl (fun _ => 0))) : Nat × va_E) := by rw [e_ws61]; exact gs_ne (by decide) f_51_ws60
                clear f_51_ws60
                have f_51_ws63 : ws63[51]? = some ((q13, Sum.inl (cZ, 60000, Sum.inl (fun _ => 0))) : Nat × va_E) := by rw [e_ws63]; exact gs_app f_51_ws61
                clear f_51_ws61
                have f_51_ws64 : ws64[51]? = some ((q13, Sum.inl (cZ, 60000, Sum.inl (fun _ => 0))) : Nat × va_E) := by rw [e_ws64]; exact gs_ne (by decide) f_51_ws63
                clear f_51_ws63
                have f_51_ws65 : ws65[51]? = some ((q13, Sum.inl (cZ, 60000, Sum.inl (fun _ => 0))) : Nat × va_E) := by rw [e_ws65]; exact gs_ne (by decide) f_51_ws64
                clear f_51_ws64
                have f_51_ws66 : ws66[51]? = some ((q13, Sum.inl (cZ, 60000, Sum.inl (fun _ => 0))) : Nat × va_E) := by rw [e_ws66]; exact gs_ne (by decide) f_51_ws65
                clear f_51_ws65
                have f_51_ws72 : ws72[51]? = some ((q13, Sum.inl (cZ, 60000, Sum.inl (fun _ => 0))) : Nat × va_E) := by rw [e_ws72]; exact gs_app f_51_ws66
                clear f_51_ws66
                have f_51_ws73 : ws73[51]? = some ((q13, Sum.inl (cZ, 60000, Sum.inl (fun _ => 0))) : Nat × va_E) := by rw [e_ws73]; exact gs_app f_51_ws72
                clear f_51_ws72
                have f_51_ws74 : ws74[51]? = some ((q13, Sum.inl (cZ, 60000, Sum.inl (fun _ => 0))) : Nat × va_E) := by rw [e_ws74]; exact gs_app f_51_ws73
                clear f_51_ws73
                have f_51_ws75 : ws75[51]? = some ((q13, Sum.inl (cZ, 60000, Sum.inl (fun _ => 0))) : Nat × va_E) := by rw [e_ws75]; exact gs_app f_51_ws74
                clear f_51_ws74
                have f_51_ws76 : ws76[51]? = some ((q13, Sum.inl (cZ, 60000, Sum.inl (fun _ => 0))) : Nat × va_E) := by rw [e_ws76]; exact gs_app f_51_ws75
                clear f_51_ws75
                have f_51_ws77 : ws77[51]? = some ((q13, Sum.inl (cZ, 60000, Sum.inl (fun _ => 0))) : Nat × va_E) := by rw [e_ws77]; exact gs_ne (by decide) f_51_ws76
                clear f_51_ws76
                have f_51_ws79 : ws79[51]? = some ((q13, Sum.inl (cZ, 60000, Sum.inl (fun _ => 0))) : Nat × va_E) := by rw [e_ws79]; exact gs_app f_51_ws77
                clear f_51_ws77
                have f_51_ws80 : ws80[51]? = some ((q13, Sum.inl (cZ, 60000, Sum.inl (fun _ => 0))) : Nat × va_E) := by rw [e_ws80]; exact gs_ne (by decide) f_51_ws79
                clear f_51_ws79
                have f_51_ws82 : ws82[51]? = some ((q13, Sum.inl (cZ, 60000, Sum.inl (fun _ => 0))) : Nat × va_E) := by rw [e_ws82]; exact gs_app f_51_ws80
                clear f_51_ws80
                have f_51_ws83 : ws83[51]? = some ((q13, Sum.inl (cZ, 60000, Sum.inl (fun _ => 0))) : Nat × va_E) := by rw [e_ws83]; exact gs_ne (by decide) f_51_ws82
                clear f_51_ws82
                have f_51_ws85 : ws85[51]? = some ((q13, Sum.inl (cZ, 60000, Sum.inl (fun _ => 0))) : Nat × va_E) := by rw [e_ws85]; exact gs_app f_51_ws83
                clear f_51_ws83
                have f_51_ws86 : ws86[51]? = some ((q13, Sum.inl (cZ, 60000, Sum.inl (fun _ => 0))) : Nat × va_E) := by rw [e_ws86]; exact gs_ne (by decide) f_51_ws85
                clear f_51_ws85
                have f_51_ws88 : ws88[51]? = some ((q13, Sum.inl (cZ, 60000, Sum.inl (fun _ => 0))) : Nat × va_E) := by rw [e_ws88]; exact gs_app f_51_ws86
                clear f_51_ws86
                have f_51_ws90 : ws90[51]? = some ((q13, Sum.inl (cZ, 60000, Sum.inl (fun _ => 0))) : Nat × va_E) := by rw [e_ws90]; exact gs_app f_51_ws88
                clear f_51_ws88
                have f_51_ws92 : ws92[51]? = some ((q13, Sum.inl (cZ, 60000, Sum.inl (fun _ => 0))) : Nat × va_E) := e_ws92.at (by first | decide | (simp; done) | (simp; omega)) f_51_ws90
                clear f_51_ws90
                have f_51_ws100 : ws100[51]? = some ((q13, Sum.inl (cZ, 60000, Sum.inl (fun _ => 0))) : Nat × va_E) := by rw [e_ws100]; exact gs_ne (by decide) f_51_ws92
                clear f_51_ws92
                have f_51_ws102 : ws102[51]? = some ((q13, Sum.inl (cZ, 60000, Sum.inl (fun _ => 0))) : Nat × va_E) := by rw [e_ws102]; exact gs_app f_51_ws100
                clear f_51_ws100
                have f_51_ws104 : ws104[51]? = some ((q13, Sum.inl (cZ, 60000, Sum.inl (fun _ => 0))) : Nat × va_E) := e_ws104.at (by first | decide | (simp; done) | (simp; omega)) f_51_ws102
                clear f_51_ws102
                have f_51_ws112 : ws112[51]? = some ((q13, Sum.inl (cZ, 60000, Sum.inl (fun _ => 0))) : Nat × va_E) := by rw [e_ws112]; exact gs_ne (by decide) f_51_ws104
                clear f_51_ws104
                have f_51_ws114 : ws114[51]? = some ((q13, Sum.inl (cZ, 60000, Sum.inl (fun _ => 0))) : Nat × va_E) := by rw [e_ws114]; exact gs_app f_51_ws112
                clear f_51_ws112
                have f_51_ws116 : ws116[51]? = some ((q13, Sum.inl (cZ, 60000, Sum.inl (fun _ => 0))) : Nat × va_E) := e_ws116.at (by first | decide | (simp; done) | (simp; omega)) f_51_ws114
                clear f_51_ws114
                have f_51_ws124 : ws124[51]? = some ((q13, Sum.inl (cZ, 60000, Sum.inl (fun _ => 0))) : Nat × va_E) := by rw [e_ws124]; exact gs_ne (by decide) f_51_ws116
                clear f_51_ws116
                have f_51_ws126 : ws126[51]? = some ((q13, Sum.inl (cZ, 60000, Sum.inl (fun _ => 0))) : Nat × va_E) := by rw [e_ws126]; exact gs_app f_51_ws124
                clear f_51_ws124
                have f_51_ws128 : ws128[51]? = some ((q13, Sum.inl (cZ, 60000, Sum.inl (fun _ => 0))) : Nat × va_E) := e_ws128.at (by first | decide | (simp; done) | (simp; omega)) f_51_ws126
                clear f_51_ws126
                have f_51_ws136 : ws136[51]? = some ((q13, Sum.inl (cZ, 60000, Sum.inl (fun _ => 0))) : Nat × va_E) := by rw [e_ws136]; exact gs_ne (by decide) f_51_ws128
                clear f_51_ws128
                have f_51_ws137 : ws137[51]? = some ((q13, Sum.inl (cZ, 60000, Sum.inl (fun _ => 0))) : Nat × va_E) := by rw [e_ws137]; exact gs_ne (by decide) f_51_ws136
                clear f_51_ws136
                have f_52_ws18 : ws18[52]? = some ((q16, Sum.inl (cZ, 60000, Sum.inl (fun _ => 0))) : Nat × va_E) := by rw [e_ws18]; exact gs_ne (by decide) f_52_ws17
                clear f_52_ws17
                have f_52_ws20 : ws20[52]? = some ((q16, Sum.inl (cZ, 60000, Sum.inl (fun _ => 0))) : Nat × va_E) := by rw [e_ws20]; exact gs_app f_52_ws18
                clear f_52_ws18
                have f_52_ws21 : ws21[52]? = some ((q16, Sum.inl (cZ, 60000, Sum.inl (fun _ => 0))) : Nat × va_E) := by rw [e_ws21]; exact gs_ne (by decide) f_52_ws20
                clear f_52_ws20
                have f_52_ws22 : ws22[52]? = some ((q16, Sum.inl (cZ, 60000, Sum.inl (fun _ => 0))) : Nat × va_E) := by rw [e_ws22]; exact gs_ne (by decide) f_52_ws21
                clear f_52_ws21
                have f_52_ws24 : ws24[52]? = some ((q16, Sum.inl (cZ, 60000, Sum.inl (fun _ => 0))) : Nat × va_E) := by rw [e_ws24]; exact gs_app f_52_ws22
                clear f_52_ws22
                have f_52_ws26 : ws26[52]? = some ((q16, Sum.inl (cZ, 60000, Sum.inl (fun _ => 0))) : Nat × va_E) := e_ws26.at (by first | decide | (simp; done) | (simp; omega)) f_52_ws24
                clear f_52_ws24
                have f_52_ws34 : ws34[52]? = some ((q16, Sum.inl (cZ, 60000, Sum.inl (fun _ => 0))) : Nat × va_E) := by rw [e_ws34]; exact gs_ne (by decide) f_52_ws26
                clear f_52_ws26
                have f_52_ws36 : ws36[52]? = some ((q16, Sum.inl (cZ, 60000, Sum.inl (fun _ => 0))) : Nat × va_E) := by rw [e_ws36]; exact gs_app f_52_ws34
                clear f_52_ws34
                have f_52_ws38 : ws38[52]? = some ((q16, Sum.inl (cZ, 60000, Sum.inl (fun _ => 0))) : Nat × va_E) := e_ws38.at (by first | decide | (simp; done) | (simp; omega)) f_52_ws36
                clear f_52_ws36
                have f_52_ws46 : ws46[52]? = some ((q16, Sum.inl (cZ, 60000, Sum.inl (fun _ => 0))) : Nat × va_E) := by rw [e_ws46]; exact gs_ne (by decide) f_52_ws38
                clear f_52_ws38
                have f_52_ws48 : ws48[52]? = some ((q16, Sum.inl (cZ, 60000, Sum.inl (fun _ => 0))) : Nat × va_E) := by rw [e_ws48]; exact gs_app f_52_ws46
                clear f_52_ws46
                have f_52_ws50 : ws50[52]? = some ((q16, Sum.inl (cZ, 60000, Sum.inl (fun _ => 0))) : Nat × va_E) := e_ws50.at (by first | decide | (simp; done) | (simp; omega)) f_52_ws48
                clear f_52_ws48
                have f_52_ws58 : ws58[52]? = some ((q16, Sum.inl (cZ, 60000, Sum.inl (fun _ => 0))) : Nat × va_E) := by rw [e_ws58]; exact gs_ne (by decide) f_52_ws50
                clear f_52_ws50
                have f_52_ws60 : ws60[52]? = some ((q16, Sum.inl (cZ, 60000, Sum.inl (fun _ => 0))) : Nat × va_E) := by rw [e_ws60]; exact gs_app f_52_ws58
                clear f_52_ws58
                have f_52_ws61 : ws61[52]? = some ((q16, Sum.inl (cZ, 60000, Sum.inl (fun _ => 0))) : Nat × va_E) := by rw [e_ws61]; exact gs_ne (by decide) f_52_ws60
                clear f_52_ws60
                have f_52_ws63 : ws63[52]? = some ((q16, Sum.inl (cZ, 60000, Sum.inl (fun _ => 0))) : Nat × va_E) := by rw [e_ws63]; exact gs_app f_52_ws61
                clear f_52_ws61
                have f_52_ws64 : ws64[52]? = some ((q16, Sum.inl (cZ, 60000, Sum.inl (fun _ => 0))) : Nat × va_E) := by rw [e_ws64]; exact gs_ne (by decide) f_52_ws63
                clear f_52_ws63
                have f_52_ws65 : ws65[52]? = some ((q16, Sum.inl (cZ, 60000, Sum.inl (fun _ => 0))) : Nat × va_E) := by rw [e_ws65]; exact gs_ne (by decide) f_52_ws64
                clear f_52_ws64
                have f_52_ws66 : ws66[52]? = some ((q16, Sum.inl (cZ, 60000, Sum.inl (fun _ => 0))) : Nat × va_E) := by rw [e_ws66]; exact gs_ne (by decide) f_52_ws65
                clear f_52_ws65
                have f_52_ws72 : ws72[52]? = some ((q16, Sum.inl (cZ, 60000, Sum.inl (fun _ => 0))) : Nat × va_E) := by rw [e_ws72]; exact gs_app f_52_ws66
                clear f_52_ws66
                have f_52_ws73 : ws73[52]? = some ((q16, Sum.inl (cZ, 60000, Sum.inl (fun _ => 0))) : Nat × va_E) := by rw [e_ws73]; exact gs_app f_52_ws72
                clear f_52_ws72
                have f_52_ws74 : ws74[52]? = some ((q16, Sum.inl (cZ, 60000, Sum.inl (fun _ => 0))) : Nat × va_E) := by rw [e_ws74]; exact gs_app f_52_ws73
                clear f_52_ws73
                have f_52_ws75 : ws75[52]? = some ((q16, Sum.inl (cZ, 60000, Sum.inl (fun _ => 0))) : Nat × va_E) := by rw [e_ws75]; exact gs_app f_52_ws74
                clear f_52_ws74
                have f_52_ws76 : ws76[52]? = some ((q16, Sum.inl (cZ, 60000, Sum.inl (fun _ => 0))) : Nat × va_E) := by rw [e_ws76]; exact gs_app f_52_ws75
                clear f_52_ws75
                have f_52_ws77 : ws77[52]? = some ((q16, Sum.inl (cZ, 60000, Sum.inl (fun _ => 0))) : Nat × va_E) := by rw [e_ws77]; exact gs_ne (by decide) f_52_ws76
                clear f_52_ws76
                have f_52_ws79 : ws79[52]? = some ((q16, Sum.inl (cZ, 60000, Sum.inl (fun _ => 0))) : Nat × va_E) := by rw [e_ws79]; exact gs_app f_52_ws77
                clear f_52_ws77
                have f_52_ws80 : ws80[52]? = some ((q16, Sum.inl (cZ, 60000, Sum.inl (fun _ => 0))) : Nat × va_E) := by rw [e_ws80]; exact gs_ne (by decide) f_52_ws79
                clear f_52_ws79
                have f_52_ws82 : ws82[52]? = some ((q16, Sum.inl (cZ, 60000, Sum.inl (fun _ => 0))) : Nat × va_E) := by rw [e_ws82]; exact gs_app f_52_ws80
                clear f_52_ws80
                have f_52_ws83 : ws83[52]? = some ((q16, Sum.inl (cZ, 60000, Sum.inl (fun _ => 0))) : Nat × va_E) := by rw [e_ws83]; exact gs_ne (by decide) f_52_ws82
                clear f_52_ws82
                have f_52_ws85 : ws85[52]? = some ((q16, Sum.inl (cZ, 60000, Sum.inl (fun _ => 0))) : Nat × va_E) := by rw [e_ws85]; exact gs_app f_52_ws83
                clear f_52_ws83
                have f_52_ws86 : ws86[52]? = some ((q16, Sum.inl (cZ, 60000, Sum.inl (fun _ => 0))) : Nat × va_E) := by rw [e_ws86]; exact gs_ne (by decide) f_52_ws85
                clear f_52_ws85
                have f_52_ws88 : ws88[52]? = some ((q16, Sum.inl (cZ, 60000, Sum.inl (fun _ => 0))) : Nat × va_E) := by rw [e_ws88]; exact gs_app f_52_ws86
                clear f_52_ws86
                have f_52_ws90 : ws90[52]? = some ((q16, Sum.inl (cZ, 60000, Sum.inl (fun _ => 0))) : Nat × va_E) := by rw [e_ws90]; exact gs_app f_52_ws88
                clear f_52_ws88
                have f_52_ws92 : ws92[52]? = some ((q16, Sum.inl (cZ, 60000, Sum.inl (fun _ => 0))) : Nat × va_E) := e_ws92.at (by first | decide | (simp; done) | (simp; omega)) f_52_ws90
                clear f_52_ws90
                have f_52_ws100 : ws100[52]? = some ((q16, Sum.inl (cZ, 60000, Sum.inl (fun _ => 0))) : Nat × va_E) := by rw [e_ws100]; exact gs_ne (by decide) f_52_ws92
                clear f_52_ws92
                have f_52_ws102 : ws102[52]? = some ((q16, Sum.inl (cZ, 60000, Sum.inl (fun _ => 0))) : Nat × va_E) := by rw [e_ws102]; exact gs_app f_52_ws100
                clear f_52_ws100
                have f_52_ws104 : ws104[52]? = some ((q16, Sum.inl (cZ, 60000, Sum.inl (fun _ => 0))) : Nat × va_E) := e_ws104.at (by first | decide | (simp; done) | (simp; omega)) f_52_ws102
                clear f_52_ws102
                have f_52_ws112 : ws112[52]? = some ((q16, Sum.inl (cZ, 60000, Sum.inl (fun _ => 0))) : Nat × va_E) := by rw [e_ws112]; exact gs_ne (by decide) f_52_ws104
                clear f_52_ws104
                have f_52_ws114 : ws114[52]? = some ((q16, Sum.inl (cZ, 60000, Sum.inl (fun _ => 0))) : Nat × va_E) := by rw [e_ws114]; exact gs_app f_52_ws112
                clear f_52_ws112
                have f_52_ws116 : ws116[52]? = some ((q16, Sum.inl (cZ, 60000, Sum.inl (fun _ => 0))) : Nat × va_E) := e_ws116.at (by first | decide | (simp; done) | (simp; omega)) f_52_ws114
                clear f_52_ws114
                have f_52_ws124 : ws124[52]? = some ((q16, Sum.inl (cZ, 60000, Sum.inl (fun _ => 0))) : Nat × va_E) := by rw [e_ws124]; exact gs_ne (by decide) f_52_ws116
                clear f_52_ws116
                have f_52_ws126 : ws126[52]? = some ((q16, Sum.inl (cZ, 60000, Sum.inl (fun _ => 0))) : Nat × va_E) := by rw [e_ws126]; exact gs_app f_52_ws124
                clear f_52_ws124
                have f_52_ws128 : ws128[52]? = some ((q16, Sum.inl (cZ, 60000, Sum.inl (fun _ => 0))) : Nat × va_E) := e_ws128.at (by first | decide | (simp; done) | (simp; omega)) f_52_ws126
                clear f_52_ws126
                have f_52_ws136 : ws136[52]? = some ((q16, Sum.inl (cZ, 60000, Sum.inl (fun _ => 0))) : Nat × va_E) := by rw [e_ws136]; exact gs_ne (by decide) f_52_ws128
                clear f_52_ws128
                have f_52_ws137 : ws137[52]? = some ((q16, Sum.inl (cZ, 60000, Sum.inl (fun _ => 0))) : Nat × va_E) := by rw [e_ws137]; exact gs_ne (by decide) f_52_ws136
                clear f_52_ws136
                have f_53_ws21 : ws21[53]? = some ((q19, Sum.inl (cZ, 60000, Sum.inl (fun _ => 0))) : Nat × va_E) := by rw [e_ws21]; exact gs_ne (by decide) f_53_ws20
                clear f_53_ws20
                have f_53_ws22 : ws22[53]? = some ((q19, Sum.inl (cZ, 60000, Sum.inl (fun _ => 0))) : Nat × va_E) := by rw [e_ws22]; exact gs_ne (by decide) f_53_ws21
                clear f_53_ws21
                have f_53_ws24 : ws24[53]? = some ((q19, Sum.inl (cZ, 60000, Sum.inl (fun _ => 0))) : Nat × va_E) := by rw [e_ws24]; exact gs_app f_53_ws22
                clear f_53_ws22
                have f_53_ws26 : ws26[53]? = some ((q19, Sum.inl (cZ, 60000, Sum.inl (fun _ => 0))) : Nat × va_E) := e_ws26.at (by first | decide | (simp; done) | (simp; omega)) f_53_ws24
                clear f_53_ws24
                have f_53_ws34 : ws34[53]? = some ((q19, Sum.inl (cZ, 60000, Sum.inl (fun _ => 0))) : Nat × va_E) := by rw [e_ws34]; exact gs_ne (by decide) f_53_ws26
                clear f_53_ws26
                have f_53_ws36 : ws36[53]? = some ((q19, Sum.inl (cZ, 60000, Sum.inl (fun _ => 0))) : Nat × va_E) := by rw [e_ws36]; exact gs_app f_53_ws34
                clear f_53_ws34
                have f_53_ws38 : ws38[53]? = some ((q19, Sum.inl (cZ, 60000, Sum.inl (fun _ => 0))) : Nat × va_E) := e_ws38.at (by first | decide | (simp; done) | (simp; omega)) f_53_ws36
                clear f_53_ws36
                have f_53_ws46 : ws46[53]? = some ((q19, Sum.inl (cZ, 60000, Sum.inl (fun _ => 0))) : Nat × va_E) := by rw [e_ws46]; exact gs_ne (by decide) f_53_ws38
                clear f_53_ws38
                have f_53_ws48 : ws48[53]? = some ((q19, Sum.inl (cZ, 60000, Sum.inl (fun _ => 0))) : Nat × va_E) := by rw [e_ws48]; exact gs_app f_53_ws46
                clear f_53_ws46
                have f_53_ws50 : ws50[53]? = some ((q19, Sum.inl (cZ, 60000, Sum.inl (fun _ => 0))) : Nat × va_E) := e_ws50.at (by first | decide | (simp; done) | (simp; omega)) f_53_ws48
                clear f_53_ws48
                have f_53_ws58 : ws58[53]? = some ((q19, Sum.inl (cZ, 60000, Sum.inl (fun _ => 0))) : Nat × va_E) := by rw [e_ws58]; exact gs_ne (by decide) f_53_ws50
                clear f_53_ws50
                have f_53_ws60 : ws60[53]? = some ((q19, Sum.inl (cZ, 60000, Sum.inl (fun _ => 0))) : Nat × va_E) := by rw [e_ws60]; exact gs_app f_53_ws58
                clear f_53_ws58
                have f_53_ws61 : ws61[53]? = some ((q19, Sum.inl (cZ, 60000, Sum.inl (fun _ => 0))) : Nat × va_E) := by rw [e_ws61]; exact gs_ne (by decide) f_53_ws60
                clear f_53_ws60
                have f_53_ws63 : ws63[53]? = some ((q19, Sum.inl (cZ, 60000, Sum.inl (fun _ => 0))) : Nat × va_E) := by rw [e_ws63]; exact gs_app f_53_ws61
                clear f_53_ws61
                have f_53_ws64 : ws64[53]? = some ((q19, Sum.inl (cZ, 60000, Sum.inl (fun _ => 0))) : Nat × va_E) := by rw [e_ws64]; exact gs_ne (by decide) f_53_ws63
                clear f_53_ws63
                have f_53_ws65 : ws65[53]? = some ((q19, Sum.inl (cZ, 60000, Sum.inl (fun _ => 0))) : Nat × va_E) := by rw [e_ws65]; exact gs_ne (by decide) f_53_ws64
                clear f_53_ws64
                have f_53_ws66 : ws66[53]? = some ((q19, Sum.inl (cZ, 60000, Sum.inl (fun _ => 0))) : Nat × va_E) := by rw [e_ws66]; exact gs_ne (by decide) f_53_ws65
                clear f_53_ws65
                have f_53_ws72 : ws72[53]? = some ((q19, Sum.inl (cZ, 60000, Sum.inl (fun _ => 0))) : Nat × va_E) := by rw [e_ws72]; exact gs_app f_53_ws66
                clear f_53_ws66
                have f_53_ws73 : ws73[53]? = some ((q19, Sum.inl (cZ, 60000, Sum.inl (fun _ => 0))) : Nat × va_E) := by rw [e_ws73]; exact gs_app f_53_ws72
                clear f_53_ws72
                have f_53_ws74 : ws74[53]? = some ((q19, Sum.inl (cZ, 60000, Sum.inl (fun _ => 0))) : Nat × va_E) := by rw [e_ws74]; exact gs_app f_53_ws73
                clear f_53_ws73
                have f_53_ws75 : ws75[53]? = some ((q19, Sum.inl (cZ, 60000, Sum.inl (fun _ => 0))) : Nat × va_E) := by rw [e_ws75]; exact gs_app f_53_ws74
                clear f_53_ws74
                have f_53_ws76 : ws76[53]? = some ((q19, Sum.inl (cZ, 60000, Sum.inl (fun _ => 0))) : Nat × va_E) := by rw [e_ws76]; exact gs_app f_53_ws75
                clear f_53_ws75
                have f_53_ws77 : ws77[53]? = some ((q19, Sum.inl (cZ, 60000, Sum.inl (fun _ => 0))) : Nat × va_E) := by rw [e_ws77]; exact gs_ne (by decide) f_53_ws76
                clear f_53_ws76
                have f_53_ws79 : ws79[53]? = some ((q19, Sum.inl (cZ, 60000, Sum.inl (fun _ => 0))) : Nat × va_E) := by rw [e_ws79]; exact gs_app f_53_ws77
                clear f_53_ws77
                have f_53_ws80 : ws80[53]? = some ((q19, Sum.inl (cZ, 60000, Sum.inl (fun _ => 0))) : Nat × va_E) := by rw [e_ws80]; exact gs_ne (by decide) f_53_ws79
                clear f_53_ws79
                have f_53_ws82 : ws82[53]? = some ((q19, Sum.inl (cZ, 60000, Sum.inl (fun _ => 0))) : Nat × va_E) := by rw [e_ws82]; exact gs_app f_53_ws80
                clear f_53_ws80
                have f_53_ws83 : ws83[53]? = some ((q19, Sum.inl (cZ, 60000, Sum.inl (fun _ => 0))) : Nat × va_E) := by rw [e_ws83]; exact gs_ne (by decide) f_53_ws82
                clear f_53_ws82
                have f_53_ws85 : ws85[53]? = some ((q19, Sum.inl (cZ, 60000, Sum.inl (fun _ => 0))) : Nat × va_E) := by rw [e_ws85]; exact gs_app f_53_ws83
                clear f_53_ws83
                have f_53_ws86 : ws86[53]? = some ((q19, Sum.inl (cZ, 60000, Sum.inl (fun _ => 0))) : Nat × va_E) := by rw [e_ws86]; exact gs_ne (by decide) f_53_ws85
                clear f_53_ws85
                have f_53_ws88 : ws88[53]? = some ((q19, Sum.inl (cZ, 60000, Sum.inl (fun _ => 0))) : Nat × va_E) := by rw [e_ws88]; exact gs_app f_53_ws86
                clear f_53_ws86
                have f_53_ws90 : ws90[53]? = some ((q19, Sum.inl (cZ, 60000, Sum.inl (fun _ => 0))) : Nat × va_E) := by rw [e_ws90]; exact gs_app f_53_ws88
                clear f_53_ws88
                have f_53_ws92 : ws92[53]? = some ((q19, Sum.inl (cZ, 60000, Sum.inl (fun _ => 0))) : Nat × va_E) := e_ws92.at (by first | decide | (simp; done) | (simp; omega)) f_53_ws90
                clear f_53_ws90
                have f_53_ws100 : ws100[53]? = some ((q19, Sum.inl (cZ, 60000, Sum.inl (fun _ => 0))) : Nat × va_E) := by rw [e_ws100]; exact gs_ne (by decide) f_53_ws92
                clear f_53_ws92
                have f_53_ws102 : ws102[53]? = some ((q19, Sum.inl (cZ, 60000, Sum.inl (fun _ => 0))) : Nat × va_E) := by rw [e_ws102]; exact gs_app f_53_ws100
                clear f_53_ws100
                have f_53_ws104 : ws104[53]? = some ((q19, Sum.inl (cZ, 60000, Sum.inl (fun _ => 0))) : Nat × va_E) := e_ws104.at (by first | decide | (simp; done) | (simp; omega)) f_53_ws102
                clear f_53_ws102
                have f_53_ws112 : ws112[53]? = some ((q19, Sum.inl (cZ, 60000, Sum.inl (fun _ => 0))) : Nat × va_E) := by rw [e_ws112]; exact gs_ne (by decide) f_53_ws104
                clear f_53_ws104
                have f_53_ws114 : ws114[53]? = some ((q19, Sum.inl (cZ, 60000, Sum.inl (fun _ => 0))) : Nat × va_E) := by rw [e_ws114]; exact gs_app f_53_ws112
                clear f_53_ws112
                have f_53_ws116 : ws116[53]? = some ((q19, Sum.inl (cZ, 60000, Sum.inl (fun _ => 0))) : Nat × va_E) := e_ws116.at (by first | decide | (simp; done) | (simp; omega)) f_53_ws114
                clear f_53_ws114
                have f_53_ws124 : ws124[53]? = some ((q19, Sum.inl (cZ, 60000, Sum.inl (fun _ => 0))) : Nat × va_E) := by rw [e_ws124]; exact gs_ne (by decide) f_53_ws116
                clear f_53_ws116
                have f_53_ws126 : ws126[53]? = some ((q19, Sum.inl (cZ, 60000, Sum.inl (fun _ => 0))) : Nat × va_E) := by rw [e_ws126]; exact gs_app f_53_ws124
                clear f_53_ws124
                have f_53_ws128 : ws128[53]? = some ((q19, Sum.inl (cZ, 60000, Sum.inl (fun _ => 0))) : Nat × va_E) := e_ws128.at (by first | decide | (simp; done) | (simp; omega)) f_53_ws126
                clear f_53_ws126
                have f_53_ws136 : ws136[53]? = some ((q19, Sum.inl (cZ, 60000, Sum.inl (fun _ => 0))) : Nat × va_E) := by rw [e_ws136]; exact gs_ne (by decide) f_53_ws128
                clear f_53_ws128
                have f_53_ws137 : ws137[53]? = some ((q19, Sum.inl (cZ, 60000, Sum.inl (fun _ => 0))) : Nat × va_E) := by rw [e_ws137]; exact gs_ne (by decide) f_53_ws136
                clear f_53_ws136
                have f_54_ws34 : ws34[54]? = some ((q23, Sum.inr (9, [Value.ref q27, Value.ref q28, Value.ref q29, Value.ref q30, Value.ref q31, Value.ref q32, Value.ref q33, Value.int 0, Value.int 0, Value.int 0, Value.int 0])) : Nat × va_E) := by rw [e_ws34]; exact gs_ne (by decide) f_54_ws26
                clear f_54_ws26
                have f_54_ws36 : ws36[54]? = some ((q23, Sum.inr (9, [Value.ref q27, Value.ref q28, Value.ref q29, Value.ref q30, Value.ref q31, Value.ref q32, Value.ref q33, Value.int 0, Value.int 0, Value.int 0, Value.int 0])) : Nat × va_E) := by rw [e_ws36]; exact gs_app f_54_ws34
                clear f_54_ws34
                have f_54_ws38 : ws38[54]? = some ((q23, Sum.inr (9, [Value.ref q27, Value.ref q28, Value.ref q29, Value.ref q30, Value.ref q31, Value.ref q32, Value.ref q33, Value.int 0, Value.int 0, Value.int 0, Value.int 0])) : Nat × va_E) := e_ws38.at (by first | decide | (simp; done) | (simp; omega)) f_54_ws36
                clear f_54_ws36
                have f_54_ws46 : ws46[54]? = some ((q23, Sum.inr (9, [Value.ref q27, Value.ref q28, Value.ref q29, Value.ref q30, Value.ref q31, Value.ref q32, Value.ref q33, Value.int 0, Value.int 0, Value.int 0, Value.int 0])) : Nat × va_E) := by rw [e_ws46]; exact gs_ne (by decide) f_54_ws38
                clear f_54_ws38
                have f_54_ws48 : ws48[54]? = some ((q23, Sum.inr (9, [Value.ref q27, Value.ref q28, Value.ref q29, Value.ref q30, Value.ref q31, Value.ref q32, Value.ref q33, Value.int 0, Value.int 0, Value.int 0, Value.int 0])) : Nat × va_E) := by rw [e_ws48]; exact gs_app f_54_ws46
                clear f_54_ws46
                have f_54_ws50 : ws50[54]? = some ((q23, Sum.inr (9, [Value.ref q27, Value.ref q28, Value.ref q29, Value.ref q30, Value.ref q31, Value.ref q32, Value.ref q33, Value.int 0, Value.int 0, Value.int 0, Value.int 0])) : Nat × va_E) := e_ws50.at (by first | decide | (simp; done) | (simp; omega)) f_54_ws48
                clear f_54_ws48
                have f_54_ws58 : ws58[54]? = some ((q23, Sum.inr (9, [Value.ref q27, Value.ref q28, Value.ref q29, Value.ref q30, Value.ref q31, Value.ref q32, Value.ref q33, Value.int 0, Value.int 0, Value.int 0, Value.int 0])) : Nat × va_E) := by rw [e_ws58]; exact gs_ne (by decide) f_54_ws50
                clear f_54_ws50
                have f_54_ws60 : ws60[54]? = some ((q23, Sum.inr (9, [Value.ref q27, Value.ref q28, Value.ref q29, Value.ref q30, Value.ref q31, Value.ref q32, Value.ref q33, Value.int 0, Value.int 0, Value.int 0, Value.int 0])) : Nat × va_E) := by rw [e_ws60]; exact gs_app f_54_ws58
                clear f_54_ws58
                have f_54_ws61 : ws61[54]? = some ((q23, Sum.inr (9, [Value.ref q27, Value.ref q28, Value.ref q29, Value.ref q30, Value.ref q31, Value.ref q32, Value.ref q33, Value.int 0, Value.int 0, Value.int 0, Value.int 0])) : Nat × va_E) := by rw [e_ws61]; exact gs_ne (by decide) f_54_ws60
                clear f_54_ws60
                have f_54_ws63 : ws63[54]? = some ((q23, Sum.inr (9, [Value.ref q27, Value.ref q28, Value.ref q29, Value.ref q30, Value.ref q31, Value.ref q32, Value.ref q33, Value.int 0, Value.int 0, Value.int 0, Value.int 0])) : Nat × va_E) := by rw [e_ws63]; exact gs_app f_54_ws61
                clear f_54_ws61
                have f_54_ws64 : ws64[54]? = some ((q23, Sum.inr (9, [Value.ref q27, Value.ref q28, Value.ref q29, Value.ref q30, Value.ref q31, Value.ref q32, Value.ref q33, Value.int 0, Value.int 0, Value.int 0, Value.int 0])) : Nat × va_E) := by rw [e_ws64]; exact gs_ne (by decide) f_54_ws63
                clear f_54_ws63
                have f_54_ws65 : ws65[54]? = some ((q23, Sum.inr (9, [Value.ref q27, Value.ref q28, Value.ref q29, Value.ref q30, Value.ref q31, Value.ref q32, Value.ref q33, Value.int 0, Value.int 0, Value.int 0, Value.int 0])) : Nat × va_E) := by rw [e_ws65]; exact gs_ne (by decide) f_54_ws64
                clear f_54_ws64
                have f_54_ws66 : ws66[54]? = some ((q23, Sum.inr (9, [Value.ref q27, Value.ref q28, Value.ref q29, Value.ref q30, Value.ref q31, Value.ref q32, Value.ref q33, Value.int 0, Value.int 0, Value.int 0, Value.int 0])) : Nat × va_E) := by rw [e_ws66]; exact gs_ne (by decide) f_54_ws65
                clear f_54_ws65
                have f_54_ws72 : ws72[54]? = some ((q23, Sum.inr (9, [Value.ref q27, Value.ref q28, Value.ref q29, Value.ref q30, Value.ref q31, Value.ref q32, Value.ref q33, Value.int 0, Value.int 0, Value.int 0, Value.int 0])) : Nat × va_E) := by rw [e_ws72]; exact gs_app f_54_ws66
                clear f_54_ws66
                have f_54_ws73 : ws73[54]? = some ((q23, Sum.inr (9, [Value.ref q27, Value.ref q28, Value.ref q29, Value.ref q30, Value.ref q31, Value.ref q32, Value.ref q33, Value.int 0, Value.int 0, Value.int 0, Value.int 0])) : Nat × va_E) := by rw [e_ws73]; exact gs_app f_54_ws72
                clear f_54_ws72
                have f_54_ws74 : ws74[54]? = some ((q23, Sum.inr (9, [Value.ref q27, Value.ref q28, Value.ref q29, Value.ref q30, Value.ref q31, Value.ref q32, Value.ref q33, Value.int 0, Value.int 0, Value.int 0, Value.int 0])) : Nat × va_E) := by rw [e_ws74]; exact gs_app f_54_ws73
                clear f_54_ws73
                have f_54_ws75 : ws75[54]? = some ((q23, Sum.inr (9, [Value.ref q27, Value.ref q28, Value.ref q29, Value.ref q30, Value.ref q31, Value.ref q32, Value.ref q33, Value.int 0, Value.int 0, Value.int 0, Value.int 0])) : Nat × va_E) := by rw [e_ws75]; exact gs_app f_54_ws74
                clear f_54_ws74
                have f_54_ws76 : ws76[54]? = some ((q23, Sum.inr (9, [Value.ref q27, Value.ref q28, Value.ref q29, Value.ref q30, Value.ref q31, Value.ref q32, Value.ref q33, Value.int 0, Value.int 0, Value.int 0, Value.int 0])) : Nat × va_E) := by rw [e_ws76]; exact gs_app f_54_ws75
                clear f_54_ws75
                have f_54_ws77 : ws77[54]? = some ((q23, Sum.inr (9, [Value.ref q27, Value.ref q28, Value.ref q29, Value.ref q30, Value.ref q31, Value.ref q32, Value.ref q33, Value.int 0, Value.int 0, Value.int 0, Value.int 0])) : Nat × va_E) := by rw [e_ws77]; exact gs_ne (by decide) f_54_ws76
                clear f_54_ws76
                have f_54_ws79 : ws79[54]? = some ((q23, Sum.inr (9, [Value.ref q27, Value.ref q28, Value.ref q29, Value.ref q30, Value.ref q31, Value.ref q32, Value.ref q33, Value.int 0, Value.int 0, Value.int 0, Value.int 0])) : Nat × va_E) := by rw [e_ws79]; exact gs_app f_54_ws77
                clear f_54_ws77
                have f_54_ws80 : ws80[54]? = some ((q23, Sum.inr (9, [Value.ref q27, Value.ref q28, Value.ref q29, Value.ref q30, Value.ref q31, Value.ref q32, Value.ref q33, Value.int 0, Value.int 0, Value.int 0, Value.int 0])) : Nat × va_E) := by rw [e_ws80]; exact gs_ne (by decide) f_54_ws79
                clear f_54_ws79
                have f_54_ws82 : ws82[54]? = some ((q23, Sum.inr (9, [Value.ref q27, Value.ref q28, Value.ref q29, Value.ref q30, Value.ref q31, Value.ref q32, Value.ref q33, Value.int 0, Value.int 0, Value.int 0, Value.int 0])) : Nat × va_E) := by rw [e_ws82]; exact gs_app f_54_ws80
                clear f_54_ws80
                have f_54_ws83 : ws83[54]? = some ((q23, Sum.inr (9, [Value.ref q27, Value.ref q28, Value.ref q29, Value.ref q30, Value.ref q31, Value.ref q32, Value.ref q33, Value.int 0, Value.int 0, Value.int 0, Value.int 0])) : Nat × va_E) := by rw [e_ws83]; exact gs_ne (by decide) f_54_ws82
                clear f_54_ws82
                have f_54_ws85 : ws85[54]? = some ((q23, Sum.inr (9, [Value.ref q27, Value.ref q28, Value.ref q29, Value.ref q30, Value.ref q31, Value.ref q32, Value.ref q33, Value.int 0, Value.int 0, Value.int 0, Value.int 0])) : Nat × va_E) := by rw [e_ws85]; exact gs_app f_54_ws83
                clear f_54_ws83
                have f_54_ws86 : ws86[54]? = some ((q23, Sum.inr (9, [Value.ref q27, Value.ref q28, Value.ref q29, Value.ref q30, Value.ref q31, Value.ref q32, Value.ref q33, Value.int 0, Value.int 0, Value.int 0, Value.int 0])) : Nat × va_E) := by rw [e_ws86]; exact gs_ne (by decide) f_54_ws85
                clear f_54_ws85
                have f_54_ws88 : ws88[54]? = some ((q23, Sum.inr (9, [Value.ref q27, Value.ref q28, Value.ref q29, Value.ref q30, Value.ref q31, Value.ref q32, Value.ref q33, Value.int 0, Value.int 0, Value.int 0, Value.int 0])) : Nat × va_E) := by rw [e_ws88]; exact gs_app f_54_ws86
                clear f_54_ws86
                have f_54_ws90 : ws90[54]? = some ((q23, Sum.inr (9, [Value.ref q27, Value.ref q28, Value.ref q29, Value.ref q30, Value.ref q31, Value.ref q32, Value.ref q33, Value.int 0, Value.int 0, Value.int 0, Value.int 0])) : Nat × va_E) := by rw [e_ws90]; exact gs_app f_54_ws88
                clear f_54_ws88
                have f_54_ws92 : ws92[54]? = some ((q23, Sum.inr (9, [Value.ref q27, Value.ref q28, Value.ref q29, Value.ref q30, Value.ref q31, Value.ref q32, Value.ref q33, Value.int 0, Value.int 0, Value.int 0, Value.int 0])) : Nat × va_E) := e_ws92.at (by first | decide | (simp; done) | (simp; omega)) f_54_ws90
                clear f_54_ws90
                have f_54_ws100 : ws100[54]? = some ((q23, Sum.inr (9, [Value.ref q27, Value.ref q28, Value.ref q29, Value.ref q30, Value.ref q31, Value.ref q32, Value.ref q33, Value.int 0, Value.int 0, Value.int 0, Value.int 0])) : Nat × va_E) := by rw [e_ws100]; exact gs_ne (by decide) f_54_ws92
                clear f_54_ws92
                have f_54_ws102 : ws102[54]? = some ((q23, Sum.inr (9, [Value.ref q27, Value.ref q28, Value.ref q29, Value.ref q30, Value.ref q31, Value.ref q32, Value.ref q33, Value.int 0, Value.int 0, Value.int 0, Value.int 0])) : Nat × va_E) := by rw [e_ws102]; exact gs_app f_54_ws100
                clear f_54_ws100
                have f_54_ws104 : ws104[54]? = some ((q23, Sum.inr (9, [Value.ref q27, Value.ref q28, Value.ref q29, Value.ref q30, Value.ref q31, Value.ref q32, Value.ref q33, Value.int 0, Value.int 0, Value.int 0, Value.int 0])) : Nat × va_E) := e_ws104.at (by first | decide | (simp; done) | (simp; omega)) f_54_ws102
                clear f_54_ws102
                have f_54_ws112 : ws112[54]? = some ((q23, Sum.inr (9, [Value.ref q27, Value.ref q28, Value.ref q29, Value.ref q30, Value.ref q31, Value.ref q32, Value.ref q33, Value.int 0, Value.int 0, Value.int 0, Value.int 0])) : Nat × va_E) := by rw [e_ws112]; exact gs_ne (by decide) f_54_ws104
                clear f_54_ws104
                have f_54_ws114 : ws114[54]? = some ((q23, Sum.inr (9, [Value.ref q27, Value.ref q28, Value.ref q29, Value.ref q30, Value.ref q31, Value.ref q32, Value.ref q33, Value.int 0, Value.int 0, Value.int 0, Value.int 0])) : Nat × va_E) := by rw [e_ws114]; exact gs_app f_54_ws112
                clear f_54_ws112
                have f_54_ws116 : ws116[54]? = some ((q23, Sum.inr (9, [Value.ref q27, Value.ref q28, Value.ref q29, Value.ref q30, Value.ref q31, Value.ref q32, Value.ref q33, Value.int 0, Value.int 0, Value.int 0, Value.int 0])) : Nat × va_E) := e_ws116.at (by first | decide | (simp; done) | (simp; omega)) f_54_ws114
                clear f_54_ws114
                have f_54_ws124 : ws124[54]? = some ((q23, Sum.inr (9, [Value.ref q27, Value.ref q28, Value.ref q29, Value.ref q30, Value.ref q31, Value.ref q32, Value.ref q33, Value.int 0, Value.int 0, Value.int 0, Value.int 0])) : Nat × va_E) := by rw [e_ws124]; exact gs_ne (by decide) f_54_ws116
                clear f_54_ws116
                have f_54_ws126 : ws126[54]? = some ((q23, Sum.inr (9, [Value.ref q27, Value.ref q28, Value.ref q29, Value.ref q30, Value.ref q31, Value.ref q32, Value.ref q33, Value.int 0, Value.int 0, Value.int 0, Value.int 0])) : Nat × va_E) := by rw [e_ws126]; exact gs_app f_54_ws124
                clear f_54_ws124
                have f_54_ws128 : ws128[54]? = some ((q23, Sum.inr (9, [Value.ref q27, Value.ref q28, Value.ref q29, Value.ref q30, Value.ref q31, Value.ref q32, Value.ref q33, Value.int 0, Value.int 0, Value.int 0, Value.int 0])) : Nat × va_E) := e_ws128.at (by first | decide | (simp; done) | (simp; omega)) f_54_ws126
                clear f_54_ws126
                have f_54_ws136 : ws136[54]? = some ((q23, Sum.inr (9, [Value.ref q27, Value.ref q28, Value.ref q29, Value.ref q30, Value.ref q31, Value.ref q32, Value.ref q33, Value.int 0, Value.int 0, Value.int 0, Value.int 0])) : Nat × va_E) := by rw [e_ws136]; exact gs_ne (by decide) f_54_ws128
                clear f_54_ws128
                have f_54_ws137 : ws137[54]? = some ((q23, Sum.inr (9, [Value.ref q27, Value.ref q28, Value.ref q29, Value.ref q30, Value.ref q31, Value.ref q32, Value.ref q33, Value.int 0, Value.int 0, Value.int 0, Value.int 0])) : Nat × va_E) := by rw [e_ws137]; exact gs_ne (by decide) f_54_ws136
                clear f_54_ws136
                have f_55_ws34 : ws34[55]? = some ((q27, Sum.inl (cI, 4097, Sum.inl (fun _ => 0))) : Nat × va_E) := by rw [e_ws34]; exact gs_ne (by decide) f_55_ws26
                clear f_55_ws26
                have f_55_ws36 : ws36[55]? = some ((q27, Sum.inl (cI, 4097, Sum.inl (fun _ => 0))) : Nat × va_E) := by rw [e_ws36]; exact gs_app f_55_ws34
                clear f_55_ws34
                have f_55_ws38 : ws38[55]? = some ((q27, Sum.inl (cI, 4097, Sum.inl (fun _ => 0))) : Nat × va_E) := e_ws38.at (by first | decide | (simp; done) | (simp; omega)) f_55_ws36
                clear f_55_ws36
                have f_55_ws46 : ws46[55]? = some ((q27, Sum.inl (cI, 4097, Sum.inl (fun _ => 0))) : Nat × va_E) := by rw [e_ws46]; exact gs_ne (by decide) f_55_ws38
                clear f_55_ws38
                have f_55_ws48 : ws48[55]? = some ((q27, Sum.inl (cI, 4097, Sum.inl (fun _ => 0))) : Nat × va_E) := by rw [e_ws48]; exact gs_app f_55_ws46
                clear f_55_ws46
                have f_55_ws50 : ws50[55]? = some ((q27, Sum.inl (cI, 4097, Sum.inl (fun _ => 0))) : Nat × va_E) := e_ws50.at (by first | decide | (simp; done) | (simp; omega)) f_55_ws48
                clear f_55_ws48
                have f_55_ws58 : ws58[55]? = some ((q27, Sum.inl (cI, 4097, Sum.inl (fun _ => 0))) : Nat × va_E) := by rw [e_ws58]; exact gs_ne (by decide) f_55_ws50
                clear f_55_ws50
                have f_55_ws60 : ws60[55]? = some ((q27, Sum.inl (cI, 4097, Sum.inl (fun _ => 0))) : Nat × va_E) := by rw [e_ws60]; exact gs_app f_55_ws58
                clear f_55_ws58
                have f_55_ws61 : ws61[55]? = some ((q27, Sum.inl (cI, 4097, Sum.inl (fun _ => 0))) : Nat × va_E) := by rw [e_ws61]; exact gs_ne (by decide) f_55_ws60
                clear f_55_ws60
                have f_55_ws63 : ws63[55]? = some ((q27, Sum.inl (cI, 4097, Sum.inl (fun _ => 0))) : Nat × va_E) := by rw [e_ws63]; exact gs_app f_55_ws61
                clear f_55_ws61
                have f_55_ws64 : ws64[55]? = some ((q27, Sum.inl (cI, 4097, Sum.inl (fun _ => 0))) : Nat × va_E) := by rw [e_ws64]; exact gs_ne (by decide) f_55_ws63
                clear f_55_ws63
                have f_55_ws65 : ws65[55]? = some ((q27, Sum.inl (cI, 4097, Sum.inl (fun _ => 0))) : Nat × va_E) := by rw [e_ws65]; exact gs_ne (by decide) f_55_ws64
                clear f_55_ws64
                have f_55_ws66 : ws66[55]? = some ((q27, Sum.inl (cI, 4097, Sum.inl (fun _ => 0))) : Nat × va_E) := by rw [e_ws66]; exact gs_ne (by decide) f_55_ws65
                clear f_55_ws65
                have f_55_ws72 : ws72[55]? = some ((q27, Sum.inl (cI, 4097, Sum.inl (fun _ => 0))) : Nat × va_E) := by rw [e_ws72]; exact gs_app f_55_ws66
                clear f_55_ws66
                have f_55_ws73 : ws73[55]? = some ((q27, Sum.inl (cI, 4097, Sum.inl (fun _ => 0))) : Nat × va_E) := by rw [e_ws73]; exact gs_app f_55_ws72
                clear f_55_ws72
                have f_55_ws74 : ws74[55]? = some ((q27, Sum.inl (cI, 4097, Sum.inl (fun _ => 0))) : Nat × va_E) := by rw [e_ws74]; exact gs_app f_55_ws73
                clear f_55_ws73
                have f_55_ws75 : ws75[55]? = some ((q27, Sum.inl (cI, 4097, Sum.inl (fun _ => 0))) : Nat × va_E) := by rw [e_ws75]; exact gs_app f_55_ws74
                clear f_55_ws74
                have f_55_ws76 : ws76[55]? = some ((q27, Sum.inl (cI, 4097, Sum.inl (fun _ => 0))) : Nat × va_E) := by rw [e_ws76]; exact gs_app f_55_ws75
                clear f_55_ws75
                have f_55_ws77 : ws77[55]? = some ((q27, Sum.inl (cI, 4097, Sum.inl (fun _ => 0))) : Nat × va_E) := by rw [e_ws77]; exact gs_ne (by decide) f_55_ws76
                clear f_55_ws76
                have f_55_ws79 : ws79[55]? = some ((q27, Sum.inl (cI, 4097, Sum.inl (fun _ => 0))) : Nat × va_E) := by rw [e_ws79]; exact gs_app f_55_ws77
                clear f_55_ws77
                have f_55_ws80 : ws80[55]? = some ((q27, Sum.inl (cI, 4097, Sum.inl (fun _ => 0))) : Nat × va_E) := by rw [e_ws80]; exact gs_ne (by decide) f_55_ws79
                clear f_55_ws79
                have f_55_ws82 : ws82[55]? = some ((q27, Sum.inl (cI, 4097, Sum.inl (fun _ => 0))) : Nat × va_E) := by rw [e_ws82]; exact gs_app f_55_ws80
                clear f_55_ws80
                have f_55_ws83 : ws83[55]? = some ((q27, Sum.inl (cI, 4097, Sum.inl (fun _ => 0))) : Nat × va_E) := by rw [e_ws83]; exact gs_ne (by decide) f_55_ws82
                clear f_55_ws82
                have f_55_ws85 : ws85[55]? = some ((q27, Sum.inl (cI, 4097, Sum.inl (fun _ => 0))) : Nat × va_E) := by rw [e_ws85]; exact gs_app f_55_ws83
                clear f_55_ws83
                have f_55_ws86 : ws86[55]? = some ((q27, Sum.inl (cI, 4097, Sum.inl (fun _ => 0))) : Nat × va_E) := by rw [e_ws86]; exact gs_ne (by decide) f_55_ws85
                clear f_55_ws85
                have f_55_ws88 : ws88[55]? = some ((q27, Sum.inl (cI, 4097, Sum.inl (fun _ => 0))) : Nat × va_E) := by rw [e_ws88]; exact gs_app f_55_ws86
                clear f_55_ws86
                have f_55_ws90 : ws90[55]? = some ((q27, Sum.inl (cI, 4097, Sum.inl (fun _ => 0))) : Nat × va_E) := by rw [e_ws90]; exact gs_app f_55_ws88
                clear f_55_ws88
                have f_55_ws92 : ws92[55]? = some ((q27, Sum.inl (cI, 4097, Sum.inl (fun _ => 0))) : Nat × va_E) := e_ws92.at (by first | decide | (simp; done) | (simp; omega)) f_55_ws90
                clear f_55_ws90
                have f_55_ws100 : ws100[55]? = some ((q27, Sum.inl (cI, 4097, Sum.inl (fun _ => 0))) : Nat × va_E) := by rw [e_ws100]; exact gs_ne (by decide) f_55_ws92
                clear f_55_ws92
                have f_55_ws102 : ws102[55]? = some ((q27, Sum.inl (cI, 4097, Sum.inl (fun _ => 0))) : Nat × va_E) := by rw [e_ws102]; exact gs_app f_55_ws100
                clear f_55_ws100
                have f_55_ws104 : ws104[55]? = some ((q27, Sum.inl (cI, 4097, Sum.inl (fun _ => 0))) : Nat × va_E) := e_ws104.at (by first | decide | (simp; done) | (simp; omega)) f_55_ws102
                clear f_55_ws102
                have f_55_ws112 : ws112[55]? = some ((q27, Sum.inl (cI, 4097, Sum.inl (fun _ => 0))) : Nat × va_E) := by rw [e_ws112]; exact gs_ne (by decide) f_55_ws104
                clear f_55_ws104
                have f_55_ws114 : ws114[55]? = some ((q27, Sum.inl (cI, 4097, Sum.inl (fun _ => 0))) : Nat × va_E) := by rw [e_ws114]; exact gs_app f_55_ws112
                clear f_55_ws112
                have f_55_ws116 : ws116[55]? = some ((q27, Sum.inl (cI, 4097, Sum.inl (fun _ => 0))) : Nat × va_E) := e_ws116.at (by first | decide | (simp; done) | (simp; omega)) f_55_ws114
                clear f_55_ws114
                have f_55_ws124 : ws124[55]? = some ((q27, Sum.inl (cI, 4097, Sum.inl (fun _ => 0))) : Nat × va_E) := by rw [e_ws124]; exact gs_ne (by decide) f_55_ws116
                clear f_55_ws116
                have f_55_ws126 : ws126[55]? = some ((q27, Sum.inl (cI, 4097, Sum.inl (fun _ => 0))) : Nat × va_E) := by rw [e_ws126]; exact gs_app f_55_ws124
                clear f_55_ws124
                have f_55_ws128 : ws128[55]? = some ((q27, Sum.inl (cI, 4097, Sum.inl (fun _ => 0))) : Nat × va_E) := e_ws128.at (by first | decide | (simp; done) | (simp; omega)) f_55_ws126
                clear f_55_ws126
                have f_55_ws136 : ws136[55]? = some ((q27, Sum.inl (cI, 4097, Sum.inl (fun _ => 0))) : Nat × va_E) := by rw [e_ws136]; exact gs_ne (by decide) f_55_ws128
                clear f_55_ws128
                have f_55_ws137 : ws137[55]? = some ((q27, Sum.inl (cI, 4097, Sum.inl (fun _ => 0))) : Nat × va_E) := by rw [e_ws137]; exact gs_ne (by decide) f_55_ws136
                clear f_55_ws136
                have f_56_ws34 : ws34[56]? = some ((q28, Sum.inl (cI, 4097, Sum.inl (fun _ => 0))) : Nat × va_E) := by rw [e_ws34]; exact gs_ne (by decide) f_56_ws26
                clear f_56_ws26
                have f_56_ws36 : ws36[56]? = some ((q28, Sum.inl (cI, 4097, Sum.inl (fun _ => 0))) : Nat × va_E) := by rw [e_ws36]; exact gs_app f_56_ws34
                clear f_56_ws34
                have f_56_ws38 : ws38[56]? = some ((q28, Sum.inl (cI, 4097, Sum.inl (fun _ => 0))) : Nat × va_E) := e_ws38.at (by first | decide | (simp; done) | (simp; omega)) f_56_ws36
                clear f_56_ws36
                have f_56_ws46 : ws46[56]? = some ((q28, Sum.inl (cI, 4097, Sum.inl (fun _ => 0))) : Nat × va_E) := by rw [e_ws46]; exact gs_ne (by decide) f_56_ws38
                clear f_56_ws38
                have f_56_ws48 : ws48[56]? = some ((q28, Sum.inl (cI, 4097, Sum.inl (fun _ => 0))) : Nat × va_E) := by rw [e_ws48]; exact gs_app f_56_ws46
                clear f_56_ws46
                have f_56_ws50 : ws50[56]? = some ((q28, Sum.inl (cI, 4097, Sum.inl (fun _ => 0))) : Nat × va_E) := e_ws50.at (by first | decide | (simp; done) | (simp; omega)) f_56_ws48
                clear f_56_ws48
                have f_56_ws58 : ws58[56]? = some ((q28, Sum.inl (cI, 4097, Sum.inl (fun _ => 0))) : Nat × va_E) := by rw [e_ws58]; exact gs_ne (by decide) f_56_ws50
                clear f_56_ws50
                have f_56_ws60 : ws60[56]? = some ((q28, Sum.inl (cI, 4097, Sum.inl (fun _ => 0))) : Nat × va_E) := by rw [e_ws60]; exact gs_app f_56_ws58
                clear f_56_ws58
                have f_56_ws61 : ws61[56]? = some ((q28, Sum.inl (cI, 4097, Sum.inl (fun _ => 0))) : Nat × va_E) := by rw [e_ws61]; exact gs_ne (by decide) f_56_ws60
                clear f_56_ws60
                have f_56_ws63 : ws63[56]? = some ((q28, Sum.inl (cI, 4097, Sum.inl (fun _ => 0))) : Nat × va_E) := by rw [e_ws63]; exact gs_app f_56_ws61
                clear f_56_ws61
                have f_56_ws64 : ws64[56]? = some ((q28, Sum.inl (cI, 4097, Sum.inl (fun _ => 0))) : Nat × va_E) := by rw [e_ws64]; exact gs_ne (by decide) f_56_ws63
                clear f_56_ws63
                have f_56_ws65 : ws65[56]? = some ((q28, Sum.inl (cI, 4097, Sum.inl (fun _ => 0))) : Nat × va_E) := by rw [e_ws65]; exact gs_ne (by decide) f_56_ws64
                clear f_56_ws64
                have f_56_ws66 : ws66[56]? = some ((q28, Sum.inl (cI, 4097, Sum.inl (fun _ => 0))) : Nat × va_E) := by rw [e_ws66]; exact gs_ne (by decide) f_56_ws65
                clear f_56_ws65
                have f_56_ws72 : ws72[56]? = some ((q28, Sum.inl (cI, 4097, Sum.inl (fun _ => 0))) : Nat × va_E) := by rw [e_ws72]; exact gs_app f_56_ws66
                clear f_56_ws66
                have f_56_ws73 : ws73[56]? = some ((q28, Sum.inl (cI, 4097, Sum.inl (fun _ => 0))) : Nat × va_E) := by rw [e_ws73]; exact gs_app f_56_ws72
                clear f_56_ws72
                have f_56_ws74 : ws74[56]? = some ((q28, Sum.inl (cI, 4097, Sum.inl (fun _ => 0))) : Nat × va_E) := by rw [e_ws74]; exact gs_app f_56_ws73
                clear f_56_ws73
                have f_56_ws75 : ws75[56]? = some ((q28, Sum.inl (cI, 4097, Sum.inl (fun _ => 0))) : Nat × va_E) := by rw [e_ws75]; exact gs_app f_56_ws74
                clear f_56_ws74
                have f_56_ws76 : ws76[56]? = some ((q28, Sum.inl (cI, 4097, Sum.inl (fun _ => 0))) : Nat × va_E) := by rw [e_ws76]; exact gs_app f_56_ws75
                clear f_56_ws75
                have f_56_ws77 : ws77[56]? = some ((q28, Sum.inl (cI, 4097, Sum.inl (fun _ => 0))) : Nat × va_E) := by rw [e_ws77]; exact gs_ne (by decide) f_56_ws76
                clear f_56_ws76
                have f_56_ws79 : ws79[56]? = some ((q28, Sum.inl (cI, 4097, Sum.inl (fun _ => 0))) : Nat × va_E) := by rw [e_ws79]; exact gs_app f_56_ws77
                clear f_56_ws77
                have f_56_ws80 : ws80[56]? = some ((q28, Sum.inl (cI, 4097, Sum.inl (fun _ => 0))) : Nat × va_E) := by rw [e_ws80]; exact gs_ne (by decide) f_56_ws79
                clear f_56_ws79
                have f_56_ws82 : ws82[56]? = some ((q28, Sum.inl (cI, 4097, Sum.inl (fun _ => 0))) : Nat × va_E) := by rw [e_ws82]; exact gs_app f_56_ws80
                clear f_56_ws80
                have f_56_ws83 : ws83[56]? = some ((q28, Sum.inl (cI, 4097, Sum.inl (fun _ => 0))) : Nat × va_E) := by rw [e_ws83]; exact gs_ne (by decide) f_56_ws82
                clear f_56_ws82
                have f_56_ws85 : ws85[56]? = some ((q28, Sum.inl (cI, 4097, Sum.inl (fun _ => 0))) : Nat × va_E) := by rw [e_ws85]; exact gs_app f_56_ws83
                clear f_56_ws83
                have f_56_ws86 : ws86[56]? = some ((q28, Sum.inl (cI, 4097, Sum.inl (fun _ => 0))) : Nat × va_E) := by rw [e_ws86]; exact gs_ne (by decide) f_56_ws85
                clear f_56_ws85
                have f_56_ws88 : ws88[56]? = some ((q28, Sum.inl (cI, 4097, Sum.inl (fun _ => 0))) : Nat × va_E) := by rw [e_ws88]; exact gs_app f_56_ws86
                clear f_56_ws86
                have f_56_ws90 : ws90[56]? = some ((q28, Sum.inl (cI, 4097, Sum.inl (fun _ => 0))) : Nat × va_E) := by rw [e_ws90]; exact gs_app f_56_ws88
                clear f_56_ws88
                have f_56_ws92 : ws92[56]? = some ((q28, Sum.inl (cI, 4097, Sum.inl (fun _ => 0))) : Nat × va_E) := e_ws92.at (by first | decide | (simp; done) | (simp; omega)) f_56_ws90
                clear f_56_ws90
                have f_56_ws100 : ws100[56]? = some ((q28, Sum.inl (cI, 4097, Sum.inl (fun _ => 0))) : Nat × va_E) := by rw [e_ws100]; exact gs_ne (by decide) f_56_ws92
                clear f_56_ws92
                have f_56_ws102 : ws102[56]? = some ((q28, Sum.inl (cI, 4097, Sum.inl (fun _ => 0))) : Nat × va_E) := by rw [e_ws102]; exact gs_app f_56_ws100
                clear f_56_ws100
                have f_56_ws104 : ws104[56]? = some ((q28, Sum.inl (cI, 4097, Sum.inl (fun _ => 0))) : Nat × va_E) := e_ws104.at (by first | decide | (simp; done) | (simp; omega)) f_56_ws102
                clear f_56_ws102
                have f_56_ws112 : ws112[56]? = some ((q28, Sum.inl (cI, 4097, Sum.inl (fun _ => 0))) : Nat × va_E) := by rw [e_ws112]; exact gs_ne (by decide) f_56_ws104
                clear f_56_ws104
                have f_56_ws114 : ws114[56]? = some ((q28, Sum.inl (cI, 4097, Sum.inl (fun _ => 0))) : Nat × va_E) := by rw [e_ws114]; exact gs_app f_56_ws112
                clear f_56_ws112
                have f_56_ws116 : ws116[56]? = some ((q28, Sum.inl (cI, 4097, Sum.inl (fun _ => 0))) : Nat × va_E) := e_ws116.at (by first | decide | (simp; done) | (simp; omega)) f_56_ws114
                clear f_56_ws114
                have f_56_ws124 : ws124[56]? = some ((q28, Sum.inl (cI, 4097, Sum.inl (fun _ => 0))) : Nat × va_E) := by rw [e_ws124]; exact gs_ne (by decide) f_56_ws116
                clear f_56_ws116
                have f_56_ws126 : ws126[56]? = some ((q28, Sum.inl (cI, 4097, Sum.inl (fun _ => 0))) : Nat × va_E) := by rw [e_ws126]; exact gs_app f_56_ws124
                clear f_56_ws124
                have f_56_ws128 : ws128[56]? = some ((q28, Sum.inl (cI, 4097, Sum.inl (fun _ => 0))) : Nat × va_E) := e_ws128.at (by first | decide | (simp; done) | (simp; omega)) f_56_ws126
                clear f_56_ws126
                have f_56_ws136 : ws136[56]? = some ((q28, Sum.inl (cI, 4097, Sum.inl (fun _ => 0))) : Nat × va_E) := by rw [e_ws136]; exact gs_ne (by decide) f_56_ws128
                clear f_56_ws128
                have f_56_ws137 : ws137[56]? = some ((q28, Sum.inl (cI, 4097, Sum.inl (fun _ => 0))) : Nat × va_E) := by rw [e_ws137]; exact gs_ne (by decide) f_56_ws136
                clear f_56_ws136
                have f_57_ws34 : ws34[57]? = some ((q29, Sum.inl (cI, 4098, Sum.inl (fun _ => 0))) : Nat × va_E) := by rw [e_ws34]; exact gs_ne (by decide) f_57_ws26
                clear f_57_ws26
                have f_57_ws36 : ws36[57]? = some ((q29, Sum.inl (cI, 4098, Sum.inl (fun _ => 0))) : Nat × va_E) := by rw [e_ws36]; exact gs_app f_57_ws34
                clear f_57_ws34
                have f_57_ws38 : ws38[57]? = some ((q29, Sum.inl (cI, 4098, Sum.inl (fun _ => 0))) : Nat × va_E) := e_ws38.at (by first | decide | (simp; done) | (simp; omega)) f_57_ws36
                clear f_57_ws36
                have f_57_ws46 : ws46[57]? = some ((q29, Sum.inl (cI, 4098, Sum.inl (fun _ => 0))) : Nat × va_E) := by rw [e_ws46]; exact gs_ne (by decide) f_57_ws38
                clear f_57_ws38
                have f_57_ws48 : ws48[57]? = some ((q29, Sum.inl (cI, 4098, Sum.inl (fun _ => 0))) : Nat × va_E) := by rw [e_ws48]; exact gs_app f_57_ws46
                clear f_57_ws46
                have f_57_ws50 : ws50[57]? = some ((q29, Sum.inl (cI, 4098, Sum.inl (fun _ => 0))) : Nat × va_E) := e_ws50.at (by first | decide | (simp; done) | (simp; omega)) f_57_ws48
                clear f_57_ws48
                have f_57_ws58 : ws58[57]? = some ((q29, Sum.inl (cI, 4098, Sum.inl (fun _ => 0))) : Nat × va_E) := by rw [e_ws58]; exact gs_ne (by decide) f_57_ws50
                clear f_57_ws50
                have f_57_ws60 : ws60[57]? = some ((q29, Sum.inl (cI, 4098, Sum.inl (fun _ => 0))) : Nat × va_E) := by rw [e_ws60]; exact gs_app f_57_ws58
                clear f_57_ws58
                have f_57_ws61 : ws61[57]? = some ((q29, Sum.inl (cI, 4098, Sum.inl (fun _ => 0))) : Nat × va_E) := by rw [e_ws61]; exact gs_ne (by decide) f_57_ws60
                clear f_57_ws60
                have f_57_ws63 : ws63[57]? = some ((q29, Sum.inl (cI, 4098, Sum.inl (fun _ => 0))) : Nat × va_E) := by rw [e_ws63]; exact gs_app f_57_ws61
                clear f_57_ws61
                have f_57_ws64 : ws64[57]? = some ((q29, Sum.inl (cI, 4098, Sum.inl (fun _ => 0))) : Nat × va_E) := by rw [e_ws64]; exact gs_ne (by decide) f_57_ws63
                clear f_57_ws63
                have f_57_ws65 : ws65[57]? = some ((q29, Sum.inl (cI, 4098, Sum.inl (fun _ => 0))) : Nat × va_E) := by rw [e_ws65]; exact gs_ne (by decide) f_57_ws64
                clear f_57_ws64
                have f_57_ws66 : ws66[57]? = some ((q29, Sum.inl (cI, 4098, Sum.inl (fun _ => 0))) : Nat × va_E) := by rw [e_ws66]; exact gs_ne (by decide) f_57_ws65
                clear f_57_ws65
                have f_57_ws72 : ws72[57]? = some ((q29, Sum.inl (cI, 4098, Sum.inl (fun _ => 0))) : Nat × va_E) := by rw [e_ws72]; exact gs_app f_57_ws66
                clear f_57_ws66
                have f_57_ws73 : ws73[57]? = some ((q29, Sum.inl (cI, 4098, Sum.inl (fun _ => 0))) : Nat × va_E) := by rw [e_ws73]; exact gs_app f_57_ws72
                clear f_57_ws72
                have f_57_ws74 : ws74[57]? = some ((q29, Sum.inl (cI, 4098, Sum.inl (fun _ => 0))) : Nat × va_E) := by rw [e_ws74]; exact gs_app f_57_ws73
                clear f_57_ws73
                have f_57_ws75 : ws75[57]? = some ((q29, Sum.inl (cI, 4098, Sum.inl (fun _ => 0))) : Nat × va_E) := by rw [e_ws75]; exact gs_app f_57_ws74
                clear f_57_ws74
                have f_57_ws76 : ws76[57]? = some ((q29, Sum.inl (cI, 4098, Sum.inl (fun _ => 0))) : Nat × va_E) := by rw [e_ws76]; exact gs_app f_57_ws75
                clear f_57_ws75
                have f_57_ws77 : ws77[57]? = some ((q29, Sum.inl (cI, 4098, Sum.inl (fun _ => 0))) : Nat × va_E) := by rw [e_ws77]; exact gs_ne (by decide) f_57_ws76
                clear f_57_ws76
                have f_57_ws79 : ws79[57]? = some ((q29, Sum.inl (cI, 4098, Sum.inl (fun _ => 0))) : Nat × va_E) := by rw [e_ws79]; exact gs_app f_57_ws77
                clear f_57_ws77
                have f_57_ws80 : ws80[57]? = some ((q29, Sum.inl (cI, 4098, Sum.inl (fun _ => 0))) : Nat × va_E) := by rw [e_ws80]; exact gs_ne (by decide) f_57_ws79
                clear f_57_ws79
                have f_57_ws82 : ws82[57]? = some ((q29, Sum.inl (cI, 4098, Sum.inl (fun _ => 0))) : Nat × va_E) := by rw [e_ws82]; exact gs_app f_57_ws80
                clear f_57_ws80
                have f_57_ws83 : ws83[57]? = some ((q29, Sum.inl (cI, 4098, Sum.inl (fun _ => 0))) : Nat × va_E) := by rw [e_ws83]; exact gs_ne (by decide) f_57_ws82
                clear f_57_ws82
                have f_57_ws85 : ws85[57]? = some ((q29, Sum.inl (cI, 4098, Sum.inl (fun _ => 0))) : Nat × va_E) := by rw [e_ws85]; exact gs_app f_57_ws83
                clear f_57_ws83
                have f_57_ws86 : ws86[57]? = some ((q29, Sum.inl (cI, 4098, Sum.inl (fun _ => 0))) : Nat × va_E) := by rw [e_ws86]; exact gs_ne (by decide) f_57_ws85
                clear f_57_ws85
                have f_57_ws88 : ws88[57]? = some ((q29, Sum.inl (cI, 4098, Sum.inl (fun _ => 0))) : Nat × va_E) := by rw [e_ws88]; exact gs_app f_57_ws86
                clear f_57_ws86
                have f_57_ws90 : ws90[57]? = some ((q29, Sum.inl (cI, 4098, Sum.inl (fun _ => 0))) : Nat × va_E) := by rw [e_ws90]; exact gs_app f_57_ws88
                clear f_57_ws88
                have f_57_ws92 : ws92[57]? = some ((q29, Sum.inl (cI, 4098, Sum.inl (fun _ => 0))) : Nat × va_E) := e_ws92.at (by first | decide | (simp; done) | (simp; omega)) f_57_ws90
                clear f_57_ws90
                have f_57_ws100 : ws100[57]? = some ((q29, Sum.inl (cI, 4098, Sum.inl (fun _ => 0))) : Nat × va_E) := by rw [e_ws100]; exact gs_ne (by decide) f_57_ws92
                clear f_57_ws92
                have f_57_ws102 : ws102[57]? = some ((q29, Sum.inl (cI, 4098, Sum.inl (fun _ => 0))) : Nat × va_E) := by rw [e_ws102]; exact gs_app f_57_ws100
                clear f_57_ws100
                have f_57_ws104 : ws104[57]? = some ((q29, Sum.inl (cI, 4098, Sum.inl (fun _ => 0))) : Nat × va_E) := e_ws104.at (by first | decide | (simp; done) | (simp; omega)) f_57_ws102
                clear f_57_ws102
                have f_57_ws112 : ws112[57]? = some ((q29, Sum.inl (cI, 4098, Sum.inl (fun _ => 0))) : Nat × va_E) := by rw [e_ws112]; exact gs_ne (by decide) f_57_ws104
                clear f_57_ws104
                have f_57_ws114 : ws114[57]? = some ((q29, Sum.inl (cI, 4098, Sum.inl (fun _ => 0))) : Nat × va_E) := by rw [e_ws114]; exact gs_app f_57_ws112
                clear f_57_ws112
                have f_57_ws116 : ws116[57]? = some ((q29, Sum.inl (cI, 4098, Sum.inl (fun _ => 0))) : Nat × va_E) := e_ws116.at (by first | decide | (simp; done) | (simp; omega)) f_57_ws114
                clear f_57_ws114
                have f_57_ws124 : ws124[57]? = some ((q29, Sum.inl (cI, 4098, Sum.inl (fun _ => 0))) : Nat × va_E) := by rw [e_ws124]; exact gs_ne (by decide) f_57_ws116
                clear f_57_ws116
                have f_57_ws126 : ws126[57]? = some ((q29, Sum.inl (cI, 4098, Sum.inl (fun _ => 0))) : Nat × va_E) := by rw [e_ws126]; exact gs_app f_57_ws124
                clear f_57_ws124
                have f_57_ws128 : ws128[57]? = some ((q29, Sum.inl (cI, 4098, Sum.inl (fun _ => 0))) : Nat × va_E) := e_ws128.at (by first | decide | (simp; done) | (simp; omega)) f_57_ws126
                clear f_57_ws126
                have f_57_ws136 : ws136[57]? = some ((q29, Sum.inl (cI, 4098, Sum.inl (fun _ => 0))) : Nat × va_E) := by rw [e_ws136]; exact gs_ne (by decide) f_57_ws128
                clear f_57_ws128
                have f_57_ws137 : ws137[57]? = some ((q29, Sum.inl (cI, 4098, Sum.inl (fun _ => 0))) : Nat × va_E) := by rw [e_ws137]; exact gs_ne (by decide) f_57_ws136
                clear f_57_ws136
                have f_58_ws34 : ws34[58]? = some ((q30, Sum.inl (cI, 4097, Sum.inl (fun _ => 0))) : Nat × va_E) := by rw [e_ws34]; exact gs_ne (by decide) f_58_ws26
                clear f_58_ws26
                have f_58_ws36 : ws36[58]? = some ((q30, Sum.inl (cI, 4097, Sum.inl (fun _ => 0))) : Nat × va_E) := by rw [e_ws36]; exact gs_app f_58_ws34
                clear f_58_ws34
                have f_58_ws38 : ws38[58]? = some ((q30, Sum.inl (cI, 4097, Sum.inl (fun _ => 0))) : Nat × va_E) := e_ws38.at (by first | decide | (simp; done) | (simp; omega)) f_58_ws36
                clear f_58_ws36
                have f_58_ws46 : ws46[58]? = some ((q30, Sum.inl (cI, 4097, Sum.inl (fun _ => 0))) : Nat × va_E) := by rw [e_ws46]; exact gs_ne (by decide) f_58_ws38
                clear f_58_ws38
                have f_58_ws48 : ws48[58]? = some ((q30, Sum.inl (cI, 4097, Sum.inl (fun _ => 0))) : Nat × va_E) := by rw [e_ws48]; exact gs_app f_58_ws46
                clear f_58_ws46
                have f_58_ws50 : ws50[58]? = some ((q30, Sum.inl (cI, 4097, Sum.inl (fun _ => 0))) : Nat × va_E) := e_ws50.at (by first | decide | (simp; done) | (simp; omega)) f_58_ws48
                clear f_58_ws48
                have f_58_ws58 : ws58[58]? = some ((q30, Sum.inl (cI, 4097, Sum.inl (fun _ => 0))) : Nat × va_E) := by rw [e_ws58]; exact gs_ne (by decide) f_58_ws50
                clear f_58_ws50
                have f_58_ws60 : ws60[58]? = some ((q30, Sum.inl (cI, 4097, Sum.inl (fun _ => 0))) : Nat × va_E) := by rw [e_ws60]; exact gs_app f_58_ws58
                clear f_58_ws58
                have f_58_ws61 : ws61[58]? = some ((q30, Sum.inl (cI, 4097, Sum.inl (fun _ => 0))) : Nat × va_E) := by rw [e_ws61]; exact gs_ne (by decide) f_58_ws60
                clear f_58_ws60
                have f_58_ws63 : ws63[58]? = some ((q30, Sum.inl (cI, 4097, Sum.inl (fun _ => 0))) : Nat × va_E) := by rw [e_ws63]; exact gs_app f_58_ws61
                clear f_58_ws61
                have f_58_ws64 : ws64[58]? = some ((q30, Sum.inl (cI, 4097, Sum.inl (fun _ => 0))) : Nat × va_E) := by rw [e_ws64]; exact gs_ne (by decide) f_58_ws63
                clear f_58_ws63
                have f_58_ws65 : ws65[58]? = some ((q30, Sum.inl (cI, 4097, Sum.inl (fun _ => 0))) : Nat × va_E) := by rw [e_ws65]; exact gs_ne (by decide) f_58_ws64
                clear f_58_ws64
                have f_58_ws66 : ws66[58]? = some ((q30, Sum.inl (cI, 4097, Sum.inl (fun _ => 0))) : Nat × va_E) := by rw [e_ws66]; exact gs_ne (by decide) f_58_ws65
                clear f_58_ws65
                have f_58_ws72 : ws72[58]? = some ((q30, Sum.inl (cI, 4097, Sum.inl (fun _ => 0))) : Nat × va_E) := by rw [e_ws72]; exact gs_app f_58_ws66
                clear f_58_ws66
                have f_58_ws73 : ws73[58]? = some ((q30, Sum.inl (cI, 4097, Sum.inl (fun _ => 0))) : Nat × va_E) := by rw [e_ws73]; exact gs_app f_58_ws72
                clear f_58_ws72
                have f_58_ws74 : ws74[58]? = some ((q30, Sum.inl (cI, 4097, Sum.inl (fun _ => 0))) : Nat × va_E) := by rw [e_ws74]; exact gs_app f_58_ws73
                clear f_58_ws73
                have f_58_ws75 : ws75[58]? = some ((q30, Sum.inl (cI, 4097, Sum.inl (fun _ => 0))) : Nat × va_E) := by rw [e_ws75]; exact gs_app f_58_ws74
                clear f_58_ws74
                have f_58_ws76 : ws76[58]? = some ((q30, Sum.inl (cI, 4097, Sum.inl (fun _ => 0))) : Nat × va_E) := by rw [e_ws76]; exact gs_app f_58_ws75
                clear f_58_ws75
                have f_58_ws77 : ws77[58]? = some ((q30, Sum.inl (cI, 4097, Sum.inl (fun _ => 0))) : Nat × va_E) := by rw [e_ws77]; exact gs_ne (by decide) f_58_ws76
                clear f_58_ws76
                have f_58_ws79 : ws79[58]? = some ((q30, Sum.inl (cI, 4097, Sum.inl (fun _ => 0))) : Nat × va_E) := by rw [e_ws79]; exact gs_app f_58_ws77
                clear f_58_ws77
                have f_58_ws80 : ws80[58]? = some ((q30, Sum.inl (cI, 4097, Sum.inl (fun _ => 0))) : Nat × va_E) := by rw [e_ws80]; exact gs_ne (by decide) f_58_ws79
                clear f_58_ws79
                have f_58_ws82 : ws82[58]? = some ((q30, Sum.inl (cI, 4097, Sum.inl (fun _ => 0))) : Nat × va_E) := by rw [e_ws82]; exact gs_app f_58_ws80
                clear f_58_ws80
                have f_58_ws83 : ws83[58]? = some ((q30, Sum.inl (cI, 4097, Sum.inl (fun _ => 0))) : Nat × va_E) := by rw [e_ws83]; exact gs_ne (by decide) f_58_ws82
                clear f_58_ws82
                have f_58_ws85 : ws85[58]? = some ((q30, Sum.inl (cI, 4097, Sum.inl (fun _ => 0))) : Nat × va_E) := by rw [e_ws85]; exact gs_app f_58_ws83
                clear f_58_ws83
                have f_58_ws86 : ws86[58]? = some ((q30, Sum.inl (cI, 4097, Sum.inl (fun _ => 0))) : Nat × va_E) := by rw [e_ws86]; exact gs_ne (by decide) f_58_ws85
                clear f_58_ws85
                have f_58_ws88 : ws88[58]? = some ((q30, Sum.inl (cI, 4097, Sum.inl (fun _ => 0))) : Nat × va_E) := by rw [e_ws88]; exact gs_app f_58_ws86
                clear f_58_ws86
                have f_58_ws90 : ws90[58]? = some ((q30, Sum.inl (cI, 4097, Sum.inl (fun _ => 0))) : Nat × va_E) := by rw [e_ws90]; exact gs_app f_58_ws88
                clear f_58_ws88
                have f_58_ws92 : ws92[58]? = some ((q30, Sum.inl (cI, 4097, Sum.inl (fun _ => 0))) : Nat × va_E) := e_ws92.at (by first | decide | (simp; done) | (simp; omega)) f_58_ws90
                clear f_58_ws90
                have f_58_ws100 : ws100[58]? = some ((q30, Sum.inl (cI, 4097, Sum.inl (fun _ => 0))) : Nat × va_E) := by rw [e_ws100]; exact gs_ne (by decide) f_58_ws92
                clear f_58_ws92
                have f_58_ws102 : ws102[58]? = some ((q30, Sum.inl (cI, 4097, Sum.inl (fun _ => 0))) : Nat × va_E) := by rw [e_ws102]; exact gs_app f_58_ws100
                clear f_58_ws100
                have f_58_ws104 : ws104[58]? = some ((q30, Sum.inl (cI, 4097, Sum.inl (fun _ => 0))) : Nat × va_E) := e_ws104.at (by first | decide | (simp; done) | (simp; omega)) f_58_ws102
                clear f_58_ws102
                have f_58_ws112 : ws112[58]? = some ((q30, Sum.inl (cI, 4097, Sum.inl (fun _ => 0))) : Nat × va_E) := by rw [e_ws112]; exact gs_ne (by decide) f_58_ws104
                clear f_58_ws104
                have f_58_ws114 : ws114[58]? = some ((q30, Sum.inl (cI, 4097, Sum.inl (fun _ => 0))) : Nat × va_E) := by rw [e_ws114]; exact gs_app f_58_ws112
                clear f_58_ws112
                have f_58_ws116 : ws116[58]? = some ((q30, Sum.inl (cI, 4097, Sum.inl (fun _ => 0))) : Nat × va_E) := e_ws116.at (by first | decide | (simp; done) | (simp; omega)) f_58_ws114
                clear f_58_ws114
                have f_58_ws124 : ws124[58]? = some ((q30, Sum.inl (cI, 4097, Sum.inl (fun _ => 0))) : Nat × va_E) := by rw [e_ws124]; exact gs_ne (by decide) f_58_ws116
                clear f_58_ws116
                have f_58_ws126 : ws126[58]? = some ((q30, Sum.inl (cI, 4097, Sum.inl (fun _ => 0))) : Nat × va_E) := by rw [e_ws126]; exact gs_app f_58_ws124
                clear f_58_ws124
                have f_58_ws128 : ws128[58]? = some ((q30, Sum.inl (cI, 4097, Sum.inl (fun _ => 0))) : Nat × va_E) := e_ws128.at (by first | decide | (simp; done) | (simp; omega)) f_58_ws126
                clear f_58_ws126
                have f_58_ws136 : ws136[58]? = some ((q30, Sum.inl (cI, 4097, Sum.inl (fun _ => 0))) : Nat × va_E) := by rw [e_ws136]; exact gs_ne (by decide) f_58_ws128
                clear f_58_ws128
                have f_58_ws137 : ws137[58]? = some ((q30, Sum.inl (cI, 4097, Sum.inl (fun _ => 0))) : Nat × va_E) := by rw [e_ws137]; exact gs_ne (by decide) f_58_ws136
                clear f_58_ws136
                have f_59_ws34 : ws34[59]? = some ((q31, Sum.inl (cI, 4096, Sum.inl (fun _ => 0))) : Nat × va_E) := by rw [e_ws34]; exact gs_ne (by decide) f_59_ws26
                clear f_59_ws26
                have f_59_ws36 : ws36[59]? = some ((q31, Sum.inl (cI, 4096, Sum.inl (fun _ => 0))) : Nat × va_E) := by rw [e_ws36]; exact gs_app f_59_ws34
                clear f_59_ws34
                have f_59_ws38 : ws38[59]? = some ((q31, Sum.inl (cI, 4096, Sum.inl (fun _ => 0))) : Nat × va_E) := e_ws38.at (by first | decide | (simp; done) | (simp; omega)) f_59_ws36
                clear f_59_ws36
                have f_59_ws46 : ws46[59]? = some ((q31, Sum.inl (cI, 4096, Sum.inl (fun _ => 0))) : Nat × va_E) := by rw [e_ws46]; exact gs_ne (by decide) f_59_ws38
                clear f_59_ws38
                have f_59_ws48 : ws48[59]? = some ((q31, Sum.inl (cI, 4096, Sum.inl (fun _ => 0))) : Nat × va_E) := by rw [e_ws48]; exact gs_app f_59_ws46
                clear f_59_ws46
                have f_59_ws50 : ws50[59]? = some ((q31, Sum.inl (cI, 4096, Sum.inl (fun _ => 0))) : Nat × va_E) := e_ws50.at (by first | decide | (simp; done) | (simp; omega)) f_59_ws48
                clear f_59_ws48
                have f_59_ws58 : ws58[59]? = some ((q31, Sum.inl (cI, 4096, Sum.inl (fun _ => 0))) : Nat × va_E) := by rw [e_ws58]; exact gs_ne (by decide) f_59_ws50
                clear f_59_ws50
                have f_59_ws60 : ws60[59]? = some ((q31, Sum.inl (cI, 4096, Sum.inl (fun _ => 0))) : Nat × va_E) := by rw [e_ws60]; exact gs_app f_59_ws58
                clear f_59_ws58
                have f_59_ws61 : ws61[59]? = some ((q31, Sum.inl (cI, 4096, Sum.inl (fun _ => 0))) : Nat × va_E) := by rw [e_ws61]; exact gs_ne (by decide) f_59_ws60
                clear f_59_ws60
                have f_59_ws63 : ws63[59]? = some ((q31, Sum.inl (cI, 4096, Sum.inl (fun _ => 0))) : Nat × va_E) := by rw [e_ws63]; exact gs_app f_59_ws61
                clear f_59_ws61
                have f_59_ws64 : ws64[59]? = some ((q31, Sum.inl (cI, 4096, Sum.inl (fun _ => 0))) : Nat × va_E) := by rw [e_ws64]; exact gs_ne (by decide) f_59_ws63
                clear f_59_ws63
                have f_59_ws65 : ws65[59]? = some ((q31, Sum.inl (cI, 4096, Sum.inl (fun _ => 0))) : Nat × va_E) := by rw [e_ws65]; exact gs_ne (by decide) f_59_ws64
                clear f_59_ws64
                have f_59_ws66 : ws66[59]? = some ((q31, Sum.inl (cI, 4096, Sum.inl (fun _ => 0))) : Nat × va_E) := by rw [e_ws66]; exact gs_ne (by decide) f_59_ws65
                clear f_59_ws65
                have f_59_ws72 : ws72[59]? = some ((q31, Sum.inl (cI, 4096, Sum.inl (fun _ => 0))) : Nat × va_E) := by rw [e_ws72]; exact gs_app f_59_ws66
                clear f_59_ws66
                have f_59_ws73 : ws73[59]? = some ((q31, Sum.inl (cI, 4096, Sum.inl (fun _ => 0))) : Nat × va_E) := by rw [e_ws73]; exact gs_app f_59_ws72
                clear f_59_ws72
                have f_59_ws74 : ws74[59]? = some ((q31, Sum.inl (cI, 4096, Sum.inl (fun _ => 0))) : Nat × va_E) := by rw [e_ws74]; exact gs_app f_59_ws73
                clear f_59_ws73
                have f_59_ws75 : ws75[59]? = some ((q31, Sum.inl (cI, 4096, Sum.inl (fun _ => 0))) : Nat × va_E) := by rw [e_ws75]; exact gs_app f_59_ws74
                clear f_59_ws74
                have f_59_ws76 : ws76[59]? = some ((q31, Sum.inl (cI, 4096, Sum.inl (fun _ => 0))) : Nat × va_E) := by rw [e_ws76]; exact gs_app f_59_ws75
                clear f_59_ws75
                have f_59_ws77 : ws77[59]? = some ((q31, Sum.inl (cI, 4096, Sum.inl (fun _ => 0))) : Nat × va_E) := by rw [e_ws77]; exact gs_ne (by decide) f_59_ws76
                clear f_59_ws76
                have f_59_ws79 : ws79[59]? = some ((q31, Sum.inl (cI, 4096, Sum.inl (fun _ => 0))) : Nat × va_E) := by rw [e_ws79]; exact gs_app f_59_ws77
                clear f_59_ws77
                have f_59_ws80 : ws80[59]? = some ((q31, Sum.inl (cI, 4096, Sum.inl (fun _ => 0))) : Nat × va_E) := by rw [e_ws80]; exact gs_ne (by decide) f_59_ws79
                clear f_59_ws79
                have f_59_ws82 : ws82[59]? = some ((q31, Sum.inl (cI, 4096, Sum.inl (fun _ => 0))) : Nat × va_E) := by rw [e_ws82]; exact gs_app f_59_ws80
                clear f_59_ws80
                have f_59_ws83 : ws83[59]? = some ((q31, Sum.inl (cI, 4096, Sum.inl (fun _ => 0))) : Nat × va_E) := by rw [e_ws83]; exact gs_ne (by decide) f_59_ws82
                clear f_59_ws82
                have f_59_ws85 : ws85[59]? = some ((q31, Sum.inl (cI, 4096, Sum.inl (fun _ => 0))) : Nat × va_E) := by rw [e_ws85]; exact gs_app f_59_ws83
                clear f_59_ws83
                have f_59_ws86 : ws86[59]? = some ((q31, Sum.inl (cI, 4096, Sum.inl (fun _ => 0))) : Nat × va_E) := by rw [e_ws86]; exact gs_ne (by decide) f_59_ws85
                clear f_59_ws85
                have f_59_ws88 : ws88[59]? = some ((q31, Sum.inl (cI, 4096, Sum.inl (fun _ => 0))) : Nat × va_E) := by rw [e_ws88]; exact gs_app f_59_ws86
                clear f_59_ws86
                have f_59_ws90 : ws90[59]? = some ((q31, Sum.inl (cI, 4096, Sum.inl (fun _ => 0))) : Nat × va_E) := by rw [e_ws90]; exact gs_app f_59_ws88
                clear f_59_ws88
                have f_59_ws92 : ws92[59]? = some ((q31, Sum.inl (cI, 4096, Sum.inl (fun _ => 0))) : Nat × va_E) := e_ws92.at (by first | decide | (simp; done) | (simp; omega)) f_59_ws90
                clear f_59_ws90
                have f_59_ws100 : ws100[59]? = some ((q31, Sum.inl (cI, 4096, Sum.inl (fun _ => 0))) : Nat × va_E) := by rw [e_ws100]; exact gs_ne (by decide) f_59_ws92
                clear f_59_ws92
                have f_59_ws102 : ws102[59]? = some ((q31, Sum.inl (cI, 4096, Sum.inl (fun _ => 0))) : Nat × va_E) := by rw [e_ws102]; exact gs_app f_59_ws100
                clear f_59_ws100
                have f_59_ws104 : ws104[59]? = some ((q31, Sum.inl (cI, 4096, Sum.inl (fun _ => 0))) : Nat × va_E) := e_ws104.at (by first | decide | (simp; done) | (simp; omega)) f_59_ws102
                clear f_59_ws102
                have f_59_ws112 : ws112[59]? = some ((q31, Sum.inl (cI, 4096, Sum.inl (fun _ => 0))) : Nat × va_E) := by rw [e_ws112]; exact gs_ne (by decide) f_59_ws104
                clear f_59_ws104
                have f_59_ws114 : ws114[59]? = some ((q31, Sum.inl (cI, 4096, Sum.inl (fun _ => 0))) : Nat × va_E) := by rw [e_ws114]; exact gs_app f_59_ws112
                clear f_59_ws112
                have f_59_ws116 : ws116[59]? = some ((q31, Sum.inl (cI, 4096, Sum.inl (fun _ => 0))) : Nat × va_E) := e_ws116.at (by first | decide | (simp; done) | (simp; omega)) f_59_ws114
                clear f_59_ws114
                have f_59_ws124 : ws124[59]? = some ((q31, Sum.inl (cI, 4096, Sum.inl (fun _ => 0))) : Nat × va_E) := by rw [e_ws124]; exact gs_ne (by decide) f_59_ws116
                clear f_59_ws116
                have f_59_ws126 : ws126[59]? = some ((q31, Sum.inl (cI, 4096, Sum.inl (fun _ => 0))) : Nat × va_E) := by rw [e_ws126]; exact gs_app f_59_ws124
                clear f_59_ws124
                have f_59_ws128 : ws128[59]? = some ((q31, Sum.inl (cI, 4096, Sum.inl (fun _ => 0))) : Nat × va_E) := e_ws128.at (by first | decide | (simp; done) | (simp; omega)) f_59_ws126
                clear f_59_ws126
                have f_59_ws136 : ws136[59]? = some ((q31, Sum.inl (cI, 4096, Sum.inl (fun _ => 0))) : Nat × va_E) := by rw [e_ws136]; exact gs_ne (by decide) f_59_ws128
                clear f_59_ws128
                have f_59_ws137 : ws137[59]? = some ((q31, Sum.inl (cI, 4096, Sum.inl (fun _ => 0))) : Nat × va_E) := by rw [e_ws137]; exact gs_ne (by decide) f_59_ws136
                clear f_59_ws136
                have f_60_ws34 : ws34[60]? = some ((q32, Sum.inl (cZ, 4096, Sum.inl (fun _ => 0))) : Nat × va_E) := by rw [e_ws34]; exact gs_ne (by decide) f_60_ws26
                clear f_60_ws26
                have f_60_ws36 : ws36[60]? = some ((q32, Sum.inl (cZ, 4096, Sum.inl (fun _ => 0))) : Nat × va_E) := by rw [e_ws36]; exact gs_app f_60_ws34
                clear f_60_ws34
                have f_60_ws38 : ws38[60]? = some ((q32, Sum.inl (cZ, 4096, Sum.inl (fun _ => 0))) : Nat × va_E) := e_ws38.at (by first | decide | (simp; done) | (simp; omega)) f_60_ws36
                clear f_60_ws36
                have f_60_ws46 : ws46[60]? = some ((q32, Sum.inl (cZ, 4096, Sum.inl (fun _ => 0))) : Nat × va_E) := by rw [e_ws46]; exact gs_ne (by decide) f_60_ws38
                clear f_60_ws38
                have f_60_ws48 : ws48[60]? = some ((q32, Sum.inl (cZ, 4096, Sum.inl (fun _ => 0))) : Nat × va_E) := by rw [e_ws48]; exact gs_app f_60_ws46
                clear f_60_ws46
                have f_60_ws50 : ws50[60]? = some ((q32, Sum.inl (cZ, 4096, Sum.inl (fun _ => 0))) : Nat × va_E) := e_ws50.at (by first | decide | (simp; done) | (simp; omega)) f_60_ws48
                clear f_60_ws48
                have f_60_ws58 : ws58[60]? = some ((q32, Sum.inl (cZ, 4096, Sum.inl (fun _ => 0))) : Nat × va_E) := by rw [e_ws58]; exact gs_ne (by decide) f_60_ws50
                clear f_60_ws50
                have f_60_ws60 : ws60[60]? = some ((q32, Sum.inl (cZ, 4096, Sum.inl (fun _ => 0))) : Nat × va_E) := by rw [e_ws60]; exact gs_app f_60_ws58
                clear f_60_ws58
                have f_60_ws61 : ws61[60]? = some ((q32, Sum.inl (cZ, 4096, Sum.inl (fun _ => 0))) : Nat × va_E) := by rw [e_ws61]; exact gs_ne (by decide) f_60_ws60
                clear f_60_ws60
                have f_60_ws63 : ws63[60]? = some ((q32, Sum.inl (cZ, 4096, Sum.inl (fun _ => 0))) : Nat × va_E) := by rw [e_ws63]; exact gs_app f_60_ws61
                clear f_60_ws61
                have f_60_ws64 : ws64[60]? = some ((q32, Sum.inl (cZ, 4096, Sum.inl (fun _ => 0))) : Nat × va_E) := by rw [e_ws64]; exact gs_ne (by decide) f_60_ws63
                clear f_60_ws63
                have f_60_ws65 : ws65[60]? = some ((q32, Sum.inl (cZ, 4096, Sum.inl (fun _ => 0))) : Nat × va_E) := by rw [e_ws65]; exact gs_ne (by decide) f_60_ws64
                clear f_60_ws64
                have f_60_ws66 : ws66[60]? = some ((q32, Sum.inl (cZ, 4096, Sum.inl (fun _ => 0))) : Nat × va_E) := by rw [e_ws66]; exact gs_ne (by decide) f_60_ws65
                clear f_60_ws65
                have f_60_ws72 : ws72[60]? = some ((q32, Sum.inl (cZ, 4096, Sum.inl (fun _ => 0))) : Nat × va_E) := by rw [e_ws72]; exact gs_app f_60_ws66
                clear f_60_ws66
                have f_60_ws73 : ws73[60]? = some ((q32, Sum.inl (cZ, 4096, Sum.inl (fun _ => 0))) : Nat × va_E) := by rw [e_ws73]; exact gs_app f_60_ws72
                clear f_60_ws72
                have f_60_ws74 : ws74[60]? = some ((q32, Sum.inl (cZ, 4096, Sum.inl (fun _ => 0))) : Nat × va_E) := by rw [e_ws74]; exact gs_app f_60_ws73
                clear f_60_ws73
                have f_60_ws75 : ws75[60]? = some ((q32, Sum.inl (cZ, 4096, Sum.inl (fun _ => 0))) : Nat × va_E) := by rw [e_ws75]; exact gs_app f_60_ws74
                clear f_60_ws74
                have f_60_ws76 : ws76[60]? = some ((q32, Sum.inl (cZ, 4096, Sum.inl (fun _ => 0))) : Nat × va_E) := by rw [e_ws76]; exact gs_app f_60_ws75
                clear f_60_ws75
                have f_60_ws77 : ws77[60]? = some ((q32, Sum.inl (cZ, 4096, Sum.inl (fun _ => 0))) : Nat × va_E) := by rw [e_ws77]; exact gs_ne (by decide) f_60_ws76
                clear f_60_ws76
                have f_60_ws79 : ws79[60]? = some ((q32, Sum.inl (cZ, 4096, Sum.inl (fun _ => 0))) : Nat × va_E) := by rw [e_ws79]; exact gs_app f_60_ws77
                clear f_60_ws77
                have f_60_ws80 : ws80[60]? = some ((q32, Sum.inl (cZ, 4096, Sum.inl (fun _ => 0))) : Nat × va_E) := by rw [e_ws80]; exact gs_ne (by decide) f_60_ws79
                clear f_60_ws79
                have f_60_ws82 : ws82[60]? = some ((q32, Sum.inl (cZ, 4096, Sum.inl (fun _ => 0))) : Nat × va_E) := by rw [e_ws82]; exact gs_app f_60_ws80
                clear f_60_ws80
                have f_60_ws83 : ws83[60]? = some ((q32, Sum.inl (cZ, 4096, Sum.inl (fun _ => 0))) : Nat × va_E) := by rw [e_ws83]; exact gs_ne (by decide) f_60_ws82
                clear f_60_ws82
                have f_60_ws85 : ws85[60]? = some ((q32, Sum.inl (cZ, 4096, Sum.inl (fun _ => 0))) : Nat × va_E) := by rw [e_ws85]; exact gs_app f_60_ws83
                clear f_60_ws83
                have f_60_ws86 : ws86[60]? = some ((q32, Sum.inl (cZ, 4096, Sum.inl (fun _ => 0))) : Nat × va_E) := by rw [e_ws86]; exact gs_ne (by decide) f_60_ws85
                clear f_60_ws85
                have f_60_ws88 : ws88[60]? = some ((q32, Sum.inl (cZ, 4096, Sum.inl (fun _ => 0))) : Nat × va_E) := by rw [e_ws88]; exact gs_app f_60_ws86
                clear f_60_ws86
                have f_60_ws90 : ws90[60]? = some ((q32, Sum.inl (cZ, 4096, Sum.inl (fun _ => 0))) : Nat × va_E) := by rw [e_ws90]; exact gs_app f_60_ws88
                clear f_60_ws88
                have f_60_ws92 : ws92[60]? = some ((q32, Sum.inl (cZ, 4096, Sum.inl (fun _ => 0))) : Nat × va_E) := e_ws92.at (by first | decide | (simp; done) | (simp; omega)) f_60_ws90
                clear f_60_ws90
                have f_60_ws100 : ws100[60]? = some ((q32, Sum.inl (cZ, 4096, Sum.inl (fun _ => 0))) : Nat × va_E) := by rw [e_ws100]; exact gs_ne (by decide) f_60_ws92
                clear f_60_ws92
                have f_60_ws102 : ws102[60]? = some ((q32, Sum.inl (cZ, 4096, Sum.inl (fun _ => 0))) : Nat × va_E) := by rw [e_ws102]; exact gs_app f_60_ws100
                clear f_60_ws100
                have f_60_ws104 : ws104[60]? = some ((q32, Sum.inl (cZ, 4096, Sum.inl (fun _ => 0))) : Nat × va_E) := e_ws104.at (by first | decide | (simp; done) | (simp; omega)) f_60_ws102
                clear f_60_ws102
                have f_60_ws112 : ws112[60]? = some ((q32, Sum.inl (cZ, 4096, Sum.inl (fun _ => 0))) : Nat × va_E) := by rw [e_ws112]; exact gs_ne (by decide) f_60_ws104
                clear f_60_ws104
                have f_60_ws114 : ws114[60]? = some ((q32, Sum.inl (cZ, 4096, Sum.inl (fun _ => 0))) : Nat × va_E) := by rw [e_ws114]; exact gs_app f_60_ws112
                clear f_60_ws112
                have f_60_ws116 : ws116[60]? = some ((q32, Sum.inl (cZ, 4096, Sum.inl (fun _ => 0))) : Nat × va_E) := e_ws116.at (by first | decide | (simp; done) | (simp; omega)) f_60_ws114
                clear f_60_ws114
                have f_60_ws124 : ws124[60]? = some ((q32, Sum.inl (cZ, 4096, Sum.inl (fun _ => 0))) : Nat × va_E) := by rw [e_ws124]; exact gs_ne (by decide) f_60_ws116
                clear f_60_ws116
                have f_60_ws126 : ws126[60]? = some ((q32, Sum.inl (cZ, 4096, Sum.inl (fun _ => 0))) : Nat × va_E) := by rw [e_ws126]; exact gs_app f_60_ws124
                clear f_60_ws124
                have f_60_ws128 : ws128[60]? = some ((q32, Sum.inl (cZ, 4096, Sum.inl (fun _ => 0))) : Nat × va_E) := e_ws128.at (by first | decide | (simp; done) | (simp; omega)) f_60_ws126
                clear f_60_ws126
                have f_60_ws136 : ws136[60]? = some ((q32, Sum.inl (cZ, 4096, Sum.inl (fun _ => 0))) : Nat × va_E) := by rw [e_ws136]; exact gs_ne (by decide) f_60_ws128
                clear f_60_ws128
                have f_60_ws137 : ws137[60]? = some ((q32, Sum.inl (cZ, 4096, Sum.inl (fun _ => 0))) : Nat × va_E) := by rw [e_ws137]; exact gs_ne (by decide) f_60_ws136
                clear f_60_ws136
                have f_61_ws34 : ws34[61]? = some ((q33, Sum.inl (cZ, 4096, Sum.inl (fun _ => 0))) : Nat × va_E) := by rw [e_ws34]; exact gs_ne (by decide) f_61_ws26
                clear f_61_ws26
                have f_61_ws36 : ws36[61]? = some ((q33, Sum.inl (cZ, 4096, Sum.inl (fun _ => 0))) : Nat × va_E) := by rw [e_ws36]; exact gs_app f_61_ws34
                clear f_61_ws34
                have f_61_ws38 : ws38[61]? = some ((q33, Sum.inl (cZ, 4096, Sum.inl (fun _ => 0))) : Nat × va_E) := e_ws38.at (by first | decide | (simp; done) | (simp; omega)) f_61_ws36
                clear f_61_ws36
                have f_61_ws46 : ws46[61]? = some ((q33, Sum.inl (cZ, 4096, Sum.inl (fun _ => 0))) : Nat × va_E) := by rw [e_ws46]; exact gs_ne (by decide) f_61_ws38
                clear f_61_ws38
                have f_61_ws48 : ws48[61]? = some ((q33, Sum.inl (cZ, 4096, Sum.inl (fun _ => 0))) : Nat × va_E) := by rw [e_ws48]; exact gs_app f_61_ws46
                clear f_61_ws46
                have f_61_ws50 : ws50[61]? = some ((q33, Sum.inl (cZ, 4096, Sum.inl (fun _ => 0))) : Nat × va_E) := e_ws50.at (by first | decide | (simp; done) | (simp; omega)) f_61_ws48
                clear f_61_ws48
                have f_61_ws58 : ws58[61]? = some ((q33, Sum.inl (cZ, 4096, Sum.inl (fun _ => 0))) : Nat × va_E) := by rw [e_ws58]; exact gs_ne (by decide) f_61_ws50
                clear f_61_ws50
                have f_61_ws60 : ws60[61]? = some ((q33, Sum.inl (cZ, 4096, Sum.inl (fun _ => 0))) : Nat × va_E) := by rw [e_ws60]; exact gs_app f_61_ws58
                clear f_61_ws58
                have f_61_ws61 : ws61[61]? = some ((q33, Sum.inl (cZ, 4096, Sum.inl (fun _ => 0))) : Nat × va_E) := by rw [e_ws61]; exact gs_ne (by decide) f_61_ws60
                clear f_61_ws60
                have f_61_ws63 : ws63[61]? = some ((q33, Sum.inl (cZ, 4096, Sum.inl (fun _ => 0))) : Nat × va_E) := by rw [e_ws63]; exact gs_app f_61_ws61
                clear f_61_ws61
                have f_61_ws64 : ws64[61]? = some ((q33, Sum.inl (cZ, 4096, Sum.inl (fun _ => 0))) : Nat × va_E) := by rw [e_ws64]; exact gs_ne (by decide) f_61_ws63
                clear f_61_ws63
                have f_61_ws65 : ws65[61]? = some ((q33, Sum.inl (cZ, 4096, Sum.inl (fun _ => 0))) : Nat × va_E) := by rw [e_ws65]; exact gs_ne (by decide) f_61_ws64
                clear f_61_ws64
                have f_61_ws66 : ws66[61]? = some ((q33, Sum.inl (cZ, 4096, Sum.inl (fun _ => 0))) : Nat × va_E) := by rw [e_ws66]; exact gs_ne (by decide) f_61_ws65
                clear f_61_ws65
                have f_61_ws72 : ws72[61]? = some ((q33, Sum.inl (cZ, 4096, Sum.inl (fun _ => 0))) : Nat × va_E) := by rw [e_ws72]; exact gs_app f_61_ws66
                clear f_61_ws66
                have f_61_ws73 : ws73[61]? = some ((q33, Sum.inl (cZ, 4096, Sum.inl (fun _ => 0))) : Nat × va_E) := by rw [e_ws73]; exact gs_app f_61_ws72
                clear f_61_ws72
                have f_61_ws74 : ws74[61]? = some ((q33, Sum.inl (cZ, 4096, Sum.inl (fun _ => 0))) : Nat × va_E) := by rw [e_ws74]; exact gs_app f_61_ws73
                clear f_61_ws73
                have f_61_ws75 : ws75[61]? = some ((q33, Sum.inl (cZ, 4096, Sum.inl (fun _ => 0))) : Nat × va_E) := by rw [e_ws75]; exact gs_app f_61_ws74
                clear f_61_ws74
                have f_61_ws76 : ws76[61]? = some ((q33, Sum.inl (cZ, 4096, Sum.inl (fun _ => 0))) : Nat × va_E) := by rw [e_ws76]; exact gs_app f_61_ws75
                clear f_61_ws75
                have f_61_ws77 : ws77[61]? = some ((q33, Sum.inl (cZ, 4096, Sum.inl (fun _ => 0))) : Nat × va_E) := by rw [e_ws77]; exact gs_ne (by decide) f_61_ws76
                clear f_61_ws76
                have f_61_ws79 : ws79[61]? = some ((q33, Sum.inl (cZ, 4096, Sum.inl (fun _ => 0))) : Nat × va_E) := by rw [e_ws79]; exact gs_app f_61_ws77
                clear f_61_ws77
                have f_61_ws80 : ws80[61]? = some ((q33, Sum.inl (cZ, 4096, Sum.inl (fun _ => 0))) : Nat × va_E) := by rw [e_ws80]; exact gs_ne (by decide) f_61_ws79
                clear f_61_ws79
                have f_61_ws82 : ws82[61]? = some ((q33, Sum.inl (cZ, 4096, Sum.inl (fun _ => 0))) : Nat × va_E) := by rw [e_ws82]; exact gs_app f_61_ws80
                clear f_61_ws80
                have f_61_ws83 : ws83[61]? = some ((q33, Sum.inl (cZ, 4096, Sum.inl (fun _ => 0))) : Nat × va_E) := by rw [e_ws83]; exact gs_ne (by decide) f_61_ws82
                clear f_61_ws82
                have f_61_ws85 : ws85[61]? = some ((q33, Sum.inl (cZ, 4096, Sum.inl (fun _ => 0))) : Nat × va_E) := by rw [e_ws85]; exact gs_app f_61_ws83
                clear f_61_ws83
                have f_61_ws86 : ws86[61]? = some ((q33, Sum.inl (cZ, 4096, Sum.inl (fun _ => 0))) : Nat × va_E) := by rw [e_ws86]; exact gs_ne (by decide) f_61_ws85
                clear f_61_ws85
                have f_61_ws88 : ws88[61]? = some ((q33, Sum.inl (cZ, 4096, Sum.inl (fun _ => 0))) : Nat × va_E) := by rw [e_ws88]; exact gs_app f_61_ws86
                clear f_61_ws86
                have f_61_ws90 : ws90[61]? = some ((q33, Sum.inl (cZ, 4096, Sum.inl (fun _ => 0))) : Nat × va_E) := by rw [e_ws90]; exact gs_app f_61_ws88
                clear f_61_ws88
                have f_61_ws92 : ws92[61]? = some ((q33, Sum.inl (cZ, 4096, Sum.inl (fun _ => 0))) : Nat × va_E) := e_ws92.at (by first | decide | (simp; done) | (simp; omega)) f_61_ws90
                clear f_61_ws90
                have f_61_ws100 : ws100[61]? = some ((q33, Sum.inl (cZ, 4096, Sum.inl (fun _ => 0))) : Nat × va_E) := by rw [e_ws100]; exact gs_ne (by decide) f_61_ws92
                clear f_61_ws92
                have f_61_ws102 : ws102[61]? = some ((q33, Sum.inl (cZ, 4096, Sum.inl (fun _ => 0))) : Nat × va_E) := by rw [e_ws102]; exact gs_app f_61_ws100
                clear f_61_ws100
                have f_61_ws104 : ws104[61]? = some ((q33, Sum.inl (cZ, 4096, Sum.inl (fun _ => 0))) : Nat × va_E) := e_ws104.at (by first | decide | (simp; done) | (simp; omega)) f_61_ws102
                clear f_61_ws102
                have f_61_ws112 : ws112[61]? = some ((q33, Sum.inl (cZ, 4096, Sum.inl (fun _ => 0))) : Nat × va_E) := by rw [e_ws112]; exact gs_ne (by decide) f_61_ws104
                clear f_61_ws104
                have f_61_ws114 : ws114[61]? = some ((q33, Sum.inl (cZ, 4096, Sum.inl (fun _ => 0))) : Nat × va_E) := by rw [e_ws114]; exact gs_app f_61_ws112
                clear f_61_ws112
                have f_61_ws116 : ws116[61]? = some ((q33, Sum.inl (cZ, 4096, Sum.inl (fun _ => 0))) : Nat × va_E) := e_ws116.at (by first | decide | (simp; done) | (simp; omega)) f_61_ws114
                clear f_61_ws114
                have f_61_ws124 : ws124[61]? = some ((q33, Sum.inl (cZ, 4096, Sum.inl (fun _ => 0))) : Nat × va_E) := by rw [e_ws124]; exact gs_ne (by decide) f_61_ws116
                clear f_61_ws116
                have f_61_ws126 : ws126[61]? = some ((q33, Sum.inl (cZ, 4096, Sum.inl (fun _ => 0))) : Nat × va_E) := by rw [e_ws126]; exact gs_app f_61_ws124
                clear f_61_ws124
                have f_61_ws128 : ws128[61]? = some ((q33, Sum.inl (cZ, 4096, Sum.inl (fun _ => 0))) : Nat × va_E) := e_ws128.at (by first | decide | (simp; done) | (simp; omega)) f_61_ws126
                clear f_61_ws126
                have f_61_ws136 : ws136[61]? = some ((q33, Sum.inl (cZ, 4096, Sum.inl (fun _ => 0))) : Nat × va_E) := by rw [e_ws136]; exact gs_ne (by decide) f_61_ws128
                clear f_61_ws128
                have f_61_ws137 : ws137[61]? = some ((q33, Sum.inl (cZ, 4096, Sum.inl (fun _ => 0))) : Nat × va_E) := by rw [e_ws137]; exact gs_ne (by decide) f_61_ws136
                clear f_61_ws136
                have f_62_ws46 : ws46[62]? = some ((q35, Sum.inr (9, [Value.ref q39, Value.ref q40, Value.ref q41, Value.ref q42, Value.ref q43, Value.ref q44, Value.ref q45, Value.int 0, Value.int 0, Value.int 0, Value.int 0])) : Nat × va_E) := by rw [e_ws46]; exact gs_ne (by decide) f_62_ws38
                clear f_62_ws38
                have f_62_ws48 : ws48[62]? = some ((q35, Sum.inr (9, [Value.ref q39, Value.ref q40, Value.ref q41, Value.ref q42, Value.ref q43, Value.ref q44, Value.ref q45, Value.int 0, Value.int 0, Value.int 0, Value.int 0])) : Nat × va_E) := by rw [e_ws48]; exact gs_app f_62_ws46
                clear f_62_ws46
                have f_62_ws50 : ws50[62]? = some ((q35, Sum.inr (9, [Value.ref q39, Value.ref q40, Value.ref q41, Value.ref q42, Value.ref q43, Value.ref q44, Value.ref q45, Value.int 0, Value.int 0, Value.int 0, Value.int 0])) : Nat × va_E) := e_ws50.at (by first | decide | (simp; done) | (simp; omega)) f_62_ws48
                clear f_62_ws48
                have f_62_ws58 : ws58[62]? = some ((q35, Sum.inr (9, [Value.ref q39, Value.ref q40, Value.ref q41, Value.ref q42, Value.ref q43, Value.ref q44, Value.ref q45, Value.int 0, Value.int 0, Value.int 0, Value.int 0])) : Nat × va_E) := by rw [e_ws58]; exact gs_ne (by decide) f_62_ws50
                clear f_62_ws50
                have f_62_ws60 : ws60[62]? = some ((q35, Sum.inr (9, [Value.ref q39, Value.ref q40, Value.ref q41, Value.ref q42, Value.ref q43, Value.ref q44, Value.ref q45, Value.int 0, Value.int 0, Value.int 0, Value.int 0])) : Nat × va_E) := by rw [e_ws60]; exact gs_app f_62_ws58
                clear f_62_ws58
                have f_62_ws61 : ws61[62]? = some ((q35, Sum.inr (9, [Value.ref q39, Value.ref q40, Value.ref q41, Value.ref q42, Value.ref q43, Value.ref q44, Value.ref q45, Value.int 0, Value.int 0, Value.int 0, Value.int 0])) : Nat × va_E) := by rw [e_ws61]; exact gs_ne (by decide) f_62_ws60
                clear f_62_ws60
                have f_62_ws63 : ws63[62]? = some ((q35, Sum.inr (9, [Value.ref q39, Value.ref q40, Value.ref q41, Value.ref q42, Value.ref q43, Value.ref q44, Value.ref q45, Value.int 0, Value.int 0, Value.int 0, Value.int 0])) : Nat × va_E) := by rw [e_ws63]; exact gs_app f_62_ws61
                clear f_62_ws61
                have f_62_ws64 : ws64[62]? = some ((q35, Sum.inr (9, [Value.ref q39, Value.ref q40, Value.ref q41, Value.ref q42, Value.ref q43, Value.ref q44, Value.ref q45, Value.int 0, Value.int 0, Value.int 0, Value.int 0])) : Nat × va_E) := by rw [e_ws64]; exact gs_ne (by decide) f_62_ws63
                clear f_62_ws63
                have f_62_ws65 : ws65[62]? = some ((q35, Sum.inr (9, [Value.ref q39, Value.ref q40, Value.ref q41, Value.ref q42, Value.ref q43, Value.ref q44, Value.ref q45, Value.int 0, Value.int 0, Value.int 0, Value.int 0])) : Nat × va_E) := by rw [e_ws65]; exact gs_ne (by decide) f_62_ws64
                clear f_62_ws64
                have f_62_ws66 : ws66[62]? = some ((q35, Sum.inr (9, [Value.ref q39, Value.ref q40, Value.ref q41, Value.ref q42, Value.ref q43, Value.ref q44, Value.ref q45, Value.int 0, Value.int 0, Value.int 0, Value.int 0])) : Nat × va_E) := by rw [e_ws66]; exact gs_ne (by decide) f_62_ws65
                clear f_62_ws65
                have f_62_ws72 : ws72[62]? = some ((q35, Sum.inr (9, [Value.ref q39, Value.ref q40, Value.ref q41, Value.ref q42, Value.ref q43, Value.ref q44, Value.ref q45, Value.int 0, Value.int 0, Value.int 0, Value.int 0])) : Nat × va_E) := by rw [e_ws72]; exact gs_app f_62_ws66
                clear f_62_ws66
                have f_62_ws73 : ws73[62]? = some ((q35, Sum.inr (9, [Value.ref q39, Value.ref q40, Value.ref q41, Value.ref q42, Value.ref q43, Value.ref q44, Value.ref q45, Value.int 0, Value.int 0, Value.int 0, Value.int 0])) : Nat × va_E) := by rw [e_ws73]; exact gs_app f_62_ws72
                clear f_62_ws72
                have f_62_ws74 : ws74[62]? = some ((q35, Sum.inr (9, [Value.ref q39, Value.ref q40, Value.ref q41, Value.ref q42, Value.ref q43, Value.ref q44, Value.ref q45, Value.int 0, Value.int 0, Value.int 0, Value.int 0])) : Nat × va_E) := by rw [e_ws74]; exact gs_app f_62_ws73
                clear f_62_ws73
                have f_62_ws75 : ws75[62]? = some ((q35, Sum.inr (9, [Value.ref q39, Value.ref q40, Value.ref q41, Value.ref q42, Value.ref q43, Value.ref q44, Value.ref q45, Value.int 0, Value.int 0, Value.int 0, Value.int 0])) : Nat × va_E) := by rw [e_ws75]; exact gs_app f_62_ws74
                clear f_62_ws74
                have f_62_ws76 : ws76[62]? = some ((q35, Sum.inr (9, [Value.ref q39, Value.ref q40, Value.ref q41, Value.ref q42, Value.ref q43, Value.ref q44, Value.ref q45, Value.int 0, Value.int 0, Value.int 0, Value.int 0])) : Nat × va_E) := by rw [e_ws76]; exact gs_app f_62_ws75
                clear f_62_ws75
                have f_62_ws77 : ws77[62]? = some ((q35, Sum.inr (9, [Value.ref q39, Value.ref q40, Value.ref q41, Value.ref q42, Value.ref q43, Value.ref q44, Value.ref q45, Value.int 0, Value.int 0, Value.int 0, Value.int 0])) : Nat × va_E) := by rw [e_ws77]; exact gs_ne (by decide) f_62_ws76
                clear f_62_ws76
                have f_62_ws79 : ws79[62]? = some ((q35, Sum.inr (9, [Value.ref q39, Value.ref q40, Value.ref q41, Value.ref q42, Value.ref q43, Value.ref q44, Value.ref q45, Value.int 0, Value.int 0, Value.int 0, Value.int 0])) : Nat × va_E) := by rw [e_ws79]; exact gs_app f_62_ws77
                clear f_62_ws77
                have f_62_ws80 : ws80[62]? = some ((q35, Sum.inr (9, [Value.ref q39, Value.ref q40, Value.ref q41, Value.ref q42, Value.ref q43, Value.ref q44, Value.ref q45, Value.int 0, Value.int 0, Value.int 0, Value.int 0])) : Nat × va_E) := by rw [e_ws80]; exact gs_ne (by decide) f_62_ws79
                clear f_62_ws79
                have f_62_ws82 : ws82[62]? = some ((q35, Sum.inr (9, [Value.ref q39, Value.ref q40, Value.ref q41, Value.ref q42, Value.ref q43, Value.ref q44, Value.ref q45, Value.int 0, Value.int 0, Value.int 0, Value.int 0])) : Nat × va_E) := by rw [e_ws82]; exact gs_app f_62_ws80
                clear f_62_ws80
                have f_62_ws83 : ws83[62]? = some ((q35, Sum.inr (9, [Value.ref q39, Value.ref q40, Value.ref q41, Value.ref q42, Value.ref q43, Value.ref q44, Value.ref q45, Value.int 0, Value.int 0, Value.int 0, Value.int 0])) : Nat × va_E) := by rw [e_ws83]; exact gs_ne (by decide) f_62_ws82
                clear f_62_ws82
                have f_62_ws85 : ws85[62]? = some ((q35, Sum.inr (9, [Value.ref q39, Value.ref q40, Value.ref q41, Value.ref q42, Value.ref q43, Value.ref q44, Value.ref q45, Value.int 0, Value.int 0, Value.int 0, Value.int 0])) : Nat × va_E) := by rw [e_ws85]; exact gs_app f_62_ws83
                clear f_62_ws83
                have f_62_ws86 : ws86[62]? = some ((q35, Sum.inr (9, [Value.ref q39, Value.ref q40, Value.ref q41, Value.ref q42, Value.ref q43, Value.ref q44, Value.ref q45, Value.int 0, Value.int 0, Value.int 0, Value.int 0])) : Nat × va_E) := by rw [e_ws86]; exact gs_ne (by decide) f_62_ws85
                clear f_62_ws85
                have f_62_ws88 : ws88[62]? = some ((q35, Sum.inr (9, [Value.ref q39, Value.ref q40, Value.ref q41, Value.ref q42, Value.ref q43, Value.ref q44, Value.ref q45, Value.int 0, Value.int 0, Value.int 0, Value.int 0])) : Nat × va_E) := by rw [e_ws88]; exact gs_app f_62_ws86
                clear f_62_ws86
                have f_62_ws90 : ws90[62]? = some ((q35, Sum.inr (9, [Value.ref q39, Value.ref q40, Value.ref q41, Value.ref q42, Value.ref q43, Value.ref q44, Value.ref q45, Value.int 0, Value.int 0, Value.int 0, Value.int 0])) : Nat × va_E) := by rw [e_ws90]; exact gs_app f_62_ws88
                clear f_62_ws88
                have f_62_ws92 : ws92[62]? = some ((q35, Sum.inr (9, [Value.ref q39, Value.ref q40, Value.ref q41, Value.ref q42, Value.ref q43, Value.ref q44, Value.ref q45, Value.int 0, Value.int 0, Value.int 0, Value.int 0])) : Nat × va_E) := e_ws92.at (by first | decide | (simp; done) | (simp; omega)) f_62_ws90
                clear f_62_ws90
                have f_62_ws100 : ws100[62]? = some ((q35, Sum.inr (9, [Value.ref q39, Value.ref q40, Value.ref q41, Value.ref q42, Value.ref q43, Value.ref q44, Value.ref q45, Value.int 0, Value.int 0, Value.int 0, Value.int 0])) : Nat × va_E) := by rw [e_ws100]; exact gs_ne (by decide) f_62_ws92
                clear f_62_ws92
                have f_62_ws102 : ws102[62]? = some ((q35, Sum.inr (9, [Value.ref q39, Value.ref q40, Value.ref q41, Value.ref q42, Value.ref q43, Value.ref q44, Value.ref q45, Value.int 0, Value.int 0, Value.int 0, Value.int 0])) : Nat × va_E) := by rw [e_ws102]; exact gs_app f_62_ws100
                clear f_62_ws100
                have f_62_ws104 : ws104[62]? = some ((q35, Sum.inr (9, [Value.ref q39, Value.ref q40, Value.ref q41, Value.ref q42, Value.ref q43, Value.ref q44, Value.ref q45, Value.int 0, Value.int 0, Value.int 0, Value.int 0])) : Nat × va_E) := e_ws104.at (by first | decide | (simp; done) | (simp; omega)) f_62_ws102
                clear f_62_ws102
                have f_62_ws112 : ws112[62]? = some ((q35, Sum.inr (9, [Value.ref q39, Value.ref q40, Value.ref q41, Value.ref q42, Value.ref q43, Value.ref q44, Value.ref q45, Value.int 0, Value.int 0, Value.int 0, Value.int 0])) : Nat × va_E) := by rw [e_ws112]; exact gs_ne (by decide) f_62_ws104
                clear f_62_ws104
                have f_62_ws114 : ws114[62]? = some ((q35, Sum.inr (9, [Value.ref q39, Value.ref q40, Value.ref q41, Value.ref q42, Value.ref q43, Value.ref q44, Value.ref q45, Value.int 0, Value.int 0, Value.int 0, Value.int 0])) : Nat × va_E) := by rw [e_ws114]; exact gs_app f_62_ws112
                clear f_62_ws112
                have f_62_ws116 : ws116[62]? = some ((q35, Sum.inr (9, [Value.ref q39, Value.ref q40, Value.ref q41, Value.ref q42, Value.ref q43, Value.ref q44, Value.ref q45, Value.int 0, Value.int 0, Value.int 0, Value.int 0])) : Nat × va_E) := e_ws116.at (by first | decide | (simp; done) | (simp; omega)) f_62_ws114
                clear f_62_ws114
                have f_62_ws124 : ws124[62]? = some ((q35, Sum.inr (9, [Value.ref q39, Value.ref q40, Value.ref q41, Value.ref q42, Value.ref q43, Value.ref q44, Value.ref q45, Value.int 0, Value.int 0, Value.int 0, Value.int 0])) : Nat × va_E) := by rw [e_ws124]; exact gs_ne (by decide) f_62_ws116
                clear f_62_ws116
                have f_62_ws126 : ws126[62]? = some ((q35, Sum.inr (9, [Value.ref q39, Value.ref q40, Value.ref q41, Value.ref q42, Value.ref q43, Value.ref q44, Value.ref q45, Value.int 0, Value.int 0, Value.int 0, Value.int 0])) : Nat × va_E) := by rw [e_ws126]; exact gs_app f_62_ws124
                clear f_62_ws124
                have f_62_ws128 : ws128[62]? = some ((q35, Sum.inr (9, [Value.ref q39, Value.ref q40, Value.ref q41, Value.ref q42, Value.ref q43, Value.ref q44, Value.ref q45, Value.int 0, Value.int 0, Value.int 0, Value.int 0])) : Nat × va_E) := e_ws128.at (by first | decide | (simp; done) | (simp; omega)) f_62_ws126
                clear f_62_ws126
                have f_62_ws136 : ws136[62]? = some ((q35, Sum.inr (9, [Value.ref q39, Value.ref q40, Value.ref q41, Value.ref q42, Value.ref q43, Value.ref q44, Value.ref q45, Value.int 0, Value.int 0, Value.int 0, Value.int 0])) : Nat × va_E) := by rw [e_ws136]; exact gs_ne (by decide) f_62_ws128
                clear f_62_ws128
                have f_62_ws137 : ws137[62]? = some ((q35, Sum.inr (9, [Value.ref q39, Value.ref q40, Value.ref q41, Value.ref q42, Value.ref q43, Value.ref q44, Value.ref q45, Value.int 0, Value.int 0, Value.int 0, Value.int 0])) : Nat × va_E) := by rw [e_ws137]; exact gs_ne (by decide) f_62_ws136
                clear f_62_ws136
                have f_63_ws46 : ws46[63]? = some ((q39, Sum.inl (cI, 4097, Sum.inl (fun _ => 0))) : Nat × va_E) := by rw [e_ws46]; exact gs_ne (by decide) f_63_ws38
                clear f_63_ws38
                have f_63_ws48 : ws48[63]? = some ((q39, Sum.inl (cI, 4097, Sum.inl (fun _ => 0))) : Nat × va_E) := by rw [e_ws48]; exact gs_app f_63_ws46
                clear f_63_ws46
                have f_63_ws50 : ws50[63]? = some ((q39, Sum.inl (cI, 4097, Sum.inl (fun _ => 0))) : Nat × va_E) := e_ws50.at (by first | decide | (simp; done) | (simp; omega)) f_63_ws48
                clear f_63_ws48
                have f_63_ws58 : ws58[63]? = some ((q39, Sum.inl (cI, 4097, Sum.inl (fun _ => 0))) : Nat × va_E) := by rw [e_ws58]; exact gs_ne (by decide) f_63_ws50
                clear f_63_ws50
                have f_63_ws60 : ws60[63]? = some ((q39, Sum.inl (cI, 4097, Sum.inl (fun _ => 0))) : Nat × va_E) := by rw [e_ws60]; exact gs_app f_63_ws58
                clear f_63_ws58
                have f_63_ws61 : ws61[63]? = some ((q39, Sum.inl (cI, 4097, Sum.inl (fun _ => 0))) : Nat × va_E) := by rw [e_ws61]; exact gs_ne (by decide) f_63_ws60
                clear f_63_ws60
                have f_63_ws63 : ws63[63]? = some ((q39, Sum.inl (cI, 4097, Sum.inl (fun _ => 0))) : Nat × va_E) := by rw [e_ws63]; exact gs_app f_63_ws61
                clear f_63_ws61
                have f_63_ws64 : ws64[63]? = some ((q39, Sum.inl (cI, 4097, Sum.inl (fun _ => 0))) : Nat × va_E) := by rw [e_ws64]; exact gs_ne (by decide) f_63_ws63
                clear f_63_ws63
                have f_63_ws65 : ws65[63]? = some ((q39, Sum.inl (cI, 4097, Sum.inl (fun _ => 0))) : Nat × va_E) := by rw [e_ws65]; exact gs_ne (by decide) f_63_ws64
                clear f_63_ws64
                have f_63_ws66 : ws66[63]? = some ((q39, Sum.inl (cI, 4097, Sum.inl (fun _ => 0))) : Nat × va_E) := by rw [e_ws66]; exact gs_ne (by decide) f_63_ws65
                clear f_63_ws65
                have f_63_ws72 : ws72[63]? = some ((q39, Sum.inl (cI, 4097, Sum.inl (fun _ => 0))) : Nat × va_E) := by rw [e_ws72]; exact gs_app f_63_ws66
                clear f_63_ws66
                have f_63_ws73 : ws73[63]? = some ((q39, Sum.inl (cI, 4097, Sum.inl (fun _ => 0))) : Nat × va_E) := by rw [e_ws73]; exact gs_app f_63_ws72
                clear f_63_ws72
                have f_63_ws74 : ws74[63]? = some ((q39, Sum.inl (cI, 4097, Sum.inl (fun _ => 0))) : Nat × va_E) := by rw [e_ws74]; exact gs_app f_63_ws73
                clear f_63_ws73
                have f_63_ws75 : ws75[63]? = some ((q39, Sum.inl (cI, 4097, Sum.inl (fun _ => 0))) : Nat × va_E) := by rw [e_ws75]; exact gs_app f_63_ws74
                clear f_63_ws74
                have f_63_ws76 : ws76[63]? = some ((q39, Sum.inl (cI, 4097, Sum.inl (fun _ => 0))) : Nat × va_E) := by rw [e_ws76]; exact gs_app f_63_ws75
                clear f_63_ws75
                have f_63_ws77 : ws77[63]? = some ((q39, Sum.inl (cI, 4097, Sum.inl (fun _ => 0))) : Nat × va_E) := by rw [e_ws77]; exact gs_ne (by decide) f_63_ws76
                clear f_63_ws76
                have f_63_ws79 : ws79[63]? = some ((q39, Sum.inl (cI, 4097, Sum.inl (fun _ => 0))) : Nat × va_E) := by rw [e_ws79]; exact gs_app f_63_ws77
                clear f_63_ws77
                have f_63_ws80 : ws80[63]? = some ((q39, Sum.inl (cI, 4097, Sum.inl (fun _ => 0))) : Nat × va_E) := by rw [e_ws80]; exact gs_ne (by decide) f_63_ws79
                clear f_63_ws79
                have f_63_ws82 : ws82[63]? = some ((q39, Sum.inl (cI, 4097, Sum.inl (fun _ => 0))) : Nat × va_E) := by rw [e_ws82]; exact gs_app f_63_ws80
                clear f_63_ws80
                have f_63_ws83 : ws83[63]? = some ((q39, Sum.inl (cI, 4097, Sum.inl (fun _ => 0))) : Nat × va_E) := by rw [e_ws83]; exact gs_ne (by decide) f_63_ws82
                clear f_63_ws82
                have f_63_ws85 : ws85[63]? = some ((q39, Sum.inl (cI, 4097, Sum.inl (fun _ => 0))) : Nat × va_E) := by rw [e_ws85]; exact gs_app f_63_ws83
                clear f_63_ws83
                have f_63_ws86 : ws86[63]? = some ((q39, Sum.inl (cI, 4097, Sum.inl (fun _ => 0))) : Nat × va_E) := by rw [e_ws86]; exact gs_ne (by decide) f_63_ws85
                clear f_63_ws85
                have f_63_ws88 : ws88[63]? = some ((q39, Sum.inl (cI, 4097, Sum.inl (fun _ => 0))) : Nat × va_E) := by rw [e_ws88]; exact gs_app f_63_ws86
                clear f_63_ws86
                have f_63_ws90 : ws90[63]? = some ((q39, Sum.inl (cI, 4097, Sum.inl (fun _ => 0))) : Nat × va_E) := by rw [e_ws90]; exact gs_app f_63_ws88
                clear f_63_ws88
                have f_63_ws92 : ws92[63]? = some ((q39, Sum.inl (cI, 4097, Sum.inl (fun _ => 0))) : Nat × va_E) := e_ws92.at (by first | decide | (simp; done) | (simp; omega)) f_63_ws90
                clear f_63_ws90
                have f_63_ws100 : ws100[63]? = some ((q39, Sum.inl (cI, 4097, Sum.inl (fun _ => 0))) : Nat × va_E) := by rw [e_ws100]; exact gs_ne (by decide) f_63_ws92
                clear f_63_ws92
                have f_63_ws102 : ws102[63]? = some ((q39, Sum.inl (cI, 4097, Sum.inl (fun _ => 0))) : Nat × va_E) := by rw [e_ws102]; exact gs_app f_63_ws100
                clear f_63_ws100
                have f_63_ws104 : ws104[63]? = some ((q39, Sum.inl (cI, 4097, Sum.inl (fun _ => 0))) : Nat × va_E) := e_ws104.at (by first | decide | (simp; done) | (simp; omega)) f_63_ws102
                clear f_63_ws102
                have f_63_ws112 : ws112[63]? = some ((q39, Sum.inl (cI, 4097, Sum.inl (fun _ => 0))) : Nat × va_E) := by rw [e_ws112]; exact gs_ne (by decide) f_63_ws104
                clear f_63_ws104
                have f_63_ws114 : ws114[63]? = some ((q39, Sum.inl (cI, 4097, Sum.inl (fun _ => 0))) : Nat × va_E) := by rw [e_ws114]; exact gs_app f_63_ws112
                clear f_63_ws112
                have f_63_ws116 : ws116[63]? = some ((q39, Sum.inl (cI, 4097, Sum.inl (fun _ => 0))) : Nat × va_E) := e_ws116.at (by first | decide | (simp; done) | (simp; omega)) f_63_ws114
                clear f_63_ws114
                have f_63_ws124 : ws124[63]? = some ((q39, Sum.inl (cI, 4097, Sum.inl (fun _ => 0))) : Nat × va_E) := by rw [e_ws124]; exact gs_ne (by decide) f_63_ws116
                clear f_63_ws116
                have f_63_ws126 : ws126[63]? = some ((q39, Sum.inl (cI, 4097, Sum.inl (fun _ => 0))) : Nat × va_E) := by rw [e_ws126]; exact gs_app f_63_ws124
                clear f_63_ws124
                have f_63_ws128 : ws128[63]? = some ((q39, Sum.inl (cI, 4097, Sum.inl (fun _ => 0))) : Nat × va_E) := e_ws128.at (by first | decide | (simp; done) | (simp; omega)) f_63_ws126
                clear f_63_ws126
                have f_63_ws136 : ws136[63]? = some ((q39, Sum.inl (cI, 4097, Sum.inl (fun _ => 0))) : Nat × va_E) := by rw [e_ws136]; exact gs_ne (by decide) f_63_ws128
                clear f_63_ws128
                have f_63_ws137 : ws137[63]? = some ((q39, Sum.inl (cI, 4097, Sum.inl (fun _ => 0))) : Nat × va_E) := by rw [e_ws137]; exact gs_ne (by decide) f_63_ws136
                clear f_63_ws136
                have f_64_ws46 : ws46[64]? = some ((q40, Sum.inl (cI, 4097, Sum.inl (fun _ => 0))) : Nat × va_E) := by rw [e_ws46]; exact gs_ne (by decide) f_64_ws38
                clear f_64_ws38
                have f_64_ws48 : ws48[64]? = some ((q40, Sum.inl (cI, 4097, Sum.inl (fun _ => 0))) : Nat × va_E) := by rw [e_ws48]; exact gs_app f_64_ws46
                clear f_64_ws46
                have f_64_ws50 : ws50[64]? = some ((q40, Sum.inl (cI, 4097, Sum.inl (fun _ => 0))) : Nat × va_E) := e_ws50.at (by first | decide | (simp; done) | (simp; omega)) f_64_ws48
                clear f_64_ws48
                have f_64_ws58 : ws58[64]? = some ((q40, Sum.inl (cI, 4097, Sum.inl (fun _ => 0))) : Nat × va_E) := by rw [e_ws58]; exact gs_ne (by decide) f_64_ws50
                clear f_64_ws50
                have f_64_ws60 : ws60[64]? = some ((q40, Sum.inl (cI, 4097, Sum.inl (fun _ => 0))) : Nat × va_E) := by rw [e_ws60]; exact gs_app f_64_ws58
                clear f_64_ws58
                have f_64_ws61 : ws61[64]? = some ((q40, Sum.inl (cI, 4097, Sum.inl (fun _ => 0))) : Nat × va_E) := by rw [e_ws61]; exact gs_ne (by decide) f_64_ws60
                clear f_64_ws60
                have f_64_ws63 : ws63[64]? = some ((q40, Sum.inl (cI, 4097, Sum.inl (fun _ => 0))) : Nat × va_E) := by rw [e_ws63]; exact gs_app f_64_ws61
                clear f_64_ws61
                have f_64_ws64 : ws64[64]? = some ((q40, Sum.inl (cI, 4097, Sum.inl (fun _ => 0))) : Nat × va_E) := by rw [e_ws64]; exact gs_ne (by decide) f_64_ws63
                clear f_64_ws63
                have f_64_ws65 : ws65[64]? = some ((q40, Sum.inl (cI, 4097, Sum.inl (fun _ => 0))) : Nat × va_E) := by rw [e_ws65]; exact gs_ne (by decide) f_64_ws64
                clear f_64_ws64
                have f_64_ws66 : ws66[64]? = some ((q40, Sum.inl (cI, 4097, Sum.inl (fun _ => 0))) : Nat × va_E) := by rw [e_ws66]; exact gs_ne (by decide) f_64_ws65
                clear f_64_ws65
                have f_64_ws72 : ws72[64]? = some ((q40, Sum.inl (cI, 4097, Sum.inl (fun _ => 0))) : Nat × va_E) := by rw [e_ws72]; exact gs_app f_64_ws66
                clear f_64_ws66
                have f_64_ws73 : ws73[64]? = some ((q40, Sum.inl (cI, 4097, Sum.inl (fun _ => 0))) : Nat × va_E) := by rw [e_ws73]; exact gs_app f_64_ws72
                clear f_64_ws72
                have f_64_ws74 : ws74[64]? = some ((q40, Sum.inl (cI, 4097, Sum.inl (fun _ => 0))) : Nat × va_E) := by rw [e_ws74]; exact gs_app f_64_ws73
                clear f_64_ws73
                have f_64_ws75 : ws75[64]? = some ((q40, Sum.inl (cI, 4097, Sum.inl (fun _ => 0))) : Nat × va_E) := by rw [e_ws75]; exact gs_app f_64_ws74
                clear f_64_ws74
                have f_64_ws76 : ws76[64]? = some ((q40, Sum.inl (cI, 4097, Sum.inl (fun _ => 0))) : Nat × va_E) := by rw [e_ws76]; exact gs_app f_64_ws75
                clear f_64_ws75
                have f_64_ws77 : ws77[64]? = some ((q40, Sum.inl (cI, 4097, Sum.inl (fun _ => 0))) : Nat × va_E) := by rw [e_ws77]; exact gs_ne (by decide) f_64_ws76
                clear f_64_ws76
                have f_64_ws79 : ws79[64]? = some ((q40, Sum.inl (cI, 4097, Sum.inl (fun _ => 0))) : Nat × va_E) := by rw [e_ws79]; exact gs_app f_64_ws77
                clear f_64_ws77
                have f_64_ws80 : ws80[64]? = some ((q40, Sum.inl (cI, 4097, Sum.inl (fun _ => 0))) : Nat × va_E) := by rw [e_ws80]; exact gs_ne (by decide) f_64_ws79
                clear f_64_ws79
                have f_64_ws82 : ws82[64]? = some ((q40, Sum.inl (cI, 4097, Sum.inl (fun _ => 0))) : Nat × va_E) := by rw [e_ws82]; exact gs_app f_64_ws80
                clear f_64_ws80
                have f_64_ws83 : ws83[64]? = some ((q40, Sum.inl (cI, 4097, Sum.inl (fun _ => 0))) : Nat × va_E) := by rw [e_ws83]; exact gs_ne (by decide) f_64_ws82
                clear f_64_ws82
                have f_64_ws85 : ws85[64]? = some ((q40, Sum.inl (cI, 4097, Sum.inl (fun _ => 0))) : Nat × va_E) := by rw [e_ws85]; exact gs_app f_64_ws83
                clear f_64_ws83
                have f_64_ws86 : ws86[64]? = some ((q40, Sum.inl (cI, 4097, Sum.inl (fun _ => 0))) : Nat × va_E) := by rw [e_ws86]; exact gs_ne (by decide) f_64_ws85
                clear f_64_ws85
                have f_64_ws88 : ws88[64]? = some ((q40, Sum.inl (cI, 4097, Sum.inl (fun _ => 0))) : Nat × va_E) := by rw [e_ws88]; exact gs_app f_64_ws86
                clear f_64_ws86
                have f_64_ws90 : ws90[64]? = some ((q40, Sum.inl (cI, 4097, Sum.inl (fun _ => 0))) : Nat × va_E) := by rw [e_ws90]; exact gs_app f_64_ws88
                clear f_64_ws88
                have f_64_ws92 : ws92[64]? = some ((q40, Sum.inl (cI, 4097, Sum.inl (fun _ => 0))) : Nat × va_E) := e_ws92.at (by first | decide | (simp; done) | (simp; omega)) f_64_ws90
                clear f_64_ws90
                have f_64_ws100 : ws100[64]? = some ((q40, Sum.inl (cI, 4097, Sum.inl (fun _ => 0))) : Nat × va_E) := by rw [e_ws100]; exact gs_ne (by decide) f_64_ws92
                clear f_64_ws92
                have f_64_ws102 : ws102[64]? = some ((q40, Sum.inl (cI, 4097, Sum.inl (fun _ => 0))) : Nat × va_E) := by rw [e_ws102]; exact gs_app f_64_ws100
                clear f_64_ws100
                have f_64_ws104 : ws104[64]? = some ((q40, Sum.inl (cI, 4097, Sum.inl (fun _ => 0))) : Nat × va_E) := e_ws104.at (by first | decide | (simp; done) | (simp; omega)) f_64_ws102
                clear f_64_ws102
                have f_64_ws112 : ws112[64]? = some ((q40, Sum.inl (cI, 4097, Sum.inl (fun _ => 0))) : Nat × va_E) := by rw [e_ws112]; exact gs_ne (by decide) f_64_ws104
                clear f_64_ws104
                have f_64_ws114 : ws114[64]? = some ((q40, Sum.inl (cI, 4097, Sum.inl (fun _ => 0))) : Nat × va_E) := by rw [e_ws114]; exact gs_app f_64_ws112
                clear f_64_ws112
                have f_64_ws116 : ws116[64]? = some ((q40, Sum.inl (cI, 4097, Sum.inl (fun _ => 0))) : Nat × va_E) := e_ws116.at (by first | decide | (simp; done) | (simp; omega)) f_64_ws114
                clear f_64_ws114
                have f_64_ws124 : ws124[64]? = some ((q40, Sum.inl (cI, 4097, Sum.inl (fun _ => 0))) : Nat × va_E) := by rw [e_ws124]; exact gs_ne (by decide) f_64_ws116
                clear f_64_ws116
                have f_64_ws126 : ws126[64]? = some ((q40, Sum.inl (cI, 4097, Sum.inl (fun _ => 0))) : Nat × va_E) := by rw [e_ws126]; exact gs_app f_64_ws124
                clear f_64_ws124
                have f_64_ws128 : ws128[64]? = some ((q40, Sum.inl (cI, 4097, Sum.inl (fun _ => 0))) : Nat × va_E) := e_ws128.at (by first | decide | (simp; done) | (simp; omega)) f_64_ws126
                clear f_64_ws126
                have f_64_ws136 : ws136[64]? = some ((q40, Sum.inl (cI, 4097, Sum.inl (fun _ => 0))) : Nat × va_E) := by rw [e_ws136]; exact gs_ne (by decide) f_64_ws128
                clear f_64_ws128
                have f_64_ws137 : ws137[64]? = some ((q40, Sum.inl (cI, 4097, Sum.inl (fun _ => 0))) : Nat × va_E) := by rw [e_ws137]; exact gs_ne (by decide) f_64_ws136
                clear f_64_ws136
                have f_65_ws46 : ws46[65]? = some ((q41, Sum.inl (cI, 4098, Sum.inl (fun _ => 0))) : Nat × va_E) := by rw [e_ws46]; exact gs_ne (by decide) f_65_ws38
                clear f_65_ws38
                have f_65_ws48 : ws48[65]? = some ((q41, Sum.inl (cI, 4098, Sum.inl (fun _ => 0))) : Nat × va_E) := by rw [e_ws48]; exact gs_app f_65_ws46
                clear f_65_ws46
                have f_65_ws50 : ws50[65]? = some ((q41, Sum.inl (cI, 4098, Sum.inl (fun _ => 0))) : Nat × va_E) := e_ws50.at (by first | decide | (simp; done) | (simp; omega)) f_65_ws48
                clear f_65_ws48
                have f_65_ws58 : ws58[65]? = some ((q41, Sum.inl (cI, 4098, Sum.inl (fun _ => 0))) : Nat × va_E) := by rw [e_ws58]; exact gs_ne (by decide) f_65_ws50
                clear f_65_ws50
                have f_65_ws60 : ws60[65]? = some ((q41, Sum.inl (cI, 4098, Sum.inl (fun _ => 0))) : Nat × va_E) := by rw [e_ws60]; exact gs_app f_65_ws58
                clear f_65_ws58
                have f_65_ws61 : ws61[65]? = some ((q41, Sum.inl (cI, 4098, Sum.inl (fun _ => 0))) : Nat × va_E) := by rw [e_ws61]; exact gs_ne (by decide) f_65_ws60
                clear f_65_ws60
                have f_65_ws63 : ws63[65]? = some ((q41, Sum.inl (cI, 4098, Sum.inl (fun _ => 0))) : Nat × va_E) := by rw [e_ws63]; exact gs_app f_65_ws61
                clear f_65_ws61
                have f_65_ws64 : ws64[65]? = some ((q41, Sum.inl (cI, 4098, Sum.inl (fun _ => 0))) : Nat × va_E) := by rw [e_ws64]; exact gs_ne (by decide) f_65_ws63
                clear f_65_ws63
                have f_65_ws65 : ws65[65]? = some ((q41, Sum.inl (cI, 4098, Sum.inl (fun _ => 0))) : Nat × va_E) := by rw [e_ws65]; exact gs_ne (by decide) f_65_ws64
                clear f_65_ws64
                have f_65_ws66 : ws66[65]? = some ((q41, Sum.inl (cI, 4098, Sum.inl (fun _ => 0))) : Nat × va_E) := by rw [e_ws66]; exact gs_ne (by decide) f_65_ws65
                clear f_65_ws65
                have f_65_ws72 : ws72[65]? = some ((q41, Sum.inl (cI, 4098, Sum.inl (fun _ => 0))) : Nat × va_E) := by rw [e_ws72]; exact gs_app f_65_ws66
                clear f_65_ws66
                have f_65_ws73 : ws73[65]? = some ((q41, Sum.inl (cI, 4098, Sum.inl (fun _ => 0))) : Nat × va_E) := by rw [e_ws73]; exact gs_app f_65_ws72
                clear f_65_ws72
                have f_65_ws74 : ws74[65]? = some ((q41, Sum.inl (cI, 4098, Sum.inl (fun _ => 0))) : Nat × va_E) := by rw [e_ws74]; exact gs_app f_65_ws73
                clear f_65_ws73
                have f_65_ws75 : ws75[65]? = some ((q41, Sum.inl (cI, 4098, Sum.inl (fun _ => 0))) : Nat × va_E) := by rw [e_ws75]; exact gs_app f_65_ws74
                clear f_65_ws74
                have f_65_ws76 : ws76[65]? = some ((q41, Sum.inl (cI, 4098, Sum.inl (fun _ => 0))) : Nat × va_E) := by rw [e_ws76]; exact gs_app f_65_ws75
                clear f_65_ws75
                have f_65_ws77 : ws77[65]? = some ((q41, Sum.inl (cI, 4098, Sum.inl (fun _ => 0))) : Nat × va_E) := by rw [e_ws77]; exact gs_ne (by decide) f_65_ws76
                clear f_65_ws76
                have f_65_ws79 : ws79[65]? = some ((q41, Sum.inl (cI, 4098, Sum.inl (fun _ => 0))) : Nat × va_E) := by rw [e_ws79]; exact gs_app f_65_ws77
                clear f_65_ws77
                have f_65_ws80 : ws80[65]? = some ((q41, Sum.inl (cI, 4098, Sum.inl (fun _ => 0))) : Nat × va_E) := by rw [e_ws80]; exact gs_ne (by decide) f_65_ws79
                clear f_65_ws79
                have f_65_ws82 : ws82[65]? = some ((q41, Sum.inl (cI, 4098, Sum.inl (fun _ => 0))) : Nat × va_E) := by rw [e_ws82]; exact gs_app f_65_ws80
                clear f_65_ws80
                have f_65_ws83 : ws83[65]? = some ((q41, Sum.inl (cI, 4098, Sum.inl (fun _ => 0))) : Nat × va_E) := by rw [e_ws83]; exact gs_ne (by decide) f_65_ws82
                clear f_65_ws82
                have f_65_ws85 : ws85[65]? = some ((q41, Sum.inl (cI, 4098, Sum.inl (fun _ => 0))) : Nat × va_E) := by rw [e_ws85]; exact gs_app f_65_ws83
                clear f_65_ws83
                have f_65_ws86 : ws86[65]? = some ((q41, Sum.inl (cI, 4098, Sum.inl (fun _ => 0))) : Nat × va_E) := by rw [e_ws86]; exact gs_ne (by decide) f_65_ws85
                clear f_65_ws85
                have f_65_ws88 : ws88[65]? = some ((q41, Sum.inl (cI, 4098, Sum.inl (fun _ => 0))) : Nat × va_E) := by rw [e_ws88]; exact gs_app f_65_ws86
                clear f_65_ws86
                have f_65_ws90 : ws90[65]? = some ((q41, Sum.inl (cI, 4098, Sum.inl (fun _ => 0))) : Nat × va_E) := by rw [e_ws90]; exact gs_app f_65_ws88
                clear f_65_ws88
                have f_65_ws92 : ws92[65]? = some ((q41, Sum.inl (cI, 4098, Sum.inl (fun _ => 0))) : Nat × va_E) := e_ws92.at (by first | decide | (simp; done) | (simp; omega)) f_65_ws90
                clear f_65_ws90
                have f_65_ws100 : ws100[65]? = some ((q41, Sum.inl (cI, 4098, Sum.inl (fun _ => 0))) : Nat × va_E) := by rw [e_ws100]; exact gs_ne (by decide) f_65_ws92
                clear f_65_ws92
                have f_65_ws102 : ws102[65]? = some ((q41, Sum.inl (cI, 4098, Sum.inl (fun _ => 0))) : Nat × va_E) := by rw [e_ws102]; exact gs_app f_65_ws100
                clear f_65_ws100
                have f_65_ws104 : ws104[65]? = some ((q41, Sum.inl (cI, 4098, Sum.inl (fun _ => 0))) : Nat × va_E) := e_ws104.at (by first | decide | (simp; done) | (simp; omega)) f_65_ws102
                clear f_65_ws102
                have f_65_ws112 : ws112[65]? = some ((q41, Sum.inl (cI, 4098, Sum.inl (fun _ => 0))) : Nat × va_E) := by rw [e_ws112]; exact gs_ne (by decide) f_65_ws104
                clear f_65_ws104
                have f_65_ws114 : ws114[65]? = some ((q41, Sum.inl (cI, 4098, Sum.inl (fun _ => 0))) : Nat × va_E) := by rw [e_ws114]; exact gs_app f_65_ws112
                clear f_65_ws112
                have f_65_ws116 : ws116[65]? = some ((q41, Sum.inl (cI, 4098, Sum.inl (fun _ => 0))) : Nat × va_E) := e_ws116.at (by first | decide | (simp; done) | (simp; omega)) f_65_ws114
                clear f_65_ws114
                have f_65_ws124 : ws124[65]? = some ((q41, Sum.inl (cI, 4098, Sum.inl (fun _ => 0))) : Nat × va_E) := by rw [e_ws124]; exact gs_ne (by decide) f_65_ws116
                clear f_65_ws116
                have f_65_ws126 : ws126[65]? = some ((q41, Sum.inl (cI, 4098, Sum.inl (fun _ => 0))) : Nat × va_E) := by rw [e_ws126]; exact gs_app f_65_ws124
                clear f_65_ws124
                have f_65_ws128 : ws128[65]? = some ((q41, Sum.inl (cI, 4098, Sum.inl (fun _ => 0))) : Nat × va_E) := e_ws128.at (by first | decide | (simp; done) | (simp; omega)) f_65_ws126
                clear f_65_ws126
                have f_65_ws136 : ws136[65]? = some ((q41, Sum.inl (cI, 4098, Sum.inl (fun _ => 0))) : Nat × va_E) := by rw [e_ws136]; exact gs_ne (by decide) f_65_ws128
                clear f_65_ws128
                have f_65_ws137 : ws137[65]? = some ((q41, Sum.inl (cI, 4098, Sum.inl (fun _ => 0))) : Nat × va_E) := by rw [e_ws137]; exact gs_ne (by decide) f_65_ws136
                clear f_65_ws136
                have f_66_ws46 : ws46[66]? = some ((q42, Sum.inl (cI, 4097, Sum.inl (fun _ => 0))) : Nat × va_E) := by rw [e_ws46]; exact gs_ne (by decide) f_66_ws38
                clear f_66_ws38
                have f_66_ws48 : ws48[66]? = some ((q42, Sum.inl (cI, 4097, Sum.inl (fun _ => 0))) : Nat × va_E) := by rw [e_ws48]; exact gs_app f_66_ws46
                clear f_66_ws46
                have f_66_ws50 : ws50[66]? = some ((q42, Sum.inl (cI, 4097, Sum.inl (fun _ => 0))) : Nat × va_E) := e_ws50.at (by first | decide | (simp; done) | (simp; omega)) f_66_ws48
                clear f_66_ws48
                have f_66_ws58 : ws58[66]? = some ((q42, Sum.inl (cI, 4097, Sum.inl (fun _ => 0))) : Nat × va_E) := by rw [e_ws58]; exact gs_ne (by decide) f_66_ws50
                clear f_66_ws50
                have f_66_ws60 : ws60[66]? = some ((q42, Sum.inl (cI, 4097, Sum.inl (fun _ => 0))) : Nat × va_E) := by rw [e_ws60]; exact gs_app f_66_ws58
                clear f_66_ws58
                have f_66_ws61 : ws61[66]? = some ((q42, Sum.inl (cI, 4097, Sum.inl (fun _ => 0))) : Nat × va_E) := by rw [e_ws61]; exact gs_ne (by decide) f_66_ws60
                clear f_66_ws60
                have f_66_ws63 : ws63[66]? = some ((q42, Sum.inl (cI, 4097, Sum.inl (fun _ => 0))) : Nat × va_E) := by rw [e_ws63]; exact gs_app f_66_ws61
                clear f_66_ws61
                have f_66_ws64 : ws64[66]? = some ((q42, Sum.inl (cI, 4097, Sum.inl (fun _ => 0))) : Nat × va_E) := by rw [e_ws64]; exact gs_ne (by decide) f_66_ws63
                clear f_66_ws63
                have f_66_ws65 : ws65[66]? = some ((q42, Sum.inl (cI, 4097, Sum.inl (fun _ => 0))) : Nat × va_E) := by rw [e_ws65]; exact gs_ne (by decide) f_66_ws64
                clear f_66_ws64
                have f_66_ws66 : ws66[66]? = some ((q42, Sum.inl (cI, 4097, Sum.inl (fun _ => 0))) : Nat × va_E) := by rw [e_ws66]; exact gs_ne (by decide) f_66_ws65
                clear f_66_ws65
                have f_66_ws72 : ws72[66]? = some ((q42, Sum.inl (cI, 4097, Sum.inl (fun _ => 0))) : Nat × va_E) := by rw [e_ws72]; exact gs_app f_66_ws66
                clear f_66_ws66
                have f_66_ws73 : ws73[66]? = some ((q42, Sum.inl (cI, 4097, Sum.inl (fun _ => 0))) : Nat × va_E) := by rw [e_ws73]; exact gs_app f_66_ws72
                clear f_66_ws72
                have f_66_ws74 : ws74[66]? = some ((q42, Sum.inl (cI, 4097, Sum.inl (fun _ => 0))) : Nat × va_E) := by rw [e_ws74]; exact gs_app f_66_ws73
                clear f_66_ws73
                have f_66_ws75 : ws75[66]? = some ((q42, Sum.inl (cI, 4097, Sum.inl (fun _ => 0))) : Nat × va_E) := by rw [e_ws75]; exact gs_app f_66_ws74
                clear f_66_ws74
                have f_66_ws76 : ws76[66]? = some ((q42, Sum.inl (cI, 4097, Sum.inl (fun _ => 0))) : Nat × va_E) := by rw [e_ws76]; exact gs_app f_66_ws75
                clear f_66_ws75
                have f_66_ws77 : ws77[66]? = some ((q42, Sum.inl (cI, 4097, Sum.inl (fun _ => 0))) : Nat × va_E) := by rw [e_ws77]; exact gs_ne (by decide) f_66_ws76
                clear f_66_ws76
                have f_66_ws79 : ws79[66]? = some ((q42, Sum.inl (cI, 4097, Sum.inl (fun _ => 0))) : Nat × va_E) := by rw [e_ws79]; exact gs_app f_66_ws77
                clear f_66_ws77
                have f_66_ws80 : ws80[66]? = some ((q42, Sum.inl (cI, 4097, Sum.inl (fun _ => 0))) : Nat × va_E) := by rw [e_ws80]; exact gs_ne (by decide) f_66_ws79
                clear f_66_ws79
                have f_66_ws82 : ws82[66]? = some ((q42, Sum.inl (cI, 4097, Sum.inl (fun _ => 0))) : Nat × va_E) := by rw [e_ws82]; exact gs_app f_66_ws80
                clear f_66_ws80
                have f_66_ws83 : ws83[66]? = some ((q42, Sum.inl (cI, 4097, Sum.inl (fun _ => 0))) : Nat × va_E) := by rw [e_ws83]; exact gs_ne (by decide) f_66_ws82
                clear f_66_ws82
                have f_66_ws85 : ws85[66]? = some ((q42, Sum.inl (cI, 4097, Sum.inl (fun _ => 0))) : Nat × va_E) := by rw [e_ws85]; exact gs_app f_66_ws83
                clear f_66_ws83
                have f_66_ws86 : ws86[66]? = some ((q42, Sum.inl (cI, 4097, Sum.inl (fun _ => 0))) : Nat × va_E) := by rw [e_ws86]; exact gs_ne (by decide) f_66_ws85
                clear f_66_ws85
                have f_66_ws88 : ws88[66]? = some ((q42, Sum.inl (cI, 4097, Sum.inl (fun _ => 0))) : Nat × va_E) := by rw [e_ws88]; exact gs_app f_66_ws86
                clear f_66_ws86
                have f_66_ws90 : ws90[66]? = some ((q42, Sum.inl (cI, 4097, Sum.inl (fun _ => 0))) : Nat × va_E) := by rw [e_ws90]; exact gs_app f_66_ws88
                clear f_66_ws88
                have f_66_ws92 : ws92[66]? = some ((q42, Sum.inl (cI, 4097, Sum.inl (fun _ => 0))) : Nat × va_E) := e_ws92.at (by first | decide | (simp; done) | (simp; omega)) f_66_ws90
                clear f_66_ws90
                have f_66_ws100 : ws100[66]? = some ((q42, Sum.inl (cI, 4097, Sum.inl (fun _ => 0))) : Nat × va_E) := by rw [e_ws100]; exact gs_ne (by decide) f_66_ws92
                clear f_66_ws92
                have f_66_ws102 : ws102[66]? = some ((q42, Sum.inl (cI, 4097, Sum.inl (fun _ => 0))) : Nat × va_E) := by rw [e_ws102]; exact gs_app f_66_ws100
                clear f_66_ws100
                have f_66_ws104 : ws104[66]? = some ((q42, Sum.inl (cI, 4097, Sum.inl (fun _ => 0))) : Nat × va_E) := e_ws104.at (by first | decide | (simp; done) | (simp; omega)) f_66_ws102
                clear f_66_ws102
                have f_66_ws112 : ws112[66]? = some ((q42, Sum.inl (cI, 4097, Sum.inl (fun _ => 0))) : Nat × va_E) := by rw [e_ws112]; exact gs_ne (by decide) f_66_ws104
                clear f_66_ws104
                have f_66_ws114 : ws114[66]? = some ((q42, Sum.inl (cI, 4097, Sum.inl (fun _ => 0))) : Nat × va_E) := by rw [e_ws114]; exact gs_app f_66_ws112
                clear f_66_ws112
                have f_66_ws116 : ws116[66]? = some ((q42, Sum.inl (cI, 4097, Sum.inl (fun _ => 0))) : Nat × va_E) := e_ws116.at (by first | decide | (simp; done) | (simp; omega)) f_66_ws114
                clear f_66_ws114
                have f_66_ws124 : ws124[66]? = some ((q42, Sum.inl (cI, 4097, Sum.inl (fun _ => 0))) : Nat × va_E) := by rw [e_ws124]; exact gs_ne (by decide) f_66_ws116
                clear f_66_ws116
                have f_66_ws126 : ws126[66]? = some ((q42, Sum.inl (cI, 4097, Sum.inl (fun _ => 0))) : Nat × va_E) := by rw [e_ws126]; exact gs_app f_66_ws124
                clear f_66_ws124
                have f_66_ws128 : ws128[66]? = some ((q42, Sum.inl (cI, 4097, Sum.inl (fun _ => 0))) : Nat × va_E) := e_ws128.at (by first | decide | (simp; done) | (simp; omega)) f_66_ws126
                clear f_66_ws126
                have f_66_ws136 : ws136[66]? = some ((q42, Sum.inl (cI, 4097, Sum.inl (fun _ => 0))) : Nat × va_E) := by rw [e_ws136]; exact gs_ne (by decide) f_66_ws128
                clear f_66_ws128
                have f_66_ws137 : ws137[66]? = some ((q42, Sum.inl (cI, 4097, Sum.inl (fun _ => 0))) : Nat × va_E) := by rw [e_ws137]; exact gs_ne (by decide) f_66_ws136
                clear f_66_ws136
                have f_67_ws46 : ws46[67]? = some ((q43, Sum.inl (cI, 4096, Sum.inl (fun _ => 0))) : Nat × va_E) := by rw [e_ws46]; exact gs_ne (by decide) f_67_ws38
                clear f_67_ws38
                have f_67_ws48 : ws48[67]? = some ((q43, Sum.inl (cI, 4096, Sum.inl (fun _ => 0))) : Nat × va_E) := by rw [e_ws48]; exact gs_app f_67_ws46
                clear f_67_ws46
                have f_67_ws50 : ws50[67]? = some ((q43, Sum.inl (cI, 4096, Sum.inl (fun _ => 0))) : Nat × va_E) := e_ws50.at (by first | decide | (simp; done) | (simp; omega)) f_67_ws48
                clear f_67_ws48
                have f_67_ws58 : ws58[67]? = some ((q43, Sum.inl (cI, 4096, Sum.inl (fun _ => 0))) : Nat × va_E) := by rw [e_ws58]; exact gs_ne (by decide) f_67_ws50
                clear f_67_ws50
                have f_67_ws60 : ws60[67]? = some ((q43, Sum.inl (cI, 4096, Sum.inl (fun _ => 0))) : Nat × va_E) := by rw [e_ws60]; exact gs_app f_67_ws58
                clear f_67_ws58
                have f_67_ws61 : ws61[67]? = some ((q43, Sum.inl (cI, 4096, Sum.inl (fun _ => 0))) : Nat × va_E) := by rw [e_ws61]; exact gs_ne (by decide) f_67_ws60
                clear f_67_ws60
                have f_67_ws63 : ws63[67]? = some ((q43, Sum.inl (cI, 4096, Sum.inl (fun _ => 0))) : Nat × va_E) := by rw [e_ws63]; exact gs_app f_67_ws61
                clear f_67_ws61
                have f_67_ws64 : ws64[67]? = some ((q43, Sum.inl (cI, 4096, Sum.inl (fun _ => 0))) : Nat × va_E) := by rw [e_ws64]; exact gs_ne (by decide) f_67_ws63
                clear f_67_ws63
                have f_67_ws65 : ws65[67]? = some ((q43, Sum.inl (cI, 4096, Sum.inl (fun _ => 0))) : Nat × va_E) := by rw [e_ws65]; exact gs_ne (by decide) f_67_ws64
                clear f_67_ws64
                have f_67_ws66 : ws66[67]? = some ((q43, Sum.inl (cI, 4096, Sum.inl (fun _ => 0))) : Nat × va_E) := by rw [e_ws66]; exact gs_ne (by decide) f_67_ws65
                clear f_67_ws65
                have f_67_ws72 : ws72[67]? = some ((q43, Sum.inl (cI, 4096, Sum.inl (fun _ => 0))) : Nat × va_E) := by rw [e_ws72]; exact gs_app f_67_ws66
                clear f_67_ws66
                have f_67_ws73 : ws73[67]? = some ((q43, Sum.inl (cI, 4096, Sum.inl (fun _ => 0))) : Nat × va_E) := by rw [e_ws73]; exact gs_app f_67_ws72
                clear f_67_ws72
                have f_67_ws74 : ws74[67]? = some ((q43, Sum.inl (cI, 4096, Sum.inl (fun _ => 0))) : Nat × va_E) := by rw [e_ws74]; exact gs_app f_67_ws73
                clear f_67_ws73
                have f_67_ws75 : ws75[67]? = some ((q43, Sum.inl (cI, 4096, Sum.inl (fun _ => 0))) : Nat × va_E) := by rw [e_ws75]; exact gs_app f_67_ws74
                clear f_67_ws74
                have f_67_ws76 : ws76[67]? = some ((q43, Sum.inl (cI, 4096, Sum.inl (fun _ => 0))) : Nat × va_E) := by rw [e_ws76]; exact gs_app f_67_ws75
                clear f_67_ws75
                have f_67_ws77 : ws77[67]? = some ((q43, Sum.inl (cI, 4096, Sum.inl (fun _ => 0))) : Nat × va_E) := by rw [e_ws77]; exact gs_ne (by decide) f_67_ws76
                clear f_67_ws76
                have f_67_ws79 : ws79[67]? = some ((q43, Sum.inl (cI, 4096, Sum.inl (fun _ => 0))) : Nat × va_E) := by rw [e_ws79]; exact gs_app f_67_ws77
                clear f_67_ws77
                have f_67_ws80 : ws80[67]? = some ((q43, Sum.inl (cI, 4096, Sum.inl (fun _ => 0))) : Nat × va_E) := by rw [e_ws80]; exact gs_ne (by decide) f_67_ws79
                clear f_67_ws79
                have f_67_ws82 : ws82[67]? = some ((q43, Sum.inl (cI, 4096, Sum.inl (fun _ => 0))) : Nat × va_E) := by rw [e_ws82]; exact gs_app f_67_ws80
                clear f_67_ws80
                have f_67_ws83 : ws83[67]? = some ((q43, Sum.inl (cI, 4096, Sum.inl (fun _ => 0))) : Nat × va_E) := by rw [e_ws83]; exact gs_ne (by decide) f_67_ws82
                clear f_67_ws82
                have f_67_ws85 : ws85[67]? = some ((q43, Sum.inl (cI, 4096, Sum.inl (fun _ => 0))) : Nat × va_E) := by rw [e_ws85]; exact gs_app f_67_ws83
                clear f_67_ws83
                have f_67_ws86 : ws86[67]? = some ((q43, Sum.inl (cI, 4096, Sum.inl (fun _ => 0))) : Nat × va_E) := by rw [e_ws86]; exact gs_ne (by decide) f_67_ws85
                clear f_67_ws85
                have f_67_ws88 : ws88[67]? = some ((q43, Sum.inl (cI, 4096, Sum.inl (fun _ => 0))) : Nat × va_E) := by rw [e_ws88]; exact gs_app f_67_ws86
                clear f_67_ws86
                have f_67_ws90 : ws90[67]? = some ((q43, Sum.inl (cI, 4096, Sum.inl (fun _ => 0))) : Nat × va_E) := by rw [e_ws90]; exact gs_app f_67_ws88
                clear f_67_ws88
                have f_67_ws92 : ws92[67]? = some ((q43, Sum.inl (cI, 4096, Sum.inl (fun _ => 0))) : Nat × va_E) := e_ws92.at (by first | decide | (simp; done) | (simp; omega)) f_67_ws90
                clear f_67_ws90
                have f_67_ws100 : ws100[67]? = some ((q43, Sum.inl (cI, 4096, Sum.inl (fun _ => 0))) : Nat × va_E) := by rw [e_ws100]; exact gs_ne (by decide) f_67_ws92
                clear f_67_ws92
                have f_67_ws102 : ws102[67]? = some ((q43, Sum.inl (cI, 4096, Sum.inl (fun _ => 0))) : Nat × va_E) := by rw [e_ws102]; exact gs_app f_67_ws100
                clear f_67_ws100
                have f_67_ws104 : ws104[67]? = some ((q43, Sum.inl (cI, 4096, Sum.inl (fun _ => 0))) : Nat × va_E) := e_ws104.at (by first | decide | (simp; done) | (simp; omega)) f_67_ws102
                clear f_67_ws102
                have f_67_ws112 : ws112[67]? = some ((q43, Sum.inl (cI, 4096, Sum.inl (fun _ => 0))) : Nat × va_E) := by rw [e_ws112]; exact gs_ne (by decide) f_67_ws104
                clear f_67_ws104
                have f_67_ws114 : ws114[67]? = some ((q43, Sum.inl (cI, 4096, Sum.inl (fun _ => 0))) : Nat × va_E) := by rw [e_ws114]; exact gs_app f_67_ws112
                clear f_67_ws112
                have f_67_ws116 : ws116[67]? = some ((q43, Sum.inl (cI, 4096, Sum.inl (fun _ => 0))) : Nat × va_E) := e_ws116.at (by first | decide | (simp; done) | (simp; omega)) f_67_ws114
                clear f_67_ws114
                have f_67_ws124 : ws124[67]? = some ((q43, Sum.inl (cI, 4096, Sum.inl (fun _ => 0))) : Nat × va_E) := by rw [e_ws124]; exact gs_ne (by decide) f_67_ws116
                clear f_67_ws116
                have f_67_ws126 : ws126[67]? = some ((q43, Sum.inl (cI, 4096, Sum.inl (fun _ => 0))) : Nat × va_E) := by rw [e_ws126]; exact gs_app f_67_ws124
                clear f_67_ws124
                have f_67_ws128 : ws128[67]? = some ((q43, Sum.inl (cI, 4096, Sum.inl (fun _ => 0))) : Nat × va_E) := e_ws128.at (by first | decide | (simp; done) | (simp; omega)) f_67_ws126
                clear f_67_ws126
                have f_67_ws136 : ws136[67]? = some ((q43, Sum.inl (cI, 4096, Sum.inl (fun _ => 0))) : Nat × va_E) := by rw [e_ws136]; exact gs_ne (by decide) f_67_ws128
                clear f_67_ws128
                have f_67_ws137 : ws137[67]? = some ((q43, Sum.inl (cI, 4096, Sum.inl (fun _ => 0))) : Nat × va_E) := by rw [e_ws137]; exact gs_ne (by decide) f_67_ws136
                clear f_67_ws136
                have f_68_ws46 : ws46[68]? = some ((q44, Sum.inl (cZ, 4096, Sum.inl (fun _ => 0))) : Nat × va_E) := by rw [e_ws46]; exact gs_ne (by decide) f_68_ws38
                clear f_68_ws38
                have f_68_ws48 : ws48[68]? = some ((q44, Sum.inl (cZ, 4096, Sum.inl (fun _ => 0))) : Nat × va_E) := by rw [e_ws48]; exact gs_app f_68_ws46
                clear f_68_ws46
                have f_68_ws50 : ws50[68]? = some ((q44, Sum.inl (cZ, 4096, Sum.inl (fun _ => 0))) : Nat × va_E) := e_ws50.at (by first | decide | (simp; done) | (simp; omega)) f_68_ws48
                clear f_68_ws48
                have f_68_ws58 : ws58[68]? = some ((q44, Sum.inl (cZ, 4096, Sum.inl (fun _ => 0))) : Nat × va_E) := by rw [e_ws58]; exact gs_ne (by decide) f_68_ws50
                clear f_68_ws50
                have f_68_ws60 : ws60[68]? = some ((q44, Sum.inl (cZ, 4096, Sum.inl (fun _ => 0))) : Nat × va_E) := by rw [e_ws60]; exact gs_app f_68_ws58
                clear f_68_ws58
                have f_68_ws61 : ws61[68]? = some ((q44, Sum.inl (cZ, 4096, Sum.inl (fun _ => 0))) : Nat × va_E) := by rw [e_ws61]; exact gs_ne (by decide) f_68_ws60
                clear f_68_ws60
                have f_68_ws63 : ws63[68]? = some ((q44, Sum.inl (cZ, 4096, Sum.inl (fun _ => 0))) : Nat × va_E) := by rw [e_ws63]; exact gs_app f_68_ws61
                clear f_68_ws61
                have f_68_ws64 : ws64[68]? = some ((q44, Sum.inl (cZ, 4096, Sum.inl (fun _ => 0))) : Nat × va_E) := by rw [e_ws64]; exact gs_ne (by decide) f_68_ws63
                clear f_68_ws63
                have f_68_ws65 : ws65[68]? = some ((q44, Sum.inl (cZ, 4096, Sum.inl (fun _ => 0))) : Nat × va_E) := by rw [e_ws65]; exact gs_ne (by decide) f_68_ws64
                clear f_68_ws64
                have f_68_ws66 : ws66[68]? = some ((q44, Sum.inl (cZ, 4096, Sum.inl (fun _ => 0))) : Nat × va_E) := by rw [e_ws66]; exact gs_ne (by decide) f_68_ws65
                clear f_68_ws65
                have f_68_ws72 : ws72[68]? = some ((q44, Sum.inl (cZ, 4096, Sum.inl (fun _ => 0))) : Nat × va_E) := by rw [e_ws72]; exact gs_app f_68_ws66
                clear f_68_ws66
                have f_68_ws73 : ws73[68]? = some ((q44, Sum.inl (cZ, 4096, Sum.inl (fun _ => 0))) : Nat × va_E) := by rw [e_ws73]; exact gs_app f_68_ws72
                clear f_68_ws72
                have f_68_ws74 : ws74[68]? = some ((q44, Sum.inl (cZ, 4096, Sum.inl (fun _ => 0))) : Nat × va_E) := by rw [e_ws74]; exact gs_app f_68_ws73
                clear f_68_ws73
                have f_68_ws75 : ws75[68]? = some ((q44, Sum.inl (cZ, 4096, Sum.inl (fun _ => 0))) : Nat × va_E) := by rw [e_ws75]; exact gs_app f_68_ws74
                clear f_68_ws74
                have f_68_ws76 : ws76[68]? = some ((q44, Sum.inl (cZ, 4096, Sum.inl (fun _ => 0))) : Nat × va_E) := by rw [e_ws76]; exact gs_app f_68_ws75
                clear f_68_ws75
                have f_68_ws77 : ws77[68]? = some ((q44, Sum.inl (cZ, 4096, Sum.inl (fun _ => 0))) : Nat × va_E) := by rw [e_ws77]; exact gs_ne (by decide) f_68_ws76
                clear f_68_ws76
                have f_68_ws79 : ws79[68]? = some ((q44, Sum.inl (cZ, 4096, Sum.inl (fun _ => 0))) : Nat × va_E) := by rw [e_ws79]; exact gs_app f_68_ws77
                clear f_68_ws77
                have f_68_ws80 : ws80[68]? = some ((q44, Sum.inl (cZ, 4096, Sum.inl (fun _ => 0))) : Nat × va_E) := by rw [e_ws80]; exact gs_ne (by decide) f_68_ws79
                clear f_68_ws79
                have f_68_ws82 : ws82[68]? = some ((q44, Sum.inl (cZ, 4096, Sum.inl (fun _ => 0))) : Nat × va_E) := by rw [e_ws82]; exact gs_app f_68_ws80
                clear f_68_ws80
                have f_68_ws83 : ws83[68]? = some ((q44, Sum.inl (cZ, 4096, Sum.inl (fun _ => 0))) : Nat × va_E) := by rw [e_ws83]; exact gs_ne (by decide) f_68_ws82
                clear f_68_ws82
                have f_68_ws85 : ws85[68]? = some ((q44, Sum.inl (cZ, 4096, Sum.inl (fun _ => 0))) : Nat × va_E) := by rw [e_ws85]; exact gs_app f_68_ws83
                clear f_68_ws83
                have f_68_ws86 : ws86[68]? = some ((q44, Sum.inl (cZ, 4096, Sum.inl (fun _ => 0))) : Nat × va_E) := by rw [e_ws86]; exact gs_ne (by decide) f_68_ws85
                clear f_68_ws85
                have f_68_ws88 : ws88[68]? = some ((q44, Sum.inl (cZ, 4096, Sum.inl (fun _ => 0))) : Nat × va_E) := by rw [e_ws88]; exact gs_app f_68_ws86
                clear f_68_ws86
                have f_68_ws90 : ws90[68]? = some ((q44, Sum.inl (cZ, 4096, Sum.inl (fun _ => 0))) : Nat × va_E) := by rw [e_ws90]; exact gs_app f_68_ws88
                clear f_68_ws88
                have f_68_ws92 : ws92[68]? = some ((q44, Sum.inl (cZ, 4096, Sum.inl (fun _ => 0))) : Nat × va_E) := e_ws92.at (by first | decide | (simp; done) | (simp; omega)) f_68_ws90
                clear f_68_ws90
                have f_68_ws100 : ws100[68]? = some ((q44, Sum.inl (cZ, 4096, Sum.inl (fun _ => 0))) : Nat × va_E) := by rw [e_ws100]; exact gs_ne (by decide) f_68_ws92
                clear f_68_ws92
                have f_68_ws102 : ws102[68]? = some ((q44, Sum.inl (cZ, 4096, Sum.inl (fun _ => 0))) : Nat × va_E) := by rw [e_ws102]; exact gs_app f_68_ws100
                clear f_68_ws100
                have f_68_ws104 : ws104[68]? = some ((q44, Sum.inl (cZ, 4096, Sum.inl (fun _ => 0))) : Nat × va_E) := e_ws104.at (by first | decide | (simp; done) | (simp; omega)) f_68_ws102
                clear f_68_ws102
                have f_68_ws112 : ws112[68]? = some ((q44, Sum.inl (cZ, 4096, Sum.inl (fun _ => 0))) : Nat × va_E) := by rw [e_ws112]; exact gs_ne (by decide) f_68_ws104
                clear f_68_ws104
                have f_68_ws114 : ws114[68]? = some ((q44, Sum.inl (cZ, 4096, Sum.inl (fun _ => 0))) : Nat × va_E) := by rw [e_ws114]; exact gs_app f_68_ws112
                clear f_68_ws112
                have f_68_ws116 : ws116[68]? = some ((q44, Sum.inl (cZ, 4096, Sum.inl (fun _ => 0))) : Nat × va_E) := e_ws116.at (by first | decide | (simp; done) | (simp; omega)) f_68_ws114
                clear f_68_ws114
                have f_68_ws124 : ws124[68]? = some ((q44, Sum.inl (cZ, 4096, Sum.inl (fun _ => 0))) : Nat × va_E) := by rw [e_ws124]; exact gs_ne (by decide) f_68_ws116
                clear f_68_ws116
                have f_68_ws126 : ws126[68]? = some ((q44, Sum.inl (cZ, 4096, Sum.inl (fun _ => 0))) : Nat × va_E) := by rw [e_ws126]; exact gs_app f_68_ws124
                clear f_68_ws124
                have f_68_ws128 : ws128[68]? = some ((q44, Sum.inl (cZ, 4096, Sum.inl (fun _ => 0))) : Nat × va_E) := e_ws128.at (by first | decide | (simp; done) | (simp; omega)) f_68_ws126
                clear f_68_ws126
                have f_68_ws136 : ws136[68]? = some ((q44, Sum.inl (cZ, 4096, Sum.inl (fun _ => 0))) : Nat × va_E) := by rw [e_ws136]; exact gs_ne (by decide) f_68_ws128
                clear f_68_ws128
                have f_68_ws137 : ws137[68]? = some ((q44, Sum.inl (cZ, 4096, Sum.inl (fun _ => 0))) : Nat × va_E) := by rw [e_ws137]; exact gs_ne (by decide) f_68_ws136
                clear f_68_ws136
                have f_69_ws46 : ws46[69]? = some ((q45, Sum.inl (cZ, 4096, Sum.inl (fun _ => 0))) : Nat × va_E) := by rw [e_ws46]; exact gs_ne (by decide) f_69_ws38
                clear f_69_ws38
                have f_69_ws48 : ws48[69]? = some ((q45, Sum.inl (cZ, 4096, Sum.inl (fun _ => 0))) : Nat × va_E) := by rw [e_ws48]; exact gs_app f_69_ws46
                clear f_69_ws46
                have f_69_ws50 : ws50[69]? = some ((q45, Sum.inl (cZ, 4096, Sum.inl (fun _ => 0))) : Nat × va_E) := e_ws50.at (by first | decide | (simp; done) | (simp; omega)) f_69_ws48
                clear f_69_ws48
                have f_69_ws58 : ws58[69]? = some ((q45, Sum.inl (cZ, 4096, Sum.inl (fun _ => 0))) : Nat × va_E) := by rw [e_ws58]; exact gs_ne (by decide) f_69_ws50
                clear f_69_ws50
                have f_69_ws60 : ws60[69]? = some ((q45, Sum.inl (cZ, 4096, Sum.inl (fun _ => 0))) : Nat × va_E) := by rw [e_ws60]; exact gs_app f_69_ws58
                clear f_69_ws58
                have f_69_ws61 : ws61[69]? = some ((q45, Sum.inl (cZ, 4096, Sum.inl (fun _ => 0))) : Nat × va_E) := by rw [e_ws61]; exact gs_ne (by decide) f_69_ws60
                clear f_69_ws60
                have f_69_ws63 : ws63[69]? = some ((q45, Sum.inl (cZ, 4096, Sum.inl (fun _ => 0))) : Nat × va_E) := by rw [e_ws63]; exact gs_app f_69_ws61
                clear f_69_ws61
                have f_69_ws64 : ws64[69]? = some ((q45, Sum.inl (cZ, 4096, Sum.inl (fun _ => 0))) : Nat × va_E) := by rw [e_ws64]; exact gs_ne (by decide) f_69_ws63
                clear f_69_ws63
                have f_69_ws65 : ws65[69]? = some ((q45, Sum.inl (cZ, 4096, Sum.inl (fun _ => 0))) : Nat × va_E) := by rw [e_ws65]; exact gs_ne (by decide) f_69_ws64
                clear f_69_ws64
                have f_69_ws66 : ws66[69]? = some ((q45, Sum.inl (cZ, 4096, Sum.inl (fun _ => 0))) : Nat × va_E) := by rw [e_ws66]; exact gs_ne (by decide) f_69_ws65
                clear f_69_ws65
                have f_69_ws72 : ws72[69]? = some ((q45, Sum.inl (cZ, 4096, Sum.inl (fun _ => 0))) : Nat × va_E) := by rw [e_ws72]; exact gs_app f_69_ws66
                clear f_69_ws66
                have f_69_ws73 : ws73[69]? = some ((q45, Sum.inl (cZ, 4096, Sum.inl (fun _ => 0))) : Nat × va_E) := by rw [e_ws73]; exact gs_app f_69_ws72
                clear f_69_ws72
                have f_69_ws74 : ws74[69]? = some ((q45, Sum.inl (cZ, 4096, Sum.inl (fun _ => 0))) : Nat × va_E) := by rw [e_ws74]; exact gs_app f_69_ws73
                clear f_69_ws73
                have f_69_ws75 : ws75[69]? = some ((q45, Sum.inl (cZ, 4096, Sum.inl (fun _ => 0))) : Nat × va_E) := by rw [e_ws75]; exact gs_app f_69_ws74
                clear f_69_ws74
                have f_69_ws76 : ws76[69]? = some ((q45, Sum.inl (cZ, 4096, Sum.inl (fun _ => 0))) : Nat × va_E) := by rw [e_ws76]; exact gs_app f_69_ws75
                clear f_69_ws75
                have f_69_ws77 : ws77[69]? = some ((q45, Sum.inl (cZ, 4096, Sum.inl (fun _ => 0))) : Nat × va_E) := by rw [e_ws77]; exact gs_ne (by decide) f_69_ws76
                clear f_69_ws76
                have f_69_ws79 : ws79[69]? = some ((q45, Sum.inl (cZ, 4096, Sum.inl (fun _ => 0))) : Nat × va_E) := by rw [e_ws79]; exact gs_app f_69_ws77
                clear f_69_ws77
                have f_69_ws80 : ws80[69]? = some ((q45, Sum.inl (cZ, 4096, Sum.inl (fun _ => 0))) : Nat × va_E) := by rw [e_ws80]; exact gs_ne (by decide) f_69_ws79
                clear f_69_ws79
                have f_69_ws82 : ws82[69]? = some ((q45, Sum.inl (cZ, 4096, Sum.inl (fun _ => 0))) : Nat × va_E) := by rw [e_ws82]; exact gs_app f_69_ws80
                clear f_69_ws80
                have f_69_ws83 : ws83[69]? = some ((q45, Sum.inl (cZ, 4096, Sum.inl (fun _ => 0))) : Nat × va_E) := by rw [e_ws83]; exact gs_ne (by decide) f_69_ws82
                clear f_69_ws82
                have f_69_ws85 : ws85[69]? = some ((q45, Sum.inl (cZ, 4096, Sum.inl (fun _ => 0))) : Nat × va_E) := by rw [e_ws85]; exact gs_app f_69_ws83
                clear f_69_ws83
                have f_69_ws86 : ws86[69]? = some ((q45, Sum.inl (cZ, 4096, Sum.inl (fun _ => 0))) : Nat × va_E) := by rw [e_ws86]; exact gs_ne (by decide) f_69_ws85
                clear f_69_ws85
                have f_69_ws88 : ws88[69]? = some ((q45, Sum.inl (cZ, 4096, Sum.inl (fun _ => 0))) : Nat × va_E) := by rw [e_ws88]; exact gs_app f_69_ws86
                clear f_69_ws86
                have f_69_ws90 : ws90[69]? = some ((q45, Sum.inl (cZ, 4096, Sum.inl (fun _ => 0))) : Nat × va_E) := by rw [e_ws90]; exact gs_app f_69_ws88
                clear f_69_ws88
                have f_69_ws92 : ws92[69]? = some ((q45, Sum.inl (cZ, 4096, Sum.inl (fun _ => 0))) : Nat × va_E) := e_ws92.at (by first | decide | (simp; done) | (simp; omega)) f_69_ws90
                clear f_69_ws90
                have f_69_ws100 : ws100[69]? = some ((q45, Sum.inl (cZ, 4096, Sum.inl (fun _ => 0))) : Nat × va_E) := by rw [e_ws100]; exact gs_ne (by decide) f_69_ws92
                clear f_69_ws92
                have f_69_ws102 : ws102[69]? = some ((q45, Sum.inl (cZ, 4096, Sum.inl (fun _ => 0))) : Nat × va_E) := by rw [e_ws102]; exact gs_app f_69_ws100
                clear f_69_ws100
                have f_69_ws104 : ws104[69]? = some ((q45, Sum.inl (cZ, 4096, Sum.inl (fun _ => 0))) : Nat × va_E) := e_ws104.at (by first | decide | (simp; done) | (simp; omega)) f_69_ws102
                clear f_69_ws102
                have f_69_ws112 : ws112[69]? = some ((q45, Sum.inl (cZ, 4096, Sum.inl (fun _ => 0))) : Nat × va_E) := by rw [e_ws112]; exact gs_ne (by decide) f_69_ws104
                clear f_69_ws104
                have f_69_ws114 : ws114[69]? = some ((q45, Sum.inl (cZ, 4096, Sum.inl (fun _ => 0))) : Nat × va_E) := by rw [e_ws114]; exact gs_app f_69_ws112
                clear f_69_ws112
                have f_69_ws116 : ws116[69]? = some ((q45, Sum.inl (cZ, 4096, Sum.inl (fun _ => 0))) : Nat × va_E) := e_ws116.at (by first | decide | (simp; done) | (simp; omega)) f_69_ws114
                clear f_69_ws114
                have f_69_ws124 : ws124[69]? = some ((q45, Sum.inl (cZ, 4096, Sum.inl (fun _ => 0))) : Nat × va_E) := by rw [e_ws124]; exact gs_ne (by decide) f_69_ws116
                clear f_69_ws116
                have f_69_ws126 : ws126[69]? = some ((q45, Sum.inl (cZ, 4096, Sum.inl (fun _ => 0))) : Nat × va_E) := by rw [e_ws126]; exact gs_app f_69_ws124
                clear f_69_ws124
                have f_69_ws128 : ws128[69]? = some ((q45, Sum.inl (cZ, 4096, Sum.inl (fun _ => 0))) : Nat × va_E) := e_ws128.at (by first | decide | (simp; done) | (simp; omega)) f_69_ws126
                clear f_69_ws126
                have f_69_ws136 : ws136[69]? = some ((q45, Sum.inl (cZ, 4096, Sum.inl (fun _ => 0))) : Nat × va_E) := by rw [e_ws136]; exact gs_ne (by decide) f_69_ws128
                clear f_69_ws128
                have f_69_ws137 : ws137[69]? = some ((q45, Sum.inl (cZ, 4096, Sum.inl (fun _ => 0))) : Nat × va_E) := by rw [e_ws137]; exact gs_ne (by decide) f_69_ws136
                clear f_69_ws136
                have f_70_ws58 : ws58[70]? = some ((q47, Sum.inr (9, [Value.ref q51, Value.ref q52, Value.ref q53, Value.ref q54, Value.ref q55, Value.ref q56, Value.ref q57, Value.int 0, Value.int 0, Value.int 0, Value.int 0])) : Nat × va_E) := by rw [e_ws58]; exact gs_ne (by decide) f_70_ws50
                clear f_70_ws50
                have f_70_ws60 : ws60[70]? = some ((q47, Sum.inr (9, [Value.ref q51, Value.ref q52, Value.ref q53, Value.ref q54, Value.ref q55, Value.ref q56, Value.ref q57, Value.int 0, Value.int 0, Value.int 0, Value.int 0])) : Nat × va_E) := by rw [e_ws60]; exact gs_app f_70_ws58
                clear f_70_ws58
                have f_70_ws61 : ws61[70]? = some ((q47, Sum.inr (9, [Value.ref q51, Value.ref q52, Value.ref q53, Value.ref q54, Value.ref q55, Value.ref q56, Value.ref q57, Value.int 0, Value.int 0, Value.int 0, Value.int 0])) : Nat × va_E) := by rw [e_ws61]; exact gs_ne (by decide) f_70_ws60
                clear f_70_ws60
                have f_70_ws63 : ws63[70]? = some ((q47, Sum.inr (9, [Value.ref q51, Value.ref q52, Value.ref q53, Value.ref q54, Value.ref q55, Value.ref q56, Value.ref q57, Value.int 0, Value.int 0, Value.int 0, Value.int 0])) : Nat × va_E) := by rw [e_ws63]; exact gs_app f_70_ws61
                clear f_70_ws61
                have f_70_ws64 : ws64[70]? = some ((q47, Sum.inr (9, [Value.ref q51, Value.ref q52, Value.ref q53, Value.ref q54, Value.ref q55, Value.ref q56, Value.ref q57, Value.int 0, Value.int 0, Value.int 0, Value.int 0])) : Nat × va_E) := by rw [e_ws64]; exact gs_ne (by decide) f_70_ws63
                clear f_70_ws63
                have f_70_ws65 : ws65[70]? = some ((q47, Sum.inr (9, [Value.ref q51, Value.ref q52, Value.ref q53, Value.ref q54, Value.ref q55, Value.ref q56, Value.ref q57, Value.int 0, Value.int 0, Value.int 0, Value.int 0])) : Nat × va_E) := by rw [e_ws65]; exact gs_ne (by decide) f_70_ws64
                clear f_70_ws64
                have f_70_ws66 : ws66[70]? = some ((q47, Sum.inr (9, [Value.ref q51, Value.ref q52, Value.ref q53, Value.ref q54, Value.ref q55, Value.ref q56, Value.ref q57, Value.int 0, Value.int 0, Value.int 0, Value.int 0])) : Nat × va_E) := by rw [e_ws66]; exact gs_ne (by decide) f_70_ws65
                clear f_70_ws65
                have f_70_ws72 : ws72[70]? = some ((q47, Sum.inr (9, [Value.ref q51, Value.ref q52, Value.ref q53, Value.ref q54, Value.ref q55, Value.ref q56, Value.ref q57, Value.int 0, Value.int 0, Value.int 0, Value.int 0])) : Nat × va_E) := by rw [e_ws72]; exact gs_app f_70_ws66
                clear f_70_ws66
                have f_70_ws73 : ws73[70]? = some ((q47, Sum.inr (9, [Value.ref q51, Value.ref q52, Value.ref q53, Value.ref q54, Value.ref q55, Value.ref q56, Value.ref q57, Value.int 0, Value.int 0, Value.int 0, Value.int 0])) : Nat × va_E) := by rw [e_ws73]; exact gs_app f_70_ws72
                clear f_70_ws72
                have f_70_ws74 : ws74[70]? = some ((q47, Sum.inr (9, [Value.ref q51, Value.ref q52, Value.ref q53, Value.ref q54, Value.ref q55, Value.ref q56, Value.ref q57, Value.int 0, Value.int 0, Value.int 0, Value.int 0])) : Nat × va_E) := by rw [e_ws74]; exact gs_app f_70_ws73
                clear f_70_ws73
                have f_70_ws75 : ws75[70]? = some ((q47, Sum.inr (9, [Value.ref q51, Value.ref q52, Value.ref q53, Value.ref q54, Value.ref q55, Value.ref q56, Value.ref q57, Value.int 0, Value.int 0, Value.int 0, Value.int 0])) : Nat × va_E) := by rw [e_ws75]; exact gs_app f_70_ws74
                clear f_70_ws74
                have f_70_ws76 : ws76[70]? = some ((q47, Sum.inr (9, [Value.ref q51, Value.ref q52, Value.ref q53, Value.ref q54, Value.ref q55, Value.ref q56, Value.ref q57, Value.int 0, Value.int 0, Value.int 0, Value.int 0])) : Nat × va_E) := by rw [e_ws76]; exact gs_app f_70_ws75
                clear f_70_ws75
                have f_70_ws77 : ws77[70]? = some ((q47, Sum.inr (9, [Value.ref q51, Value.ref q52, Value.ref q53, Value.ref q54, Value.ref q55, Value.ref q56, Value.ref q57, Value.int 0, Value.int 0, Value.int 0, Value.int 0])) : Nat × va_E) := by rw [e_ws77]; exact gs_ne (by decide) f_70_ws76
                clear f_70_ws76
                have f_70_ws79 : ws79[70]? = some ((q47, Sum.inr (9, [Value.ref q51, Value.ref q52, Value.ref q53, Value.ref q54, Value.ref q55, Value.ref q56, Value.ref q57, Value.int 0, Value.int 0, Value.int 0, Value.int 0])) : Nat × va_E) := by rw [e_ws79]; exact gs_app f_70_ws77
                clear f_70_ws77
                have f_70_ws80 : ws80[70]? = some ((q47, Sum.inr (9, [Value.ref q51, Value.ref q52, Value.ref q53, Value.ref q54, Value.ref q55, Value.ref q56, Value.ref q57, Value.int 0, Value.int 0, Value.int 0, Value.int 0])) : Nat × va_E) := by rw [e_ws80]; exact gs_ne (by decide) f_70_ws79
                clear f_70_ws79
                have f_70_ws82 : ws82[70]? = some ((q47, Sum.inr (9, [Value.ref q51, Value.ref q52, Value.ref q53, Value.ref q54, Value.ref q55, Value.ref q56, Value.ref q57, Value.int 0, Value.int 0, Value.int 0, Value.int 0])) : Nat × va_E) := by rw [e_ws82]; exact gs_app f_70_ws80
                clear f_70_ws80
                have f_70_ws83 : ws83[70]? = some ((q47, Sum.inr (9, [Value.ref q51, Value.ref q52, Value.ref q53, Value.ref q54, Value.ref q55, Value.ref q56, Value.ref q57, Value.int 0, Value.int 0, Value.int 0, Value.int 0])) : Nat × va_E) := by rw [e_ws83]; exact gs_ne (by decide) f_70_ws82
                clear f_70_ws82
                have f_70_ws85 : ws85[70]? = some ((q47, Sum.inr (9, [Value.ref q51, Value.ref q52, Value.ref q53, Value.ref q54, Value.ref q55, Value.ref q56, Value.ref q57, Value.int 0, Value.int 0, Value.int 0, Value.int 0])) : Nat × va_E) := by rw [e_ws85]; exact gs_app f_70_ws83
                clear f_70_ws83
                have f_70_ws86 : ws86[70]? = some ((q47, Sum.inr (9, [Value.ref q51, Value.ref q52, Value.ref q53, Value.ref q54, Value.ref q55, Value.ref q56, Value.ref q57, Value.int 0, Value.int 0, Value.int 0, Value.int 0])) : Nat × va_E) := by rw [e_ws86]; exact gs_ne (by decide) f_70_ws85
                clear f_70_ws85
                have f_70_ws88 : ws88[70]? = some ((q47, Sum.inr (9, [Value.ref q51, Value.ref q52, Value.ref q53, Value.ref q54, Value.ref q55, Value.ref q56, Value.ref q57, Value.int 0, Value.int 0, Value.int 0, Value.int 0])) : Nat × va_E) := by rw [e_ws88]; exact gs_app f_70_ws86
                clear f_70_ws86
                have f_70_ws90 : ws90[70]? = some ((q47, Sum.inr (9, [Value.ref q51, Value.ref q52, Value.ref q53, Value.ref q54, Value.ref q55, Value.ref q56, Value.ref q57, Value.int 0, Value.int 0, Value.int 0, Value.int 0])) : Nat × va_E) := by rw [e_ws90]; exact gs_app f_70_ws88
                clear f_70_ws88
                have f_70_ws92 : ws92[70]? = some ((q47, Sum.inr (9, [Value.ref q51, Value.ref q52, Value.ref q53, Value.ref q54, Value.ref q55, Value.ref q56, Value.ref q57, Value.int 0, Value.int 0, Value.int 0, Value.int 0])) : Nat × va_E) := e_ws92.at (by first | decide | (simp; done) | (simp; omega)) f_70_ws90
                clear f_70_ws90
                have f_70_ws100 : ws100[70]? = some ((q47, Sum.inr (9, [Value.ref q51, Value.ref q52, Value.ref q53, Value.ref q54, Value.ref q55, Value.ref q56, Value.ref q57, Value.int 0, Value.int 0, Value.int 0, Value.int 0])) : Nat × va_E) := by rw [e_ws100]; exact gs_ne (by decide) f_70_ws92
                clear f_70_ws92
                have f_70_ws102 : ws102[70]? = some ((q47, Sum.inr (9, [Value.ref q51, Value.ref q52, Value.ref q53, Value.ref q54, Value.ref q55, Value.ref q56, Value.ref q57, Value.int 0, Value.int 0, Value.int 0, Value.int 0])) : Nat × va_E) := by rw [e_ws102]; exact gs_app f_70_ws100
                clear f_70_ws100
                have f_70_ws104 : ws104[70]? = some ((q47, Sum.inr (9, [Value.ref q51, Value.ref q52, Value.ref q53, Value.ref q54, Value.ref q55, Value.ref q56, Value.ref q57, Value.int 0, Value.int 0, Value.int 0, Value.int 0])) : Nat × va_E) := e_ws104.at (by first | decide | (simp; done) | (simp; omega)) f_70_ws102
                clear f_70_ws102
                have f_70_ws112 : ws112[70]? = some ((q47, Sum.inr (9, [Value.ref q51, Value.ref q52, Value.ref q53, Value.ref q54, Value.ref q55, Value.ref q56, Value.ref q57, Value.int 0, Value.int 0, Value.int 0, Value.int 0])) : Nat × va_E) := by rw [e_ws112]; exact gs_ne (by decide) f_70_ws104
                clear f_70_ws104
                have f_70_ws114 : ws114[70]? = some ((q47, Sum.inr (9, [Value.ref q51, Value.ref q52, Value.ref q53, Value.ref q54, Value.ref q55, Value.ref q56, Value.ref q57, Value.int 0, Value.int 0, Value.int 0, Value.int 0])) : Nat × va_E) := by rw [e_ws114]; exact gs_app f_70_ws112
                clear f_70_ws112
                have f_70_ws116 : ws116[70]? = some ((q47, Sum.inr (9, [Value.ref q51, Value.ref q52, Value.ref q53, Value.ref q54, Value.ref q55, Value.ref q56, Value.ref q57, Value.int 0, Value.int 0, Value.int 0, Value.int 0])) : Nat × va_E) := e_ws116.at (by first | decide | (simp; done) | (simp; omega)) f_70_ws114
                clear f_70_ws114
                have f_70_ws124 : ws124[70]? = some ((q47, Sum.inr (9, [Value.ref q51, Value.ref q52, Value.ref q53, Value.ref q54, Value.ref q55, Value.ref q56, Value.ref q57, Value.int 0, Value.int 0, Value.int 0, Value.int 0])) : Nat × va_E) := by rw [e_ws124]; exact gs_ne (by decide) f_70_ws116
                clear f_70_ws116
                have f_70_ws126 : ws126[70]? = some ((q47, Sum.inr (9, [Value.ref q51, Value.ref q52, Value.ref q53, Value.ref q54, Value.ref q55, Value.ref q56, Value.ref q57, Value.int 0, Value.int 0, Value.int 0, Value.int 0])) : Nat × va_E) := by rw [e_ws126]; exact gs_app f_70_ws124
                clear f_70_ws124
                have f_70_ws128 : ws128[70]? = some ((q47, Sum.inr (9, [Value.ref q51, Value.ref q52, Value.ref q53, Value.ref q54, Value.ref q55, Value.ref q56, Value.ref q57, Value.int 0, Value.int 0, Value.int 0, Value.int 0])) : Nat × va_E) := e_ws128.at (by first | decide | (simp; done) | (simp; omega)) f_70_ws126
                clear f_70_ws126
                have f_70_ws136 : ws136[70]? = some ((q47, Sum.inr (9, [Value.ref q51, Value.ref q52, Value.ref q53, Value.ref q54, Value.ref q55, Value.ref q56, Value.ref q57, Value.int 0, Value.int 0, Value.int 0, Value.int 0])) : Nat × va_E) := by rw [e_ws136]; exact gs_ne (by decide) f_70_ws128
                clear f_70_ws128
                have f_70_ws137 : ws137[70]? = some ((q47, Sum.inr (9, [Value.ref q51, Value.ref q52, Value.ref q53, Value.ref q54, Value.ref q55, Value.ref q56, Value.ref q57, Value.int 0, Value.int 0, Value.int 0, Value.int 0])) : Nat × va_E) := by rw [e_ws137]; exact gs_ne (by decide) f_70_ws136
                clear f_70_ws136
                have f_71_ws58 : ws58[71]? = some ((q51, Sum.inl (cI, 4097, Sum.inl (fun _ => 0))) : Nat × va_E) := by rw [e_ws58]; exact gs_ne (by decide) f_71_ws50
                clear f_71_ws50
                have f_71_ws60 : ws60[71]? = some ((q51, Sum.inl (cI, 4097, Sum.inl (fun _ => 0))) : Nat × va_E) := by rw [e_ws60]; exact gs_app f_71_ws58
                clear f_71_ws58
                have f_71_ws61 : ws61[71]? = some ((q51, Sum.inl (cI, 4097, Sum.inl (fun _ => 0))) : Nat × va_E) := by rw [e_ws61]; exact gs_ne (by decide) f_71_ws60
                clear f_71_ws60
                have f_71_ws63 : ws63[71]? = some ((q51, Sum.inl (cI, 4097, Sum.inl (fun _ => 0))) : Nat × va_E) := by rw [e_ws63]; exact gs_app f_71_ws61
                clear f_71_ws61
                have f_71_ws64 : ws64[71]? = some ((q51, Sum.inl (cI, 4097, Sum.inl (fun _ => 0))) : Nat × va_E) := by rw [e_ws64]; exact gs_ne (by decide) f_71_ws63
                clear f_71_ws63
                have f_71_ws65 : ws65[71]? = some ((q51, Sum.inl (cI, 4097, Sum.inl (fun _ => 0))) : Nat × va_E) := by rw [e_ws65]; exact gs_ne (by decide) f_71_ws64
                clear f_71_ws64
                have f_71_ws66 : ws66[71]? = some ((q51, Sum.inl (cI, 4097, Sum.inl (fun _ => 0))) : Nat × va_E) := by rw [e_ws66]; exact gs_ne (by decide) f_71_ws65
                clear f_71_ws65
                have f_71_ws72 : ws72[71]? = some ((q51, Sum.inl (cI, 4097, Sum.inl (fun _ => 0))) : Nat × va_E) := by rw [e_ws72]; exact gs_app f_71_ws66
                clear f_71_ws66
                have f_71_ws73 : ws73[71]? = some ((q51, Sum.inl (cI, 4097, Sum.inl (fun _ => 0))) : Nat × va_E) := by rw [e_ws73]; exact gs_app f_71_ws72
                clear f_71_ws72
                have f_71_ws74 : ws74[71]? = some ((q51, Sum.inl (cI, 4097, Sum.inl (fun _ => 0))) : Nat × va_E) := by rw [e_ws74]; exact gs_app f_71_ws73
                clear f_71_ws73
                have f_71_ws75 : ws75[71]? = some ((q51, Sum.inl (cI, 4097, Sum.inl (fun _ => 0))) : Nat × va_E) := by rw [e_ws75]; exact gs_app f_71_ws74
                clear f_71_ws74
                have f_71_ws76 : ws76[71]? = some ((q51, Sum.inl (cI, 4097, Sum.inl (fun _ => 0))) : Nat × va_E) := by rw [e_ws76]; exact gs_app f_71_ws75
                clear f_71_ws75
                have f_71_ws77 : ws77[71]? = some ((q51, Sum.inl (cI, 4097, Sum.inl (fun _ => 0))) : Nat × va_E) := by rw [e_ws77]; exact gs_ne (by decide) f_71_ws76
                clear f_71_ws76
                have f_71_ws79 : ws79[71]? = some ((q51, Sum.inl (cI, 4097, Sum.inl (fun _ => 0))) : Nat × va_E) := by rw [e_ws79]; exact gs_app f_71_ws77
                clear f_71_ws77
                have f_71_ws80 : ws80[71]? = some ((q51, Sum.inl (cI, 4097, Sum.inl (fun _ => 0))) : Nat × va_E) := by rw [e_ws80]; exact gs_ne (by decide) f_71_ws79
                clear f_71_ws79
                have f_71_ws82 : ws82[71]? = some ((q51, Sum.inl (cI, 4097, Sum.inl (fun _ => 0))) : Nat × va_E) := by rw [e_ws82]; exact gs_app f_71_ws80
                clear f_71_ws80
                have f_71_ws83 : ws83[71]? = some ((q51, Sum.inl (cI, 4097, Sum.inl (fun _ => 0))) : Nat × va_E) := by rw [e_ws83]; exact gs_ne (by decide) f_71_ws82
                clear f_71_ws82
                have f_71_ws85 : ws85[71]? = some ((q51, Sum.inl (cI, 4097, Sum.inl (fun _ => 0))) : Nat × va_E) := by rw [e_ws85]; exact gs_app f_71_ws83
                clear f_71_ws83
                have f_71_ws86 : ws86[71]? = some ((q51, Sum.inl (cI, 4097, Sum.inl (fun _ => 0))) : Nat × va_E) := by rw [e_ws86]; exact gs_ne (by decide) f_71_ws85
                clear f_71_ws85
                have f_71_ws88 : ws88[71]? = some ((q51, Sum.inl (cI, 4097, Sum.inl (fun _ => 0))) : Nat × va_E) := by rw [e_ws88]; exact gs_app f_71_ws86
                clear f_71_ws86
                have f_71_ws90 : ws90[71]? = some ((q51, Sum.inl (cI, 4097, Sum.inl (fun _ => 0))) : Nat × va_E) := by rw [e_ws90]; exact gs_app f_71_ws88
                clear f_71_ws88
                have f_71_ws92 : ws92[71]? = some ((q51, Sum.inl (cI, 4097, Sum.inl (fun _ => 0))) : Nat × va_E) := e_ws92.at (by first | decide | (simp; done) | (simp; omega)) f_71_ws90
                clear f_71_ws90
                have f_71_ws100 : ws100[71]? = some ((q51, Sum.inl (cI, 4097, Sum.inl (fun _ => 0))) : Nat × va_E) := by rw [e_ws100]; exact gs_ne (by decide) f_71_ws92
                clear f_71_ws92
                have f_71_ws102 : ws102[71]? = some ((q51, Sum.inl (cI, 4097, Sum.inl (fun _ => 0))) : Nat × va_E) := by rw [e_ws102]; exact gs_app f_71_ws100
                clear f_71_ws100
                have f_71_ws104 : ws104[71]? = some ((q51, Sum.inl (cI, 4097, Sum.inl (fun _ => 0))) : Nat × va_E) := e_ws104.at (by first | decide | (simp; done) | (simp; omega)) f_71_ws102
                clear f_71_ws102
                have f_71_ws112 : ws112[71]? = some ((q51, Sum.inl (cI, 4097, Sum.inl (fun _ => 0))) : Nat × va_E) := by rw [e_ws112]; exact gs_ne (by decide) f_71_ws104
                clear f_71_ws104
                have f_71_ws114 : ws114[71]? = some ((q51, Sum.inl (cI, 4097, Sum.inl (fun _ => 0))) : Nat × va_E) := by rw [e_ws114]; exact gs_app f_71_ws112
                clear f_71_ws112
                have f_71_ws116 : ws116[71]? = some ((q51, Sum.inl (cI, 4097, Sum.inl (fun _ => 0))) : Nat × va_E) := e_ws116.at (by first | decide | (simp; done) | (simp; omega)) f_71_ws114
                clear f_71_ws114
                have f_71_ws124 : ws124[71]? = some ((q51, Sum.inl (cI, 4097, Sum.inl (fun _ => 0))) : Nat × va_E) := by rw [e_ws124]; exact gs_ne (by decide) f_71_ws116
                clear f_71_ws116
                have f_71_ws126 : ws126[71]? = some ((q51, Sum.inl (cI, 4097, Sum.inl (fun _ => 0))) : Nat × va_E) := by rw [e_ws126]; exact gs_app f_71_ws124
                clear f_71_ws124
                have f_71_ws128 : ws128[71]? = some ((q51, Sum.inl (cI, 4097, Sum.inl (fun _ => 0))) : Nat × va_E) := e_ws128.at (by first | decide | (simp; done) | (simp; omega)) f_71_ws126
                clear f_71_ws126
                have f_71_ws136 : ws136[71]? = some ((q51, Sum.inl (cI, 4097, Sum.inl (fun _ => 0))) : Nat × va_E) := by rw [e_ws136]; exact gs_ne (by decide) f_71_ws128
                clear f_71_ws128
                have f_71_ws137 : ws137[71]? = some ((q51, Sum.inl (cI, 4097, Sum.inl (fun _ => 0))) : Nat × va_E) := by rw [e_ws137]; exact gs_ne (by decide) f_71_ws136
                clear f_71_ws136
                have f_72_ws58 : ws58[72]? = some ((q52, Sum.inl (cI, 4097, Sum.inl (fun _ => 0))) : Nat × va_E) := by rw [e_ws58]; exact gs_ne (by decide) f_72_ws50
                clear f_72_ws50
                have f_72_ws60 : ws60[72]? = some ((q52, Sum.inl (cI, 4097, Sum.inl (fun _ => 0))) : Nat × va_E) := by rw [e_ws60]; exact gs_app f_72_ws58
                clear f_72_ws58
                have f_72_ws61 : ws61[72]? = some ((q52, Sum.inl (cI, 4097, Sum.inl (fun _ => 0))) : Nat × va_E) := by rw [e_ws61]; exact gs_ne (by decide) f_72_ws60
                clear f_72_ws60
                have f_72_ws63 : ws63[72]? = some ((q52, Sum.inl (cI, 4097, Sum.inl (fun _ => 0))) : Nat × va_E) := by rw [e_ws63]; exact gs_app f_72_ws61
                clear f_72_ws61
                have f_72_ws64 : ws64[72]? = some ((q52, Sum.inl (cI, 4097, Sum.inl (fun _ => 0))) : Nat × va_E) := by rw [e_ws64]; exact gs_ne (by decide) f_72_ws63
                clear f_72_ws63
                have f_72_ws65 : ws65[72]? = some ((q52, Sum.inl (cI, 4097, Sum.inl (fun _ => 0))) : Nat × va_E) := by rw [e_ws65]; exact gs_ne (by decide) f_72_ws64
                clear f_72_ws64
                have f_72_ws66 : ws66[72]? = some ((q52, Sum.inl (cI, 4097, Sum.inl (fun _ => 0))) : Nat × va_E) := by rw [e_ws66]; exact gs_ne (by decide) f_72_ws65
                clear f_72_ws65
                have f_72_ws72 : ws72[72]? = some ((q52, Sum.inl (cI, 4097, Sum.inl (fun _ => 0))) : Nat × va_E) := by rw [e_ws72]; exact gs_app f_72_ws66
                clear f_72_ws66
                have f_72_ws73 : ws73[72]? = some ((q52, Sum.inl (cI, 4097, Sum.inl (fun _ => 0))) : Nat × va_E) := by rw [e_ws73]; exact gs_app f_72_ws72
                clear f_72_ws72
                have f_72_ws74 : ws74[72]? = some ((q52, Sum.inl (cI, 4097, Sum.inl (fun _ => 0))) : Nat × va_E) := by rw [e_ws74]; exact gs_app f_72_ws73
                clear f_72_ws73
                have f_72_ws75 : ws75[72]? = some ((q52, Sum.inl (cI, 4097, Sum.inl (fun _ => 0))) : Nat × va_E) := by rw [e_ws75]; exact gs_app f_72_ws74
                clear f_72_ws74
                have f_72_ws76 : ws76[72]? = some ((q52, Sum.inl (cI, 4097, Sum.inl (fun _ => 0))) : Nat × va_E) := by rw [e_ws76]; exact gs_app f_72_ws75
                clear f_72_ws75
                have f_72_ws77 : ws77[72]? = some ((q52, Sum.inl (cI, 4097, Sum.inl (fun _ => 0))) : Nat × va_E) := by rw [e_ws77]; exact gs_ne (by decide) f_72_ws76
                clear f_72_ws76
                have f_72_ws79 : ws79[72]? = some ((q52, Sum.inl (cI, 4097, Sum.inl (fun _ => 0))) : Nat × va_E) := by rw [e_ws79]; exact gs_app f_72_ws77
                clear f_72_ws77
                have f_72_ws80 : ws80[72]? = some ((q52, Sum.inl (cI, 4097, Sum.inl (fun _ => 0))) : Nat × va_E) := by rw [e_ws80]; exact gs_ne (by decide) f_72_ws79
                clear f_72_ws79
                have f_72_ws82 : ws82[72]? = some ((q52, Sum.inl (cI, 4097, Sum.inl (fun _ => 0))) : Nat × va_E) := by rw [e_ws82]; exact gs_app f_72_ws80
                clear f_72_ws80
                have f_72_ws83 : ws83[72]? = some ((q52, Sum.inl (cI, 4097, Sum.inl (fun _ => 0))) : Nat × va_E) := by rw [e_ws83]; exact gs_ne (by decide) f_72_ws82
                clear f_72_ws82
                have f_72_ws85 : ws85[72]? = some ((q52, Sum.inl (cI, 4097, Sum.inl (fun _ => 0))) : Nat × va_E) := by rw [e_ws85]; exact gs_app f_72_ws83
                clear f_72_ws83
                have f_72_ws86 : ws86[72]? = some ((q52, Sum.inl (cI, 4097, Sum.inl (fun _ => 0))) : Nat × va_E) := by rw [e_ws86]; exact gs_ne (by decide) f_72_ws85
                clear f_72_ws85
                have f_72_ws88 : ws88[72]? = some ((q52, Sum.inl (cI, 4097, Sum.inl (fun _ => 0))) : Nat × va_E) := by rw [e_ws88]; exact gs_app f_72_ws86
                clear f_72_ws86
                have f_72_ws90 : ws90[72]? = some ((q52, Sum.inl (cI, 4097, Sum.inl (fun _ => 0))) : Nat × va_E) := by rw [e_ws90]; exact gs_app f_72_ws88
                clear f_72_ws88
                have f_72_ws92 : ws92[72]? = some ((q52, Sum.inl (cI, 4097, Sum.inl (fun _ => 0))) : Nat × va_E) := e_ws92.at (by first | decide | (simp; done) | (simp; omega)) f_72_ws90
                clear f_72_ws90
                have f_72_ws100 : ws100[72]? = some ((q52, Sum.inl (cI, 4097, Sum.inl (fun _ => 0))) : Nat × va_E) := by rw [e_ws100]; exact gs_ne (by decide) f_72_ws92
                clear f_72_ws92
                have f_72_ws102 : ws102[72]? = some ((q52, Sum.inl (cI, 4097, Sum.inl (fun _ => 0))) : Nat × va_E) := by rw [e_ws102]; exact gs_app f_72_ws100
                clear f_72_ws100
                have f_72_ws104 : ws104[72]? = some ((q52, Sum.inl (cI, 4097, Sum.inl (fun _ => 0))) : Nat × va_E) := e_ws104.at (by first | decide | (simp; done) | (simp; omega)) f_72_ws102
                clear f_72_ws102
                have f_72_ws112 : ws112[72]? = some ((q52, Sum.inl (cI, 4097, Sum.inl (fun _ => 0))) : Nat × va_E) := by rw [e_ws112]; exact gs_ne (by decide) f_72_ws104
                clear f_72_ws104
                have f_72_ws114 : ws114[72]? = some ((q52, Sum.inl (cI, 4097, Sum.inl (fun _ => 0))) : Nat × va_E) := by rw [e_ws114]; exact gs_app f_72_ws112
                clear f_72_ws112
                have f_72_ws116 : ws116[72]? = some ((q52, Sum.inl (cI, 4097, Sum.inl (fun _ => 0))) : Nat × va_E) := e_ws116.at (by first | decide | (simp; done) | (simp; omega)) f_72_ws114
                clear f_72_ws114
                have f_72_ws124 : ws124[72]? = some ((q52, Sum.inl (cI, 4097, Sum.inl (fun _ => 0))) : Nat × va_E) := by rw [e_ws124]; exact gs_ne (by decide) f_72_ws116
                clear f_72_ws116
                have f_72_ws126 : ws126[72]? = some ((q52, Sum.inl (cI, 4097, Sum.inl (fun _ => 0))) : Nat × va_E) := by rw [e_ws126]; exact gs_app f_72_ws124
                clear f_72_ws124
                have f_72_ws128 : ws128[72]? = some ((q52, Sum.inl (cI, 4097, Sum.inl (fun _ => 0))) : Nat × va_E) := e_ws128.at (by first | decide | (simp; done) | (simp; omega)) f_72_ws126
                clear f_72_ws126
                have f_72_ws136 : ws136[72]? = some ((q52, Sum.inl (cI, 4097, Sum.inl (fun _ => 0))) : Nat × va_E) := by rw [e_ws136]; exact gs_ne (by decide) f_72_ws128
                clear f_72_ws128
                have f_72_ws137 : ws137[72]? = some ((q52, Sum.inl (cI, 4097, Sum.inl (fun _ => 0))) : Nat × va_E) := by rw [e_ws137]; exact gs_ne (by decide) f_72_ws136
                clear f_72_ws136
                have f_73_ws58 : ws58[73]? = some ((q53, Sum.inl (cI, 4098, Sum.inl (fun _ => 0))) : Nat × va_E) := by rw [e_ws58]; exact gs_ne (by decide) f_73_ws50
                clear f_73_ws50
                have f_73_ws60 : ws60[73]? = some ((q53, Sum.inl (cI, 4098, Sum.inl (fun _ => 0))) : Nat × va_E) := by rw [e_ws60]; exact gs_app f_73_ws58
                clear f_73_ws58
                have f_73_ws61 : ws61[73]? = some ((q53, Sum.inl (cI, 4098, Sum.inl (fun _ => 0))) : Nat × va_E) := by rw [e_ws61]; exact gs_ne (by decide) f_73_ws60
                clear f_73_ws60
                have f_73_ws63 : ws63[73]? = some ((q53, Sum.inl (cI, 4098, Sum.inl (fun _ => 0))) : Nat × va_E) := by rw [e_ws63]; exact gs_app f_73_ws61
                clear f_73_ws61
                have f_73_ws64 : ws64[73]? = some ((q53, Sum.inl (cI, 4098, Sum.inl (fun _ => 0))) : Nat × va_E) := by rw [e_ws64]; exact gs_ne (by decide) f_73_ws63
                clear f_73_ws63
                have f_73_ws65 : ws65[73]? = some ((q53, Sum.inl (cI, 4098, Sum.inl (fun _ => 0))) : Nat × va_E) := by rw [e_ws65]; exact gs_ne (by decide) f_73_ws64
                clear f_73_ws64
                have f_73_ws66 : ws66[73]? = some ((q53, Sum.inl (cI, 4098, Sum.inl (fun _ => 0))) : Nat × va_E) := by rw [e_ws66]; exact gs_ne (by decide) f_73_ws65
                clear f_73_ws65
                have f_73_ws72 : ws72[73]? = some ((q53, Sum.inl (cI, 4098, Sum.inl (fun _ => 0))) : Nat × va_E) := by rw [e_ws72]; exact gs_app f_73_ws66
                clear f_73_ws66
                have f_73_ws73 : ws73[73]? = some ((q53, Sum.inl (cI, 4098, Sum.inl (fun _ => 0))) : Nat × va_E) := by rw [e_ws73]; exact gs_app f_73_ws72
                clear f_73_ws72
                have f_73_ws74 : ws74[73]? = some ((q53, Sum.inl (cI, 4098, Sum.inl (fun _ => 0))) : Nat × va_E) := by rw [e_ws74]; exact gs_app f_73_ws73
                clear f_73_ws73
                have f_73_ws75 : ws75[73]? = some ((q53, Sum.inl (cI, 4098, Sum.inl (fun _ => 0))) : Nat × va_E) := by rw [e_ws75]; exact gs_app f_73_ws74
                clear f_73_ws74
                have f_73_ws76 : ws76[73]? = some ((q53, Sum.inl (cI, 4098, Sum.inl (fun _ => 0))) : Nat × va_E) := by rw [e_ws76]; exact gs_app f_73_ws75
                clear f_73_ws75
                have f_73_ws77 : ws77[73]? = some ((q53, Sum.inl (cI, 4098, Sum.inl (fun _ => 0))) : Nat × va_E) := by rw [e_ws77]; exact gs_ne (by decide) f_73_ws76
                clear f_73_ws76
                have f_73_ws79 : ws79[73]? = some ((q53, Sum.inl (cI, 4098, Sum.inl (fun _ => 0))) : Nat × va_E) := by rw [e_ws79]; exact gs_app f_73_ws77
                clear f_73_ws77
                have f_73_ws80 : ws80[73]? = some ((q53, Sum.inl (cI, 4098, Sum.inl (fun _ => 0))) : Nat × va_E) := by rw [e_ws80]; exact gs_ne (by decide) f_73_ws79
                clear f_73_ws79
                have f_73_ws82 : ws82[73]? = some ((q53, Sum.inl (cI, 4098, Sum.inl (fun _ => 0))) : Nat × va_E) := by rw [e_ws82]; exact gs_app f_73_ws80
                clear f_73_ws80
                have f_73_ws83 : ws83[73]? = some ((q53, Sum.inl (cI, 4098, Sum.inl (fun _ => 0))) : Nat × va_E) := by rw [e_ws83]; exact gs_ne (by decide) f_73_ws82
                clear f_73_ws82
                have f_73_ws85 : ws85[73]? = some ((q53, Sum.inl (cI, 4098, Sum.inl (fun _ => 0))) : Nat × va_E) := by rw [e_ws85]; exact gs_app f_73_ws83
                clear f_73_ws83
                have f_73_ws86 : ws86[73]? = some ((q53, Sum.inl (cI, 4098, Sum.inl (fun _ => 0))) : Nat × va_E) := by rw [e_ws86]; exact gs_ne (by decide) f_73_ws85
                clear f_73_ws85
                have f_73_ws88 : ws88[73]? = some ((q53, Sum.inl (cI, 4098, Sum.inl (fun _ => 0))) : Nat × va_E) := by rw [e_ws88]; exact gs_app f_73_ws86
                clear f_73_ws86
                have f_73_ws90 : ws90[73]? = some ((q53, Sum.inl (cI, 4098, Sum.inl (fun _ => 0))) : Nat × va_E) := by rw [e_ws90]; exact gs_app f_73_ws88
                clear f_73_ws88
                have f_73_ws92 : ws92[73]? = some ((q53, Sum.inl (cI, 4098, Sum.inl (fun _ => 0))) : Nat × va_E) := e_ws92.at (by first | decide | (simp; done) | (simp; omega)) f_73_ws90
                clear f_73_ws90
                have f_73_ws100 : ws100[73]? = some ((q53, Sum.inl (cI, 4098, Sum.inl (fun _ => 0))) : Nat × va_E) := by rw [e_ws100]; exact gs_ne (by decide) f_73_ws92
                clear f_73_ws92
                have f_73_ws102 : ws102[73]? = some ((q53, Sum.inl (cI, 4098, Sum.inl (fun _ => 0))) : Nat × va_E) := by rw [e_ws102]; exact gs_app f_73_ws100
                clear f_73_ws100
                have f_73_ws104 : ws104[73]? = some ((q53, Sum.inl (cI, 4098, Sum.inl (fun _ => 0))) : Nat × va_E) := e_ws104.at (by first | decide | (simp; done) | (simp; omega)) f_73_ws102
                clear f_73_ws102
                have f_73_ws112 : ws112[73]? = some ((q53, Sum.inl (cI, 4098, Sum.inl (fun _ => 0))) : Nat × va_E) := by rw [e_ws112]; exact gs_ne (by decide) f_73_ws104
                clear f_73_ws104
                have f_73_ws114 : ws114[73]? = some ((q53, Sum.inl (cI, 4098, Sum.inl (fun _ => 0))) : Nat × va_E) := by rw [e_ws114]; exact gs_app f_73_ws112
                clear f_73_ws112
                have f_73_ws116 : ws116[73]? = some ((q53, Sum.inl (cI, 4098, Sum.inl (fun _ => 0))) : Nat × va_E) := e_ws116.at (by first | decide | (simp; done) | (simp; omega)) f_73_ws114
                clear f_73_ws114
                have f_73_ws124 : ws124[73]? = some ((q53, Sum.inl (cI, 4098, Sum.inl (fun _ => 0))) : Nat × va_E) := by rw [e_ws124]; exact gs_ne (by decide) f_73_ws116
                clear f_73_ws116
                have f_73_ws126 : ws126[73]? = some ((q53, Sum.inl (cI, 4098, Sum.inl (fun _ => 0))) : Nat × va_E) := by rw [e_ws126]; exact gs_app f_73_ws124
                clear f_73_ws124
                have f_73_ws128 : ws128[73]? = some ((q53, Sum.inl (cI, 4098, Sum.inl (fun _ => 0))) : Nat × va_E) := e_ws128.at (by first | decide | (simp; done) | (simp; omega)) f_73_ws126
                clear f_73_ws126
                have f_73_ws136 : ws136[73]? = some ((q53, Sum.inl (cI, 4098, Sum.inl (fun _ => 0))) : Nat × va_E) := by rw [e_ws136]; exact gs_ne (by decide) f_73_ws128
                clear f_73_ws128
                have f_73_ws137 : ws137[73]? = some ((q53, Sum.inl (cI, 4098, Sum.inl (fun _ => 0))) : Nat × va_E) := by rw [e_ws137]; exact gs_ne (by decide) f_73_ws136
                clear f_73_ws136
                have f_74_ws58 : ws58[74]? = some ((q54, Sum.inl (cI, 4097, Sum.inl (fun _ => 0))) : Nat × va_E) := by rw [e_ws58]; exact gs_ne (by decide) f_74_ws50
                clear f_74_ws50
                have f_74_ws60 : ws60[74]? = some ((q54, Sum.inl (cI, 4097, Sum.inl (fun _ => 0))) : Nat × va_E) := by rw [e_ws60]; exact gs_app f_74_ws58
                clear f_74_ws58
                have f_74_ws61 : ws61[74]? = some ((q54, Sum.inl (cI, 4097, Sum.inl (fun _ => 0))) : Nat × va_E) := by rw [e_ws61]; exact gs_ne (by decide) f_74_ws60
                clear f_74_ws60
                have f_74_ws63 : ws63[74]? = some ((q54, Sum.inl (cI, 4097, Sum.inl (fun _ => 0))) : Nat × va_E) := by rw [e_ws63]; exact gs_app f_74_ws61
                clear f_74_ws61
                have f_74_ws64 : ws64[74]? = some ((q54, Sum.inl (cI, 4097, Sum.inl (fun _ => 0))) : Nat × va_E) := by rw [e_ws64]; exact gs_ne (by decide) f_74_ws63
                clear f_74_ws63
                have f_74_ws65 : ws65[74]? = some ((q54, Sum.inl (cI, 4097, Sum.inl (fun _ => 0))) : Nat × va_E) := by rw [e_ws65]; exact gs_ne (by decide) f_74_ws64
                clear f_74_ws64
                have f_74_ws66 : ws66[74]? = some ((q54, Sum.inl (cI, 4097, Sum.inl (fun _ => 0))) : Nat × va_E) := by rw [e_ws66]; exact gs_ne (by decide) f_74_ws65
                clear f_74_ws65
                have f_74_ws72 : ws72[74]? = some ((q54, Sum.inl (cI, 4097, Sum.inl (fun _ => 0))) : Nat × va_E) := by rw [e_ws72]; exact gs_app f_74_ws66
                clear f_74_ws66
                have f_74_ws73 : ws73[74]? = some ((q54, Sum.inl (cI, 4097, Sum.inl (fun _ => 0))) : Nat × va_E) := by rw [e_ws73]; exact gs_app f_74_ws72
                clear f_74_ws72
                have f_74_ws74 : ws74[74]? = some ((q54, Sum.inl (cI, 4097, Sum.inl (fun _ => 0))) : Nat × va_E) := by rw [e_ws74]; exact gs_app f_74_ws73
                clear f_74_ws73
                have f_74_ws75 : ws75[74]? = some ((q54, Sum.inl (cI, 4097, Sum.inl (fun _ => 0))) : Nat × va_E) := by rw [e_ws75]; exact gs_app f_74_ws74
                clear f_74_ws74
                have f_74_ws76 : ws76[74]? = some ((q54, Sum.inl (cI, 4097, Sum.inl (fun _ => 0))) : Nat × va_E) := by rw [e_ws76]; exact gs_app f_74_ws75
                clear f_74_ws75
                have f_74_ws77 : ws77[74]? = some ((q54, Sum.inl (cI, 4097, Sum.inl (fun _ => 0))) : Nat × va_E) := by rw [e_ws77]; exact gs_ne (by decide) f_74_ws76
                clear f_74_ws76
                have f_74_ws79 : ws79[74]? = some ((q54, Sum.inl (cI, 4097, Sum.inl (fun _ => 0))) : Nat × va_E) := by rw [e_ws79]; exact gs_app f_74_ws77
                clear f_74_ws77
                have f_74_ws80 : ws80[74]? = some ((q54, Sum.inl (cI, 4097, Sum.inl (fun _ => 0))) : Nat × va_E) := by rw [e_ws80]; exact gs_ne (by decide) f_74_ws79
                clear f_74_ws79
                have f_74_ws82 : ws82[74]? = some ((q54, Sum.inl (cI, 4097, Sum.inl (fun _ => 0))) : Nat × va_E) := by rw [e_ws82]; exact gs_app f_74_ws80
                clear f_74_ws80
                have f_74_ws83 : ws83[74]? = some ((q54, Sum.inl (cI, 4097, Sum.inl (fun _ => 0))) : Nat × va_E) := by rw [e_ws83]; exact gs_ne (by decide) f_74_ws82
                clear f_74_ws82
                have f_74_ws85 : ws85[74]? = some ((q54, Sum.inl (cI, 4097, Sum.inl (fun _ => 0))) : Nat × va_E) := by rw [e_ws85]; exact gs_app f_74_ws83
                clear f_74_ws83
                have f_74_ws86 : ws86[74]? = some ((q54, Sum.inl (cI, 4097, Sum.inl (fun _ => 0))) : Nat × va_E) := by rw [e_ws86]; exact gs_ne (by decide) f_74_ws85
                clear f_74_ws85
                have f_74_ws88 : ws88[74]? = some ((q54, Sum.inl (cI, 4097, Sum.inl (fun _ => 0))) : Nat × va_E) := by rw [e_ws88]; exact gs_app f_74_ws86
                clear f_74_ws86
                have f_74_ws90 : ws90[74]? = some ((q54, Sum.inl (cI, 4097, Sum.inl (fun _ => 0))) : Nat × va_E) := by rw [e_ws90]; exact gs_app f_74_ws88
                clear f_74_ws88
                have f_74_ws92 : ws92[74]? = some ((q54, Sum.inl (cI, 4097, Sum.inl (fun _ => 0))) : Nat × va_E) := e_ws92.at (by first | decide | (simp; done) | (simp; omega)) f_74_ws90
                clear f_74_ws90
                have f_74_ws100 : ws100[74]? = some ((q54, Sum.inl (cI, 4097, Sum.inl (fun _ => 0))) : Nat × va_E) := by rw [e_ws100]; exact gs_ne (by decide) f_74_ws92
                clear f_74_ws92
                have f_74_ws102 : ws102[74]? = some ((q54, Sum.inl (cI, 4097, Sum.inl (fun _ => 0))) : Nat × va_E) := by rw [e_ws102]; exact gs_app f_74_ws100
                clear f_74_ws100
                have f_74_ws104 : ws104[74]? = some ((q54, Sum.inl (cI, 4097, Sum.inl (fun _ => 0))) : Nat × va_E) := e_ws104.at (by first | decide | (simp; done) | (simp; omega)) f_74_ws102
                clear f_74_ws102
                have f_74_ws112 : ws112[74]? = some ((q54, Sum.inl (cI, 4097, Sum.inl (fun _ => 0))) : Nat × va_E) := by rw [e_ws112]; exact gs_ne (by decide) f_74_ws104
                clear f_74_ws104
                have f_74_ws114 : ws114[74]? = some ((q54, Sum.inl (cI, 4097, Sum.inl (fun _ => 0))) : Nat × va_E) := by rw [e_ws114]; exact gs_app f_74_ws112
                clear f_74_ws112
                have f_74_ws116 : ws116[74]? = some ((q54, Sum.inl (cI, 4097, Sum.inl (fun _ => 0))) : Nat × va_E) := e_ws116.at (by first | decide | (simp; done) | (simp; omega)) f_74_ws114
                clear f_74_ws114
                have f_74_ws124 : ws124[74]? = some ((q54, Sum.inl (cI, 4097, Sum.inl (fun _ => 0))) : Nat × va_E) := by rw [e_ws124]; exact gs_ne (by decide) f_74_ws116
                clear f_74_ws116
                have f_74_ws126 : ws126[74]? = some ((q54, Sum.inl (cI, 4097, Sum.inl (fun _ => 0))) : Nat × va_E) := by rw [e_ws126]; exact gs_app f_74_ws124
                clear f_74_ws124
                have f_74_ws128 : ws128[74]? = some ((q54, Sum.inl (cI, 4097, Sum.inl (fun _ => 0))) : Nat × va_E) := e_ws128.at (by first | decide | (simp; done) | (simp; omega)) f_74_ws126
                clear f_74_ws126
                have f_74_ws136 : ws136[74]? = some ((q54, Sum.inl (cI, 4097, Sum.inl (fun _ => 0))) : Nat × va_E) := by rw [e_ws136]; exact gs_ne (by decide) f_74_ws128
                clear f_74_ws128
                have f_74_ws137 : ws137[74]? = some ((q54, Sum.inl (cI, 4097, Sum.inl (fun _ => 0))) : Nat × va_E) := by rw [e_ws137]; exact gs_ne (by decide) f_74_ws136
                clear f_74_ws136
                have f_75_ws58 : ws58[75]? = some ((q55, Sum.inl (cI, 4096, Sum.inl (fun _ => 0))) : Nat × va_E) := by rw [e_ws58]; exact gs_ne (by decide) f_75_ws50
                clear f_75_ws50
                have f_75_ws60 : ws60[75]? = some ((q55, Sum.inl (cI, 4096, Sum.inl (fun _ => 0))) : Nat × va_E) := by rw [e_ws60]; exact gs_app f_75_ws58
                clear f_75_ws58
                have f_75_ws61 : ws61[75]? = some ((q55, Sum.inl (cI, 4096, Sum.inl (fun _ => 0))) : Nat × va_E) := by rw [e_ws61]; exact gs_ne (by decide) f_75_ws60
                clear f_75_ws60
                have f_75_ws63 : ws63[75]? = some ((q55, Sum.inl (cI, 4096, Sum.inl (fun _ => 0))) : Nat × va_E) := by rw [e_ws63]; exact gs_app f_75_ws61
                clear f_75_ws61
                have f_75_ws64 : ws64[75]? = some ((q55, Sum.inl (cI, 4096, Sum.inl (fun _ => 0))) : Nat × va_E) := by rw [e_ws64]; exact gs_ne (by decide) f_75_ws63
                clear f_75_ws63
                have f_75_ws65 : ws65[75]? = some ((q55, Sum.inl (cI, 4096, Sum.inl (fun _ => 0))) : Nat × va_E) := by rw [e_ws65]; exact gs_ne (by decide) f_75_ws64
                clear f_75_ws64
                have f_75_ws66 : ws66[75]? = some ((q55, Sum.inl (cI, 4096, Sum.inl (fun _ => 0))) : Nat × va_E) := by rw [e_ws66]; exact gs_ne (by decide) f_75_ws65
                clear f_75_ws65
                have f_75_ws72 : ws72[75]? = some ((q55, Sum.inl (cI, 4096, Sum.inl (fun _ => 0))) : Nat × va_E) := by rw [e_ws72]; exact gs_app f_75_ws66
                clear f_75_ws66
                have f_75_ws73 : ws73[75]? = some ((q55, Sum.inl (cI, 4096, Sum.inl (fun _ => 0))) : Nat × va_E) := by rw [e_ws73]; exact gs_app f_75_ws72
                clear f_75_ws72
                have f_75_ws74 : ws74[75]? = some ((q55, Sum.inl (cI, 4096, Sum.inl (fun _ => 0))) : Nat × va_E) := by rw [e_ws74]; exact gs_app f_75_ws73
                clear f_75_ws73
                have f_75_ws75 : ws75[75]? = some ((q55, Sum.inl (cI, 4096, Sum.inl (fun _ => 0))) : Nat × va_E) := by rw [e_ws75]; exact gs_app f_75_ws74
                clear f_75_ws74
                have f_75_ws76 : ws76[75]? = some ((q55, Sum.inl (cI, 4096, Sum.inl (fun _ => 0))) : Nat × va_E) := by rw [e_ws76]; exact gs_app f_75_ws75
                clear f_75_ws75
                have f_75_ws77 : ws77[75]? = some ((q55, Sum.inl (cI, 4096, Sum.inl (fun _ => 0))) : Nat × va_E) := by rw [e_ws77]; exact gs_ne (by decide) f_75_ws76
                clear f_75_ws76
                have f_75_ws79 : ws79[75]? = some ((q55, Sum.inl (cI, 4096, Sum.inl (fun _ => 0))) : Nat × va_E) := by rw [e_ws79]; exact gs_app f_75_ws77
                clear f_75_ws77
                have f_75_ws80 : ws80[75]? = some ((q55, Sum.inl (cI, 4096, Sum.inl (fun _ => 0))) : Nat × va_E) := by rw [e_ws80]; exact gs_ne (by decide) f_75_ws79
                clear f_75_ws79
                have f_75_ws82 : ws82[75]? = some ((q55, Sum.inl (cI, 4096, Sum.inl (fun _ => 0))) : Nat × va_E) := by rw [e_ws82]; exact gs_app f_75_ws80
                clear f_75_ws80
                have f_75_ws83 : ws83[75]? = some ((q55, Sum.inl (cI, 4096, Sum.inl (fun _ => 0))) : Nat × va_E) := by rw [e_ws83]; exact gs_ne (by decide) f_75_ws82
                clear f_75_ws82
                have f_75_ws85 : ws85[75]? = some ((q55, Sum.inl (cI, 4096, Sum.inl (fun _ => 0))) : Nat × va_E) := by rw [e_ws85]; exact gs_app f_75_ws83
                clear f_75_ws83
                have f_75_ws86 : ws86[75]? = some ((q55, Sum.inl (cI, 4096, Sum.inl (fun _ => 0))) : Nat × va_E) := by rw [e_ws86]; exact gs_ne (by decide) f_75_ws85
                clear f_75_ws85
                have f_75_ws88 : ws88[75]? = some ((q55, Sum.inl (cI, 4096, Sum.inl (fun _ => 0))) : Nat × va_E) := by rw [e_ws88]; exact gs_app f_75_ws86
                clear f_75_ws86
                have f_75_ws90 : ws90[75]? = some ((q55, Sum.inl (cI, 4096, Sum.inl (fun _ => 0))) : Nat × va_E) := by rw [e_ws90]; exact gs_app f_75_ws88
                clear f_75_ws88
                have f_75_ws92 : ws92[75]? = some ((q55, Sum.inl (cI, 4096, Sum.inl (fun _ => 0))) : Nat × va_E) := e_ws92.at (by first | decide | (simp; done) | (simp; omega)) f_75_ws90
                clear f_75_ws90
                have f_75_ws100 : ws100[75]? = some ((q55, Sum.inl (cI, 4096, Sum.inl (fun _ => 0))) : Nat × va_E) := by rw [e_ws100]; exact gs_ne (by decide) f_75_ws92
                clear f_75_ws92
                have f_75_ws102 : ws102[75]? = some ((q55, Sum.inl (cI, 4096, Sum.inl (fun _ => 0))) : Nat × va_E) := by rw [e_ws102]; exact gs_app f_75_ws100
                clear f_75_ws100
                have f_75_ws104 : ws104[75]? = some ((q55, Sum.inl (cI, 4096, Sum.inl (fun _ => 0))) : Nat × va_E) := e_ws104.at (by first | decide | (simp; done) | (simp; omega)) f_75_ws102
                clear f_75_ws102
                have f_75_ws112 : ws112[75]? = some ((q55, Sum.inl (cI, 4096, Sum.inl (fun _ => 0))) : Nat × va_E) := by rw [e_ws112]; exact gs_ne (by decide) f_75_ws104
                clear f_75_ws104
                have f_75_ws114 : ws114[75]? = some ((q55, Sum.inl (cI, 4096, Sum.inl (fun _ => 0))) : Nat × va_E) := by rw [e_ws114]; exact gs_app f_75_ws112
                clear f_75_ws112
                have f_75_ws116 : ws116[75]? = some ((q55, Sum.inl (cI, 4096, Sum.inl (fun _ => 0))) : Nat × va_E) := e_ws116.at (by first | decide | (simp; done) | (simp; omega)) f_75_ws114
                clear f_75_ws114
                have f_75_ws124 : ws124[75]? = some ((q55, Sum.inl (cI, 4096, Sum.inl (fun _ => 0))) : Nat × va_E) := by rw [e_ws124]; exact gs_ne (by decide) f_75_ws116
                clear f_75_ws116
                have f_75_ws126 : ws126[75]? = some ((q55, Sum.inl (cI, 4096, Sum.inl (fun _ => 0))) : Nat × va_E) := by rw [e_ws126]; exact gs_app f_75_ws124
                clear f_75_ws124
                have f_75_ws128 : ws128[75]? = some ((q55, Sum.inl (cI, 4096, Sum.inl (fun _ => 0))) : Nat × va_E) := e_ws128.at (by first | decide | (simp; done) | (simp; omega)) f_75_ws126
                clear f_75_ws126
                have f_75_ws136 : ws136[75]? = some ((q55, Sum.inl (cI, 4096, Sum.inl (fun _ => 0))) : Nat × va_E) := by rw [e_ws136]; exact gs_ne (by decide) f_75_ws128
                clear f_75_ws128
                have f_75_ws137 : ws137[75]? = some ((q55, Sum.inl (cI, 4096, Sum.inl (fun _ => 0))) : Nat × va_E) := by rw [e_ws137]; exact gs_ne (by decide) f_75_ws136
                clear f_75_ws136
                have f_76_ws58 : ws58[76]? = some ((q56, Sum.inl (cZ, 4096, Sum.inl (fun _ => 0))) : Nat × va_E) := by rw [e_ws58]; exact gs_ne (by decide) f_76_ws50
                clear f_76_ws50
                have f_76_ws60 : ws60[76]? = some ((q56, Sum.inl (cZ, 4096, Sum.inl (fun _ => 0))) : Nat × va_E) := by rw [e_ws60]; exact gs_app f_76_ws58
                clear f_76_ws58
                have f_76_ws61 : ws61[76]? = some ((q56, Sum.inl (cZ, 4096, Sum.inl (fun _ => 0))) : Nat × va_E) := by rw [e_ws61]; exact gs_ne (by decide) f_76_ws60
                clear f_76_ws60
                have f_76_ws63 : ws63[76]? = some ((q56, Sum.inl (cZ, 4096, Sum.inl (fun _ => 0))) : Nat × va_E) := by rw [e_ws63]; exact gs_app f_76_ws61
                clear f_76_ws61
                have f_76_ws64 : ws64[76]? = some ((q56, Sum.inl (cZ, 4096, Sum.inl (fun _ => 0))) : Nat × va_E) := by rw [e_ws64]; exact gs_ne (by decide) f_76_ws63
                clear f_76_ws63
                have f_76_ws65 : ws65[76]? = some ((q56, Sum.inl (cZ, 4096, Sum.inl (fun _ => 0))) : Nat × va_E) := by rw [e_ws65]; exact gs_ne (by decide) f_76_ws64
                clear f_76_ws64
                have f_76_ws66 : ws66[76]? = some ((q56, Sum.inl (cZ, 4096, Sum.inl (fun _ => 0))) : Nat × va_E) := by rw [e_ws66]; exact gs_ne (by decide) f_76_ws65
                clear f_76_ws65
                have f_76_ws72 : ws72[76]? = some ((q56, Sum.inl (cZ, 4096, Sum.inl (fun _ => 0))) : Nat × va_E) := by rw [e_ws72]; exact gs_app f_76_ws66
                clear f_76_ws66
                have f_76_ws73 : ws73[76]? = some ((q56, Sum.inl (cZ, 4096, Sum.inl (fun _ => 0))) : Nat × va_E) := by rw [e_ws73]; exact gs_app f_76_ws72
                clear f_76_ws72
                have f_76_ws74 : ws74[76]? = some ((q56, Sum.inl (cZ, 4096, Sum.inl (fun _ => 0))) : Nat × va_E) := by rw [e_ws74]; exact gs_app f_76_ws73
                clear f_76_ws73
                have f_76_ws75 : ws75[76]? = some ((q56, Sum.inl (cZ, 4096, Sum.inl (fun _ => 0))) : Nat × va_E) := by rw [e_ws75]; exact gs_app f_76_ws74
                clear f_76_ws74
                have f_76_ws76 : ws76[76]? = some ((q56, Sum.inl (cZ, 4096, Sum.inl (fun _ => 0))) : Nat × va_E) := by rw [e_ws76]; exact gs_app f_76_ws75
                clear f_76_ws75
                have f_76_ws77 : ws77[76]? = some ((q56, Sum.inl (cZ, 4096, Sum.inl (fun _ => 0))) : Nat × va_E) := by rw [e_ws77]; exact gs_ne (by decide) f_76_ws76
                clear f_76_ws76
                have f_76_ws79 : ws79[76]? = some ((q56, Sum.inl (cZ, 4096, Sum.inl (fun _ => 0))) : Nat × va_E) := by rw [e_ws79]; exact gs_app f_76_ws77
                clear f_76_ws77
                have f_76_ws80 : ws80[76]? = some ((q56, Sum.inl (cZ, 4096, Sum.inl (fun _ => 0))) : Nat × va_E) := by rw [e_ws80]; exact gs_ne (by decide) f_76_ws79
                clear f_76_ws79
                have f_76_ws82 : ws82[76]? = some ((q56, Sum.inl (cZ, 4096, Sum.inl (fun _ => 0))) : Nat × va_E) := by rw [e_ws82]; exact gs_app f_76_ws80
                clear f_76_ws80
                have f_76_ws83 : ws83[76]? = some ((q56, Sum.inl (cZ, 4096, Sum.inl (fun _ => 0))) : Nat × va_E) := by rw [e_ws83]; exact gs_ne (by decide) f_76_ws82
                clear f_76_ws82
                have f_76_ws85 : ws85[76]? = some ((q56, Sum.inl (cZ, 4096, Sum.inl (fun _ => 0))) : Nat × va_E) := by rw [e_ws85]; exact gs_app f_76_ws83
                clear f_76_ws83
                have f_76_ws86 : ws86[76]? = some ((q56, Sum.inl (cZ, 4096, Sum.inl (fun _ => 0))) : Nat × va_E) := by rw [e_ws86]; exact gs_ne (by decide) f_76_ws85
                clear f_76_ws85
                have f_76_ws88 : ws88[76]? = some ((q56, Sum.inl (cZ, 4096, Sum.inl (fun _ => 0))) : Nat × va_E) := by rw [e_ws88]; exact gs_app f_76_ws86
                clear f_76_ws86
                have f_76_ws90 : ws90[76]? = some ((q56, Sum.inl (cZ, 4096, Sum.inl (fun _ => 0))) : Nat × va_E) := by rw [e_ws90]; exact gs_app f_76_ws88
                clear f_76_ws88
                have f_76_ws92 : ws92[76]? = some ((q56, Sum.inl (cZ, 4096, Sum.inl (fun _ => 0))) : Nat × va_E) := e_ws92.at (by first | decide | (simp; done) | (simp; omega)) f_76_ws90
                clear f_76_ws90
                have f_76_ws100 : ws100[76]? = some ((q56, Sum.inl (cZ, 4096, Sum.inl (fun _ => 0))) : Nat × va_E) := by rw [e_ws100]; exact gs_ne (by decide) f_76_ws92
                clear f_76_ws92
                have f_76_ws102 : ws102[76]? = some ((q56, Sum.inl (cZ, 4096, Sum.inl (fun _ => 0))) : Nat × va_E) := by rw [e_ws102]; exact gs_app f_76_ws100
                clear f_76_ws100
                have f_76_ws104 : ws104[76]? = some ((q56, Sum.inl (cZ, 4096, Sum.inl (fun _ => 0))) : Nat × va_E) := e_ws104.at (by first | decide | (simp; done) | (simp; omega)) f_76_ws102
                clear f_76_ws102
                have f_76_ws112 : ws112[76]? = some ((q56, Sum.inl (cZ, 4096, Sum.inl (fun _ => 0))) : Nat × va_E) := by rw [e_ws112]; exact gs_ne (by decide) f_76_ws104
                clear f_76_ws104
                have f_76_ws114 : ws114[76]? = some ((q56, Sum.inl (cZ, 4096, Sum.inl (fun _ => 0))) : Nat × va_E) := by rw [e_ws114]; exact gs_app f_76_ws112
                clear f_76_ws112
                have f_76_ws116 : ws116[76]? = some ((q56, Sum.inl (cZ, 4096, Sum.inl (fun _ => 0))) : Nat × va_E) := e_ws116.at (by first | decide | (simp; done) | (simp; omega)) f_76_ws114
                clear f_76_ws114
                have f_76_ws124 : ws124[76]? = some ((q56, Sum.inl (cZ, 4096, Sum.inl (fun _ => 0))) : Nat × va_E) := by rw [e_ws124]; exact gs_ne (by decide) f_76_ws116
                clear f_76_ws116
                have f_76_ws126 : ws126[76]? = some ((q56, Sum.inl (cZ, 4096, Sum.inl (fun _ => 0))) : Nat × va_E) := by rw [e_ws126]; exact gs_app f_76_ws124
                clear f_76_ws124
                have f_76_ws128 : ws128[76]? = some ((q56, Sum.inl (cZ, 4096, Sum.inl (fun _ => 0))) : Nat × va_E) := e_ws128.at (by first | decide | (simp; done) | (simp; omega)) f_76_ws126
                clear f_76_ws126
                have f_76_ws136 : ws136[76]? = some ((q56, Sum.inl (cZ, 4096, Sum.inl (fun _ => 0))) : Nat × va_E) := by rw [e_ws136]; exact gs_ne (by decide) f_76_ws128
                clear f_76_ws128
                have f_76_ws137 : ws137[76]? = some ((q56, Sum.inl (cZ, 4096, Sum.inl (fun _ => 0))) : Nat × va_E) := by rw [e_ws137]; exact gs_ne (by decide) f_76_ws136
                clear f_76_ws136
                have f_77_ws58 : ws58[77]? = some ((q57, Sum.inl (cZ, 4096, Sum.inl (fun _ => 0))) : Nat × va_E) := by rw [e_ws58]; exact gs_ne (by decide) f_77_ws50
                clear f_77_ws50
                have f_77_ws60 : ws60[77]? = some ((q57, Sum.inl (cZ, 4096, Sum.inl (fun _ => 0))) : Nat × va_E) := by rw [e_ws60]; exact gs_app f_77_ws58
                clear f_77_ws58
                have f_77_ws61 : ws61[77]? = some ((q57, Sum.inl (cZ, 4096, Sum.inl (fun _ => 0))) : Nat × va_E) := by rw [e_ws61]; exact gs_ne (by decide) f_77_ws60
                clear f_77_ws60
                have f_77_ws63 : ws63[77]? = some ((q57, Sum.inl (cZ, 4096, Sum.inl (fun _ => 0))) : Nat × va_E) := by rw [e_ws63]; exact gs_app f_77_ws61
                clear f_77_ws61
                have f_77_ws64 : ws64[77]? = some ((q57, Sum.inl (cZ, 4096, Sum.inl (fun _ => 0))) : Nat × va_E) := by rw [e_ws64]; exact gs_ne (by decide) f_77_ws63
                clear f_77_ws63
                have f_77_ws65 : ws65[77]? = some ((q57, Sum.inl (cZ, 4096, Sum.inl (fun _ => 0))) : Nat × va_E) := by rw [e_ws65]; exact gs_ne (by decide) f_77_ws64
                clear f_77_ws64
                have f_77_ws66 : ws66[77]? = some ((q57, Sum.inl (cZ, 4096, Sum.inl (fun _ => 0))) : Nat × va_E) := by rw [e_ws66]; exact gs_ne (by decide) f_77_ws65
                clear f_77_ws65
                have f_77_ws72 : ws72[77]? = some ((q57, Sum.inl (cZ, 4096, Sum.inl (fun _ => 0))) : Nat × va_E) := by rw [e_ws72]; exact gs_app f_77_ws66
                clear f_77_ws66
                have f_77_ws73 : ws73[77]? = some ((q57, Sum.inl (cZ, 4096, Sum.inl (fun _ => 0))) : Nat × va_E) := by rw [e_ws73]; exact gs_app f_77_ws72
                clear f_77_ws72
                have f_77_ws74 : ws74[77]? = some ((q57, Sum.inl (cZ, 4096, Sum.inl (fun _ => 0))) : Nat × va_E) := by rw [e_ws74]; exact gs_app f_77_ws73
                clear f_77_ws73
                have f_77_ws75 : ws75[77]? = some ((q57, Sum.inl (cZ, 4096, Sum.inl (fun _ => 0))) : Nat × va_E) := by rw [e_ws75]; exact gs_app f_77_ws74
                clear f_77_ws74
                have f_77_ws76 : ws76[77]? = some ((q57, Sum.inl (cZ, 4096, Sum.inl (fun _ => 0))) : Nat × va_E) := by rw [e_ws76]; exact gs_app f_77_ws75
                clear f_77_ws75
                have f_77_ws77 : ws77[77]? = some ((q57, Sum.inl (cZ, 4096, Sum.inl (fun _ => 0))) : Nat × va_E) := by rw [e_ws77]; exact gs_ne (by decide) f_77_ws76
                clear f_77_ws76
                have f_77_ws79 : ws79[77]? = some ((q57, Sum.inl (cZ, 4096, Sum.inl (fun _ => 0))) : Nat × va_E) := by rw [e_ws79]; exact gs_app f_77_ws77
                clear f_77_ws77
                have f_77_ws80 : ws80[77]? = some ((q57, Sum.inl (cZ, 4096, Sum.inl (fun _ => 0))) : Nat × va_E) := by rw [e_ws80]; exact gs_ne (by decide) f_77_ws79
                clear f_77_ws79
                have f_77_ws82 : ws82[77]? = some ((q57, Sum.inl (cZ, 4096, Sum.inl (fun _ => 0))) : Nat × va_E) := by rw [e_ws82]; exact gs_app f_77_ws80
                clear f_77_ws80
                have f_77_ws83 : ws83[77]? = some ((q57, Sum.inl (cZ, 4096, Sum.inl (fun _ => 0))) : Nat × va_E) := by rw [e_ws83]; exact gs_ne (by decide) f_77_ws82
                clear f_77_ws82
                have f_77_ws85 : ws85[77]? = some ((q57, Sum.inl (cZ, 4096, Sum.inl (fun _ => 0))) : Nat × va_E) := by rw [e_ws85]; exact gs_app f_77_ws83
                clear f_77_ws83
                have f_77_ws86 : ws86[77]? = some ((q57, Sum.inl (cZ, 4096, Sum.inl (fun _ => 0))) : Nat × va_E) := by rw [e_ws86]; exact gs_ne (by decide) f_77_ws85
                clear f_77_ws85
                have f_77_ws88 : ws88[77]? = some ((q57, Sum.inl (cZ, 4096, Sum.inl (fun _ => 0))) : Nat × va_E) := by rw [e_ws88]; exact gs_app f_77_ws86
                clear f_77_ws86
                have f_77_ws90 : ws90[77]? = some ((q57, Sum.inl (cZ, 4096, Sum.inl (fun _ => 0))) : Nat × va_E) := by rw [e_ws90]; exact gs_app f_77_ws88
                clear f_77_ws88
                have f_77_ws92 : ws92[77]? = some ((q57, Sum.inl (cZ, 4096, Sum.inl (fun _ => 0))) : Nat × va_E) := e_ws92.at (by first | decide | (simp; done) | (simp; omega)) f_77_ws90
                clear f_77_ws90
                have f_77_ws100 : ws100[77]? = some ((q57, Sum.inl (cZ, 4096, Sum.inl (fun _ => 0))) : Nat × va_E) := by rw [e_ws100]; exact gs_ne (by decide) f_77_ws92
                clear f_77_ws92
                have f_77_ws102 : ws102[77]? = some ((q57, Sum.inl (cZ, 4096, Sum.inl (fun _ => 0))) : Nat × va_E) := by rw [e_ws102]; exact gs_app f_77_ws100
                clear f_77_ws100
                have f_77_ws104 : ws104[77]? = some ((q57, Sum.inl (cZ, 4096, Sum.inl (fun _ => 0))) : Nat × va_E) := e_ws104.at (by first | decide | (simp; done) | (simp; omega)) f_77_ws102
                clear f_77_ws102
                have f_77_ws112 : ws112[77]? = some ((q57, Sum.inl (cZ, 4096, Sum.inl (fun _ => 0))) : Nat × va_E) := by rw [e_ws112]; exact gs_ne (by decide) f_77_ws104
                clear f_77_ws104
                have f_77_ws114 : ws114[77]? = some ((q57, Sum.inl (cZ, 4096, Sum.inl (fun _ => 0))) : Nat × va_E) := by rw [e_ws114]; exact gs_app f_77_ws112
                clear f_77_ws112
                have f_77_ws116 : ws116[77]? = some ((q57, Sum.inl (cZ, 4096, Sum.inl (fun _ => 0))) : Nat × va_E) := e_ws116.at (by first | decide | (simp; done) | (simp; omega)) f_77_ws114
                clear f_77_ws114
                have f_77_ws124 : ws124[77]? = some ((q57, Sum.inl (cZ, 4096, Sum.inl (fun _ => 0))) : Nat × va_E) := by rw [e_ws124]; exact gs_ne (by decide) f_77_ws116
                clear f_77_ws116
                have f_77_ws126 : ws126[77]? = some ((q57, Sum.inl (cZ, 4096, Sum.inl (fun _ => 0))) : Nat × va_E) := by rw [e_ws126]; exact gs_app f_77_ws124
                clear f_77_ws124
                have f_77_ws128 : ws128[77]? = some ((q57, Sum.inl (cZ, 4096, Sum.inl (fun _ => 0))) : Nat × va_E) := e_ws128.at (by first | decide | (simp; done) | (simp; omega)) f_77_ws126
                clear f_77_ws126
                have f_77_ws136 : ws136[77]? = some ((q57, Sum.inl (cZ, 4096, Sum.inl (fun _ => 0))) : Nat × va_E) := by rw [e_ws136]; exact gs_ne (by decide) f_77_ws128
                clear f_77_ws128
                have f_77_ws137 : ws137[77]? = some ((q57, Sum.inl (cZ, 4096, Sum.inl (fun _ => 0))) : Nat × va_E) := by rw [e_ws137]; exact gs_ne (by decide) f_77_ws136
                clear f_77_ws136
                have f_78_ws61 : ws61[78]? = some ((q59, Sum.inl (cI, 4096, Sum.inl (fun _ => 0))) : Nat × va_E) := by rw [e_ws61]; exact gs_ne (by decide) f_78_ws60
                clear f_78_ws60
                have f_78_ws63 : ws63[78]? = some ((q59, Sum.inl (cI, 4096, Sum.inl (fun _ => 0))) : Nat × va_E) := by rw [e_ws63]; exact gs_app f_78_ws61
                clear f_78_ws61
                have f_78_ws64 : ws64[78]? = some ((q59, Sum.inl (cI, 4096, Sum.inl (fun _ => 0))) : Nat × va_E) := by rw [e_ws64]; exact gs_ne (by decide) f_78_ws63
                clear f_78_ws63
                have f_78_ws65 : ws65[78]? = some ((q59, Sum.inl (cI, 4096, Sum.inl (fun _ => 0))) : Nat × va_E) := by rw [e_ws65]; exact gs_ne (by decide) f_78_ws64
                clear f_78_ws64
                have f_78_ws66 : ws66[78]? = some ((q59, Sum.inl (cI, 4096, Sum.inl (fun _ => 0))) : Nat × va_E) := by rw [e_ws66]; exact gs_ne (by decide) f_78_ws65
                clear f_78_ws65
                have f_78_ws72 : ws72[78]? = some ((q59, Sum.inl (cI, 4096, Sum.inl (fun _ => 0))) : Nat × va_E) := by rw [e_ws72]; exact gs_app f_78_ws66
                clear f_78_ws66
                have f_78_ws73 : ws73[78]? = some ((q59, Sum.inl (cI, 4096, Sum.inl (fun _ => 0))) : Nat × va_E) := by rw [e_ws73]; exact gs_app f_78_ws72
                clear f_78_ws72
                have f_78_ws74 : ws74[78]? = some ((q59, Sum.inl (cI, 4096, Sum.inl (fun _ => 0))) : Nat × va_E) := by rw [e_ws74]; exact gs_app f_78_ws73
                clear f_78_ws73
                have f_78_ws75 : ws75[78]? = some ((q59, Sum.inl (cI, 4096, Sum.inl (fun _ => 0))) : Nat × va_E) := by rw [e_ws75]; exact gs_app f_78_ws74
                clear f_78_ws74
                have f_78_ws76 : ws76[78]? = some ((q59, Sum.inl (cI, 4096, Sum.inl (fun _ => 0))) : Nat × va_E) := by rw [e_ws76]; exact gs_app f_78_ws75
                clear f_78_ws75
                have f_78_ws77 : ws77[78]? = some ((q59, Sum.inl (cI, 4096, Sum.inl (fun _ => 0))) : Nat × va_E) := by rw [e_ws77]; exact gs_ne (by decide) f_78_ws76
                clear f_78_ws76
                have f_78_ws79 : ws79[78]? = some ((q59, Sum.inl (cI, 4096, Sum.inl (fun _ => 0))) : Nat × va_E) := by rw [e_ws79]; exact gs_app f_78_ws77
                clear f_78_ws77
                have f_78_ws80 : ws80[78]? = some ((q59, Sum.inl (cI, 4096, Sum.inl (fun _ => 0))) : Nat × va_E) := by rw [e_ws80]; exact gs_ne (by decide) f_78_ws79
                clear f_78_ws79
                have f_78_ws82 : ws82[78]? = some ((q59, Sum.inl (cI, 4096, Sum.inl (fun _ => 0))) : Nat × va_E) := by rw [e_ws82]; exact gs_app f_78_ws80
                clear f_78_ws80
                have f_78_ws83 : ws83[78]? = some ((q59, Sum.inl (cI, 4096, Sum.inl (fun _ => 0))) : Nat × va_E) := by rw [e_ws83]; exact gs_ne (by decide) f_78_ws82
                clear f_78_ws82
                have f_78_ws85 : ws85[78]? = some ((q59, Sum.inl (cI, 4096, Sum.inl (fun _ => 0))) : Nat × va_E) := by rw [e_ws85]; exact gs_app f_78_ws83
                clear f_78_ws83
                have f_78_ws86 : ws86[78]? = some ((q59, Sum.inl (cI, 4096, Sum.inl (fun _ => 0))) : Nat × va_E) := by rw [e_ws86]; exact gs_ne (by decide) f_78_ws85
                clear f_78_ws85
                have f_78_ws88 : ws88[78]? = some ((q59, Sum.inl (cI, 4096, Sum.inl (fun _ => 0))) : Nat × va_E) := by rw [e_ws88]; exact gs_app f_78_ws86
                clear f_78_ws86
                have f_78_ws90 : ws90[78]? = some ((q59, Sum.inl (cI, 4096, Sum.inl (fun _ => 0))) : Nat × va_E) := by rw [e_ws90]; exact gs_app f_78_ws88
                clear f_78_ws88
                have f_78_ws92 : ws92[78]? = some ((q59, Sum.inl (cI, 4096, Sum.inl (fun _ => 0))) : Nat × va_E) := e_ws92.at (by first | decide | (simp; done) | (simp; omega)) f_78_ws90
                clear f_78_ws90
                have f_78_ws100 : ws100[78]? = some ((q59, Sum.inl (cI, 4096, Sum.inl (fun _ => 0))) : Nat × va_E) := by rw [e_ws100]; exact gs_ne (by decide) f_78_ws92
                clear f_78_ws92
                have f_78_ws102 : ws102[78]? = some ((q59, Sum.inl (cI, 4096, Sum.inl (fun _ => 0))) : Nat × va_E) := by rw [e_ws102]; exact gs_app f_78_ws100
                clear f_78_ws100
                have f_78_ws104 : ws104[78]? = some ((q59, Sum.inl (cI, 4096, Sum.inl (fun _ => 0))) : Nat × va_E) := e_ws104.at (by first | decide | (simp; done) | (simp; omega)) f_78_ws102
                clear f_78_ws102
                have f_78_ws112 : ws112[78]? = some ((q59, Sum.inl (cI, 4096, Sum.inl (fun _ => 0))) : Nat × va_E) := by rw [e_ws112]; exact gs_ne (by decide) f_78_ws104
                clear f_78_ws104
                have f_78_ws114 : ws114[78]? = some ((q59, Sum.inl (cI, 4096, Sum.inl (fun _ => 0))) : Nat × va_E) := by rw [e_ws114]; exact gs_app f_78_ws112
                clear f_78_ws112
                have f_78_ws116 : ws116[78]? = some ((q59, Sum.inl (cI, 4096, Sum.inl (fun _ => 0))) : Nat × va_E) := e_ws116.at (by first | decide | (simp; done) | (simp; omega)) f_78_ws114
                clear f_78_ws114
                have f_78_ws124 : ws124[78]? = some ((q59, Sum.inl (cI, 4096, Sum.inl (fun _ => 0))) : Nat × va_E) := by rw [e_ws124]; exact gs_ne (by decide) f_78_ws116
                clear f_78_ws116
                have f_78_ws126 : ws126[78]? = some ((q59, Sum.inl (cI, 4096, Sum.inl (fun _ => 0))) : Nat × va_E) := by rw [e_ws126]; exact gs_app f_78_ws124
                clear f_78_ws124
                have f_78_ws128 : ws128[78]? = some ((q59, Sum.inl (cI, 4096, Sum.inl (fun _ => 0))) : Nat × va_E) := e_ws128.at (by first | decide | (simp; done) | (simp; omega)) f_78_ws126
                clear f_78_ws126
                have f_78_ws136 : ws136[78]? = some ((q59, Sum.inl (cI, 4096, Sum.inl (fun _ => 0))) : Nat × va_E) := by rw [e_ws136]; exact gs_ne (by decide) f_78_ws128
                clear f_78_ws128
                have f_78_ws137 : ws137[78]? = some ((q59, Sum.inl (cI, 4096, Sum.inl (fun _ => 0))) : Nat × va_E) := by rw [e_ws137]; exact gs_ne (by decide) f_78_ws136
                clear f_78_ws136
                have f_79_ws64 : ws64[79]? = some ((q62, Sum.inl (cZ, 4096, Sum.inl (fun _ => 0))) : Nat × va_E) := by rw [e_ws64]; exact gs_ne (by decide) f_79_ws63
                clear f_79_ws63
                have f_79_ws65 : ws65[79]? = some ((q62, Sum.inl (cZ, 4096, Sum.inl (fun _ => 0))) : Nat × va_E) := by rw [e_ws65]; exact gs_ne (by decide) f_79_ws64
                clear f_79_ws64
                have f_79_ws66 : ws66[79]? = some ((q62, Sum.inl (cZ, 4096, Sum.inl (fun _ => 0))) : Nat × va_E) := by rw [e_ws66]; exact gs_ne (by decide) f_79_ws65
                clear f_79_ws65
                have f_79_ws72 : ws72[79]? = some ((q62, Sum.inl (cZ, 4096, Sum.inl (fun _ => 0))) : Nat × va_E) := by rw [e_ws72]; exact gs_app f_79_ws66
                clear f_79_ws66
                have f_79_ws73 : ws73[79]? = some ((q62, Sum.inl (cZ, 4096, Sum.inl (fun _ => 0))) : Nat × va_E) := by rw [e_ws73]; exact gs_app f_79_ws72
                clear f_79_ws72
                have f_79_ws74 : ws74[79]? = some ((q62, Sum.inl (cZ, 4096, Sum.inl (fun _ => 0))) : Nat × va_E) := by rw [e_ws74]; exact gs_app f_79_ws73
                clear f_79_ws73
                have f_79_ws75 : ws75[79]? = some ((q62, Sum.inl (cZ, 4096, Sum.inl (fun _ => 0))) : Nat × va_E) := by rw [e_ws75]; exact gs_app f_79_ws74
                clear f_79_ws74
                have f_79_ws76 : ws76[79]? = some ((q62, Sum.inl (cZ, 4096, Sum.inl (fun _ => 0))) : Nat × va_E) := by rw [e_ws76]; exact gs_app f_79_ws75
                clear f_79_ws75
                have f_79_ws77 : ws77[79]? = some ((q62, Sum.inl (cZ, 4096, Sum.inl (fun _ => 0))) : Nat × va_E) := by rw [e_ws77]; exact gs_ne (by decide) f_79_ws76
                clear f_79_ws76
                have f_79_ws79 : ws79[79]? = some ((q62, Sum.inl (cZ, 4096, Sum.inl (fun _ => 0))) : Nat × va_E) := by rw [e_ws79]; exact gs_app f_79_ws77
                clear f_79_ws77
                have f_79_ws80 : ws80[79]? = some ((q62, Sum.inl (cZ, 4096, Sum.inl (fun _ => 0))) : Nat × va_E) := by rw [e_ws80]; exact gs_ne (by decide) f_79_ws79
                clear f_79_ws79
                have f_79_ws82 : ws82[79]? = some ((q62, Sum.inl (cZ, 4096, Sum.inl (fun _ => 0))) : Nat × va_E) := by rw [e_ws82]; exact gs_app f_79_ws80
                clear f_79_ws80
                have f_79_ws83 : ws83[79]? = some ((q62, Sum.inl (cZ, 4096, Sum.inl (fun _ => 0))) : Nat × va_E) := by rw [e_ws83]; exact gs_ne (by decide) f_79_ws82
                clear f_79_ws82
                have f_79_ws85 : ws85[79]? = some ((q62, Sum.inl (cZ, 4096, Sum.inl (fun _ => 0))) : Nat × va_E) := by rw [e_ws85]; exact gs_app f_79_ws83
                clear f_79_ws83
                have f_79_ws86 : ws86[79]? = some ((q62, Sum.inl (cZ, 4096, Sum.inl (fun _ => 0))) : Nat × va_E) := by rw [e_ws86]; exact gs_ne (by decide) f_79_ws85
                clear f_79_ws85
                have f_79_ws88 : ws88[79]? = some ((q62, Sum.inl (cZ, 4096, Sum.inl (fun _ => 0))) : Nat × va_E) := by rw [e_ws88]; exact gs_app f_79_ws86
                clear f_79_ws86
                have f_79_ws90 : ws90[79]? = some ((q62, Sum.inl (cZ, 4096, Sum.inl (fun _ => 0))) : Nat × va_E) := by rw [e_ws90]; exact gs_app f_79_ws88
                clear f_79_ws88
                have f_79_ws92 : ws92[79]? = some ((q62, Sum.inl (cZ, 4096, Sum.inl (fun _ => 0))) : Nat × va_E) := e_ws92.at (by first | decide | (simp; done) | (simp; omega)) f_79_ws90
                clear f_79_ws90
                have f_79_ws100 : ws100[79]? = some ((q62, Sum.inl (cZ, 4096, Sum.inl (fun _ => 0))) : Nat × va_E) := by rw [e_ws100]; exact gs_ne (by decide) f_79_ws92
                clear f_79_ws92
                have f_79_ws102 : ws102[79]? = some ((q62, Sum.inl (cZ, 4096, Sum.inl (fun _ => 0))) : Nat × va_E) := by rw [e_ws102]; exact gs_app f_79_ws100
                clear f_79_ws100
                have f_79_ws104 : ws104[79]? = some ((q62, Sum.inl (cZ, 4096, Sum.inl (fun _ => 0))) : Nat × va_E) := e_ws104.at (by first | decide | (simp; done) | (simp; omega)) f_79_ws102
                clear f_79_ws102
                have f_79_ws112 : ws112[79]? = some ((q62, Sum.inl (cZ, 4096, Sum.inl (fun _ => 0))) : Nat × va_E) := by rw [e_ws112]; exact gs_ne (by decide) f_79_ws104
                clear f_79_ws104
                have f_79_ws114 : ws114[79]? = some ((q62, Sum.inl (cZ, 4096, Sum.inl (fun _ => 0))) : Nat × va_E) := by rw [e_ws114]; exact gs_app f_79_ws112
                clear f_79_ws112
                have f_79_ws116 : ws116[79]? = some ((q62, Sum.inl (cZ, 4096, Sum.inl (fun _ => 0))) : Nat × va_E) := e_ws116.at (by first | decide | (simp; done) | (simp; omega)) f_79_ws114
                clear f_79_ws114
                have f_79_ws124 : ws124[79]? = some ((q62, Sum.inl (cZ, 4096, Sum.inl (fun _ => 0))) : Nat × va_E) := by rw [e_ws124]; exact gs_ne (by decide) f_79_ws116
                clear f_79_ws116
                have f_79_ws126 : ws126[79]? = some ((q62, Sum.inl (cZ, 4096, Sum.inl (fun _ => 0))) : Nat × va_E) := by rw [e_ws126]; exact gs_app f_79_ws124
                clear f_79_ws124
                have f_79_ws128 : ws128[79]? = some ((q62, Sum.inl (cZ, 4096, Sum.inl (fun _ => 0))) : Nat × va_E) := e_ws128.at (by first | decide | (simp; done) | (simp; omega)) f_79_ws126
                clear f_79_ws126
                have f_79_ws136 : ws136[79]? = some ((q62, Sum.inl (cZ, 4096, Sum.inl (fun _ => 0))) : Nat × va_E) := by rw [e_ws136]; exact gs_ne (by decide) f_79_ws128
                clear f_79_ws128
                have f_79_ws137 : ws137[79]? = some ((q62, Sum.inl (cZ, 4096, Sum.inl (fun _ => 0))) : Nat × va_E) := by rw [e_ws137]; exact gs_ne (by decide) f_79_ws136
                clear f_79_ws136
                have f_80_ws73 : ws73[80]? = some ((q67, Sum.inl (cN, 4, Sum.inr (Sum.inr (Sum.inr (Sum.inr (va_up (va_up (va_up (va_up (fun _ => none) 0 (some q68)) 1 (some q69)) 2 (some q70)) 3 (some q71))))))) : Nat × va_E) := by rw [e_ws73]; exact gs_app f_80_ws72
                clear f_80_ws72
                have f_80_ws74 : ws74[80]? = some ((q67, Sum.inl (cN, 4, Sum.inr (Sum.inr (Sum.inr (Sum.inr (va_up (va_up (va_up (va_up (fun _ => none) 0 (some q68)) 1 (some q69)) 2 (some q70)) 3 (some q71))))))) : Nat × va_E) := by rw [e_ws74]; exact gs_app f_80_ws73
                clear f_80_ws73
                have f_80_ws75 : ws75[80]? = some ((q67, Sum.inl (cN, 4, Sum.inr (Sum.inr (Sum.inr (Sum.inr (va_up (va_up (va_up (va_up (fun _ => none) 0 (some q68)) 1 (some q69)) 2 (some q70)) 3 (some q71))))))) : Nat × va_E) := by rw [e_ws75]; exact gs_app f_80_ws74
                clear f_80_ws74
                have f_80_ws76 : ws76[80]? = some ((q67, Sum.inl (cN, 4, Sum.inr (Sum.inr (Sum.inr (Sum.inr (va_up (va_up (va_up (va_up (fun _ => none) 0 (some q68)) 1 (some q69)) 2 (some q70)) 3 (some q71))))))) : Nat × va_E) := by rw [e_ws76]; exact gs_app f_80_ws75
                clear f_80_ws75
                have f_80_ws77 : ws77[80]? = some ((q67, Sum.inl (cN, 4, Sum.inr (Sum.inr (Sum.inr (Sum.inr (va_up (va_up (va_up (va_up (fun _ => none) 0 (some q68)) 1 (some q69)) 2 (some q70)) 3 (some q71))))))) : Nat × va_E) := by rw [e_ws77]; exact gs_ne (by decide) f_80_ws76
                clear f_80_ws76
                have f_80_ws79 : ws79[80]? = some ((q67, Sum.inl (cN, 4, Sum.inr (Sum.inr (Sum.inr (Sum.inr (va_up (va_up (va_up (va_up (fun _ => none) 0 (some q68)) 1 (some q69)) 2 (some q70)) 3 (some q71))))))) : Nat × va_E) := by rw [e_ws79]; exact gs_app f_80_ws77
                clear f_80_ws77
                have f_80_ws80 : ws80[80]? = some ((q67, Sum.inl (cN, 4, Sum.inr (Sum.inr (Sum.inr (Sum.inr (va_up (va_up (va_up (va_up (fun _ => none) 0 (some q68)) 1 (some q69)) 2 (some q70)) 3 (some q71))))))) : Nat × va_E) := by rw [e_ws80]; exact gs_ne (by decide) f_80_ws79
                clear f_80_ws79
                have f_80_ws82 : ws82[80]? = some ((q67, Sum.inl (cN, 4, Sum.inr (Sum.inr (Sum.inr (Sum.inr (va_up (va_up (va_up (va_up (fun _ => none) 0 (some q68)) 1 (some q69)) 2 (some q70)) 3 (some q71))))))) : Nat × va_E) := by rw [e_ws82]; exact gs_app f_80_ws80
                clear f_80_ws80
                have f_80_ws83 : ws83[80]? = some ((q67, Sum.inl (cN, 4, Sum.inr (Sum.inr (Sum.inr (Sum.inr (va_up (va_up (va_up (va_up (fun _ => none) 0 (some q68)) 1 (some q69)) 2 (some q70)) 3 (some q71))))))) : Nat × va_E) := by rw [e_ws83]; exact gs_ne (by decide) f_80_ws82
                clear f_80_ws82
                have f_80_ws85 : ws85[80]? = some ((q67, Sum.inl (cN, 4, Sum.inr (Sum.inr (Sum.inr (Sum.inr (va_up (va_up (va_up (va_up (fun _ => none) 0 (some q68)) 1 (some q69)) 2 (some q70)) 3 (some q71))))))) : Nat × va_E) := by rw [e_ws85]; exact gs_app f_80_ws83
                clear f_80_ws83
                have f_80_ws86 : ws86[80]? = some ((q67, Sum.inl (cN, 4, Sum.inr (Sum.inr (Sum.inr (Sum.inr (va_up (va_up (va_up (va_up (fun _ => none) 0 (some q68)) 1 (some q69)) 2 (some q70)) 3 (some q71))))))) : Nat × va_E) := by rw [e_ws86]; exact gs_ne (by decide) f_80_ws85
                clear f_80_ws85
                have f_80_ws88 : ws88[80]? = some ((q67, Sum.inl (cN, 4, Sum.inr (Sum.inr (Sum.inr (Sum.inr (va_up (va_up (va_up (va_up (fun _ => none) 0 (some q68)) 1 (some q69)) 2 (some q70)) 3 (some q71))))))) : Nat × va_E) := by rw [e_ws88]; exact gs_app f_80_ws86
                clear f_80_ws86
                have f_80_ws90 : ws90[80]? = some ((q67, Sum.inl (cN, 4, Sum.inr (Sum.inr (Sum.inr (Sum.inr (va_up (va_up (va_up (va_up (fun _ => none) 0 (some q68)) 1 (some q69)) 2 (some q70)) 3 (some q71))))))) : Nat × va_E) := by rw [e_ws90]; exact gs_app f_80_ws88
                clear f_80_ws88
                have f_80_ws92 : ws92[80]? = some ((q67, Sum.inl (cN, 4, Sum.inr (Sum.inr (Sum.inr (Sum.inr (va_up (va_up (va_up (va_up (fun _ => none) 0 (some q68)) 1 (some q69)) 2 (some q70)) 3 (some q71))))))) : Nat × va_E) := e_ws92.at (by first | decide | (simp; done) | (simp; omega)) f_80_ws90
                clear f_80_ws90
                have f_80_ws100 : ws100[80]? = some ((q67, Sum.inl (cN, 4, Sum.inr (Sum.inr (Sum.inr (Sum.inr (va_up (va_up (va_up (va_up (fun _ => none) 0 (some q68)) 1 (some q69)) 2 (some q70)) 3 (some q71))))))) : Nat × va_E) := by rw [e_ws100]; exact gs_ne (by decide) f_80_ws92
                clear f_80_ws92
                have f_80_ws102 : ws102[80]? = some ((q67, Sum.inl (cN, 4, Sum.inr (Sum.inr (Sum.inr (Sum.inr (va_up (va_up (va_up (va_up (fun _ => none) 0 (some q68)) 1 (some q69)) 2 (some q70)) 3 (some q71))))))) : Nat × va_E) := by rw [e_ws102]; exact gs_app f_80_ws100
                clear f_80_ws100
                have f_80_ws104 : ws104[80]? = some ((q67, Sum.inl (cN, 4, Sum.inr (Sum.inr (Sum.inr (Sum.inr (va_up (va_up (va_up (va_up (fun _ => none) 0 (some q68)) 1 (some q69)) 2 (some q70)) 3 (some q71))))))) : Nat × va_E) := e_ws104.at (by first | decide | (simp; done) | (simp; omega)) f_80_ws102
                clear f_80_ws102
                have f_80_ws112 : ws112[80]? = some ((q67, Sum.inl (cN, 4, Sum.inr (Sum.inr (Sum.inr (Sum.inr (va_up (va_up (va_up (va_up (fun _ => none) 0 (some q68)) 1 (some q69)) 2 (some q70)) 3 (some q71))))))) : Nat × va_E) := by rw [e_ws112]; exact gs_ne (by decide) f_80_ws104
                clear f_80_ws104
                have f_80_ws114 : ws114[80]? = some ((q67, Sum.inl (cN, 4, Sum.inr (Sum.inr (Sum.inr (Sum.inr (va_up (va_up (va_up (va_up (fun _ => none) 0 (some q68)) 1 (some q69)) 2 (some q70)) 3 (some q71))))))) : Nat × va_E) := by rw [e_ws114]; exact gs_app f_80_ws112
                clear f_80_ws112
                have f_80_ws116 : ws116[80]? = some ((q67, Sum.inl (cN, 4, Sum.inr (Sum.inr (Sum.inr (Sum.inr (va_up (va_up (va_up (va_up (fun _ => none) 0 (some q68)) 1 (some q69)) 2 (some q70)) 3 (some q71))))))) : Nat × va_E) := e_ws116.at (by first | decide | (simp; done) | (simp; omega)) f_80_ws114
                clear f_80_ws114
                have f_80_ws124 : ws124[80]? = some ((q67, Sum.inl (cN, 4, Sum.inr (Sum.inr (Sum.inr (Sum.inr (va_up (va_up (va_up (va_up (fun _ => none) 0 (some q68)) 1 (some q69)) 2 (some q70)) 3 (some q71))))))) : Nat × va_E) := by rw [e_ws124]; exact gs_ne (by decide) f_80_ws116
                clear f_80_ws116
                have f_80_ws126 : ws126[80]? = some ((q67, Sum.inl (cN, 4, Sum.inr (Sum.inr (Sum.inr (Sum.inr (va_up (va_up (va_up (va_up (fun _ => none) 0 (some q68)) 1 (some q69)) 2 (some q70)) 3 (some q71))))))) : Nat × va_E) := by rw [e_ws126]; exact gs_app f_80_ws124
                clear f_80_ws124
                have f_80_ws128 : ws128[80]? = some ((q67, Sum.inl (cN, 4, Sum.inr (Sum.inr (Sum.inr (Sum.inr (va_up (va_up (va_up (va_up (fun _ => none) 0 (some q68)) 1 (some q69)) 2 (some q70)) 3 (some q71))))))) : Nat × va_E) := e_ws128.at (by first | decide | (simp; done) | (simp; omega)) f_80_ws126
                clear f_80_ws126
                have f_80_ws136 : ws136[80]? = some ((q67, Sum.inl (cN, 4, Sum.inr (Sum.inr (Sum.inr (Sum.inr (va_up (va_up (va_up (va_up (fun _ => none) 0 (some q68)) 1 (some q69)) 2 (some q70)) 3 (some q71))))))) : Nat × va_E) := by rw [e_ws136]; exact gs_ne (by decide) f_80_ws128
                clear f_80_ws128
                have f_80_ws137 : ws137[80]? = some ((q67, Sum.inl (cN, 4, Sum.inr (Sum.inr (Sum.inr (Sum.inr (va_up (va_up (va_up (va_up (fun _ => none) 0 (some q68)) 1 (some q69)) 2 (some q70)) 3 (some q71))))))) : Nat × va_E) := by rw [e_ws137]; exact gs_ne (by decide) f_80_ws136
                clear f_80_ws136
                have f_81_ws74 : ws74[81]? = some ((q68, Sum.inl (cI, 4096, Sum.inl (fun _ => 0))) : Nat × va_E) := by rw [e_ws74]; exact gs_app f_81_ws73
                clear f_81_ws73
                have f_81_ws75 : ws75[81]? = some ((q68, Sum.inl (cI, 4096, Sum.inl (fun _ => 0))) : Nat × va_E) := by rw [e_ws75]; exact gs_app f_81_ws74
                clear f_81_ws74
                have f_81_ws76 : ws76[81]? = some ((q68, Sum.inl (cI, 4096, Sum.inl (fun _ => 0))) : Nat × va_E) := by rw [e_ws76]; exact gs_app f_81_ws75
                clear f_81_ws75
                have f_81_ws77 : ws77[81]? = some ((q68, Sum.inl (cI, 4096, Sum.inl (fun _ => 0))) : Nat × va_E) := by rw [e_ws77]; exact gs_ne (by decide) f_81_ws76
                clear f_81_ws76
                have f_81_ws79 : ws79[81]? = some ((q68, Sum.inl (cI, 4096, Sum.inl (fun _ => 0))) : Nat × va_E) := by rw [e_ws79]; exact gs_app f_81_ws77
                clear f_81_ws77
                have f_81_ws80 : ws80[81]? = some ((q68, Sum.inl (cI, 4096, Sum.inl (fun _ => 0))) : Nat × va_E) := by rw [e_ws80]; exact gs_ne (by decide) f_81_ws79
                clear f_81_ws79
                have f_81_ws82 : ws82[81]? = some ((q68, Sum.inl (cI, 4096, Sum.inl (fun _ => 0))) : Nat × va_E) := by rw [e_ws82]; exact gs_app f_81_ws80
                clear f_81_ws80
                have f_81_ws83 : ws83[81]? = some ((q68, Sum.inl (cI, 4096, Sum.inl (fun _ => 0))) : Nat × va_E) := by rw [e_ws83]; exact gs_ne (by decide) f_81_ws82
                clear f_81_ws82
                have f_81_ws85 : ws85[81]? = some ((q68, Sum.inl (cI, 4096, Sum.inl (fun _ => 0))) : Nat × va_E) := by rw [e_ws85]; exact gs_app f_81_ws83
                clear f_81_ws83
                have f_81_ws86 : ws86[81]? = some ((q68, Sum.inl (cI, 4096, Sum.inl (fun _ => 0))) : Nat × va_E) := by rw [e_ws86]; exact gs_ne (by decide) f_81_ws85
                clear f_81_ws85
                have f_81_ws88 : ws88[81]? = some ((q68, Sum.inl (cI, 4096, Sum.inl (fun _ => 0))) : Nat × va_E) := by rw [e_ws88]; exact gs_app f_81_ws86
                clear f_81_ws86
                have f_81_ws90 : ws90[81]? = some ((q68, Sum.inl (cI, 4096, Sum.inl (fun _ => 0))) : Nat × va_E) := by rw [e_ws90]; exact gs_app f_81_ws88
                clear f_81_ws88
                have f_81_ws92 : ws92[81]? = some ((q68, Sum.inl (cI, 4096, Sum.inl (fun _ => 0))) : Nat × va_E) := e_ws92.at (by first | decide | (simp; done) | (simp; omega)) f_81_ws90
                clear f_81_ws90
                have f_81_ws100 : ws100[81]? = some ((q68, Sum.inl (cI, 4096, Sum.inl (fun _ => 0))) : Nat × va_E) := by rw [e_ws100]; exact gs_ne (by decide) f_81_ws92
                clear f_81_ws92
                have f_81_ws102 : ws102[81]? = some ((q68, Sum.inl (cI, 4096, Sum.inl (fun _ => 0))) : Nat × va_E) := by rw [e_ws102]; exact gs_app f_81_ws100
                clear f_81_ws100
                have f_81_ws104 : ws104[81]? = some ((q68, Sum.inl (cI, 4096, Sum.inl (fun _ => 0))) : Nat × va_E) := e_ws104.at (by first | decide | (simp; done) | (simp; omega)) f_81_ws102
                clear f_81_ws102
                have f_81_ws112 : ws112[81]? = some ((q68, Sum.inl (cI, 4096, Sum.inl (fun _ => 0))) : Nat × va_E) := by rw [e_ws112]; exact gs_ne (by decide) f_81_ws104
                clear f_81_ws104
                have f_81_ws114 : ws114[81]? = some ((q68, Sum.inl (cI, 4096, Sum.inl (fun _ => 0))) : Nat × va_E) := by rw [e_ws114]; exact gs_app f_81_ws112
                clear f_81_ws112
                have f_81_ws116 : ws116[81]? = some ((q68, Sum.inl (cI, 4096, Sum.inl (fun _ => 0))) : Nat × va_E) := e_ws116.at (by first | decide | (simp; done) | (simp; omega)) f_81_ws114
                clear f_81_ws114
                have f_81_ws124 : ws124[81]? = some ((q68, Sum.inl (cI, 4096, Sum.inl (fun _ => 0))) : Nat × va_E) := by rw [e_ws124]; exact gs_ne (by decide) f_81_ws116
                clear f_81_ws116
                have f_81_ws126 : ws126[81]? = some ((q68, Sum.inl (cI, 4096, Sum.inl (fun _ => 0))) : Nat × va_E) := by rw [e_ws126]; exact gs_app f_81_ws124
                clear f_81_ws124
                have f_81_ws128 : ws128[81]? = some ((q68, Sum.inl (cI, 4096, Sum.inl (fun _ => 0))) : Nat × va_E) := e_ws128.at (by first | decide | (simp; done) | (simp; omega)) f_81_ws126
                clear f_81_ws126
                have f_81_ws136 : ws136[81]? = some ((q68, Sum.inl (cI, 4096, Sum.inl (fun _ => 0))) : Nat × va_E) := by rw [e_ws136]; exact gs_ne (by decide) f_81_ws128
                clear f_81_ws128
                have f_81_ws137 : ws137[81]? = some ((q68, Sum.inl (cI, 4096, Sum.inl (fun _ => 0))) : Nat × va_E) := by rw [e_ws137]; exact gs_ne (by decide) f_81_ws136
                clear f_81_ws136
                have f_82_ws75 : ws75[82]? = some ((q69, Sum.inl (cI, 4096, Sum.inl (fun _ => 0))) : Nat × va_E) := by rw [e_ws75]; exact gs_app f_82_ws74
                clear f_82_ws74
                have f_82_ws76 : ws76[82]? = some ((q69, Sum.inl (cI, 4096, Sum.inl (fun _ => 0))) : Nat × va_E) := by rw [e_ws76]; exact gs_app f_82_ws75
                clear f_82_ws75
                have f_82_ws77 : ws77[82]? = some ((q69, Sum.inl (cI, 4096, Sum.inl (fun _ => 0))) : Nat × va_E) := by rw [e_ws77]; exact gs_ne (by decide) f_82_ws76
                clear f_82_ws76
                have f_82_ws79 : ws79[82]? = some ((q69, Sum.inl (cI, 4096, Sum.inl (fun _ => 0))) : Nat × va_E) := by rw [e_ws79]; exact gs_app f_82_ws77
                clear f_82_ws77
                have f_82_ws80 : ws80[82]? = some ((q69, Sum.inl (cI, 4096, Sum.inl (fun _ => 0))) : Nat × va_E) := by rw [e_ws80]; exact gs_ne (by decide) f_82_ws79
                clear f_82_ws79
                have f_82_ws82 : ws82[82]? = some ((q69, Sum.inl (cI, 4096, Sum.inl (fun _ => 0))) : Nat × va_E) := by rw [e_ws82]; exact gs_app f_82_ws80
                clear f_82_ws80
                have f_82_ws83 : ws83[82]? = some ((q69, Sum.inl (cI, 4096, Sum.inl (fun _ => 0))) : Nat × va_E) := by rw [e_ws83]; exact gs_ne (by decide) f_82_ws82
                clear f_82_ws82
                have f_82_ws85 : ws85[82]? = some ((q69, Sum.inl (cI, 4096, Sum.inl (fun _ => 0))) : Nat × va_E) := by rw [e_ws85]; exact gs_app f_82_ws83
                clear f_82_ws83
                have f_82_ws86 : ws86[82]? = some ((q69, Sum.inl (cI, 4096, Sum.inl (fun _ => 0))) : Nat × va_E) := by rw [e_ws86]; exact gs_ne (by decide) f_82_ws85
                clear f_82_ws85
                have f_82_ws88 : ws88[82]? = some ((q69, Sum.inl (cI, 4096, Sum.inl (fun _ => 0))) : Nat × va_E) := by rw [e_ws88]; exact gs_app f_82_ws86
                clear f_82_ws86
                have f_82_ws90 : ws90[82]? = some ((q69, Sum.inl (cI, 4096, Sum.inl (fun _ => 0))) : Nat × va_E) := by rw [e_ws90]; exact gs_app f_82_ws88
                clear f_82_ws88
                have f_82_ws92 : ws92[82]? = some ((q69, Sum.inl (cI, 4096, Sum.inl (fun _ => 0))) : Nat × va_E) := e_ws92.at (by first | decide | (simp; done) | (simp; omega)) f_82_ws90
                clear f_82_ws90
                have f_82_ws100 : ws100[82]? = some ((q69, Sum.inl (cI, 4096, Sum.inl (fun _ => 0))) : Nat × va_E) := by rw [e_ws100]; exact gs_ne (by decide) f_82_ws92
                clear f_82_ws92
                have f_82_ws102 : ws102[82]? = some ((q69, Sum.inl (cI, 4096, Sum.inl (fun _ => 0))) : Nat × va_E) := by rw [e_ws102]; exact gs_app f_82_ws100
                clear f_82_ws100
                have f_82_ws104 : ws104[82]? = some ((q69, Sum.inl (cI, 4096, Sum.inl (fun _ => 0))) : Nat × va_E) := e_ws104.at (by first | decide | (simp; done) | (simp; omega)) f_82_ws102
                clear f_82_ws102
                have f_82_ws112 : ws112[82]? = some ((q69, Sum.inl (cI, 4096, Sum.inl (fun _ => 0))) : Nat × va_E) := by rw [e_ws112]; exact gs_ne (by decide) f_82_ws104
                clear f_82_ws104
                have f_82_ws114 : ws114[82]? = some ((q69, Sum.inl (cI, 4096, Sum.inl (fun _ => 0))) : Nat × va_E) := by rw [e_ws114]; exact gs_app f_82_ws112
                clear f_82_ws112
                have f_82_ws116 : ws116[82]? = some ((q69, Sum.inl (cI, 4096, Sum.inl (fun _ => 0))) : Nat × va_E) := e_ws116.at (by first | decide | (simp; done) | (simp; omega)) f_82_ws114
                clear f_82_ws114
                have f_82_ws124 : ws124[82]? = some ((q69, Sum.inl (cI, 4096, Sum.inl (fun _ => 0))) : Nat × va_E) := by rw [e_ws124]; exact gs_ne (by decide) f_82_ws116
                clear f_82_ws116
                have f_82_ws126 : ws126[82]? = some ((q69, Sum.inl (cI, 4096, Sum.inl (fun _ => 0))) : Nat × va_E) := by rw [e_ws126]; exact gs_app f_82_ws124
                clear f_82_ws124
                have f_82_ws128 : ws128[82]? = some ((q69, Sum.inl (cI, 4096, Sum.inl (fun _ => 0))) : Nat × va_E) := e_ws128.at (by first | decide | (simp; done) | (simp; omega)) f_82_ws126
                clear f_82_ws126
                have f_82_ws136 : ws136[82]? = some ((q69, Sum.inl (cI, 4096, Sum.inl (fun _ => 0))) : Nat × va_E) := by rw [e_ws136]; exact gs_ne (by decide) f_82_ws128
                clear f_82_ws128
                have f_82_ws137 : ws137[82]? = some ((q69, Sum.inl (cI, 4096, Sum.inl (fun _ => 0))) : Nat × va_E) := by rw [e_ws137]; exact gs_ne (by decide) f_82_ws136
                clear f_82_ws136
                have f_83_ws76 : ws76[83]? = some ((q70, Sum.inl (cI, 4096, Sum.inl (fun _ => 0))) : Nat × va_E) := by rw [e_ws76]; exact gs_app f_83_ws75
                clear f_83_ws75
                have f_83_ws77 : ws77[83]? = some ((q70, Sum.inl (cI, 4096, Sum.inl (fun _ => 0))) : Nat × va_E) := by rw [e_ws77]; exact gs_ne (by decide) f_83_ws76
                clear f_83_ws76
                have f_83_ws79 : ws79[83]? = some ((q70, Sum.inl (cI, 4096, Sum.inl (fun _ => 0))) : Nat × va_E) := by rw [e_ws79]; exact gs_app f_83_ws77
                clear f_83_ws77
                have f_83_ws80 : ws80[83]? = some ((q70, Sum.inl (cI, 4096, Sum.inl (fun _ => 0))) : Nat × va_E) := by rw [e_ws80]; exact gs_ne (by decide) f_83_ws79
                clear f_83_ws79
                have f_83_ws82 : ws82[83]? = some ((q70, Sum.inl (cI, 4096, Sum.inl (fun _ => 0))) : Nat × va_E) := by rw [e_ws82]; exact gs_app f_83_ws80
                clear f_83_ws80
                have f_83_ws83 : ws83[83]? = some ((q70, Sum.inl (cI, 4096, Sum.inl (fun _ => 0))) : Nat × va_E) := by rw [e_ws83]; exact gs_ne (by decide) f_83_ws82
                clear f_83_ws82
                have f_83_ws85 : ws85[83]? = some ((q70, Sum.inl (cI, 4096, Sum.inl (fun _ => 0))) : Nat × va_E) := by rw [e_ws85]; exact gs_app f_83_ws83
                clear f_83_ws83
                have f_83_ws86 : ws86[83]? = some ((q70, Sum.inl (cI, 4096, Sum.inl (fun _ => 0))) : Nat × va_E) := by rw [e_ws86]; exact gs_ne (by decide) f_83_ws85
                clear f_83_ws85
                have f_83_ws88 : ws88[83]? = some ((q70, Sum.inl (cI, 4096, Sum.inl (fun _ => 0))) : Nat × va_E) := by rw [e_ws88]; exact gs_app f_83_ws86
                clear f_83_ws86
                have f_83_ws90 : ws90[83]? = some ((q70, Sum.inl (cI, 4096, Sum.inl (fun _ => 0))) : Nat × va_E) := by rw [e_ws90]; exact gs_app f_83_ws88
                clear f_83_ws88
                have f_83_ws92 : ws92[83]? = some ((q70, Sum.inl (cI, 4096, Sum.inl (fun _ => 0))) : Nat × va_E) := e_ws92.at (by first | decide | (simp; done) | (simp; omega)) f_83_ws90
                clear f_83_ws90
                have f_83_ws100 : ws100[83]? = some ((q70, Sum.inl (cI, 4096, Sum.inl (fun _ => 0))) : Nat × va_E) := by rw [e_ws100]; exact gs_ne (by decide) f_83_ws92
                clear f_83_ws92
                have f_83_ws102 : ws102[83]? = some ((q70, Sum.inl (cI, 4096, Sum.inl (fun _ => 0))) : Nat × va_E) := by rw [e_ws102]; exact gs_app f_83_ws100
                clear f_83_ws100
                have f_83_ws104 : ws104[83]? = some ((q70, Sum.inl (cI, 4096, Sum.inl (fun _ => 0))) : Nat × va_E) := e_ws104.at (by first | decide | (simp; done) | (simp; omega)) f_83_ws102
                clear f_83_ws102
                have f_83_ws112 : ws112[83]? = some ((q70, Sum.inl (cI, 4096, Sum.inl (fun _ => 0))) : Nat × va_E) := by rw [e_ws112]; exact gs_ne (by decide) f_83_ws104
                clear f_83_ws104
                have f_83_ws114 : ws114[83]? = some ((q70, Sum.inl (cI, 4096, Sum.inl (fun _ => 0))) : Nat × va_E) := by rw [e_ws114]; exact gs_app f_83_ws112
                clear f_83_ws112
                have f_83_ws116 : ws116[83]? = some ((q70, Sum.inl (cI, 4096, Sum.inl (fun _ => 0))) : Nat × va_E) := e_ws116.at (by first | decide | (simp; done) | (simp; omega)) f_83_ws114
                clear f_83_ws114
                have f_83_ws124 : ws124[83]? = some ((q70, Sum.inl (cI, 4096, Sum.inl (fun _ => 0))) : Nat × va_E) := by rw [e_ws124]; exact gs_ne (by decide) f_83_ws116
                clear f_83_ws116
                have f_83_ws126 : ws126[83]? = some ((q70, Sum.inl (cI, 4096, Sum.inl (fun _ => 0))) : Nat × va_E) := by rw [e_ws126]; exact gs_app f_83_ws124
                clear f_83_ws124
                have f_83_ws128 : ws128[83]? = some ((q70, Sum.inl (cI, 4096, Sum.inl (fun _ => 0))) : Nat × va_E) := e_ws128.at (by first | decide | (simp; done) | (simp; omega)) f_83_ws126
                clear f_83_ws126
                have f_83_ws136 : ws136[83]? = some ((q70, Sum.inl (cI, 4096, Sum.inl (fun _ => 0))) : Nat × va_E) := by rw [e_ws136]; exact gs_ne (by decide) f_83_ws128
                clear f_83_ws128
                have f_83_ws137 : ws137[83]? = some ((q70, Sum.inl (cI, 4096, Sum.inl (fun _ => 0))) : Nat × va_E) := by rw [e_ws137]; exact gs_ne (by decide) f_83_ws136
                clear f_83_ws136
                have f_84_ws77 : ws77[84]? = some ((q71, Sum.inl (cI, 4096, Sum.inl (fun _ => 0))) : Nat × va_E) := by rw [e_ws77]; exact gs_ne (by decide) f_84_ws76
                clear f_84_ws76
                have f_84_ws79 : ws79[84]? = some ((q71, Sum.inl (cI, 4096, Sum.inl (fun _ => 0))) : Nat × va_E) := by rw [e_ws79]; exact gs_app f_84_ws77
                clear f_84_ws77
                have f_84_ws80 : ws80[84]? = some ((q71, Sum.inl (cI, 4096, Sum.inl (fun _ => 0))) : Nat × va_E) := by rw [e_ws80]; exact gs_ne (by decide) f_84_ws79
                clear f_84_ws79
                have f_84_ws82 : ws82[84]? = some ((q71, Sum.inl (cI, 4096, Sum.inl (fun _ => 0))) : Nat × va_E) := by rw [e_ws82]; exact gs_app f_84_ws80
                clear f_84_ws80
                have f_84_ws83 : ws83[84]? = some ((q71, Sum.inl (cI, 4096, Sum.inl (fun _ => 0))) : Nat × va_E) := by rw [e_ws83]; exact gs_ne (by decide) f_84_ws82
                clear f_84_ws82
                have f_84_ws85 : ws85[84]? = some ((q71, Sum.inl (cI, 4096, Sum.inl (fun _ => 0))) : Nat × va_E) := by rw [e_ws85]; exact gs_app f_84_ws83
                clear f_84_ws83
                have f_84_ws86 : ws86[84]? = some ((q71, Sum.inl (cI, 4096, Sum.inl (fun _ => 0))) : Nat × va_E) := by rw [e_ws86]; exact gs_ne (by decide) f_84_ws85
                clear f_84_ws85
                have f_84_ws88 : ws88[84]? = some ((q71, Sum.inl (cI, 4096, Sum.inl (fun _ => 0))) : Nat × va_E) := by rw [e_ws88]; exact gs_app f_84_ws86
                clear f_84_ws86
                have f_84_ws90 : ws90[84]? = some ((q71, Sum.inl (cI, 4096, Sum.inl (fun _ => 0))) : Nat × va_E) := by rw [e_ws90]; exact gs_app f_84_ws88
                clear f_84_ws88
                have f_84_ws92 : ws92[84]? = some ((q71, Sum.inl (cI, 4096, Sum.inl (fun _ => 0))) : Nat × va_E) := e_ws92.at (by first | decide | (simp; done) | (simp; omega)) f_84_ws90
                clear f_84_ws90
                have f_84_ws100 : ws100[84]? = some ((q71, Sum.inl (cI, 4096, Sum.inl (fun _ => 0))) : Nat × va_E) := by rw [e_ws100]; exact gs_ne (by decide) f_84_ws92
                clear f_84_ws92
                have f_84_ws102 : ws102[84]? = some ((q71, Sum.inl (cI, 4096, Sum.inl (fun _ => 0))) : Nat × va_E) := by rw [e_ws102]; exact gs_app f_84_ws100
                clear f_84_ws100
                have f_84_ws104 : ws104[84]? = some ((q71, Sum.inl (cI, 4096, Sum.inl (fun _ => 0))) : Nat × va_E) := e_ws104.at (by first | decide | (simp; done) | (simp; omega)) f_84_ws102
                clear f_84_ws102
                have f_84_ws112 : ws112[84]? = some ((q71, Sum.inl (cI, 4096, Sum.inl (fun _ => 0))) : Nat × va_E) := by rw [e_ws112]; exact gs_ne (by decide) f_84_ws104
                clear f_84_ws104
                have f_84_ws114 : ws114[84]? = some ((q71, Sum.inl (cI, 4096, Sum.inl (fun _ => 0))) : Nat × va_E) := by rw [e_ws114]; exact gs_app f_84_ws112
                clear f_84_ws112
                have f_84_ws116 : ws116[84]? = some ((q71, Sum.inl (cI, 4096, Sum.inl (fun _ => 0))) : Nat × va_E) := e_ws116.at (by first | decide | (simp; done) | (simp; omega)) f_84_ws114
                clear f_84_ws114
                have f_84_ws124 : ws124[84]? = some ((q71, Sum.inl (cI, 4096, Sum.inl (fun _ => 0))) : Nat × va_E) := by rw [e_ws124]; exact gs_ne (by decide) f_84_ws116
                clear f_84_ws116
                have f_84_ws126 : ws126[84]? = some ((q71, Sum.inl (cI, 4096, Sum.inl (fun _ => 0))) : Nat × va_E) := by rw [e_ws126]; exact gs_app f_84_ws124
                clear f_84_ws124
                have f_84_ws128 : ws128[84]? = some ((q71, Sum.inl (cI, 4096, Sum.inl (fun _ => 0))) : Nat × va_E) := e_ws128.at (by first | decide | (simp; done) | (simp; omega)) f_84_ws126
                clear f_84_ws126
                have f_84_ws136 : ws136[84]? = some ((q71, Sum.inl (cI, 4096, Sum.inl (fun _ => 0))) : Nat × va_E) := by rw [e_ws136]; exact gs_ne (by decide) f_84_ws128
                clear f_84_ws128
                have f_84_ws137 : ws137[84]? = some ((q71, Sum.inl (cI, 4096, Sum.inl (fun _ => 0))) : Nat × va_E) := by rw [e_ws137]; exact gs_ne (by decide) f_84_ws136
                clear f_84_ws136
                have f_85_ws80 : ws80[85]? = some ((q78, Sum.inl (cI, 4, Sum.inl (fun _ => 0))) : Nat × va_E) := by rw [e_ws80]; exact gs_ne (by decide) f_85_ws79
                clear f_85_ws79
                have f_85_ws82 : ws82[85]? = some ((q78, Sum.inl (cI, 4, Sum.inl (fun _ => 0))) : Nat × va_E) := by rw [e_ws82]; exact gs_app f_85_ws80
                clear f_85_ws80
                have f_85_ws83 : ws83[85]? = some ((q78, Sum.inl (cI, 4, Sum.inl (fun _ => 0))) : Nat × va_E) := by rw [e_ws83]; exact gs_ne (by decide) f_85_ws82
                clear f_85_ws82
                have f_85_ws85 : ws85[85]? = some ((q78, Sum.inl (cI, 4, Sum.inl (fun _ => 0))) : Nat × va_E) := by rw [e_ws85]; exact gs_app f_85_ws83
                clear f_85_ws83
                have f_85_ws86 : ws86[85]? = some ((q78, Sum.inl (cI, 4, Sum.inl (fun _ => 0))) : Nat × va_E) := by rw [e_ws86]; exact gs_ne (by decide) f_85_ws85
                clear f_85_ws85
                have f_85_ws88 : ws88[85]? = some ((q78, Sum.inl (cI, 4, Sum.inl (fun _ => 0))) : Nat × va_E) := by rw [e_ws88]; exact gs_app f_85_ws86
                clear f_85_ws86
                have f_85_ws90 : ws90[85]? = some ((q78, Sum.inl (cI, 4, Sum.inl (fun _ => 0))) : Nat × va_E) := by rw [e_ws90]; exact gs_app f_85_ws88
                clear f_85_ws88
                have f_85_ws92 : ws92[85]? = some ((q78, Sum.inl (cI, 4, Sum.inl (fun _ => 0))) : Nat × va_E) := e_ws92.at (by first | decide | (simp; done) | (simp; omega)) f_85_ws90
                clear f_85_ws90
                have f_85_ws100 : ws100[85]? = some ((q78, Sum.inl (cI, 4, Sum.inl (fun _ => 0))) : Nat × va_E) := by rw [e_ws100]; exact gs_ne (by decide) f_85_ws92
                clear f_85_ws92
                have f_85_ws102 : ws102[85]? = some ((q78, Sum.inl (cI, 4, Sum.inl (fun _ => 0))) : Nat × va_E) := by rw [e_ws102]; exact gs_app f_85_ws100
                clear f_85_ws100
                have f_85_ws104 : ws104[85]? = some ((q78, Sum.inl (cI, 4, Sum.inl (fun _ => 0))) : Nat × va_E) := e_ws104.at (by first | decide | (simp; done) | (simp; omega)) f_85_ws102
                clear f_85_ws102
                have f_85_ws112 : ws112[85]? = some ((q78, Sum.inl (cI, 4, Sum.inl (fun _ => 0))) : Nat × va_E) := by rw [e_ws112]; exact gs_ne (by decide) f_85_ws104
                clear f_85_ws104
                have f_85_ws114 : ws114[85]? = some ((q78, Sum.inl (cI, 4, Sum.inl (fun _ => 0))) : Nat × va_E) := by rw [e_ws114]; exact gs_app f_85_ws112
                clear f_85_ws112
                have f_85_ws116 : ws116[85]? = some ((q78, Sum.inl (cI, 4, Sum.inl (fun _ => 0))) : Nat × va_E) := e_ws116.at (by first | decide | (simp; done) | (simp; omega)) f_85_ws114
                clear f_85_ws114
                have f_85_ws124 : ws124[85]? = some ((q78, Sum.inl (cI, 4, Sum.inl (fun _ => 0))) : Nat × va_E) := by rw [e_ws124]; exact gs_ne (by decide) f_85_ws116
                clear f_85_ws116
                have f_85_ws126 : ws126[85]? = some ((q78, Sum.inl (cI, 4, Sum.inl (fun _ => 0))) : Nat × va_E) := by rw [e_ws126]; exact gs_app f_85_ws124
                clear f_85_ws124
                have f_85_ws128 : ws128[85]? = some ((q78, Sum.inl (cI, 4, Sum.inl (fun _ => 0))) : Nat × va_E) := e_ws128.at (by first | decide | (simp; done) | (simp; omega)) f_85_ws126
                clear f_85_ws126
                have f_85_ws136 : ws136[85]? = some ((q78, Sum.inl (cI, 4, Sum.inl (fun _ => 0))) : Nat × va_E) := by rw [e_ws136]; exact gs_ne (by decide) f_85_ws128
                clear f_85_ws128
                have f_85_ws137 : ws137[85]? = some ((q78, Sum.inl (cI, 4, Sum.inl (fun _ => 0))) : Nat × va_E) := by rw [e_ws137]; exact gs_ne (by decide) f_85_ws136
                clear f_85_ws136
                have f_86_ws83 : ws83[86]? = some ((q81, Sum.inl (cI, 4, Sum.inl (fun _ => 0))) : Nat × va_E) := by rw [e_ws83]; exact gs_ne (by decide) f_86_ws82
                clear f_86_ws82
                have f_86_ws85 : ws85[86]? = some ((q81, Sum.inl (cI, 4, Sum.inl (fun _ => 0))) : Nat × va_E) := by rw [e_ws85]; exact gs_app f_86_ws83
                clear f_86_ws83
                have f_86_ws86 : ws86[86]? = some ((q81, Sum.inl (cI, 4, Sum.inl (fun _ => 0))) : Nat × va_E) := by rw [e_ws86]; exact gs_ne (by decide) f_86_ws85
                clear f_86_ws85
                have f_86_ws88 : ws88[86]? = some ((q81, Sum.inl (cI, 4, Sum.inl (fun _ => 0))) : Nat × va_E) := by rw [e_ws88]; exact gs_app f_86_ws86
                clear f_86_ws86
                have f_86_ws90 : ws90[86]? = some ((q81, Sum.inl (cI, 4, Sum.inl (fun _ => 0))) : Nat × va_E) := by rw [e_ws90]; exact gs_app f_86_ws88
                clear f_86_ws88
                have f_86_ws92 : ws92[86]? = some ((q81, Sum.inl (cI, 4, Sum.inl (fun _ => 0))) : Nat × va_E) := e_ws92.at (by first | decide | (simp; done) | (simp; omega)) f_86_ws90
                clear f_86_ws90
                have f_86_ws100 : ws100[86]? = some ((q81, Sum.inl (cI, 4, Sum.inl (fun _ => 0))) : Nat × va_E) := by rw [e_ws100]; exact gs_ne (by decide) f_86_ws92
                clear f_86_ws92
                have f_86_ws102 : ws102[86]? = some ((q81, Sum.inl (cI, 4, Sum.inl (fun _ => 0))) : Nat × va_E) := by rw [e_ws102]; exact gs_app f_86_ws100
                clear f_86_ws100
                have f_86_ws104 : ws104[86]? = some ((q81, Sum.inl (cI, 4, Sum.inl (fun _ => 0))) : Nat × va_E) := e_ws104.at (by first | decide | (simp; done) | (simp; omega)) f_86_ws102
                clear f_86_ws102
                have f_86_ws112 : ws112[86]? = some ((q81, Sum.inl (cI, 4, Sum.inl (fun _ => 0))) : Nat × va_E) := by rw [e_ws112]; exact gs_ne (by decide) f_86_ws104
                clear f_86_ws104
                have f_86_ws114 : ws114[86]? = some ((q81, Sum.inl (cI, 4, Sum.inl (fun _ => 0))) : Nat × va_E) := by rw [e_ws114]; exact gs_app f_86_ws112
                clear f_86_ws112
                have f_86_ws116 : ws116[86]? = some ((q81, Sum.inl (cI, 4, Sum.inl (fun _ => 0))) : Nat × va_E) := e_ws116.at (by first | decide | (simp; done) | (simp; omega)) f_86_ws114
                clear f_86_ws114
                have f_86_ws124 : ws124[86]? = some ((q81, Sum.inl (cI, 4, Sum.inl (fun _ => 0))) : Nat × va_E) := by rw [e_ws124]; exact gs_ne (by decide) f_86_ws116
                clear f_86_ws116
                have f_86_ws126 : ws126[86]? = some ((q81, Sum.inl (cI, 4, Sum.inl (fun _ => 0))) : Nat × va_E) := by rw [e_ws126]; exact gs_app f_86_ws124
                clear f_86_ws124
                have f_86_ws128 : ws128[86]? = some ((q81, Sum.inl (cI, 4, Sum.inl (fun _ => 0))) : Nat × va_E) := e_ws128.at (by first | decide | (simp; done) | (simp; omega)) f_86_ws126
                clear f_86_ws126
                have f_86_ws136 : ws136[86]? = some ((q81, Sum.inl (cI, 4, Sum.inl (fun _ => 0))) : Nat × va_E) := by rw [e_ws136]; exact gs_ne (by decide) f_86_ws128
                clear f_86_ws128
                have f_86_ws137 : ws137[86]? = some ((q81, Sum.inl (cI, 4, Sum.inl (fun _ => 0))) : Nat × va_E) := by rw [e_ws137]; exact gs_ne (by decide) f_86_ws136
                clear f_86_ws136
                have f_87_ws86 : ws86[87]? = some ((q84, Sum.inl (cI, 4, Sum.inl (fun _ => 0))) : Nat × va_E) := by rw [e_ws86]; exact gs_ne (by decide) f_87_ws85
                clear f_87_ws85
                have f_87_ws88 : ws88[87]? = some ((q84, Sum.inl (cI, 4, Sum.inl (fun _ => 0))) : Nat × va_E) := by rw [e_ws88]; exact gs_app f_87_ws86
                clear f_87_ws86
                have f_87_ws90 : ws90[87]? = some ((q84, Sum.inl (cI, 4, Sum.inl (fun _ => 0))) : Nat × va_E) := by rw [e_ws90]; exact gs_app f_87_ws88
                clear f_87_ws88
                have f_87_ws92 : ws92[87]? = some ((q84, Sum.inl (cI, 4, Sum.inl (fun _ => 0))) : Nat × va_E) := e_ws92.at (by first | decide | (simp; done) | (simp; omega)) f_87_ws90
                clear f_87_ws90
                have f_87_ws100 : ws100[87]? = some ((q84, Sum.inl (cI, 4, Sum.inl (fun _ => 0))) : Nat × va_E) := by rw [e_ws100]; exact gs_ne (by decide) f_87_ws92
                clear f_87_ws92
                have f_87_ws102 : ws102[87]? = some ((q84, Sum.inl (cI, 4, Sum.inl (fun _ => 0))) : Nat × va_E) := by rw [e_ws102]; exact gs_app f_87_ws100
                clear f_87_ws100
                have f_87_ws104 : ws104[87]? = some ((q84, Sum.inl (cI, 4, Sum.inl (fun _ => 0))) : Nat × va_E) := e_ws104.at (by first | decide | (simp; done) | (simp; omega)) f_87_ws102
                clear f_87_ws102
                have f_87_ws112 : ws112[87]? = some ((q84, Sum.inl (cI, 4, Sum.inl (fun _ => 0))) : Nat × va_E) := by rw [e_ws112]; exact gs_ne (by decide) f_87_ws104
                clear f_87_ws104
                have f_87_ws114 : ws114[87]? = some ((q84, Sum.inl (cI, 4, Sum.inl (fun _ => 0))) : Nat × va_E) := by rw [e_ws114]; exact gs_app f_87_ws112
                clear f_87_ws112
                have f_87_ws116 : ws116[87]? = some ((q84, Sum.inl (cI, 4, Sum.inl (fun _ => 0))) : Nat × va_E) := e_ws116.at (by first | decide | (simp; done) | (simp; omega)) f_87_ws114
                clear f_87_ws114
                have f_87_ws124 : ws124[87]? = some ((q84, Sum.inl (cI, 4, Sum.inl (fun _ => 0))) : Nat × va_E) := by rw [e_ws124]; exact gs_ne (by decide) f_87_ws116
                clear f_87_ws116
                have f_87_ws126 : ws126[87]? = some ((q84, Sum.inl (cI, 4, Sum.inl (fun _ => 0))) : Nat × va_E) := by rw [e_ws126]; exact gs_app f_87_ws124
                clear f_87_ws124
                have f_87_ws128 : ws128[87]? = some ((q84, Sum.inl (cI, 4, Sum.inl (fun _ => 0))) : Nat × va_E) := e_ws128.at (by first | decide | (simp; done) | (simp; omega)) f_87_ws126
                clear f_87_ws126
                have f_87_ws136 : ws136[87]? = some ((q84, Sum.inl (cI, 4, Sum.inl (fun _ => 0))) : Nat × va_E) := by rw [e_ws136]; exact gs_ne (by decide) f_87_ws128
                clear f_87_ws128
                have f_87_ws137 : ws137[87]? = some ((q84, Sum.inl (cI, 4, Sum.inl (fun _ => 0))) : Nat × va_E) := by rw [e_ws137]; exact gs_ne (by decide) f_87_ws136
                clear f_87_ws136
                have f_88_ws137 : ws137[88]? = some ((q87, Sum.inl (cV, 4, Sum.inr (Sum.inr (Sum.inr (Sum.inr (va_up (va_up (va_up (va_up (fun _ => none) 0 (some q89)) 1 (some q101)) 2 (some q113)) 3 (some q125))))))) : Nat × va_E) := by rw [e_ws137]; exact gs_ne (by decide) f_88_ws136
                clear f_88_ws136
                have f_89_ws100 : ws100[89]? = some ((q89, Sum.inr (9, [Value.ref q93, Value.ref q94, Value.ref q95, Value.ref q96, Value.ref q97, Value.ref q98, Value.ref q99, Value.int 0, Value.int 0, Value.int 0, Value.int 0])) : Nat × va_E) := by rw [e_ws100]; exact gs_ne (by decide) f_89_ws92
                clear f_89_ws92
                have f_89_ws102 : ws102[89]? = some ((q89, Sum.inr (9, [Value.ref q93, Value.ref q94, Value.ref q95, Value.ref q96, Value.ref q97, Value.ref q98, Value.ref q99, Value.int 0, Value.int 0, Value.int 0, Value.int 0])) : Nat × va_E) := by rw [e_ws102]; exact gs_app f_89_ws100
                clear f_89_ws100
                have f_89_ws104 : ws104[89]? = some ((q89, Sum.inr (9, [Value.ref q93, Value.ref q94, Value.ref q95, Value.ref q96, Value.ref q97, Value.ref q98, Value.ref q99, Value.int 0, Value.int 0, Value.int 0, Value.int 0])) : Nat × va_E) := e_ws104.at (by first | decide | (simp; done) | (simp; omega)) f_89_ws102
                clear f_89_ws102
                have f_89_ws112 : ws112[89]? = some ((q89, Sum.inr (9, [Value.ref q93, Value.ref q94, Value.ref q95, Value.ref q96, Value.ref q97, Value.ref q98, Value.ref q99, Value.int 0, Value.int 0, Value.int 0, Value.int 0])) : Nat × va_E) := by rw [e_ws112]; exact gs_ne (by decide) f_89_ws104
                clear f_89_ws104
                have f_89_ws114 : ws114[89]? = some ((q89, Sum.inr (9, [Value.ref q93, Value.ref q94, Value.ref q95, Value.ref q96, Value.ref q97, Value.ref q98, Value.ref q99, Value.int 0, Value.int 0, Value.int 0, Value.int 0])) : Nat × va_E) := by rw [e_ws114]; exact gs_app f_89_ws112
                clear f_89_ws112
                have f_89_ws116 : ws116[89]? = some ((q89, Sum.inr (9, [Value.ref q93, Value.ref q94, Value.ref q95, Value.ref q96, Value.ref q97, Value.ref q98, Value.ref q99, Value.int 0, Value.int 0, Value.int 0, Value.int 0])) : Nat × va_E) := e_ws116.at (by first | decide | (simp; done) | (simp; omega)) f_89_ws114
                clear f_89_ws114
                have f_89_ws124 : ws124[89]? = some ((q89, Sum.inr (9, [Value.ref q93, Value.ref q94, Value.ref q95, Value.ref q96, Value.ref q97, Value.ref q98, Value.ref q99, Value.int 0, Value.int 0, Value.int 0, Value.int 0])) : Nat × va_E) := by rw [e_ws124]; exact gs_ne (by decide) f_89_ws116
                clear f_89_ws116
                have f_89_ws126 : ws126[89]? = some ((q89, Sum.inr (9, [Value.ref q93, Value.ref q94, Value.ref q95, Value.ref q96, Value.ref q97, Value.ref q98, Value.ref q99, Value.int 0, Value.int 0, Value.int 0, Value.int 0])) : Nat × va_E) := by rw [e_ws126]; exact gs_app f_89_ws124
                clear f_89_ws124
                have f_89_ws128 : ws128[89]? = some ((q89, Sum.inr (9, [Value.ref q93, Value.ref q94, Value.ref q95, Value.ref q96, Value.ref q97, Value.ref q98, Value.ref q99, Value.int 0, Value.int 0, Value.int 0, Value.int 0])) : Nat × va_E) := e_ws128.at (by first | decide | (simp; done) | (simp; omega)) f_89_ws126
                clear f_89_ws126
                have f_89_ws136 : ws136[89]? = some ((q89, Sum.inr (9, [Value.ref q93, Value.ref q94, Value.ref q95, Value.ref q96, Value.ref q97, Value.ref q98, Value.ref q99, Value.int 0, Value.int 0, Value.int 0, Value.int 0])) : Nat × va_E) := by rw [e_ws136]; exact gs_ne (by decide) f_89_ws128
                clear f_89_ws128
                have f_89_ws137 : ws137[89]? = some ((q89, Sum.inr (9, [Value.ref q93, Value.ref q94, Value.ref q95, Value.ref q96, Value.ref q97, Value.ref q98, Value.ref q99, Value.int 0, Value.int 0, Value.int 0, Value.int 0])) : Nat × va_E) := by rw [e_ws137]; exact gs_ne (by decide) f_89_ws136
                clear f_89_ws136
                have f_90_ws100 : ws100[90]? = some ((q93, Sum.inl (cI, 4097, Sum.inl (fun _ => 0))) : Nat × va_E) := by rw [e_ws100]; exact gs_ne (by decide) f_90_ws92
                clear f_90_ws92
                have f_90_ws102 : ws102[90]? = some ((q93, Sum.inl (cI, 4097, Sum.inl (fun _ => 0))) : Nat × va_E) := by rw [e_ws102]; exact gs_app f_90_ws100
                clear f_90_ws100
                have f_90_ws104 : ws104[90]? = some ((q93, Sum.inl (cI, 4097, Sum.inl (fun _ => 0))) : Nat × va_E) := e_ws104.at (by first | decide | (simp; done) | (simp; omega)) f_90_ws102
                clear f_90_ws102
                have f_90_ws112 : ws112[90]? = some ((q93, Sum.inl (cI, 4097, Sum.inl (fun _ => 0))) : Nat × va_E) := by rw [e_ws112]; exact gs_ne (by decide) f_90_ws104
                clear f_90_ws104
                have f_90_ws114 : ws114[90]? = some ((q93, Sum.inl (cI, 4097, Sum.inl (fun _ => 0))) : Nat × va_E) := by rw [e_ws114]; exact gs_app f_90_ws112
                clear f_90_ws112
                have f_90_ws116 : ws116[90]? = some ((q93, Sum.inl (cI, 4097, Sum.inl (fun _ => 0))) : Nat × va_E) := e_ws116.at (by first | decide | (simp; done) | (simp; omega)) f_90_ws114
                clear f_90_ws114
                have f_90_ws124 : ws124[90]? = some ((q93, Sum.inl (cI, 4097, Sum.inl (fun _ => 0))) : Nat × va_E) := by rw [e_ws124]; exact gs_ne (by decide) f_90_ws116
                clear f_90_ws116
                have f_90_ws126 : ws126[90]? = some ((q93, Sum.inl (cI, 4097, Sum.inl (fun _ => 0))) : Nat × va_E) := by rw [e_ws126]; exact gs_app f_90_ws124
                clear f_90_ws124
                have f_90_ws128 : ws128[90]? = some ((q93, Sum.inl (cI, 4097, Sum.inl (fun _ => 0))) : Nat × va_E) := e_ws128.at (by first | decide | (simp; done) | (simp; omega)) f_90_ws126
                clear f_90_ws126
                have f_90_ws136 : ws136[90]? = some ((q93, Sum.inl (cI, 4097, Sum.inl (fun _ => 0))) : Nat × va_E) := by rw [e_ws136]; exact gs_ne (by decide) f_90_ws128
                clear f_90_ws128
                have f_90_ws137 : ws137[90]? = some ((q93, Sum.inl (cI, 4097, Sum.inl (fun _ => 0))) : Nat × va_E) := by rw [e_ws137]; exact gs_ne (by decide) f_90_ws136
                clear f_90_ws136
                have f_91_ws100 : ws100[91]? = some ((q94, Sum.inl (cI, 4097, Sum.inl (fun _ => 0))) : Nat × va_E) := by rw [e_ws100]; exact gs_ne (by decide) f_91_ws92
                clear f_91_ws92
                have f_91_ws102 : ws102[91]? = some ((q94, Sum.inl (cI, 4097, Sum.inl (fun _ => 0))) : Nat × va_E) := by rw [e_ws102]; exact gs_app f_91_ws100
                clear f_91_ws100
                have f_91_ws104 : ws104[91]? = some ((q94, Sum.inl (cI, 4097, Sum.inl (fun _ => 0))) : Nat × va_E) := e_ws104.at (by first | decide | (simp; done) | (simp; omega)) f_91_ws102
                clear f_91_ws102
                have f_91_ws112 : ws112[91]? = some ((q94, Sum.inl (cI, 4097, Sum.inl (fun _ => 0))) : Nat × va_E) := by rw [e_ws112]; exact gs_ne (by decide) f_91_ws104
                clear f_91_ws104
                have f_91_ws114 : ws114[91]? = some ((q94, Sum.inl (cI, 4097, Sum.inl (fun _ => 0))) : Nat × va_E) := by rw [e_ws114]; exact gs_app f_91_ws112
                clear f_91_ws112
                have f_91_ws116 : ws116[91]? = some ((q94, Sum.inl (cI, 4097, Sum.inl (fun _ => 0))) : Nat × va_E) := e_ws116.at (by first | decide | (simp; done) | (simp; omega)) f_91_ws114
                clear f_91_ws114
                have f_91_ws124 : ws124[91]? = some ((q94, Sum.inl (cI, 4097, Sum.inl (fun _ => 0))) : Nat × va_E) := by rw [e_ws124]; exact gs_ne (by decide) f_91_ws116
                clear f_91_ws116
                have f_91_ws126 : ws126[91]? = some ((q94, Sum.inl (cI, 4097, Sum.inl (fun _ => 0))) : Nat × va_E) := by rw [e_ws126]; exact gs_app f_91_ws124
                clear f_91_ws124
                have f_91_ws128 : ws128[91]? = some ((q94, Sum.inl (cI, 4097, Sum.inl (fun _ => 0))) : Nat × va_E) := e_ws128.at (by first | decide | (simp; done) | (simp; omega)) f_91_ws126
                clear f_91_ws126
                have f_91_ws136 : ws136[91]? = some ((q94, Sum.inl (cI, 4097, Sum.inl (fun _ => 0))) : Nat × va_E) := by rw [e_ws136]; exact gs_ne (by decide) f_91_ws128
                clear f_91_ws128
                have f_91_ws137 : ws137[91]? = some ((q94, Sum.inl (cI, 4097, Sum.inl (fun _ => 0))) : Nat × va_E) := by rw [e_ws137]; exact gs_ne (by decide) f_91_ws136
                clear f_91_ws136
                have f_92_ws100 : ws100[92]? = some ((q95, Sum.inl (cI, 4098, Sum.inl (fun _ => 0))) : Nat × va_E) := by rw [e_ws100]; exact gs_ne (by decide) f_92_ws92
                clear f_92_ws92
                have f_92_ws102 : ws102[92]? = some ((q95, Sum.inl (cI, 4098, Sum.inl (fun _ => 0))) : Nat × va_E) := by rw [e_ws102]; exact gs_app f_92_ws100
                clear f_92_ws100
                have f_92_ws104 : ws104[92]? = some ((q95, Sum.inl (cI, 4098, Sum.inl (fun _ => 0))) : Nat × va_E) := e_ws104.at (by first | decide | (simp; done) | (simp; omega)) f_92_ws102
                clear f_92_ws102
                have f_92_ws112 : ws112[92]? = some ((q95, Sum.inl (cI, 4098, Sum.inl (fun _ => 0))) : Nat × va_E) := by rw [e_ws112]; exact gs_ne (by decide) f_92_ws104
                clear f_92_ws104
                have f_92_ws114 : ws114[92]? = some ((q95, Sum.inl (cI, 4098, Sum.inl (fun _ => 0))) : Nat × va_E) := by rw [e_ws114]; exact gs_app f_92_ws112
                clear f_92_ws112
                have f_92_ws116 : ws116[92]? = some ((q95, Sum.inl (cI, 4098, Sum.inl (fun _ => 0))) : Nat × va_E) := e_ws116.at (by first | decide | (simp; done) | (simp; omega)) f_92_ws114
                clear f_92_ws114
                have f_92_ws124 : ws124[92]? = some ((q95, Sum.inl (cI, 4098, Sum.inl (fun _ => 0))) : Nat × va_E) := by rw [e_ws124]; exact gs_ne (by decide) f_92_ws116
                clear f_92_ws116
                have f_92_ws126 : ws126[92]? = some ((q95, Sum.inl (cI, 4098, Sum.inl (fun _ => 0))) : Nat × va_E) := by rw [e_ws126]; exact gs_app f_92_ws124
                clear f_92_ws124
                have f_92_ws128 : ws128[92]? = some ((q95, Sum.inl (cI, 4098, Sum.inl (fun _ => 0))) : Nat × va_E) := e_ws128.at (by first | decide | (simp; done) | (simp; omega)) f_92_ws126
                clear f_92_ws126
                have f_92_ws136 : ws136[92]? = some ((q95, Sum.inl (cI, 4098, Sum.inl (fun _ => 0))) : Nat × va_E) := by rw [e_ws136]; exact gs_ne (by decide) f_92_ws128
                clear f_92_ws128
                have f_92_ws137 : ws137[92]? = some ((q95, Sum.inl (cI, 4098, Sum.inl (fun _ => 0))) : Nat × va_E) := by rw [e_ws137]; exact gs_ne (by decide) f_92_ws136
                clear f_92_ws136
                have f_93_ws100 : ws100[93]? = some ((q96, Sum.inl (cI, 4097, Sum.inl (fun _ => 0))) : Nat × va_E) := by rw [e_ws100]; exact gs_ne (by decide) f_93_ws92
                clear f_93_ws92
                have f_93_ws102 : ws102[93]? = some ((q96, Sum.inl (cI, 4097, Sum.inl (fun _ => 0))) : Nat × va_E) := by rw [e_ws102]; exact gs_app f_93_ws100
                clear f_93_ws100
                have f_93_ws104 : ws104[93]? = some ((q96, Sum.inl (cI, 4097, Sum.inl (fun _ => 0))) : Nat × va_E) := e_ws104.at (by first | decide | (simp; done) | (simp; omega)) f_93_ws102
                clear f_93_ws102
                have f_93_ws112 : ws112[93]? = some ((q96, Sum.inl (cI, 4097, Sum.inl (fun _ => 0))) : Nat × va_E) := by rw [e_ws112]; exact gs_ne (by decide) f_93_ws104
                clear f_93_ws104
                have f_93_ws114 : ws114[93]? = some ((q96, Sum.inl (cI, 4097, Sum.inl (fun _ => 0))) : Nat × va_E) := by rw [e_ws114]; exact gs_app f_93_ws112
                clear f_93_ws112
                have f_93_ws116 : ws116[93]? = some ((q96, Sum.inl (cI, 4097, Sum.inl (fun _ => 0))) : Nat × va_E) := e_ws116.at (by first | decide | (simp; done) | (simp; omega)) f_93_ws114
                clear f_93_ws114
                have f_93_ws124 : ws124[93]? = some ((q96, Sum.inl (cI, 4097, Sum.inl (fun _ => 0))) : Nat × va_E) := by rw [e_ws124]; exact gs_ne (by decide) f_93_ws116
                clear f_93_ws116
                have f_93_ws126 : ws126[93]? = some ((q96, Sum.inl (cI, 4097, Sum.inl (fun _ => 0))) : Nat × va_E) := by rw [e_ws126]; exact gs_app f_93_ws124
                clear f_93_ws124
                have f_93_ws128 : ws128[93]? = some ((q96, Sum.inl (cI, 4097, Sum.inl (fun _ => 0))) : Nat × va_E) := e_ws128.at (by first | decide | (simp; done) | (simp; omega)) f_93_ws126
                clear f_93_ws126
                have f_93_ws136 : ws136[93]? = some ((q96, Sum.inl (cI, 4097, Sum.inl (fun _ => 0))) : Nat × va_E) := by rw [e_ws136]; exact gs_ne (by decide) f_93_ws128
                clear f_93_ws128
                have f_93_ws137 : ws137[93]? = some ((q96, Sum.inl (cI, 4097, Sum.inl (fun _ => 0))) : Nat × va_E) := by rw [e_ws137]; exact gs_ne (by decide) f_93_ws136
                clear f_93_ws136
                have f_94_ws100 : ws100[94]? = some ((q97, Sum.inl (cI, 4096, Sum.inl (fun _ => 0))) : Nat × va_E) := by rw [e_ws100]; exact gs_ne (by decide) f_94_ws92
                clear f_94_ws92
                have f_94_ws102 : ws102[94]? = some ((q97, Sum.inl (cI, 4096, Sum.inl (fun _ => 0))) : Nat × va_E) := by rw [e_ws102]; exact gs_app f_94_ws100
                clear f_94_ws100
                have f_94_ws104 : ws104[94]? = some ((q97, Sum.inl (cI, 4096, Sum.inl (fun _ => 0))) : Nat × va_E) := e_ws104.at (by first | decide | (simp; done) | (simp; omega)) f_94_ws102
                clear f_94_ws102
                have f_94_ws112 : ws112[94]? = some ((q97, Sum.inl (cI, 4096, Sum.inl (fun _ => 0))) : Nat × va_E) := by rw [e_ws112]; exact gs_ne (by decide) f_94_ws104
                clear f_94_ws104
                have f_94_ws114 : ws114[94]? = some ((q97, Sum.inl (cI, 4096, Sum.inl (fun _ => 0))) : Nat × va_E) := by rw [e_ws114]; exact gs_app f_94_ws112
                clear f_94_ws112
                have f_94_ws116 : ws116[94]? = some ((q97, Sum.inl (cI, 4096, Sum.inl (fun _ => 0))) : Nat × va_E) := e_ws116.at (by first | decide | (simp; done) | (simp; omega)) f_94_ws114
                clear f_94_ws114
                have f_94_ws124 : ws124[94]? = some ((q97, Sum.inl (cI, 4096, Sum.inl (fun _ => 0))) : Nat × va_E) := by rw [e_ws124]; exact gs_ne (by decide) f_94_ws116
                clear f_94_ws116
                have f_94_ws126 : ws126[94]? = some ((q97, Sum.inl (cI, 4096, Sum.inl (fun _ => 0))) : Nat × va_E) := by rw [e_ws126]; exact gs_app f_94_ws124
                clear f_94_ws124
                have f_94_ws128 : ws128[94]? = some ((q97, Sum.inl (cI, 4096, Sum.inl (fun _ => 0))) : Nat × va_E) := e_ws128.at (by first | decide | (simp; done) | (simp; omega)) f_94_ws126
                clear f_94_ws126
                have f_94_ws136 : ws136[94]? = some ((q97, Sum.inl (cI, 4096, Sum.inl (fun _ => 0))) : Nat × va_E) := by rw [e_ws136]; exact gs_ne (by decide) f_94_ws128
                clear f_94_ws128
                have f_94_ws137 : ws137[94]? = some ((q97, Sum.inl (cI, 4096, Sum.inl (fun _ => 0))) : Nat × va_E) := by rw [e_ws137]; exact gs_ne (by decide) f_94_ws136
                clear f_94_ws136
                have f_95_ws100 : ws100[95]? = some ((q98, Sum.inl (cZ, 4096, Sum.inl (fun _ => 0))) : Nat × va_E) := by rw [e_ws100]; exact gs_ne (by decide) f_95_ws92
                clear f_95_ws92
                have f_95_ws102 : ws102[95]? = some ((q98, Sum.inl (cZ, 4096, Sum.inl (fun _ => 0))) : Nat × va_E) := by rw [e_ws102]; exact gs_app f_95_ws100
                clear f_95_ws100
                have f_95_ws104 : ws104[95]? = some ((q98, Sum.inl (cZ, 4096, Sum.inl (fun _ => 0))) : Nat × va_E) := e_ws104.at (by first | decide | (simp; done) | (simp; omega)) f_95_ws102
                clear f_95_ws102
                have f_95_ws112 : ws112[95]? = some ((q98, Sum.inl (cZ, 4096, Sum.inl (fun _ => 0))) : Nat × va_E) := by rw [e_ws112]; exact gs_ne (by decide) f_95_ws104
                clear f_95_ws104
                have f_95_ws114 : ws114[95]? = some ((q98, Sum.inl (cZ, 4096, Sum.inl (fun _ => 0))) : Nat × va_E) := by rw [e_ws114]; exact gs_app f_95_ws112
                clear f_95_ws112
                have f_95_ws116 : ws116[95]? = some ((q98, Sum.inl (cZ, 4096, Sum.inl (fun _ => 0))) : Nat × va_E) := e_ws116.at (by first | decide | (simp; done) | (simp; omega)) f_95_ws114
                clear f_95_ws114
                have f_95_ws124 : ws124[95]? = some ((q98, Sum.inl (cZ, 4096, Sum.inl (fun _ => 0))) : Nat × va_E) := by rw [e_ws124]; exact gs_ne (by decide) f_95_ws116
                clear f_95_ws116
                have f_95_ws126 : ws126[95]? = some ((q98, Sum.inl (cZ, 4096, Sum.inl (fun _ => 0))) : Nat × va_E) := by rw [e_ws126]; exact gs_app f_95_ws124
                clear f_95_ws124
                have f_95_ws128 : ws128[95]? = some ((q98, Sum.inl (cZ, 4096, Sum.inl (fun _ => 0))) : Nat × va_E) := e_ws128.at (by first | decide | (simp; done) | (simp; omega)) f_95_ws126
                clear f_95_ws126
                have f_95_ws136 : ws136[95]? = some ((q98, Sum.inl (cZ, 4096, Sum.inl (fun _ => 0))) : Nat × va_E) := by rw [e_ws136]; exact gs_ne (by decide) f_95_ws128
                clear f_95_ws128
                have f_95_ws137 : ws137[95]? = some ((q98, Sum.inl (cZ, 4096, Sum.inl (fun _ => 0))) : Nat × va_E) := by rw [e_ws137]; exact gs_ne (by decide) f_95_ws136
                clear f_95_ws136
                have f_96_ws100 : ws100[96]? = some ((q99, Sum.inl (cZ, 4096, Sum.inl (fun _ => 0))) : Nat × va_E) := by rw [e_ws100]; exact gs_ne (by decide) f_96_ws92
                clear f_96_ws92
                have f_96_ws102 : ws102[96]? = some ((q99, Sum.inl (cZ, 4096, Sum.inl (fun _ => 0))) : Nat × va_E) := by rw [e_ws102]; exact gs_app f_96_ws100
                clear f_96_ws100
                have f_96_ws104 : ws104[96]? = some ((q99, Sum.inl (cZ, 4096, Sum.inl (fun _ => 0))) : Nat × va_E) := e_ws104.at (by first | decide | (simp; done) | (simp; omega)) f_96_ws102
                clear f_96_ws102
                have f_96_ws112 : ws112[96]? = some ((q99, Sum.inl (cZ, 4096, Sum.inl (fun _ => 0))) : Nat × va_E) := by rw [e_ws112]; exact gs_ne (by decide) f_96_ws104
                clear f_96_ws104
                have f_96_ws114 : ws114[96]? = some ((q99, Sum.inl (cZ, 4096, Sum.inl (fun _ => 0))) : Nat × va_E) := by rw [e_ws114]; exact gs_app f_96_ws112
                clear f_96_ws112
                have f_96_ws116 : ws116[96]? = some ((q99, Sum.inl (cZ, 4096, Sum.inl (fun _ => 0))) : Nat × va_E) := e_ws116.at (by first | decide | (simp; done) | (simp; omega)) f_96_ws114
                clear f_96_ws114
                have f_96_ws124 : ws124[96]? = some ((q99, Sum.inl (cZ, 4096, Sum.inl (fun _ => 0))) : Nat × va_E) := by rw [e_ws124]; exact gs_ne (by decide) f_96_ws116
                clear f_96_ws116
                have f_96_ws126 : ws126[96]? = some ((q99, Sum.inl (cZ, 4096, Sum.inl (fun _ => 0))) : Nat × va_E) := by rw [e_ws126]; exact gs_app f_96_ws124
                clear f_96_ws124
                have f_96_ws128 : ws128[96]? = some ((q99, Sum.inl (cZ, 4096, Sum.inl (fun _ => 0))) : Nat × va_E) := e_ws128.at (by first | decide | (simp; done) | (simp; omega)) f_96_ws126
                clear f_96_ws126
                have f_96_ws136 : ws136[96]? = some ((q99, Sum.inl (cZ, 4096, Sum.inl (fun _ => 0))) : Nat × va_E) := by rw [e_ws136]; exact gs_ne (by decide) f_96_ws128
                clear f_96_ws128
                have f_96_ws137 : ws137[96]? = some ((q99, Sum.inl (cZ, 4096, Sum.inl (fun _ => 0))) : Nat × va_E) := by rw [e_ws137]; exact gs_ne (by decide) f_96_ws136
                clear f_96_ws136
                have f_97_ws112 : ws112[97]? = some ((q101, Sum.inr (9, [Value.ref q105, Value.ref q106, Value.ref q107, Value.ref q108, Value.ref q109, Value.ref q110, Value.ref q111, Value.int 0, Value.int 0, Value.int 0, Value.int 0])) : Nat × va_E) := by rw [e_ws112]; exact gs_ne (by decide) f_97_ws104
                clear f_97_ws104
                have f_97_ws114 : ws114[97]? = some ((q101, Sum.inr (9, [Value.ref q105, Value.ref q106, Value.ref q107, Value.ref q108, Value.ref q109, Value.ref q110, Value.ref q111, Value.int 0, Value.int 0, Value.int 0, Value.int 0])) : Nat × va_E) := by rw [e_ws114]; exact gs_app f_97_ws112
                clear f_97_ws112
                have f_97_ws116 : ws116[97]? = some ((q101, Sum.inr (9, [Value.ref q105, Value.ref q106, Value.ref q107, Value.ref q108, Value.ref q109, Value.ref q110, Value.ref q111, Value.int 0, Value.int 0, Value.int 0, Value.int 0])) : Nat × va_E) := e_ws116.at (by first | decide | (simp; done) | (simp; omega)) f_97_ws114
                clear f_97_ws114
                have f_97_ws124 : ws124[97]? = some ((q101, Sum.inr (9, [Value.ref q105, Value.ref q106, Value.ref q107, Value.ref q108, Value.ref q109, Value.ref q110, Value.ref q111, Value.int 0, Value.int 0, Value.int 0, Value.int 0])) : Nat × va_E) := by rw [e_ws124]; exact gs_ne (by decide) f_97_ws116
                clear f_97_ws116
                have f_97_ws126 : ws126[97]? = some ((q101, Sum.inr (9, [Value.ref q105, Value.ref q106, Value.ref q107, Value.ref q108, Value.ref q109, Value.ref q110, Value.ref q111, Value.int 0, Value.int 0, Value.int 0, Value.int 0])) : Nat × va_E) := by rw [e_ws126]; exact gs_app f_97_ws124
                clear f_97_ws124
                have f_97_ws128 : ws128[97]? = some ((q101, Sum.inr (9, [Value.ref q105, Value.ref q106, Value.ref q107, Value.ref q108, Value.ref q109, Value.ref q110, Value.ref q111, Value.int 0, Value.int 0, Value.int 0, Value.int 0])) : Nat × va_E) := e_ws128.at (by first | decide | (simp; done) | (simp; omega)) f_97_ws126
                clear f_97_ws126
                have f_97_ws136 : ws136[97]? = some ((q101, Sum.inr (9, [Value.ref q105, Value.ref q106, Value.ref q107, Value.ref q108, Value.ref q109, Value.ref q110, Value.ref q111, Value.int 0, Value.int 0, Value.int 0, Value.int 0])) : Nat × va_E) := by rw [e_ws136]; exact gs_ne (by decide) f_97_ws128
                clear f_97_ws128
                have f_97_ws137 : ws137[97]? = some ((q101, Sum.inr (9, [Value.ref q105, Value.ref q106, Value.ref q107, Value.ref q108, Value.ref q109, Value.ref q110, Value.ref q111, Value.int 0, Value.int 0, Value.int 0, Value.int 0])) : Nat × va_E) := by rw [e_ws137]; exact gs_ne (by decide) f_97_ws136
                clear f_97_ws136
                have f_98_ws112 : ws112[98]? = some ((q105, Sum.inl (cI, 4097, Sum.inl (fun _ => 0))) : Nat × va_E) := by rw [e_ws112]; exact gs_ne (by decide) f_98_ws104
                clear f_98_ws104
                have f_98_ws114 : ws114[98]? = some ((q105, Sum.inl (cI, 4097, Sum.inl (fun _ => 0))) : Nat × va_E) := by rw [e_ws114]; exact gs_app f_98_ws112
                clear f_98_ws112
                have f_98_ws116 : ws116[98]? = some ((q105, Sum.inl (cI, 4097, Sum.inl (fun _ => 0))) : Nat × va_E) := e_ws116.at (by first | decide | (simp; done) | (simp; omega)) f_98_ws114
                clear f_98_ws114
                have f_98_ws124 : ws124[98]? = some ((q105, Sum.inl (cI, 4097, Sum.inl (fun _ => 0))) : Nat × va_E) := by rw [e_ws124]; exact gs_ne (by decide) f_98_ws116
                clear f_98_ws116
                have f_98_ws126 : ws126[98]? = some ((q105, Sum.inl (cI, 4097, Sum.inl (fun _ => 0))) : Nat × va_E) := by rw [e_ws126]; exact gs_app f_98_ws124
                clear f_98_ws124
                have f_98_ws128 : ws128[98]? = some ((q105, Sum.inl (cI, 4097, Sum.inl (fun _ => 0))) : Nat × va_E) := e_ws128.at (by first | decide | (simp; done) | (simp; omega)) f_98_ws126
                clear f_98_ws126
                have f_98_ws136 : ws136[98]? = some ((q105, Sum.inl (cI, 4097, Sum.inl (fun _ => 0))) : Nat × va_E) := by rw [e_ws136]; exact gs_ne (by decide) f_98_ws128
                clear f_98_ws128
                have f_98_ws137 : ws137[98]? = some ((q105, Sum.inl (cI, 4097, Sum.inl (fun _ => 0))) : Nat × va_E) := by rw [e_ws137]; exact gs_ne (by decide) f_98_ws136
                clear f_98_ws136
                have f_99_ws112 : ws112[99]? = some ((q106, Sum.inl (cI, 4097, Sum.inl (fun _ => 0))) : Nat × va_E) := by rw [e_ws112]; exact gs_ne (by decide) f_99_ws104
                clear f_99_ws104
                have f_99_ws114 : ws114[99]? = some ((q106, Sum.inl (cI, 4097, Sum.inl (fun _ => 0))) : Nat × va_E) := by rw [e_ws114]; exact gs_app f_99_ws112
                clear f_99_ws112
                have f_99_ws116 : ws116[99]? = some ((q106, Sum.inl (cI, 4097, Sum.inl (fun _ => 0))) : Nat × va_E) := e_ws116.at (by first | decide | (simp; done) | (simp; omega)) f_99_ws114
                clear f_99_ws114
                have f_99_ws124 : ws124[99]? = some ((q106, Sum.inl (cI, 4097, Sum.inl (fun _ => 0))) : Nat × va_E) := by rw [e_ws124]; exact gs_ne (by decide) f_99_ws116
                clear f_99_ws116
                have f_99_ws126 : ws126[99]? = some ((q106, Sum.inl (cI, 4097, Sum.inl (fun _ => 0))) : Nat × va_E) := by rw [e_ws126]; exact gs_app f_99_ws124
                clear f_99_ws124
                have f_99_ws128 : ws128[99]? = some ((q106, Sum.inl (cI, 4097, Sum.inl (fun _ => 0))) : Nat × va_E) := e_ws128.at (by first | decide | (simp; done) | (simp; omega)) f_99_ws126
                clear f_99_ws126
                have f_99_ws136 : ws136[99]? = some ((q106, Sum.inl (cI, 4097, Sum.inl (fun _ => 0))) : Nat × va_E) := by rw [e_ws136]; exact gs_ne (by decide) f_99_ws128
                clear f_99_ws128
                have f_99_ws137 : ws137[99]? = some ((q106, Sum.inl (cI, 4097, Sum.inl (fun _ => 0))) : Nat × va_E) := by rw [e_ws137]; exact gs_ne (by decide) f_99_ws136
                clear f_99_ws136
                have f_100_ws112 : ws112[100]? = some ((q107, Sum.inl (cI, 4098, Sum.inl (fun _ => 0))) : Nat × va_E) := by rw [e_ws112]; exact gs_ne (by decide) f_100_ws104
                clear f_100_ws104
                have f_100_ws114 : ws114[100]? = some ((q107, Sum.inl (cI, 4098, Sum.inl (fun _ => 0))) : Nat × va_E) := by rw [e_ws114]; exact gs_app f_100_ws112
                clear f_100_ws112
                have f_100_ws116 : ws116[100]? = some ((q107, Sum.inl (cI, 4098, Sum.inl (fun _ => 0))) : Nat × va_E) := e_ws116.at (by first | decide | (simp; done) | (simp; omega)) f_100_ws114
                clear f_100_ws114
                have f_100_ws124 : ws124[100]? = some ((q107, Sum.inl (cI, 4098, Sum.inl (fun _ => 0))) : Nat × va_E) := by rw [e_ws124]; exact gs_ne (by decide) f_100_ws116
                clear f_100_ws116
                have f_100_ws126 : ws126[100]? = some ((q107, Sum.inl (cI, 4098, Sum.inl (fun _ => 0))) : Nat × va_E) := by rw [e_ws126]; exact gs_app f_100_ws124
                clear f_100_ws124
                have f_100_ws128 : ws128[100]? = some ((q107, Sum.inl (cI, 4098, Sum.inl (fun _ => 0))) : Nat × va_E) := e_ws128.at (by first | decide | (simp; done) | (simp; omega)) f_100_ws126
                clear f_100_ws126
                have f_100_ws136 : ws136[100]? = some ((q107, Sum.inl (cI, 4098, Sum.inl (fun _ => 0))) : Nat × va_E) := by rw [e_ws136]; exact gs_ne (by decide) f_100_ws128
                clear f_100_ws128
                have f_100_ws137 : ws137[100]? = some ((q107, Sum.inl (cI, 4098, Sum.inl (fun _ => 0))) : Nat × va_E) := by rw [e_ws137]; exact gs_ne (by decide) f_100_ws136
                clear f_100_ws136
                have f_101_ws112 : ws112[101]? = some ((q108, Sum.inl (cI, 4097, Sum.inl (fun _ => 0))) : Nat × va_E) := by rw [e_ws112]; exact gs_ne (by decide) f_101_ws104
                clear f_101_ws104
                have f_101_ws114 : ws114[101]? = some ((q108, Sum.inl (cI, 4097, Sum.inl (fun _ => 0))) : Nat × va_E) := by rw [e_ws114]; exact gs_app f_101_ws112
                clear f_101_ws112
                have f_101_ws116 : ws116[101]? = some ((q108, Sum.inl (cI, 4097, Sum.inl (fun _ => 0))) : Nat × va_E) := e_ws116.at (by first | decide | (simp; done) | (simp; omega)) f_101_ws114
                clear f_101_ws114
                have f_101_ws124 : ws124[101]? = some ((q108, Sum.inl (cI, 4097, Sum.inl (fun _ => 0))) : Nat × va_E) := by rw [e_ws124]; exact gs_ne (by decide) f_101_ws116
                clear f_101_ws116
                have f_101_ws126 : ws126[101]? = some ((q108, Sum.inl (cI, 4097, Sum.inl (fun _ => 0))) : Nat × va_E) := by rw [e_ws126]; exact gs_app f_101_ws124
                clear f_101_ws124
                have f_101_ws128 : ws128[101]? = some ((q108, Sum.inl (cI, 4097, Sum.inl (fun _ => 0))) : Nat × va_E) := e_ws128.at (by first | decide | (simp; done) | (simp; omega)) f_101_ws126
                clear f_101_ws126
                have f_101_ws136 : ws136[101]? = some ((q108, Sum.inl (cI, 4097, Sum.inl (fun _ => 0))) : Nat × va_E) := by rw [e_ws136]; exact gs_ne (by decide) f_101_ws128
                clear f_101_ws128
                have f_101_ws137 : ws137[101]? = some ((q108, Sum.inl (cI, 4097, Sum.inl (fun _ => 0))) : Nat × va_E) := by rw [e_ws137]; exact gs_ne (by decide) f_101_ws136
                clear f_101_ws136
                have f_102_ws112 : ws112[102]? = some ((q109, Sum.inl (cI, 4096, Sum.inl (fun _ => 0))) : Nat × va_E) := by rw [e_ws112]; exact gs_ne (by decide) f_102_ws104
                clear f_102_ws104
                have f_102_ws114 : ws114[102]? = some ((q109, Sum.inl (cI, 4096, Sum.inl (fun _ => 0))) : Nat × va_E) := by rw [e_ws114]; exact gs_app f_102_ws112
                clear f_102_ws112
                have f_102_ws116 : ws116[102]? = some ((q109, Sum.inl (cI, 4096, Sum.inl (fun _ => 0))) : Nat × va_E) := e_ws116.at (by first | decide | (simp; done) | (simp; omega)) f_102_ws114
                clear f_102_ws114
                have f_102_ws124 : ws124[102]? = some ((q109, Sum.inl (cI, 4096, Sum.inl (fun _ => 0))) : Nat × va_E) := by rw [e_ws124]; exact gs_ne (by decide) f_102_ws116
                clear f_102_ws116
                have f_102_ws126 : ws126[102]? = some ((q109, Sum.inl (cI, 4096, Sum.inl (fun _ => 0))) : Nat × va_E) := by rw [e_ws126]; exact gs_app f_102_ws124
                clear f_102_ws124
                have f_102_ws128 : ws128[102]? = some ((q109, Sum.inl (cI, 4096, Sum.inl (fun _ => 0))) : Nat × va_E) := e_ws128.at (by first | decide | (simp; done) | (simp; omega)) f_102_ws126
                clear f_102_ws126
                have f_102_ws136 : ws136[102]? = some ((q109, Sum.inl (cI, 4096, Sum.inl (fun _ => 0))) : Nat × va_E) := by rw [e_ws136]; exact gs_ne (by decide) f_102_ws128
                clear f_102_ws128
                have f_102_ws137 : ws137[102]? = some ((q109, Sum.inl (cI, 4096, Sum.inl (fun _ => 0))) : Nat × va_E) := by rw [e_ws137]; exact gs_ne (by decide) f_102_ws136
                clear f_102_ws136
                have f_103_ws112 : ws112[103]? = some ((q110, Sum.inl (cZ, 4096, Sum.inl (fun _ => 0))) : Nat × va_E) := by rw [e_ws112]; exact gs_ne (by decide) f_103_ws104
                clear f_103_ws104
                have f_103_ws114 : ws114[103]? = some ((q110, Sum.inl (cZ, 4096, Sum.inl (fun _ => 0))) : Nat × va_E) := by rw [e_ws114]; exact gs_app f_103_ws112
                clear f_103_ws112
                have f_103_ws116 : ws116[103]? = some ((q110, Sum.inl (cZ, 4096, Sum.inl (fun _ => 0))) : Nat × va_E) := e_ws116.at (by first | decide | (simp; done) | (simp; omega)) f_103_ws114
                clear f_103_ws114
                have f_103_ws124 : ws124[103]? = some ((q110, Sum.inl (cZ, 4096, Sum.inl (fun _ => 0))) : Nat × va_E) := by rw [e_ws124]; exact gs_ne (by decide) f_103_ws116
                clear f_103_ws116
                have f_103_ws126 : ws126[103]? = some ((q110, Sum.inl (cZ, 4096, Sum.inl (fun _ => 0))) : Nat × va_E) := by rw [e_ws126]; exact gs_app f_103_ws124
                clear f_103_ws124
                have f_103_ws128 : ws128[103]? = some ((q110, Sum.inl (cZ, 4096, Sum.inl (fun _ => 0))) : Nat × va_E) := e_ws128.at (by first | decide | (simp; done) | (simp; omega)) f_103_ws126
                clear f_103_ws126
                have f_103_ws136 : ws136[103]? = some ((q110, Sum.inl (cZ, 4096, Sum.inl (fun _ => 0))) : Nat × va_E) := by rw [e_ws136]; exact gs_ne (by decide) f_103_ws128
                clear f_103_ws128
                have f_103_ws137 : ws137[103]? = some ((q110, Sum.inl (cZ, 4096, Sum.inl (fun _ => 0))) : Nat × va_E) := by rw [e_ws137]; exact gs_ne (by decide) f_103_ws136
                clear f_103_ws136
                have f_104_ws112 : ws112[104]? = some ((q111, Sum.inl (cZ, 4096, Sum.inl (fun _ => 0))) : Nat × va_E) := by rw [e_ws112]; exact gs_ne (by decide) f_104_ws104
                clear f_104_ws104
                have f_104_ws114 : ws114[104]? = some ((q111, Sum.inl (cZ, 4096, Sum.inl (fun _ => 0))) : Nat × va_E) := by rw [e_ws114]; exact gs_app f_104_ws112
                clear f_104_ws112
                have f_104_ws116 : ws116[104]? = some ((q111, Sum.inl (cZ, 4096, Sum.inl (fun _ => 0))) : Nat × va_E) := e_ws116.at (by first | decide | (simp; done) | (simp; omega)) f_104_ws114
                clear f_104_ws114
                have f_104_ws124 : ws124[104]? = some ((q111, Sum.inl (cZ, 4096, Sum.inl (fun _ => 0))) : Nat × va_E) := by rw [e_ws124]; exact gs_ne (by decide) f_104_ws116
                clear f_104_ws116
                have f_104_ws126 : ws126[104]? = some ((q111, Sum.inl (cZ, 4096, Sum.inl (fun _ => 0))) : Nat × va_E) := by rw [e_ws126]; exact gs_app f_104_ws124
                clear f_104_ws124
                have f_104_ws128 : ws128[104]? = some ((q111, Sum.inl (cZ, 4096, Sum.inl (fun _ => 0))) : Nat × va_E) := e_ws128.at (by first | decide | (simp; done) | (simp; omega)) f_104_ws126
                clear f_104_ws126
                have f_104_ws136 : ws136[104]? = some ((q111, Sum.inl (cZ, 4096, Sum.inl (fun _ => 0))) : Nat × va_E) := by rw [e_ws136]; exact gs_ne (by decide) f_104_ws128
                clear f_104_ws128
                have f_104_ws137 : ws137[104]? = some ((q111, Sum.inl (cZ, 4096, Sum.inl (fun _ => 0))) : Nat × va_E) := by rw [e_ws137]; exact gs_ne (by decide) f_104_ws136
                clear f_104_ws136
                have f_105_ws124 : ws124[105]? = some ((q113, Sum.inr (9, [Value.ref q117, Value.ref q118, Value.ref q119, Value.ref q120, Value.ref q121, Value.ref q122, Value.ref q123, Value.int 0, Value.int 0, Value.int 0, Value.int 0])) : Nat × va_E) := by rw [e_ws124]; exact gs_ne (by decide) f_105_ws116
                clear f_105_ws116
                have f_105_ws126 : ws126[105]? = some ((q113, Sum.inr (9, [Value.ref q117, Value.ref q118, Value.ref q119, Value.ref q120, Value.ref q121, Value.ref q122, Value.ref q123, Value.int 0, Value.int 0, Value.int 0, Value.int 0])) : Nat × va_E) := by rw [e_ws126]; exact gs_app f_105_ws124
                clear f_105_ws124
                have f_105_ws128 : ws128[105]? = some ((q113, Sum.inr (9, [Value.ref q117, Value.ref q118, Value.ref q119, Value.ref q120, Value.ref q121, Value.ref q122, Value.ref q123, Value.int 0, Value.int 0, Value.int 0, Value.int 0])) : Nat × va_E) := e_ws128.at (by first | decide | (simp; done) | (simp; omega)) f_105_ws126
                clear f_105_ws126
                have f_105_ws136 : ws136[105]? = some ((q113, Sum.inr (9, [Value.ref q117, Value.ref q118, Value.ref q119, Value.ref q120, Value.ref q121, Value.ref q122, Value.ref q123, Value.int 0, Value.int 0, Value.int 0, Value.int 0])) : Nat × va_E) := by rw [e_ws136]; exact gs_ne (by decide) f_105_ws128
                clear f_105_ws128
                have f_105_ws137 : ws137[105]? = some ((q113, Sum.inr (9, [Value.ref q117, Value.ref q118, Value.ref q119, Value.ref q120, Value.ref q121, Value.ref q122, Value.ref q123, Value.int 0, Value.int 0, Value.int 0, Value.int 0])) : Nat × va_E) := by rw [e_ws137]; exact gs_ne (by decide) f_105_ws136
                clear f_105_ws136
                have f_106_ws124 : ws124[106]? = some ((q117, Sum.inl (cI, 4097, Sum.inl (fun _ => 0))) : Nat × va_E) := by rw [e_ws124]; exact gs_ne (by decide) f_106_ws116
                clear f_106_ws116
                have f_106_ws126 : ws126[106]? = some ((q117, Sum.inl (cI, 4097, Sum.inl (fun _ => 0))) : Nat × va_E) := by rw [e_ws126]; exact gs_app f_106_ws124
                clear f_106_ws124
                have f_106_ws128 : ws128[106]? = some ((q117, Sum.inl (cI, 4097, Sum.inl (fun _ => 0))) : Nat × va_E) := e_ws128.at (by first | decide | (simp; done) | (simp; omega)) f_106_ws126
                clear f_106_ws126
                have f_106_ws136 : ws136[106]? = some ((q117, Sum.inl (cI, 4097, Sum.inl (fun _ => 0))) : Nat × va_E) := by rw [e_ws136]; exact gs_ne (by decide) f_106_ws128
                clear f_106_ws128
                have f_106_ws137 : ws137[106]? = some ((q117, Sum.inl (cI, 4097, Sum.inl (fun _ => 0))) : Nat × va_E) := by rw [e_ws137]; exact gs_ne (by decide) f_106_ws136
                clear f_106_ws136
                have f_107_ws124 : ws124[107]? = some ((q118, Sum.inl (cI, 4097, Sum.inl (fun _ => 0))) : Nat × va_E) := by rw [e_ws124]; exact gs_ne (by decide) f_107_ws116
                clear f_107_ws116
                have f_107_ws126 : ws126[107]? = some ((q118, Sum.inl (cI, 4097, Sum.inl (fun _ => 0))) : Nat × va_E) := by rw [e_ws126]; exact gs_app f_107_ws124
                clear f_107_ws124
                have f_107_ws128 : ws128[107]? = some ((q118, Sum.inl (cI, 4097, Sum.inl (fun _ => 0))) : Nat × va_E) := e_ws128.at (by first | decide | (simp; done) | (simp; omega)) f_107_ws126
                clear f_107_ws126
                have f_107_ws136 : ws136[107]? = some ((q118, Sum.inl (cI, 4097, Sum.inl (fun _ => 0))) : Nat × va_E) := by rw [e_ws136]; exact gs_ne (by decide) f_107_ws128
                clear f_107_ws128
                have f_107_ws137 : ws137[107]? = some ((q118, Sum.inl (cI, 4097, Sum.inl (fun _ => 0))) : Nat × va_E) := by rw [e_ws137]; exact gs_ne (by decide) f_107_ws136
                clear f_107_ws136
                have f_108_ws124 : ws124[108]? = some ((q119, Sum.inl (cI, 4098, Sum.inl (fun _ => 0))) : Nat × va_E) := by rw [e_ws124]; exact gs_ne (by decide) f_108_ws116
                clear f_108_ws116
                have f_108_ws126 : ws126[108]? = some ((q119, Sum.inl (cI, 4098, Sum.inl (fun _ => 0))) : Nat × va_E) := by rw [e_ws126]; exact gs_app f_108_ws124
                clear f_108_ws124
                have f_108_ws128 : ws128[108]? = some ((q119, Sum.inl (cI, 4098, Sum.inl (fun _ => 0))) : Nat × va_E) := e_ws128.at (by first | decide | (simp; done) | (simp; omega)) f_108_ws126
                clear f_108_ws126
                have f_108_ws136 : ws136[108]? = some ((q119, Sum.inl (cI, 4098, Sum.inl (fun _ => 0))) : Nat × va_E) := by rw [e_ws136]; exact gs_ne (by decide) f_108_ws128
                clear f_108_ws128
                have f_108_ws137 : ws137[108]? = some ((q119, Sum.inl (cI, 4098, Sum.inl (fun _ => 0))) : Nat × va_E) := by rw [e_ws137]; exact gs_ne (by decide) f_108_ws136
                clear f_108_ws136
                have f_109_ws124 : ws124[109]? = some ((q120, Sum.inl (cI, 4097, Sum.inl (fun _ => 0))) : Nat × va_E) := by rw [e_ws124]; exact gs_ne (by decide) f_109_ws116
                clear f_109_ws116
                have f_109_ws126 : ws126[109]? = some ((q120, Sum.inl (cI, 4097, Sum.inl (fun _ => 0))) : Nat × va_E) := by rw [e_ws126]; exact gs_app f_109_ws124
                clear f_109_ws124
                have f_109_ws128 : ws128[109]? = some ((q120, Sum.inl (cI, 4097, Sum.inl (fun _ => 0))) : Nat × va_E) := e_ws128.at (by first | decide | (simp; done) | (simp; omega)) f_109_ws126
                clear f_109_ws126
                have f_109_ws136 : ws136[109]? = some ((q120, Sum.inl (cI, 4097, Sum.inl (fun _ => 0))) : Nat × va_E) := by rw [e_ws136]; exact gs_ne (by decide) f_109_ws128
                clear f_109_ws128
                have f_109_ws137 : ws137[109]? = some ((q120, Sum.inl (cI, 4097, Sum.inl (fun _ => 0))) : Nat × va_E) := by rw [e_ws137]; exact gs_ne (by decide) f_109_ws136
                clear f_109_ws136
                have f_110_ws124 : ws124[110]? = some ((q121, Sum.inl (cI, 4096, Sum.inl (fun _ => 0))) : Nat × va_E) := by rw [e_ws124]; exact gs_ne (by decide) f_110_ws116
                clear f_110_ws116
                have f_110_ws126 : ws126[110]? = some ((q121, Sum.inl (cI, 4096, Sum.inl (fun _ => 0))) : Nat × va_E) := by rw [e_ws126]; exact gs_app f_110_ws124
                clear f_110_ws124
                have f_110_ws128 : ws128[110]? = some ((q121, Sum.inl (cI, 4096, Sum.inl (fun _ => 0))) : Nat × va_E) := e_ws128.at (by first | decide | (simp; done) | (simp; omega)) f_110_ws126
                clear f_110_ws126
                have f_110_ws136 : ws136[110]? = some ((q121, Sum.inl (cI, 4096, Sum.inl (fun _ => 0))) : Nat × va_E) := by rw [e_ws136]; exact gs_ne (by decide) f_110_ws128
                clear f_110_ws128
                have f_110_ws137 : ws137[110]? = some ((q121, Sum.inl (cI, 4096, Sum.inl (fun _ => 0))) : Nat × va_E) := by rw [e_ws137]; exact gs_ne (by decide) f_110_ws136
                clear f_110_ws136
                have f_111_ws124 : ws124[111]? = some ((q122, Sum.inl (cZ, 4096, Sum.inl (fun _ => 0))) : Nat × va_E) := by rw [e_ws124]; exact gs_ne (by decide) f_111_ws116
                clear f_111_ws116
                have f_111_ws126 : ws126[111]? = some ((q122, Sum.inl (cZ, 4096, Sum.inl (fun _ => 0))) : Nat × va_E) := by rw [e_ws126]; exact gs_app f_111_ws124
                clear f_111_ws124
                have f_111_ws128 : ws128[111]? = some ((q122, Sum.inl (cZ, 4096, Sum.inl (fun _ => 0))) : Nat × va_E) := e_ws128.at (by first | decide | (simp; done) | (simp; omega)) f_111_ws126
                clear f_111_ws126
                have f_111_ws136 : ws136[111]? = some ((q122, Sum.inl (cZ, 4096, Sum.inl (fun _ => 0))) : Nat × va_E) := by rw [e_ws136]; exact gs_ne (by decide) f_111_ws128
                clear f_111_ws128
                have f_111_ws137 : ws137[111]? = some ((q122, Sum.inl (cZ, 4096, Sum.inl (fun _ => 0))) : Nat × va_E) := by rw [e_ws137]; exact gs_ne (by decide) f_111_ws136
                clear f_111_ws136
                have f_112_ws124 : ws124[112]? = some ((q123, Sum.inl (cZ, 4096, Sum.inl (fun _ => 0))) : Nat × va_E) := by rw [e_ws124]; exact gs_ne (by decide) f_112_ws116
                clear f_112_ws116
                have f_112_ws126 : ws126[112]? = some ((q123, Sum.inl (cZ, 4096, Sum.inl (fun _ => 0))) : Nat × va_E) := by rw [e_ws126]; exact gs_app f_112_ws124
                clear f_112_ws124
                have f_112_ws128 : ws128[112]? = some ((q123, Sum.inl (cZ, 4096, Sum.inl (fun _ => 0))) : Nat × va_E) := e_ws128.at (by first | decide | (simp; done) | (simp; omega)) f_112_ws126
                clear f_112_ws126
                have f_112_ws136 : ws136[112]? = some ((q123, Sum.inl (cZ, 4096, Sum.inl (fun _ => 0))) : Nat × va_E) := by rw [e_ws136]; exact gs_ne (by decide) f_112_ws128
                clear f_112_ws128
                have f_112_ws137 : ws137[112]? = some ((q123, Sum.inl (cZ, 4096, Sum.inl (fun _ => 0))) : Nat × va_E) := by rw [e_ws137]; exact gs_ne (by decide) f_112_ws136
                clear f_112_ws136
                have f_113_ws136 : ws136[113]? = some ((q125, Sum.inr (9, [Value.ref q129, Value.ref q130, Value.ref q131, Value.ref q132, Value.ref q133, Value.ref q134, Value.ref q135, Value.int 0, Value.int 0, Value.int 0, Value.int 0])) : Nat × va_E) := by rw [e_ws136]; exact gs_ne (by decide) f_113_ws128
                clear f_113_ws128
                have f_113_ws137 : ws137[113]? = some ((q125, Sum.inr (9, [Value.ref q129, Value.ref q130, Value.ref q131, Value.ref q132, Value.ref q133, Value.ref q134, Value.ref q135, Value.int 0, Value.int 0, Value.int 0, Value.int 0])) : Nat × va_E) := by rw [e_ws137]; exact gs_ne (by decide) f_113_ws136
                clear f_113_ws136
                have f_114_ws136 : ws136[114]? = some ((q129, Sum.inl (cI, 4097, Sum.inl (fun _ => 0))) : Nat × va_E) := by rw [e_ws136]; exact gs_ne (by decide) f_114_ws128
                clear f_114_ws128
                have f_114_ws137 : ws137[114]? = some ((q129, Sum.inl (cI, 4097, Sum.inl (fun _ => 0))) : Nat × va_E) := by rw [e_ws137]; exact gs_ne (by decide) f_114_ws136
                clear f_114_ws136
                have f_115_ws136 : ws136[115]? = some ((q130, Sum.inl (cI, 4097, Sum.inl (fun _ => 0))) : Nat × va_E) := by rw [e_ws136]; exact gs_ne (by decide) f_115_ws128
                clear f_115_ws128
                have f_115_ws137 : ws137[115]? = some ((q130, Sum.inl (cI, 4097, Sum.inl (fun _ => 0))) : Nat × va_E) := by rw [e_ws137]; exact gs_ne (by decide) f_115_ws136
                clear f_115_ws136
                have f_116_ws136 : ws136[116]? = some ((q131, Sum.inl (cI, 4098, Sum.inl (fun _ => 0))) : Nat × va_E) := by rw [e_ws136]; exact gs_ne (by decide) f_116_ws128
                clear f_116_ws128
                have f_116_ws137 : ws137[116]? = some ((q131, Sum.inl (cI, 4098, Sum.inl (fun _ => 0))) : Nat × va_E) := by rw [e_ws137]; exact gs_ne (by decide) f_116_ws136
                clear f_116_ws136
                have f_117_ws136 : ws136[117]? = some ((q132, Sum.inl (cI, 4097, Sum.inl (fun _ => 0))) : Nat × va_E) := by rw [e_ws136]; exact gs_ne (by decide) f_117_ws128
                clear f_117_ws128
                have f_117_ws137 : ws137[117]? = some ((q132, Sum.inl (cI, 4097, Sum.inl (fun _ => 0))) : Nat × va_E) := by rw [e_ws137]; exact gs_ne (by decide) f_117_ws136
                clear f_117_ws136
                have f_118_ws136 : ws136[118]? = some ((q133, Sum.inl (cI, 4096, Sum.inl (fun _ => 0))) : Nat × va_E) := by rw [e_ws136]; exact gs_ne (by decide) f_118_ws128
                clear f_118_ws128
                have f_118_ws137 : ws137[118]? = some ((q133, Sum.inl (cI, 4096, Sum.inl (fun _ => 0))) : Nat × va_E) := by rw [e_ws137]; exact gs_ne (by decide) f_118_ws136
                clear f_118_ws136
                have f_119_ws136 : ws136[119]? = some ((q134, Sum.inl (cZ, 4096, Sum.inl (fun _ => 0))) : Nat × va_E) := by rw [e_ws136]; exact gs_ne (by decide) f_119_ws128
                clear f_119_ws128
                have f_119_ws137 : ws137[119]? = some ((q134, Sum.inl (cZ, 4096, Sum.inl (fun _ => 0))) : Nat × va_E) := by rw [e_ws137]; exact gs_ne (by decide) f_119_ws136
                clear f_119_ws136
                have f_120_ws136 : ws136[120]? = some ((q135, Sum.inl (cZ, 4096, Sum.inl (fun _ => 0))) : Nat × va_E) := by rw [e_ws136]; exact gs_ne (by decide) f_120_ws128
                clear f_120_ws128
                have f_120_ws137 : ws137[120]? = some ((q135, Sum.inl (cZ, 4096, Sum.inl (fun _ => 0))) : Nat × va_E) := by rw [e_ws137]; exact gs_ne (by decide) f_120_ws136
                clear f_120_ws136
                obtain ⟨q, hq⟩ : ∃ q : Nat → Nat, q = fun k => ([a, q1, q4, q7, q10, q13, q16, q19, q23, q27, q28, q29, q30, q31, q32, q33, q35, q39, q40, q41, q42, q43, q44, q45, q47, q51, q52, q53, q54, q55, q56, q57, q59, q62, q67, q68, q69, q70, q71, q78, q81, q84, q87, q89, q93, q94, q95, q96, q97, q98, q99, q101, q105, q106, q107, q108, q109, q110, q111, q113, q117, q118, q119, q120, q121, q122, q123, q125, q129, q130, q131, q132, q133, q134, q135] : List Nat).getD (k - 46) 0 := ⟨_, rfl⟩
                have e_q46 : a = q 46 := by rw [hq]; rfl
                have e_q47 : q1 = q 47 := by rw [hq]; rfl
                have e_q48 : q4 = q 48 := by rw [hq]; rfl
                have e_q49 : q7 = q 49 := by rw [hq]; rfl
                have e_q50 : q10 = q 50 := by rw [hq]; rfl
                have e_q51 : q13 = q 51 := by rw [hq]; rfl
                have e_q52 : q16 = q 52 := by rw [hq]; rfl
                have e_q53 : q19 = q 53 := by rw [hq]; rfl
                have e_q54 : q23 = q 54 := by rw [hq]; rfl
                have e_q55 : q27 = q 55 := by rw [hq]; rfl
                have e_q56 : q28 = q 56 := by rw [hq]; rfl
                have e_q57 : q29 = q 57 := by rw [hq]; rfl
                have e_q58 : q30 = q 58 := by rw [hq]; rfl
                have e_q59 : q31 = q 59 := by rw [hq]; rfl
                have e_q60 : q32 = q 60 := by rw [hq]; rfl
                have e_q61 : q33 = q 61 := by rw [hq]; rfl
                have e_q62 : q35 = q 62 := by rw [hq]; rfl
                have e_q63 : q39 = q 63 := by rw [hq]; rfl
                have e_q64 : q40 = q 64 := by rw [hq]; rfl
                have e_q65 : q41 = q 65 := by rw [hq]; rfl
                have e_q66 : q42 = q 66 := by rw [hq]; rfl
                have e_q67 : q43 = q 67 := by rw [hq]; rfl
                have e_q68 : q44 = q 68 := by rw [hq]; rfl
                have e_q69 : q45 = q 69 := by rw [hq]; rfl
                have e_q70 : q47 = q 70 := by rw [hq]; rfl
                have e_q71 : q51 = q 71 := by rw [hq]; rfl
                have e_q72 : q52 = q 72 := by rw [hq]; rfl
                have e_q73 : q53 = q 73 := by rw [hq]; rfl
                have e_q74 : q54 = q 74 := by rw [hq]; rfl
                have e_q75 : q55 = q 75 := by rw [hq]; rfl
                have e_q76 : q56 = q 76 := by rw [hq]; rfl
                have e_q77 : q57 = q 77 := by rw [hq]; rfl
                have e_q78 : q59 = q 78 := by rw [hq]; rfl
                have e_q79 : q62 = q 79 := by rw [hq]; rfl
                have e_q80 : q67 = q 80 := by rw [hq]; rfl
                have e_q81 : q68 = q 81 := by rw [hq]; rfl
                have e_q82 : q69 = q 82 := by rw [hq]; rfl
                have e_q83 : q70 = q 83 := by rw [hq]; rfl
                have e_q84 : q71 = q 84 := by rw [hq]; rfl
                have e_q85 : q78 = q 85 := by rw [hq]; rfl
                have e_q86 : q81 = q 86 := by rw [hq]; rfl
                have e_q87 : q84 = q 87 := by rw [hq]; rfl
                have e_q88 : q87 = q 88 := by rw [hq]; rfl
                have e_q89 : q89 = q 89 := by rw [hq]; rfl
                have e_q90 : q93 = q 90 := by rw [hq]; rfl
                have e_q91 : q94 = q 91 := by rw [hq]; rfl
                have e_q92 : q95 = q 92 := by rw [hq]; rfl
                have e_q93 : q96 = q 93 := by rw [hq]; rfl
                have e_q94 : q97 = q 94 := by rw [hq]; rfl
                have e_q95 : q98 = q 95 := by rw [hq]; rfl
                have e_q96 : q99 = q 96 := by rw [hq]; rfl
                have e_q97 : q101 = q 97 := by rw [hq]; rfl
                have e_q98 : q105 = q 98 := by rw [hq]; rfl
                have e_q99 : q106 = q 99 := by rw [hq]; rfl
                have e_q100 : q107 = q 100 := by rw [hq]; rfl
                have e_q101 : q108 = q 101 := by rw [hq]; rfl
                have e_q102 : q109 = q 102 := by rw [hq]; rfl
                have e_q103 : q110 = q 103 := by rw [hq]; rfl
                have e_q104 : q111 = q 104 := by rw [hq]; rfl
                have e_q105 : q113 = q 105 := by rw [hq]; rfl
                have e_q106 : q117 = q 106 := by rw [hq]; rfl
                have e_q107 : q118 = q 107 := by rw [hq]; rfl
                have e_q108 : q119 = q 108 := by rw [hq]; rfl
                have e_q109 : q120 = q 109 := by rw [hq]; rfl
                have e_q110 : q121 = q 110 := by rw [hq]; rfl
                have e_q111 : q122 = q 111 := by rw [hq]; rfl
                have e_q112 : q123 = q 112 := by rw [hq]; rfl
                have e_q113 : q125 = q 113 := by rw [hq]; rfl
                have e_q114 : q129 = q 114 := by rw [hq]; rfl
                have e_q115 : q130 = q 115 := by rw [hq]; rfl
                have e_q116 : q131 = q 116 := by rw [hq]; rfl
                have e_q117 : q132 = q 117 := by rw [hq]; rfl
                have e_q118 : q133 = q 118 := by rw [hq]; rfl
                have e_q119 : q134 = q 119 := by rw [hq]; rfl
                have e_q120 : q135 = q 120 := by rw [hq]; rfl
                clear hq
                have g0 : mp_G0 cI cZ cV cN q ws137 := by
                  unfold mp_G0
                  rw [← e_q46, ← e_q47, ← e_q48, ← e_q49, ← e_q50, ← e_q51, ← e_q52, ← e_q53, ← e_q54, ← e_q55, ← e_q56, ← e_q57, ← e_q58, ← e_q59, ← e_q60, ← e_q61, ← e_q62, ← e_q70, ← e_q78, ← e_q79, ← e_q80, ← e_q85, ← e_q86, ← e_q87, ← e_q88]
                  exact ⟨f_46_ws137, f_47_ws137, f_48_ws137, f_49_ws137, f_50_ws137, f_51_ws137, f_52_ws137, f_53_ws137, f_54_ws137, f_55_ws137, f_56_ws137, f_57_ws137, f_58_ws137, f_59_ws137, f_60_ws137, f_61_ws137⟩
                have g1 : mp_G1 cI cZ cV cN q ws137 := by
                  unfold mp_G1
                  rw [← e_q62, ← e_q63, ← e_q64, ← e_q65, ← e_q66, ← e_q67, ← e_q68, ← e_q69, ← e_q70, ← e_q71, ← e_q72, ← e_q73, ← e_q74, ← e_q75, ← e_q76, ← e_q77]
                  exact ⟨f_62_ws137, f_63_ws137, f_64_ws137, f_65_ws137, f_66_ws137, f_67_ws137, f_68_ws137, f_69_ws137, f_70_ws137, f_71_ws137, f_72_ws137, f_73_ws137, f_74_ws137, f_75_ws137, f_76_ws137, f_77_ws137⟩
                have g2 : mp_G2 cI cZ cV cN q ws137 := by
                  unfold mp_G2
                  rw [← e_q78, ← e_q79, ← e_q80, ← e_q81, ← e_q82, ← e_q83, ← e_q84, ← e_q85, ← e_q86, ← e_q87, ← e_q88, ← e_q89, ← e_q90, ← e_q91, ← e_q92, ← e_q93, ← e_q94, ← e_q95, ← e_q96, ← e_q97, ← e_q105, ← e_q113]
                  exact ⟨f_78_ws137, f_79_ws137, f_80_ws137, f_81_ws137, f_82_ws137, f_83_ws137, f_84_ws137, f_85_ws137, f_86_ws137, f_87_ws137, f_88_ws137, f_89_ws137, f_90_ws137, f_91_ws137, f_92_ws137, f_93_ws137⟩
                have g3 : mp_G3 cI cZ cV cN q ws137 := by
                  unfold mp_G3
                  rw [← e_q94, ← e_q95, ← e_q96, ← e_q97, ← e_q98, ← e_q99, ← e_q100, ← e_q101, ← e_q102, ← e_q103, ← e_q104, ← e_q105, ← e_q106, ← e_q107, ← e_q108, ← e_q109, ← e_q110, ← e_q111, ← e_q112]
                  exact ⟨f_94_ws137, f_95_ws137, f_96_ws137, f_97_ws137, f_98_ws137, f_99_ws137, f_100_ws137, f_101_ws137, f_102_ws137, f_103_ws137, f_104_ws137, f_105_ws137, f_106_ws137, f_107_ws137, f_108_ws137, f_109_ws137⟩
                have g4 : mp_G4 cI cZ cV cN q ws137 := by
                  unfold mp_G4
                  rw [← e_q110, ← e_q111, ← e_q112, ← e_q113, ← e_q114, ← e_q115, ← e_q116, ← e_q117, ← e_q118, ← e_q119, ← e_q120]
                  exact ⟨f_110_ws137, f_111_ws137, f_112_ws137, f_113_ws137, f_114_ws137, f_115_ws137, f_116_ws137, f_117_ws137, f_118_ws137, f_119_ws137, f_120_ws137⟩
                exact gx_ret (W.vret hx hb hr (gx_post hP hK hD hS (by rw [← hPQ]; exact ⟨rfl, hU, q, e_q46.symm, g0, g1, g2, g3, g4⟩)) hS.2.2 d_Mo_init_211)
              · obtain ⟨E9, ws138, ce, hp, hce, hP9, -, hD9, hS9⟩ := gx_backT h0_127 hW_127 hQ_127 hL_127 hD hS hA
                clear hQ_127 h0_127 hL_127 hW_127 hP hD hS
                have hP := hP9
                have hD := hD9
                have hS := hS9
                clear hP9 hD9 hS9
                rcases hp with ⟨q139, q140, q141, q142, q143, q144, q145, hv9, e_ws138, f_113_ws138, f_114_ws138, f_115_ws138, f_116_ws138, f_117_ws138, f_118_ws138, f_119_ws138, f_120_ws138⟩
                cases hv9
            · obtain ⟨E9, ws146, ce, hp, hce, hP9, -, hD9, hS9⟩ := gx_backT h0_115 hW_115 hQ_115 hL_115 hD hS hA
              clear hQ_115 h0_115 hL_115 hW_115 hP hD hS
              have hP := hP9
              have hD := hD9
              have hS := hS9
              clear hP9 hD9 hS9
              rcases hp with ⟨q147, q148, q149, q150, q151, q152, q153, hv9, e_ws146, f_105_ws146, f_106_ws146, f_107_ws146, f_108_ws146, f_109_ws146, f_110_ws146, f_111_ws146, f_112_ws146⟩
              cases hv9
          · obtain ⟨E9, ws154, ce, hp, hce, hP9, -, hD9, hS9⟩ := gx_backT h0_103 hW_103 hQ_103 hL_103 hD hS hA
            clear hQ_103 h0_103 hL_103 hW_103 hP hD hS
            have hP := hP9
            have hD := hD9
            have hS := hS9
            clear hP9 hD9 hS9
            rcases hp with ⟨q155, q156, q157, q158, q159, q160, q161, hv9, e_ws154, f_97_ws154, f_98_ws154, f_99_ws154, f_100_ws154, f_101_ws154, f_102_ws154, f_103_ws154, f_104_ws154⟩
            cases hv9
        · obtain ⟨E9, ws162, ce, hp, hce, hP9, -, hD9, hS9⟩ := gx_backT h0_91 hW_91 hQ_91 hL_91 hD hS hA
          clear hQ_91 h0_91 hL_91 hW_91 hP hD hS
          have hP := hP9
          have hD := hD9
          have hS := hS9
          clear hP9 hD9 hS9
          rcases hp with ⟨q163, q164, q165, q166, q167, q168, q169, hv9, e_ws162, f_89_ws162, f_90_ws162, f_91_ws162, f_92_ws162, f_93_ws162, f_94_ws162, f_95_ws162, f_96_ws162⟩
          cases hv9
      · obtain ⟨E9, ws170, ce, hp, hce, hP9, -, hD9, hS9⟩ := gx_backT h0_49 hW_49 hQ_49 hL_49 hD hS hA
        clear hQ_49 h0_49 hL_49 hW_49 hP hD hS
        have hP := hP9
        have hD := hD9
        have hS := hS9
        clear hP9 hD9 hS9
        rcases hp with ⟨q171, q172, q173, q174, q175, q176, q177, hv9, e_ws170, f_70_ws170, f_71_ws170, f_72_ws170, f_73_ws170, f_74_ws170, f_75_ws170, f_76_ws170, f_77_ws170⟩
        cases hv9
    · obtain ⟨E9, ws178, ce, hp, hce, hP9, -, hD9, hS9⟩ := gx_backT h0_37 hW_37 hQ_37 hL_37 hD hS hA
      clear hQ_37 h0_37 hL_37 hW_37 hP hD hS
      have hP := hP9
      have hD := hD9
      have hS := hS9
      clear hP9 hD9 hS9
      rcases hp with ⟨q179, q180, q181, q182, q183, q184, q185, hv9, e_ws178, f_62_ws178, f_63_ws178, f_64_ws178, f_65_ws178, f_66_ws178, f_67_ws178, f_68_ws178, f_69_ws178⟩
      cases hv9
  · obtain ⟨E9, ws186, ce, hp, hce, hP9, -, hD9, hS9⟩ := gx_backT h0_25 hW_25 hQ_25 hL_25 hD hS hA
    clear hQ_25 h0_25 hL_25 hW_25 hP hD hS
    have hP := hP9
    have hD := hD9
    have hS := hS9
    clear hP9 hD9 hS9
    rcases hp with ⟨q187, q188, q189, q190, q191, q192, q193, hv9, e_ws186, f_54_ws186, f_55_ws186, f_56_ws186, f_57_ws186, f_58_ws186, f_59_ws186, f_60_ws186, f_61_ws186⟩
    cases hv9
