/-! CONTRACTS of Version(), CommitLedgerModel(), rows printed by an own text program -/
def mo_G0 (cI cZ cV : ClassId) (q : Nat → Nat) (um : Value) (ws : va_W) : Prop := ws[46]? = some (((q 46), Sum.inr (8, [Value.int 0, Value.int 0, Value.ref (q 47), Value.ref (q 48), Value.ref (q 49), Value.int 0, Value.ref (q 50), Value.ref (q 51), Value.ref (q 52), Value.ref (q 53), Value.int 0, Value.int 0, Value.int 0, Value.int (-1), Value.int 0, Value.ref (q 54), Value.ref (q 62), Value.ref (q 70), Value.int 0, Value.int 0, Value.int 0, Value.ref (q 78), Value.ref (q 79), Value.int 0, Value.int 16, Value.int 4, um, Value.ref (q 80), Value.ref (q 81), Value.ref (q 82), Value.int 0, Value.ref (q 83), Value.int 0, Value.int 0, Value.int 0])) : Nat × va_E) ∧ ws[47]? = some (((q 47), Sum.inl (cI, 4096, Sum.inl (fun _ => 0))) : Nat × va_E) ∧ ws[48]? = some (((q 48), Sum.inl (cI, 4096, Sum.inl (fun _ => 0))) : Nat × va_E) ∧ ws[49]? = some (((q 49), Sum.inl (cI, 4096, Sum.inl (fun _ => 0))) : Nat × va_E) ∧ ws[50]? = some (((q 50), Sum.inl (cI, 60000, Sum.inl (fun _ => 0))) : Nat × va_E) ∧ ws[51]? = some (((q 51), Sum.inl (cZ, 60000, Sum.inl (fun _ => 0))) : Nat × va_E) ∧ ws[52]? = some (((q 52), Sum.inl (cZ, 60000, Sum.inl (fun _ => 0))) : Nat × va_E) ∧ ws[53]? = some (((q 53), Sum.inl (cZ, 60000, Sum.inl (fun _ => 0))) : Nat × va_E) ∧ ws[54]? = some (((q 54), Sum.inr (9, [Value.ref (q 55), Value.ref (q 56), Value.ref (q 57), Value.ref (q 58), Value.ref (q 59), Value.ref (q 60), Value.ref (q 61), Value.int 0, Value.int 0, Value.int 0, Value.int 0])) : Nat × va_E) ∧ ws[55]? = some (((q 55), Sum.inl (cI, 4097, Sum.inl (fun _ => 0))) : Nat × va_E) ∧ ws[56]? = some (((q 56), Sum.inl (cI, 4097, Sum.inl (fun _ => 0))) : Nat × va_E) ∧ ws[57]? = some (((q 57), Sum.inl (cI, 4098, Sum.inl (fun _ => 0))) : Nat × va_E) ∧ ws[58]? = some (((q 58), Sum.inl (cI, 4097, Sum.inl (fun _ => 0))) : Nat × va_E) ∧ ws[59]? = some (((q 59), Sum.inl (cI, 4096, Sum.inl (fun _ => 0))) : Nat × va_E) ∧ ws[60]? = some (((q 60), Sum.inl (cZ, 4096, Sum.inl (fun _ => 0))) : Nat × va_E) ∧ ws[61]? = some (((q 61), Sum.inl (cZ, 4096, Sum.inl (fun _ => 0))) : Nat × va_E)
theorem mo_G0_mono {cI cZ cV : ClassId} {q : Nat → Nat} {um : Value} {ws ws1 : va_W} {j : Nat} (h : gx_g ws ws1 j []) (g : mo_G0 cI cZ cV q um ws) : mo_G0 cI cZ cV q um ws1 := by
  unfold mo_G0 at g ⊢
  obtain ⟨f_46, f_47, f_48, f_49, f_50, f_51, f_52, f_53, f_54, f_55, f_56, f_57, f_58, f_59, f_60, f_61⟩ := g
  exact ⟨h.at (by decide) f_46, h.at (by decide) f_47, h.at (by decide) f_48, h.at (by decide) f_49, h.at (by decide) f_50, h.at (by decide) f_51, h.at (by decide) f_52, h.at (by decide) f_53, h.at (by decide) f_54, h.at (by decide) f_55, h.at (by decide) f_56, h.at (by decide) f_57, h.at (by decide) f_58, h.at (by decide) f_59, h.at (by decide) f_60, h.at (by decide) f_61⟩
def mo_G1 (cI cZ cV : ClassId) (q : Nat → Nat) (um : Value) (ws : va_W) : Prop := ws[62]? = some (((q 62), Sum.inr (9, [Value.ref (q 63), Value.ref (q 64), Value.ref (q 65), Value.ref (q 66), Value.ref (q 67), Value.ref (q 68), Value.ref (q 69), Value.int 0, Value.int 0, Value.int 0, Value.int 0])) : Nat × va_E) ∧ ws[63]? = some (((q 63), Sum.inl (cI, 4097, Sum.inl (fun _ => 0))) : Nat × va_E) ∧ ws[64]? = some (((q 64), Sum.inl (cI, 4097, Sum.inl (fun _ => 0))) : Nat × va_E) ∧ ws[65]? = some (((q 65), Sum.inl (cI, 4098, Sum.inl (fun _ => 0))) : Nat × va_E) ∧ ws[66]? = some (((q 66), Sum.inl (cI, 4097, Sum.inl (fun _ => 0))) : Nat × va_E) ∧ ws[67]? = some (((q 67), Sum.inl (cI, 4096, Sum.inl (fun _ => 0))) : Nat × va_E) ∧ ws[68]? = some (((q 68), Sum.inl (cZ, 4096, Sum.inl (fun _ => 0))) : Nat × va_E) ∧ ws[69]? = some (((q 69), Sum.inl (cZ, 4096, Sum.inl (fun _ => 0))) : Nat × va_E) ∧ ws[70]? = some (((q 70), Sum.inr (9, [Value.ref (q 71), Value.ref (q 72), Value.ref (q 73), Value.ref (q 74), Value.ref (q 75), Value.ref (q 76), Value.ref (q 77), Value.int 0, Value.int 0, Value.int 0, Value.int 0])) : Nat × va_E) ∧ ws[71]? = some (((q 71), Sum.inl (cI, 4097, Sum.inl (fun _ => 0))) : Nat × va_E) ∧ ws[72]? = some (((q 72), Sum.inl (cI, 4097, Sum.inl (fun _ => 0))) : Nat × va_E) ∧ ws[73]? = some (((q 73), Sum.inl (cI, 4098, Sum.inl (fun _ => 0))) : Nat × va_E) ∧ ws[74]? = some (((q 74), Sum.inl (cI, 4097, Sum.inl (fun _ => 0))) : Nat × va_E) ∧ ws[75]? = some (((q 75), Sum.inl (cI, 4096, Sum.inl (fun _ => 0))) : Nat × va_E) ∧ ws[76]? = some (((q 76), Sum.inl (cZ, 4096, Sum.inl (fun _ => 0))) : Nat × va_E) ∧ ws[77]? = some (((q 77), Sum.inl (cZ, 4096, Sum.inl (fun _ => 0))) : Nat × va_E)
theorem mo_G1_mono {cI cZ cV : ClassId} {q : Nat → Nat} {um : Value} {ws ws1 : va_W} {j : Nat} (h : gx_g ws ws1 j []) (g : mo_G1 cI cZ cV q um ws) : mo_G1 cI cZ cV q um ws1 := by
  unfold mo_G1 at g ⊢
  obtain ⟨f_62, f_63, f_64, f_65, f_66, f_67, f_68, f_69, f_70, f_71, f_72, f_73, f_74, f_75, f_76, f_77⟩ := g
  exact ⟨h.at (by decide) f_62, h.at (by decide) f_63, h.at (by decide) f_64, h.at (by decide) f_65, h.at (by decide) f_66, h.at (by decide) f_67, h.at (by decide) f_68, h.at (by decide) f_69, h.at (by decide) f_70, h.at (by decide) f_71, h.at (by decide) f_72, h.at (by decide) f_73, h.at (by decide) f_74, h.at (by decide) f_75, h.at (by decide) f_76, h.at (by decide) f_77⟩
def mo_G2 (cI cZ cV : ClassId) (q : Nat → Nat) (um : Value) (ws : va_W) : Prop := ws[78]? = some (((q 78), Sum.inl (cI, 4096, Sum.inl (fun _ => 0))) : Nat × va_E) ∧ ws[79]? = some (((q 79), Sum.inl (cZ, 4096, Sum.inl (fun _ => 0))) : Nat × va_E) ∧ ws[80]? = some (((q 80), Sum.inl (cI, 4, Sum.inl (fun _ => 0))) : Nat × va_E) ∧ ws[81]? = some (((q 81), Sum.inl (cI, 4, Sum.inl (fun _ => 0))) : Nat × va_E) ∧ ws[82]? = some (((q 82), Sum.inl (cI, 4, Sum.inl (fun _ => 0))) : Nat × va_E) ∧ ws[83]? = some (((q 83), Sum.inl (cV, 4, Sum.inr (Sum.inr (Sum.inr (Sum.inr (va_up (va_up (va_up (va_up (fun _ => none) 0 (some (q 84))) 1 (some (q 92))) 2 (some (q 100))) 3 (some (q 108)))))))) : Nat × va_E) ∧ ws[84]? = some (((q 84), Sum.inr (9, [Value.ref (q 85), Value.ref (q 86), Value.ref (q 87), Value.ref (q 88), Value.ref (q 89), Value.ref (q 90), Value.ref (q 91), Value.int 0, Value.int 0, Value.int 0, Value.int 0])) : Nat × va_E) ∧ ws[85]? = some (((q 85), Sum.inl (cI, 4097, Sum.inl (fun _ => 0))) : Nat × va_E) ∧ ws[86]? = some (((q 86), Sum.inl (cI, 4097, Sum.inl (fun _ => 0))) : Nat × va_E) ∧ ws[87]? = some (((q 87), Sum.inl (cI, 4098, Sum.inl (fun _ => 0))) : Nat × va_E) ∧ ws[88]? = some (((q 88), Sum.inl (cI, 4097, Sum.inl (fun _ => 0))) : Nat × va_E) ∧ ws[89]? = some (((q 89), Sum.inl (cI, 4096, Sum.inl (fun _ => 0))) : Nat × va_E) ∧ ws[90]? = some (((q 90), Sum.inl (cZ, 4096, Sum.inl (fun _ => 0))) : Nat × va_E) ∧ ws[91]? = some (((q 91), Sum.inl (cZ, 4096, Sum.inl (fun _ => 0))) : Nat × va_E) ∧ ws[92]? = some (((q 92), Sum.inr (9, [Value.ref (q 93), Value.ref (q 94), Value.ref (q 95), Value.ref (q 96), Value.ref (q 97), Value.ref (q 98), Value.ref (q 99), Value.int 0, Value.int 0, Value.int 0, Value.int 0])) : Nat × va_E) ∧ ws[93]? = some (((q 93), Sum.inl (cI, 4097, Sum.inl (fun _ => 0))) : Nat × va_E)
theorem mo_G2_mono {cI cZ cV : ClassId} {q : Nat → Nat} {um : Value} {ws ws1 : va_W} {j : Nat} (h : gx_g ws ws1 j []) (g : mo_G2 cI cZ cV q um ws) : mo_G2 cI cZ cV q um ws1 := by
  unfold mo_G2 at g ⊢
  obtain ⟨f_78, f_79, f_80, f_81, f_82, f_83, f_84, f_85, f_86, f_87, f_88, f_89, f_90, f_91, f_92, f_93⟩ := g
  exact ⟨h.at (by decide) f_78, h.at (by decide) f_79, h.at (by decide) f_80, h.at (by decide) f_81, h.at (by decide) f_82, h.at (by decide) f_83, h.at (by decide) f_84, h.at (by decide) f_85, h.at (by decide) f_86, h.at (by decide) f_87, h.at (by decide) f_88, h.at (by decide) f_89, h.at (by decide) f_90, h.at (by decide) f_91, h.at (by decide) f_92, h.at (by decide) f_93⟩
def mo_G3 (cI cZ cV : ClassId) (q : Nat → Nat) (um : Value) (ws : va_W) : Prop := ws[94]? = some (((q 94), Sum.inl (cI, 4097, Sum.inl (fun _ => 0))) : Nat × va_E) ∧ ws[95]? = some (((q 95), Sum.inl (cI, 4098, Sum.inl (fun _ => 0))) : Nat × va_E) ∧ ws[96]? = some (((q 96), Sum.inl (cI, 4097, Sum.inl (fun _ => 0))) : Nat × va_E) ∧ ws[97]? = some (((q 97), Sum.inl (cI, 4096, Sum.inl (fun _ => 0))) : Nat × va_E) ∧ ws[98]? = some (((q 98), Sum.inl (cZ, 4096, Sum.inl (fun _ => 0))) : Nat × va_E) ∧ ws[99]? = some (((q 99), Sum.inl (cZ, 4096, Sum.inl (fun _ => 0))) : Nat × va_E) ∧ ws[100]? = some (((q 100), Sum.inr (9, [Value.ref (q 101), Value.ref (q 102), Value.ref (q 103), Value.ref (q 104), Value.ref (q 105), Value.ref (q 106), Value.ref (q 107), Value.int 0, Value.int 0, Value.int 0, Value.int 0])) : Nat × va_E) ∧ ws[101]? = some (((q 101), Sum.inl (cI, 4097, Sum.inl (fun _ => 0))) : Nat × va_E) ∧ ws[102]? = some (((q 102), Sum.inl (cI, 4097, Sum.inl (fun _ => 0))) : Nat × va_E) ∧ ws[103]? = some (((q 103), Sum.inl (cI, 4098, Sum.inl (fun _ => 0))) : Nat × va_E) ∧ ws[104]? = some (((q 104), Sum.inl (cI, 4097, Sum.inl (fun _ => 0))) : Nat × va_E) ∧ ws[105]? = some (((q 105), Sum.inl (cI, 4096, Sum.inl (fun _ => 0))) : Nat × va_E) ∧ ws[106]? = some (((q 106), Sum.inl (cZ, 4096, Sum.inl (fun _ => 0))) : Nat × va_E) ∧ ws[107]? = some (((q 107), Sum.inl (cZ, 4096, Sum.inl (fun _ => 0))) : Nat × va_E) ∧ ws[108]? = some (((q 108), Sum.inr (9, [Value.ref (q 109), Value.ref (q 110), Value.ref (q 111), Value.ref (q 112), Value.ref (q 113), Value.ref (q 114), Value.ref (q 115), Value.int 0, Value.int 0, Value.int 0, Value.int 0])) : Nat × va_E) ∧ ws[109]? = some (((q 109), Sum.inl (cI, 4097, Sum.inl (fun _ => 0))) : Nat × va_E)
theorem mo_G3_mono {cI cZ cV : ClassId} {q : Nat → Nat} {um : Value} {ws ws1 : va_W} {j : Nat} (h : gx_g ws ws1 j []) (g : mo_G3 cI cZ cV q um ws) : mo_G3 cI cZ cV q um ws1 := by
  unfold mo_G3 at g ⊢
  obtain ⟨f_94, f_95, f_96, f_97, f_98, f_99, f_100, f_101, f_102, f_103, f_104, f_105, f_106, f_107, f_108, f_109⟩ := g
  exact ⟨h.at (by decide) f_94, h.at (by decide) f_95, h.at (by decide) f_96, h.at (by decide) f_97, h.at (by decide) f_98, h.at (by decide) f_99, h.at (by decide) f_100, h.at (by decide) f_101, h.at (by decide) f_102, h.at (by decide) f_103, h.at (by decide) f_104, h.at (by decide) f_105, h.at (by decide) f_106, h.at (by decide) f_107, h.at (by decide) f_108, h.at (by decide) f_109⟩
def mo_G4 (cI cZ cV : ClassId) (q : Nat → Nat) (um : Value) (ws : va_W) : Prop := ws[110]? = some (((q 110), Sum.inl (cI, 4097, Sum.inl (fun _ => 0))) : Nat × va_E) ∧ ws[111]? = some (((q 111), Sum.inl (cI, 4098, Sum.inl (fun _ => 0))) : Nat × va_E) ∧ ws[112]? = some (((q 112), Sum.inl (cI, 4097, Sum.inl (fun _ => 0))) : Nat × va_E) ∧ ws[113]? = some (((q 113), Sum.inl (cI, 4096, Sum.inl (fun _ => 0))) : Nat × va_E) ∧ ws[114]? = some (((q 114), Sum.inl (cZ, 4096, Sum.inl (fun _ => 0))) : Nat × va_E) ∧ ws[115]? = some (((q 115), Sum.inl (cZ, 4096, Sum.inl (fun _ => 0))) : Nat × va_E)
theorem mo_G4_mono {cI cZ cV : ClassId} {q : Nat → Nat} {um : Value} {ws ws1 : va_W} {j : Nat} (h : gx_g ws ws1 j []) (g : mo_G4 cI cZ cV q um ws) : mo_G4 cI cZ cV q um ws1 := by
  unfold mo_G4 at g ⊢
  obtain ⟨f_110, f_111, f_112, f_113, f_114, f_115⟩ := g
  exact ⟨h.at (by decide) f_110, h.at (by decide) f_111, h.at (by decide) f_112, h.at (by decide) f_113, h.at (by decide) f_114, h.at (by decide) f_115⟩
set_option maxHeartbeats 4000000 in
set_option maxRecDepth 100000 in
theorem c_Ve_init (l : Launch) (htr : l.stackTraces = false) (D : va_G) (tys : List (ClassId × FieldType)) (z sz : Nat) (ws : va_W) (cI : ClassId) (cZ : ClassId) (a : Nat) (n : Nat) (N : Nat) (f_n : ws[n]? = some ((a, Sum.inr (9, [Value.null, Value.null, Value.null, Value.null, Value.null, Value.null, Value.null, Value.int 0, Value.int 0, Value.int 0, Value.int 0])) : Nat × va_E)) (ht0 : tys[0]? = some ((cI, FieldType.int) : ClassId × FieldType)) (ht1 : tys[1]? = some ((cZ, FieldType.boolean) : ClassId × FieldType)) (hlen : ws.length = N) (hn : n < N) : gx_Met l y_Ve_init [Cond.code y_Ve_init b_Ve_init 1 none] { frames := 1, cells := 7, slots := 28677, locals := 20 } (gx_P z sz D classes tys ws [Value.ref a]) (gx_Q D classes tys (va_A ws sz) (fun r ws' => (∃ q1 : Nat, ∃ q2 : Nat, ∃ q3 : Nat, ∃ q4 : Nat, ∃ q5 : Nat, ∃ q6 : Nat, ∃ q7 : Nat, r = Sum.inl none ∧ gx_g ws ws' 7 [n] ∧ ws'[n]? = some ((a, Sum.inr (9, [Value.ref q1, Value.ref q2, Value.ref q3, Value.ref q4, Value.ref q5, Value.ref q6, Value.ref q7, Value.int 0, Value.int 0, Value.int 0, Value.int 0])) : Nat × va_E) ∧ ws'[N]? = some ((q1, Sum.inl (cI, 4097, Sum.inl (fun _ => 0))) : Nat × va_E) ∧ ws'[N + 1]? = some ((q2, Sum.inl (cI, 4097, Sum.inl (fun _ => 0))) : Nat × va_E) ∧ ws'[N + 2]? = some ((q3, Sum.inl (cI, 4098, Sum.inl (fun _ => 0))) : Nat × va_E) ∧ ws'[N + 3]? = some ((q4, Sum.inl (cI, 4097, Sum.inl (fun _ => 0))) : Nat × va_E) ∧ ws'[N + 4]? = some ((q5, Sum.inl (cI, 4096, Sum.inl (fun _ => 0))) : Nat × va_E) ∧ ws'[N + 5]? = some ((q6, Sum.inl (cZ, 4096, Sum.inl (fun _ => 0))) : Nat × va_E) ∧ ws'[N + 6]? = some ((q7, Sum.inl (cZ, 4096, Sum.inl (fun _ => 0))) : Nat × va_E)))) 7 28677 (va_A ws sz) := by
  refine gx_ofW (cc := b_Ve_init) (maxL := 1) (ret := none) (by decide) rfl ?_
  intro p e s m args below meth c s₁ B hml hv
  obtain ⟨rfl, hsz, hz, hP, hK, hD0, hY⟩ := hv
  have hx := B.exec
  have hb := B.bytes
  have hr := B.returns
  have hts := hY.hts (#[Value.ref a] : Array Value)
  have hown : s.vm.findClass "CommitLedgerModel$Version" = some m.cls := findClass_of_methodNamed B.named
  have hlocks := B.notSynchronized
  have hin : meth.name = "<init>" := (name_of_methodNamed B.named B.method).1
  have hne : c.exceptionTable.isEmpty = true := B.noHandlers (atoms_spec (ws := [Cond.code y_Ve_init b_Ve_init 1 none]) B.pre _ List.mem_cons_self)
  subst hsz
  have hAz := gx_az hD0 hz
  have hD := hD0.self (sz := s.heap.size)
  have hN := gx_ns hP
  have hA : ∀ q : Nat, s.heap.size ≤ q → va_A ws s.heap.size q := fun q h => Or.inr h
  generalize va_A ws s.heap.size = A at hD hN hA hAz ⊢
  generalize hPQ : (fun (r : Option Value ⊕ String) (ws' : va_W) => (∃ q1 : Nat, ∃ q2 : Nat, ∃ q3 : Nat, ∃ q4 : Nat, ∃ q5 : Nat, ∃ q6 : Nat, ∃ q7 : Nat, r = Sum.inl none ∧ gx_g ws ws' 7 [n] ∧ ws'[n]? = some ((a, Sum.inr (9, [Value.ref q1, Value.ref q2, Value.ref q3, Value.ref q4, Value.ref q5, Value.ref q6, Value.ref q7, Value.int 0, Value.int 0, Value.int 0, Value.int 0])) : Nat × va_E) ∧ ws'[N]? = some ((q1, Sum.inl (cI, 4097, Sum.inl (fun _ => 0))) : Nat × va_E) ∧ ws'[N + 1]? = some ((q2, Sum.inl (cI, 4097, Sum.inl (fun _ => 0))) : Nat × va_E) ∧ ws'[N + 2]? = some ((q3, Sum.inl (cI, 4098, Sum.inl (fun _ => 0))) : Nat × va_E) ∧ ws'[N + 3]? = some ((q4, Sum.inl (cI, 4097, Sum.inl (fun _ => 0))) : Nat × va_E) ∧ ws'[N + 4]? = some ((q5, Sum.inl (cI, 4096, Sum.inl (fun _ => 0))) : Nat × va_E) ∧ ws'[N + 5]? = some ((q6, Sum.inl (cZ, 4096, Sum.inl (fun _ => 0))) : Nat × va_E) ∧ ws'[N + 6]? = some ((q7, Sum.inl (cZ, 4096, Sum.inl (fun _ => 0))) : Nat × va_E))) = PQ
  have hS : va_S A s.heap s.heap [] := va_S.rf
  have hlen0 := hlen
  have hU : gx_g ws ws 0 [n] := gx_g.rf
  have hl := lv_entry ([Value.ref a]) (n := 1) (Nat.le_of_ble_eq_true rfl)
  rw [lg_entry_eq]
  generalize (lg_sl ([Value.ref a]) ++ List.replicate (1 - (lg_sl ([Value.ref a])).length) Slot.unset).toArray = ls at hl ⊢
  have hl : lv_has ls 1 [(0, Value.ref a)] := hl
  refine lv_aload_n hx hb d_Ve_init_0 rfl (lv_at hl 0 rfl) ?_
  refine W.objInit hx hb hown (hts _ km_Ve_3) (hts _ kI_Object_init) (hts _ kc_Object_init) rfl (by rw [hml]; exact hl.1) rfl d_Ve_init_1 (Nat.le_of_ble_eq_true rfl) (Nat.le_of_ble_eq_true rfl) ?_
  refine W.eq (g2 := F0 m 4 ls []) rfl ?_
  refine lv_aload_n hx hb d_Ve_init_4 rfl (lv_at hl 0 rfl) ?_
  refine lv_sipush (v := 4097) hx hb d_Ve_init_5 (by decide) ?_
  refine gx_newa (atype := .int) (ty := .int) (N' := 4097) (a0 := (4097, Sum.inl (fun _ => 0))) hx hb (hts _ kA_int) rfl hK hP hD hS hA 0 ht0 (fun _ => rfl) (by decide) (by decide) (by decide) (Nat.le_of_ble_eq_true rfl) (Nat.le_of_ble_eq_true rfl) d_Ve_init_8 (fun q1 H hP9 hD9 hS9 => ?_)
  obtain ⟨ws2, e_ws2⟩ : ∃ x : va_W, x = ws ++ [((q1, Sum.inl (cI, 4097, Sum.inl (fun _ => 0))) : Nat × va_E)] := ⟨_, rfl⟩
  replace hP : va_P D classes ws2 H := by rw [e_ws2]; exact hP9
  replace hD : va_D A ws2 := by rw [e_ws2]; exact hD9
  replace hS := hS9
  clear hP9 hD9 hS9
  have f_N_ws2 : ws2[N]? = some ((q1, Sum.inl (cI, 4097, Sum.inl (fun _ => 0))) : Nat × va_E) := by rw [e_ws2]; exact gs_last hlen
  replace hlen : ws2.length = N + 1 := by rw [e_ws2]; exact gs_len hlen
  replace hU : gx_g ws ws2 1 [n] := by rw [e_ws2]; exact hU.push
  refine W.widen (k := 1) (n := 4097) (by decide) (by decide) ?_
  have f_n_ws2 : ws2[n]? = some ((a, Sum.inr (9, [Value.null, Value.null, Value.null, Value.null, Value.null, Value.null, Value.null, Value.int 0, Value.int 0, Value.int 0, Value.int 0])) : Nat × va_E) := by rw [e_ws2]; exact gs_app f_n
  clear f_n
  refine va_putF (D := D) (ci := 9) (v := Value.ref q1) (ty := .array .int) (C := "CommitLedgerModel$Version") (T := F_Ve) (N := 11) hx hb hts i_Ve t_Ve t_Ve_ok n_Ve hown hK hP hD hS n f_n_ws2 rfl 0 (by decide) (hts _ kf_Ve_9) (fun _ h9 => h9) rfl hin rfl (by decide +kernel) rfl rfl (Nat.le_of_ble_eq_true rfl) d_Ve_init_10 (fun H locs hP9 hD9 hS9 => ?_)
  obtain ⟨ws3, e_ws3⟩ : ∃ x : va_W, x = ws2.set n ((a, Sum.inr (9, [Value.ref q1, Value.null, Value.null, Value.null, Value.null, Value.null, Value.null, Value.int 0, Value.int 0, Value.int 0, Value.int 0])) : Nat × va_E) := ⟨_, rfl⟩
  replace hP : va_P D classes ws3 H := by rw [e_ws3]; exact hP9
  replace hD : va_D A ws3 := by rw [e_ws3]; exact hD9
  replace hS := hS9
  clear hP9 hD9 hS9
  have f_n_ws3 : ws3[n]? = some ((a, Sum.inr (9, [Value.ref q1, Value.null, Value.null, Value.null, Value.null, Value.null, Value.null, Value.int 0, Value.int 0, Value.int 0, Value.int 0])) : Nat × va_E) := by rw [e_ws3]; exact gs_self f_n_ws2
  replace hlen : ws3.length = N + 1 := by rw [e_ws3]; exact gs_lens hlen
  replace hU : gx_g ws ws3 1 [n] := by rw [e_ws3]; exact hU.put (Or.inl (by simp))
  refine lv_aload_n hx hb d_Ve_init_13 rfl (lv_at hl 0 rfl) ?_
  refine lv_sipush (v := 4097) hx hb d_Ve_init_14 (by decide) ?_
  refine gx_newa (atype := .int) (ty := .int) (N' := 4097) (a0 := (4097, Sum.inl (fun _ => 0))) hx hb (hts _ kA_int) rfl hK hP hD hS hA 0 ht0 (fun _ => rfl) (by decide) (by decide) (by decide) (Nat.le_of_ble_eq_true rfl) (Nat.le_of_ble_eq_true rfl) d_Ve_init_17 (fun q4 H hP9 hD9 hS9 => ?_)
  obtain ⟨ws5, e_ws5⟩ : ∃ x : va_W, x = ws3 ++ [((q4, Sum.inl (cI, 4097, Sum.inl (fun _ => 0))) : Nat × va_E)] := ⟨_, rfl⟩
  replace hP : va_P D classes ws5 H := by rw [e_ws5]; exact hP9
  replace hD : va_D A ws5 := by rw [e_ws5]; exact hD9
  replace hS := hS9
  clear hP9 hD9 hS9
  have f_N_1_ws5 : ws5[N + 1]? = some ((q4, Sum.inl (cI, 4097, Sum.inl (fun _ => 0))) : Nat × va_E) := by rw [e_ws5]; exact gs_last hlen
  replace hlen : ws5.length = N + 2 := by rw [e_ws5]; exact gs_len hlen
  replace hU : gx_g ws ws5 2 [n] := by rw [e_ws5]; exact hU.push
  refine W.widen (k := 2) (n := 8194) (by decide) (by decide) ?_
  have f_n_ws5 : ws5[n]? = some ((a, Sum.inr (9, [Value.ref q1, Value.null, Value.null, Value.null, Value.null, Value.null, Value.null, Value.int 0, Value.int 0, Value.int 0, Value.int 0])) : Nat × va_E) := by rw [e_ws5]; exact gs_app f_n_ws3
  clear f_n_ws3
  refine va_putF (D := D) (ci := 9) (v := Value.ref q4) (ty := .array .int) (C := "CommitLedgerModel$Version") (T := F_Ve) (N := 11) hx hb hts i_Ve t_Ve t_Ve_ok n_Ve hown hK hP hD hS n f_n_ws5 rfl 1 (by decide) (hts _ kf_Ve_15) (fun _ h9 => h9) rfl hin rfl (by decide +kernel) rfl rfl (Nat.le_of_ble_eq_true rfl) d_Ve_init_19 (fun H locs hP9 hD9 hS9 => ?_)
  obtain ⟨ws6, e_ws6⟩ : ∃ x : va_W, x = ws5.set n ((a, Sum.inr (9, [Value.ref q1, Value.ref q4, Value.null, Value.null, Value.null, Value.null, Value.null, Value.int 0, Value.int 0, Value.int 0, Value.int 0])) : Nat × va_E) := ⟨_, rfl⟩
  replace hP : va_P D classes ws6 H := by rw [e_ws6]; exact hP9
  replace hD : va_D A ws6 := by rw [e_ws6]; exact hD9
  replace hS := hS9
  clear hP9 hD9 hS9
  have f_n_ws6 : ws6[n]? = some ((a, Sum.inr (9, [Value.ref q1, Value.ref q4, Value.null, Value.null, Value.null, Value.null, Value.null, Value.int 0, Value.int 0, Value.int 0, Value.int 0])) : Nat × va_E) := by rw [e_ws6]; exact gs_self f_n_ws5
  replace hlen : ws6.length = N + 2 := by rw [e_ws6]; exact gs_lens hlen
  replace hU : gx_g ws ws6 2 [n] := by rw [e_ws6]; exact hU.put (Or.inl (by simp))
  refine lv_aload_n hx hb d_Ve_init_22 rfl (lv_at hl 0 rfl) ?_
  refine lv_sipush (v := 4098) hx hb d_Ve_init_23 (by decide) ?_
  refine gx_newa (atype := .int) (ty := .int) (N' := 4098) (a0 := (4098, Sum.inl (fun _ => 0))) hx hb (hts _ kA_int) rfl hK hP hD hS hA 0 ht0 (fun _ => rfl) (by decide) (by decide) (by decide) (Nat.le_of_ble_eq_true rfl) (Nat.le_of_ble_eq_true rfl) d_Ve_init_26 (fun q7 H hP9 hD9 hS9 => ?_)
  obtain ⟨ws8, e_ws8⟩ : ∃ x : va_W, x = ws6 ++ [((q7, Sum.inl (cI, 4098, Sum.inl (fun _ => 0))) : Nat × va_E)] := ⟨_, rfl⟩
  replace hP : va_P D classes ws8 H := by rw [e_ws8]; exact hP9
  replace hD : va_D A ws8 := by rw [e_ws8]; exact hD9
  replace hS := hS9
  clear hP9 hD9 hS9
  have f_N_2_ws8 : ws8[N + 2]? = some ((q7, Sum.inl (cI, 4098, Sum.inl (fun _ => 0))) : Nat × va_E) := by rw [e_ws8]; exact gs_last hlen
  replace hlen : ws8.length = N + 3 := by rw [e_ws8]; exact gs_len hlen
  replace hU : gx_g ws ws8 3 [n] := by rw [e_ws8]; exact hU.push
  refine W.widen (k := 3) (n := 12292) (by decide) (by decide) ?_
  have f_n_ws8 : ws8[n]? = some ((a, Sum.inr (9, [Value.ref q1, Value.ref q4, Value.null, Value.null, Value.null, Value.null, Value.null, Value.int 0, Value.int 0, Value.int 0, Value.int 0])) : Nat × va_E) := by rw [e_ws8]; exact gs_app f_n_ws6
  clear f_n_ws6
  refine va_putF (D := D) (ci := 9) (v := Value.ref q7) (ty := .array .int) (C := "CommitLedgerModel$Version") (T := F_Ve) (N := 11) hx hb hts i_Ve t_Ve t_Ve_ok n_Ve hown hK hP hD hS n f_n_ws8 rfl 2 (by decide) (hts _ kf_Ve_18) (fun _ h9 => h9) rfl hin rfl (by decide +kernel) rfl rfl (Nat.le_of_ble_eq_true rfl) d_Ve_init_28 (fun H locs hP9 hD9 hS9 => ?_)
  obtain ⟨ws9, e_ws9⟩ : ∃ x : va_W, x = ws8.set n ((a, Sum.inr (9, [Value.ref q1, Value.ref q4, Value.ref q7, Value.null, Value.null, Value.null, Value.null, Value.int 0, Value.int 0, Value.int 0, Value.int 0])) : Nat × va_E) := ⟨_, rfl⟩
  replace hP : va_P D classes ws9 H := by rw [e_ws9]; exact hP9
  replace hD : va_D A ws9 := by rw [e_ws9]; exact hD9
  replace hS := hS9
  clear hP9 hD9 hS9
  have f_n_ws9 : ws9[n]? = some ((a, Sum.inr (9, [Value.ref q1, Value.ref q4, Value.ref q7, Value.null, Value.null, Value.null, Value.null, Value.int 0, Value.int 0, Value.int 0, Value.int 0])) : Nat × va_E) := by rw [e_ws9]; exact gs_self f_n_ws8
  replace hlen : ws9.length = N + 3 := by rw [e_ws9]; exact gs_lens hlen
  replace hU : gx_g ws ws9 3 [n] := by rw [e_ws9]; exact hU.put (Or.inl (by simp))
  refine lv_aload_n hx hb d_Ve_init_31 rfl (lv_at hl 0 rfl) ?_
  refine lv_sipush (v := 4097) hx hb d_Ve_init_32 (by decide) ?_
  refine gx_newa (atype := .int) (ty := .int) (N' := 4097) (a0 := (4097, Sum.inl (fun _ => 0))) hx hb (hts _ kA_int) rfl hK hP hD hS hA 0 ht0 (fun _ => rfl) (by decide) (by decide) (by decide) (Nat.le_of_ble_eq_true rfl) (Nat.le_of_ble_eq_true rfl) d_Ve_init_35 (fun q10 H hP9 hD9 hS9 => ?_)
  obtain ⟨ws11, e_ws11⟩ : ∃ x : va_W, x = ws9 ++ [((q10, Sum.inl (cI, 4097, Sum.inl (fun _ => 0))) : Nat × va_E)] := ⟨_, rfl⟩
  replace hP : va_P D classes ws11 H := by rw [e_ws11]; exact hP9
  replace hD : va_D A ws11 := by rw [e_ws11]; exact hD9
  replace hS := hS9
  clear hP9 hD9 hS9
  have f_N_3_ws11 : ws11[N + 3]? = some ((q10, Sum.inl (cI, 4097, Sum.inl (fun _ => 0))) : Nat × va_E) := by rw [e_ws11]; exact gs_last hlen
  replace hlen : ws11.length = N + 4 := by rw [e_ws11]; exact gs_len hlen
  replace hU : gx_g ws ws11 4 [n] := by rw [e_ws11]; exact hU.push
  refine W.widen (k := 4) (n := 16389) (by decide) (by decide) ?_
  have f_n_ws11 : ws11[n]? = some ((a, Sum.inr (9, [Value.ref q1, Value.ref q4, Value.ref q7, Value.null, Value.null, Value.null, Value.null, Value.int 0, Value.int 0, Value.int 0, Value.int 0])) : Nat × va_E) := by rw [e_ws11]; exact gs_app f_n_ws9
  clear f_n_ws9
  refine va_putF (D := D) (ci := 9) (v := Value.ref q10) (ty := .array .int) (C := "CommitLedgerModel$Version") (T := F_Ve) (N := 11) hx hb hts i_Ve t_Ve t_Ve_ok n_Ve hown hK hP hD hS n f_n_ws11 rfl 3 (by decide) (hts _ kf_Ve_21) (fun _ h9 => h9) rfl hin rfl (by decide +kernel) rfl rfl (Nat.le_of_ble_eq_true rfl) d_Ve_init_37 (fun H locs hP9 hD9 hS9 => ?_)
  obtain ⟨ws12, e_ws12⟩ : ∃ x : va_W, x = ws11.set n ((a, Sum.inr (9, [Value.ref q1, Value.ref q4, Value.ref q7, Value.ref q10, Value.null, Value.null, Value.null, Value.int 0, Value.int 0, Value.int 0, Value.int 0])) : Nat × va_E) := ⟨_, rfl⟩
  replace hP : va_P D classes ws12 H := by rw [e_ws12]; exact hP9
  replace hD : va_D A ws12 := by rw [e_ws12]; exact hD9
  replace hS := hS9
  clear hP9 hD9 hS9
  have f_n_ws12 : ws12[n]? = some ((a, Sum.inr (9, [Value.ref q1, Value.ref q4, Value.ref q7, Value.ref q10, Value.null, Value.null, Value.null, Value.int 0, Value.int 0, Value.int 0, Value.int 0])) : Nat × va_E) := by rw [e_ws12]; exact gs_self f_n_ws11
  replace hlen : ws12.length = N + 4 := by rw [e_ws12]; exact gs_lens hlen
  replace hU : gx_g ws ws12 4 [n] := by rw [e_ws12]; exact hU.put (Or.inl (by simp))
  refine lv_aload_n hx hb d_Ve_init_40 rfl (lv_at hl 0 rfl) ?_
  refine lv_sipush (v := 4096) hx hb d_Ve_init_41 (by decide) ?_
  refine gx_newa (atype := .int) (ty := .int) (N' := 4096) (a0 := (4096, Sum.inl (fun _ => 0))) hx hb (hts _ kA_int) rfl hK hP hD hS hA 0 ht0 (fun _ => rfl) (by decide) (by decide) (by decide) (Nat.le_of_ble_eq_true rfl) (Nat.le_of_ble_eq_true rfl) d_Ve_init_44 (fun q13 H hP9 hD9 hS9 => ?_)
  obtain ⟨ws14, e_ws14⟩ : ∃ x : va_W, x = ws12 ++ [((q13, Sum.inl (cI, 4096, Sum.inl (fun _ => 0))) : Nat × va_E)] := ⟨_, rfl⟩
  replace hP : va_P D classes ws14 H := by rw [e_ws14]; exact hP9
  replace hD : va_D A ws14 := by rw [e_ws14]; exact hD9
  replace hS := hS9
  clear hP9 hD9 hS9
  have f_N_4_ws14 : ws14[N + 4]? = some ((q13, Sum.inl (cI, 4096, Sum.inl (fun _ => 0))) : Nat × va_E) := by rw [e_ws14]; exact gs_last hlen
  replace hlen : ws14.length = N + 5 := by rw [e_ws14]; exact gs_len hlen
  replace hU : gx_g ws ws14 5 [n] := by rw [e_ws14]; exact hU.push
  refine W.widen (k := 5) (n := 20485) (by decide) (by decide) ?_
  have f_n_ws14 : ws14[n]? = some ((a, Sum.inr (9, [Value.ref q1, Value.ref q4, Value.ref q7, Value.ref q10, Value.null, Value.null, Value.null, Value.int 0, Value.int 0, Value.int 0, Value.int 0])) : Nat × va_E) := by rw [e_ws14]; exact gs_app f_n_ws12
  clear f_n_ws12
  refine va_putF (D := D) (ci := 9) (v := Value.ref q13) (ty := .array .int) (C := "CommitLedgerModel$Version") (T := F_Ve) (N := 11) hx hb hts i_Ve t_Ve t_Ve_ok n_Ve hown hK hP hD hS n f_n_ws14 rfl 4 (by decide) (hts _ kf_Ve_24) (fun _ h9 => h9) rfl hin rfl (by decide +kernel) rfl rfl (Nat.le_of_ble_eq_true rfl) d_Ve_init_46 (fun H locs hP9 hD9 hS9 => ?_)
  obtain ⟨ws15, e_ws15⟩ : ∃ x : va_W, x = ws14.set n ((a, Sum.inr (9, [Value.ref q1, Value.ref q4, Value.ref q7, Value.ref q10, Value.ref q13, Value.null, Value.null, Value.int 0, Value.int 0, Value.int 0, Value.int 0])) : Nat × va_E) := ⟨_, rfl⟩
  replace hP : va_P D classes ws15 H := by rw [e_ws15]; exact hP9
  replace hD : va_D A ws15 := by rw [e_ws15]; exact hD9
  replace hS := hS9
  clear hP9 hD9 hS9
  have f_n_ws15 : ws15[n]? = some ((a, Sum.inr (9, [Value.ref q1, Value.ref q4, Value.ref q7, Value.ref q10, Value.ref q13, Value.null, Value.null, Value.int 0, Value.int 0, Value.int 0, Value.int 0])) : Nat × va_E) := by rw [e_ws15]; exact gs_self f_n_ws14
  replace hlen : ws15.length = N + 5 := by rw [e_ws15]; exact gs_lens hlen
  replace hU : gx_g ws ws15 5 [n] := by rw [e_ws15]; exact hU.put (Or.inl (by simp))
  refine lv_aload_n hx hb d_Ve_init_49 rfl (lv_at hl 0 rfl) ?_
  refine lv_sipush (v := 4096) hx hb d_Ve_init_50 (by decide) ?_
  refine gx_newa (atype := .boolean) (ty := .boolean) (N' := 4096) (a0 := (4096, Sum.inl (fun _ => 0))) hx hb (hts _ kA_boolean) rfl hK hP hD hS hA 1 ht1 (fun _ => rfl) (by decide) (by decide) (by decide) (Nat.le_of_ble_eq_true rfl) (Nat.le_of_ble_eq_true rfl) d_Ve_init_53 (fun q16 H hP9 hD9 hS9 => ?_)
  obtain ⟨ws17, e_ws17⟩ : ∃ x : va_W, x = ws15 ++ [((q16, Sum.inl (cZ, 4096, Sum.inl (fun _ => 0))) : Nat × va_E)] := ⟨_, rfl⟩
  replace hP : va_P D classes ws17 H := by rw [e_ws17]; exact hP9
  replace hD : va_D A ws17 := by rw [e_ws17]; exact hD9
  replace hS := hS9
  clear hP9 hD9 hS9
  have f_N_5_ws17 : ws17[N + 5]? = some ((q16, Sum.inl (cZ, 4096, Sum.inl (fun _ => 0))) : Nat × va_E) := by rw [e_ws17]; exact gs_last hlen
  replace hlen : ws17.length = N + 6 := by rw [e_ws17]; exact gs_len hlen
  replace hU : gx_g ws ws17 6 [n] := by rw [e_ws17]; exact hU.push
  refine W.widen (k := 6) (n := 24581) (by decide) (by decide) ?_
  have f_n_ws17 : ws17[n]? = some ((a, Sum.inr (9, [Value.ref q1, Value.ref q4, Value.ref q7, Value.ref q10, Value.ref q13, Value.null, Value.null, Value.int 0, Value.int 0, Value.int 0, Value.int 0])) : Nat × va_E) := by rw [e_ws17]; exact gs_app f_n_ws15
  clear f_n_ws15
  refine va_putF (D := D) (ci := 9) (v := Value.ref q16) (ty := .array .boolean) (C := "CommitLedgerModel$Version") (T := F_Ve) (N := 11) hx hb hts i_Ve t_Ve t_Ve_ok n_Ve hown hK hP hD hS n f_n_ws17 rfl 5 (by decide) (hts _ kf_Ve_27) (fun _ h9 => h9) rfl hin rfl (by decide +kernel) rfl rfl (Nat.le_of_ble_eq_true rfl) d_Ve_init_55 (fun H locs hP9 hD9 hS9 => ?_)
  obtain ⟨ws18, e_ws18⟩ : ∃ x : va_W, x = ws17.set n ((a, Sum.inr (9, [Value.ref q1, Value.ref q4, Value.ref q7, Value.ref q10, Value.ref q13, Value.ref q16, Value.null, Value.int 0, Value.int 0, Value.int 0, Value.int 0])) : Nat × va_E) := ⟨_, rfl⟩
  replace hP : va_P D classes ws18 H := by rw [e_ws18]; exact hP9
  replace hD : va_D A ws18 := by rw [e_ws18]; exact hD9
  replace hS := hS9
  clear hP9 hD9 hS9
  have f_n_ws18 : ws18[n]? = some ((a, Sum.inr (9, [Value.ref q1, Value.ref q4, Value.ref q7, Value.ref q10, Value.ref q13, Value.ref q16, Value.null, Value.int 0, Value.int 0, Value.int 0, Value.int 0])) : Nat × va_E) := by rw [e_ws18]; exact gs_self f_n_ws17
  replace hlen : ws18.length = N + 6 := by rw [e_ws18]; exact gs_lens hlen
  replace hU : gx_g ws ws18 6 [n] := by rw [e_ws18]; exact hU.put (Or.inl (by simp))
  refine lv_aload_n hx hb d_Ve_init_58 rfl (lv_at hl 0 rfl) ?_
  refine lv_sipush (v := 4096) hx hb d_Ve_init_59 (by decide) ?_
  refine gx_newa (atype := .boolean) (ty := .boolean) (N' := 4096) (a0 := (4096, Sum.inl (fun _ => 0))) hx hb (hts _ kA_boolean) rfl hK hP hD hS hA 1 ht1 (fun _ => rfl) (by decide) (by decide) (by decide) (Nat.le_of_ble_eq_true rfl) (Nat.le_of_ble_eq_true rfl) d_Ve_init_62 (fun q19 H hP9 hD9 hS9 => ?_)
  obtain ⟨ws20, e_ws20⟩ : ∃ x : va_W, x = ws18 ++ [((q19, Sum.inl (cZ, 4096, Sum.inl (fun _ => 0))) : Nat × va_E)] := ⟨_, rfl⟩
  replace hP : va_P D classes ws20 H := by rw [e_ws20]; exact hP9
  replace hD : va_D A ws20 := by rw [e_ws20]; exact hD9
  replace hS := hS9
  clear hP9 hD9 hS9
  have f_N_6_ws20 : ws20[N + 6]? = some ((q19, Sum.inl (cZ, 4096, Sum.inl (fun _ => 0))) : Nat × va_E) := by rw [e_ws20]; exact gs_last hlen
  replace hlen : ws20.length = N + 7 := by rw [e_ws20]; exact gs_len hlen
  replace hU : gx_g ws ws20 7 [n] := by rw [e_ws20]; exact hU.push
  refine W.widen (k := 7) (n := 28677) (by decide) (by decide) ?_
  have f_n_ws20 : ws20[n]? = some ((a, Sum.inr (9, [Value.ref q1, Value.ref q4, Value.ref q7, Value.ref q10, Value.ref q13, Value.ref q16, Value.null, Value.int 0, Value.int 0, Value.int 0, Value.int 0])) : Nat × va_E) := by rw [e_ws20]; exact gs_app f_n_ws18
  clear f_n_ws18
  refine va_putF (D := D) (ci := 9) (v := Value.ref q19) (ty := .array .boolean) (C := "CommitLedgerModel$Version") (T := F_Ve) (N := 11) hx hb hts i_Ve t_Ve t_Ve_ok n_Ve hown hK hP hD hS n f_n_ws20 rfl 6 (by decide) (hts _ kf_Ve_31) (fun _ h9 => h9) rfl hin rfl (by decide +kernel) rfl rfl (Nat.le_of_ble_eq_true rfl) d_Ve_init_64 (fun H locs hP9 hD9 hS9 => ?_)
  obtain ⟨ws21, e_ws21⟩ : ∃ x : va_W, x = ws20.set n ((a, Sum.inr (9, [Value.ref q1, Value.ref q4, Value.ref q7, Value.ref q10, Value.ref q13, Value.ref q16, Value.ref q19, Value.int 0, Value.int 0, Value.int 0, Value.int 0])) : Nat × va_E) := ⟨_, rfl⟩
  replace hP : va_P D classes ws21 H := by rw [e_ws21]; exact hP9
  replace hD : va_D A ws21 := by rw [e_ws21]; exact hD9
  replace hS := hS9
  clear hP9 hD9 hS9
  have f_n_ws21 : ws21[n]? = some ((a, Sum.inr (9, [Value.ref q1, Value.ref q4, Value.ref q7, Value.ref q10, Value.ref q13, Value.ref q16, Value.ref q19, Value.int 0, Value.int 0, Value.int 0, Value.int 0])) : Nat × va_E) := by rw [e_ws21]; exact gs_self f_n_ws20
  replace hlen : ws21.length = N + 7 := by rw [e_ws21]; exact gs_lens hlen
  replace hU : gx_g ws ws21 7 [n] := by rw [e_ws21]; exact hU.put (Or.inl (by simp))
  have f_N_ws3 : ws3[N]? = some ((q1, Sum.inl (cI, 4097, Sum.inl (fun _ => 0))) : Nat × va_E) := by rw [e_ws3]; exact gs_ne (by omega) f_N_ws2
  clear f_N_ws2
  have f_N_ws5 : ws5[N]? = some ((q1, Sum.inl (cI, 4097, Sum.inl (fun _ => 0))) : Nat × va_E) := by rw [e_ws5]; exact gs_app f_N_ws3
  clear f_N_ws3
  have f_N_ws6 : ws6[N]? = some ((q1, Sum.inl (cI, 4097, Sum.inl (fun _ => 0))) : Nat × va_E) := by rw [e_ws6]; exact gs_ne (by omega) f_N_ws5
  clear f_N_ws5
  have f_N_ws8 : ws8[N]? = some ((q1, Sum.inl (cI, 4097, Sum.inl (fun _ => 0))) : Nat × va_E) := by rw [e_ws8]; exact gs_app f_N_ws6
  clear f_N_ws6
  have f_N_ws9 : ws9[N]? = some ((q1, Sum.inl (cI, 4097, Sum.inl (fun _ => 0))) : Nat × va_E) := by rw [e_ws9]; exact gs_ne (by omega) f_N_ws8
  clear f_N_ws8
  have f_N_ws11 : ws11[N]? = some ((q1, Sum.inl (cI, 4097, Sum.inl (fun _ => 0))) : Nat × va_E) := by rw [e_ws11]; exact gs_app f_N_ws9
  clear f_N_ws9
  have f_N_ws12 : ws12[N]? = some ((q1, Sum.inl (cI, 4097, Sum.inl (fun _ => 0))) : Nat × va_E) := by rw [e_ws12]; exact gs_ne (by omega) f_N_ws11
  clear f_N_ws11
  have f_N_ws14 : ws14[N]? = some ((q1, Sum.inl (cI, 4097, Sum.inl (fun _ => 0))) : Nat × va_E) := by rw [e_ws14]; exact gs_app f_N_ws12
  clear f_N_ws12
  have f_N_ws15 : ws15[N]? = some ((q1, Sum.inl (cI, 4097, Sum.inl (fun _ => 0))) : Nat × va_E) := by rw [e_ws15]; exact gs_ne (by omega) f_N_ws14
  clear f_N_ws14
  have f_N_ws17 : ws17[N]? = some ((q1, Sum.inl (cI, 4097, Sum.inl (fun _ => 0))) : Nat × va_E) := by rw [e_ws17]; exact gs_app f_N_ws15
  clear f_N_ws15
  have f_N_ws18 : ws18[N]? = some ((q1, Sum.inl (cI, 4097, Sum.inl (fun _ => 0))) : Nat × va_E) := by rw [e_ws18]; exact gs_ne (by omega) f_N_ws17
  clear f_N_ws17
  have f_N_ws20 : ws20[N]? = some ((q1, Sum.inl (cI, 4097, Sum.inl (fun _ => 0))) : Nat × va_E) := by rw [e_ws20]; exact gs_app f_N_ws18
  clear f_N_ws18
  have f_N_ws21 : ws21[N]? = some ((q1, Sum.inl (cI, 4097, Sum.inl (fun _ => 0))) : Nat × va_E) := by rw [e_ws21]; exact gs_ne (by omega) f_N_ws20
  clear f_N_ws20
  have f_N_1_ws6 : ws6[N + 1]? = some ((q4, Sum.inl (cI, 4097, Sum.inl (fun _ => 0))) : Nat × va_E) := by rw [e_ws6]; exact gs_ne (by omega) f_N_1_ws5
  clear f_N_1_ws5
  have f_N_1_ws8 : ws8[N + 1]? = some ((q4, Sum.inl (cI, 4097, Sum.inl (fun _ => 0))) : Nat × va_E) := by rw [e_ws8]; exact gs_app f_N_1_ws6
  clear f_N_1_ws6
  have f_N_1_ws9 : ws9[N + 1]? = some ((q4, Sum.inl (cI, 4097, Sum.inl (fun _ => 0))) : Nat × va_E) := by rw [e_ws9]; exact gs_ne (by omega) f_N_1_ws8
  clear f_N_1_ws8
  have f_N_1_ws11 : ws11[N + 1]? = some ((q4, Sum.inl (cI, 4097, Sum.inl (fun _ => 0))) : Nat × va_E) := by rw [e_ws11]; exact gs_app f_N_1_ws9
  clear f_N_1_ws9
  have f_N_1_ws12 : ws12[N + 1]? = some ((q4, Sum.inl (cI, 4097, Sum.inl (fun _ => 0))) : Nat × va_E) := by rw [e_ws12]; exact gs_ne (by omega) f_N_1_ws11
  clear f_N_1_ws11
  have f_N_1_ws14 : ws14[N + 1]? = some ((q4, Sum.inl (cI, 4097, Sum.inl (fun _ => 0))) : Nat × va_E) := by rw [e_ws14]; exact gs_app f_N_1_ws12
  clear f_N_1_ws12
  have f_N_1_ws15 : ws15[N + 1]? = some ((q4, Sum.inl (cI, 4097, Sum.inl (fun _ => 0))) : Nat × va_E) := by rw [e_ws15]; exact gs_ne (by omega) f_N_1_ws14
  clear f_N_1_ws14
  have f_N_1_ws17 : ws17[N + 1]? = some ((q4, Sum.inl (cI, 4097, Sum.inl (fun _ => 0))) : Nat × va_E) := by rw [e_ws17]; exact gs_app f_N_1_ws15
  clear f_N_1_ws15
  have f_N_1_ws18 : ws18[N + 1]? = some ((q4, Sum.inl (cI, 4097, Sum.inl (fun _ => 0))) : Nat × va_E) := by rw [e_ws18]; exact gs_ne (by omega) f_N_1_ws17
  clear f_N_1_ws17
  have f_N_1_ws20 : ws20[N + 1]? = some ((q4, Sum.inl (cI, 4097, Sum.inl (fun _ => 0))) : Nat × va_E) := by rw [e_ws20]; exact gs_app f_N_1_ws18
  clear f_N_1_ws18
  have f_N_1_ws21 : ws21[N + 1]? = some ((q4, Sum.inl (cI, 4097, Sum.inl (fun _ => 0))) : Nat × va_E) := by rw [e_ws21]; exact gs_ne (by omega) f_N_1_ws20
  clear f_N_1_ws20
  have f_N_2_ws9 : ws9[N + 2]? = some ((q7, Sum.inl (cI, 4098, Sum.inl (fun _ => 0))) : Nat × va_E) := by rw [e_ws9]; exact gs_ne (by omega) f_N_2_ws8
  clear f_N_2_ws8
  have f_N_2_ws11 : ws11[N + 2]? = some ((q7, Sum.inl (cI, 4098, Sum.inl (fun _ => 0))) : Nat × va_E) := by rw [e_ws11]; exact gs_app f_N_2_ws9
  clear f_N_2_ws9
  have f_N_2_ws12 : ws12[N + 2]? = some ((q7, Sum.inl (cI, 4098, Sum.inl (fun _ => 0))) : Nat × va_E) := by rw [e_ws12]; exact gs_ne (by omega) f_N_2_ws11
  clear f_N_2_ws11
  have f_N_2_ws14 : ws14[N + 2]? = some ((q7, Sum.inl (cI, 4098, Sum.inl (fun _ => 0))) : Nat × va_E) := by rw [e_ws14]; exact gs_app f_N_2_ws12
  clear f_N_2_ws12
  have f_N_2_ws15 : ws15[N + 2]? = some ((q7, Sum.inl (cI, 4098, Sum.inl (fun _ => 0))) : Nat × va_E) := by rw [e_ws15]; exact gs_ne (by omega) f_N_2_ws14
  clear f_N_2_ws14
  have f_N_2_ws17 : ws17[N + 2]? = some ((q7, Sum.inl (cI, 4098, Sum.inl (fun _ => 0))) : Nat × va_E) := by rw [e_ws17]; exact gs_app f_N_2_ws15
  clear f_N_2_ws15
  have f_N_2_ws18 : ws18[N + 2]? = some ((q7, Sum.inl (cI, 4098, Sum.inl (fun _ => 0))) : Nat × va_E) := by rw [e_ws18]; exact gs_ne (by omega) f_N_2_ws17
  clear f_N_2_ws17
  have f_N_2_ws20 : ws20[N + 2]? = some ((q7, Sum.inl (cI, 4098, Sum.inl (fun _ => 0))) : Nat × va_E) := by rw [e_ws20]; exact gs_app f_N_2_ws18
  clear f_N_2_ws18
  have f_N_2_ws21 : ws21[N + 2]? = some ((q7, Sum.inl (cI, 4098, Sum.inl (fun _ => 0))) : Nat × va_E) := by rw [e_ws21]; exact gs_ne (by omega) f_N_2_ws20
  clear f_N_2_ws20
  have f_N_3_ws12 : ws12[N + 3]? = some ((q10, Sum.inl (cI, 4097, Sum.inl (fun _ => 0))) : Nat × va_E) := by rw [e_ws12]; exact gs_ne (by omega) f_N_3_ws11
  clear f_N_3_ws11
  have f_N_3_ws14 : ws14[N + 3]? = some ((q10, Sum.inl (cI, 4097, Sum.inl (fun _ => 0))) : Nat × va_E) := by rw [e_ws14]; exact gs_app f_N_3_ws12
  clear f_N_3_ws12
  have f_N_3_ws15 : ws15[N + 3]? = some ((q10, Sum.inl (cI, 4097, Sum.inl (fun _ => 0))) : Nat × va_E) := by rw [e_ws15]; exact gs_ne (by omega) f_N_3_ws14
  clear f_N_3_ws14
  have f_N_3_ws17 : ws17[N + 3]? = some ((q10, Sum.inl (cI, 4097, Sum.inl (fun _ => 0))) : Nat × va_E) := by rw [e_ws17]; exact gs_app f_N_3_ws15
  clear f_N_3_ws15
  have f_N_3_ws18 : ws18[N + 3]? = some ((q10, Sum.inl (cI, 4097, Sum.inl (fun _ => 0))) : Nat × va_E) := by rw [e_ws18]; exact gs_ne (by omega) f_N_3_ws17
  clear f_N_3_ws17
  have f_N_3_ws20 : ws20[N + 3]? = some ((q10, Sum.inl (cI, 4097, Sum.inl (fun _ => 0))) : Nat × va_E) := by rw [e_ws20]; exact gs_app f_N_3_ws18
  clear f_N_3_ws18
  have f_N_3_ws21 : ws21[N + 3]? = some ((q10, Sum.inl (cI, 4097, Sum.inl (fun _ => 0))) : Nat × va_E) := by rw [e_ws21]; exact gs_ne (by omega) f_N_3_ws20
  clear f_N_3_ws20
  have f_N_4_ws15 : ws15[N + 4]? = some ((q13, Sum.inl (cI, 4096, Sum.inl (fun _ => 0))) : Nat × va_E) := by rw [e_ws15]; exact gs_ne (by omega) f_N_4_ws14
  clear f_N_4_ws14
  have f_N_4_ws17 : ws17[N + 4]? = some ((q13, Sum.inl (cI, 4096, Sum.inl (fun _ => 0))) : Nat × va_E) := by rw [e_ws17]; exact gs_app f_N_4_ws15
  clear f_N_4_ws15
  have f_N_4_ws18 : ws18[N + 4]? = some ((q13, Sum.inl (cI, 4096, Sum.inl (fun _ => 0))) : Nat × va_E) := by rw [e_ws18]; exact gs_ne (by omega) f_N_4_ws17
  clear f_N_4_ws17
  have f_N_4_ws20 : ws20[N + 4]? = some ((q13, Sum.inl (cI, 4096, Sum.inl (fun _ => 0))) : Nat × va_E) := by rw [e_ws20]; exact gs_app f_N_4_ws18
  clear f_N_4_ws18
  have f_N_4_ws21 : ws21[N + 4]? = some ((q13, Sum.inl (cI, 4096, Sum.inl (fun _ => 0))) : Nat × va_E) := by rw [e_ws21]; exact gs_ne (by omega) f_N_4_ws20
  clear f_N_4_ws20
  have f_N_5_ws18 : ws18[N + 5]? = some ((q16, Sum.inl (cZ, 4096, Sum.inl (fun _ => 0))) : Nat × va_E) := by rw [e_ws18]; exact gs_ne (by omega) f_N_5_ws17
  clear f_N_5_ws17
  have f_N_5_ws20 : ws20[N + 5]? = some ((q16, Sum.inl (cZ, 4096, Sum.inl (fun _ => 0))) : Nat × va_E) := by rw [e_ws20]; exact gs_app f_N_5_ws18
  clear f_N_5_ws18
  have f_N_5_ws21 : ws21[N + 5]? = some ((q16, Sum.inl (cZ, 4096, Sum.inl (fun _ => 0))) : Nat × va_E) := by rw [e_ws21]; exact gs_ne (by omega) f_N_5_ws20
  clear f_N_5_ws20
  have f_N_6_ws21 : ws21[N + 6]? = some ((q19, Sum.inl (cZ, 4096, Sum.inl (fun _ => 0))) : Nat × va_E) := by rw [e_ws21]; exact gs_ne (by omega) f_N_6_ws20
  clear f_N_6_ws20
  exact gx_ret (W.vret hx hb hr (gx_post hP hK hD hS (by rw [← hPQ]; exact ⟨q1, q4, q7, q10, q13, q16, q19, rfl, hU, f_n_ws21, f_N_ws21, f_N_1_ws21, f_N_2_ws21, f_N_3_ws21, f_N_4_ws21, f_N_5_ws21, f_N_6_ws21⟩)) hS.2.2 d_Ve_init_67)

set_option maxHeartbeats 4000000 in
set_option maxRecDepth 100000 in
theorem c_Mo_init (l : Launch) (htr : l.stackTraces = false) (D : va_G) (tys : List (ClassId × FieldType)) (z sz : Nat) (ws : va_W) (cI : ClassId) (cZ : ClassId) (cV : ClassId) (a : Nat) (f_46 : ws[46]? = some ((a, Sum.inr (8, [Value.int 0, Value.int 0, Value.null, Value.null, Value.null, Value.int 0, Value.null, Value.null, Value.null, Value.null, Value.int 0, Value.int 0, Value.int 0, Value.int 0, Value.int 0, Value.null, Value.null, Value.null, Value.int 0, Value.int 0, Value.int 0, Value.null, Value.null, Value.int 0, Value.int 0, Value.int 0, Value.null, Value.null, Value.null, Value.null, Value.int 0, Value.null, Value.int 0, Value.int 0, Value.int 0])) : Nat × va_E)) (ht0 : tys[0]? = some ((cI, FieldType.int) : ClassId × FieldType)) (ht1 : tys[1]? = some ((cZ, FieldType.boolean) : ClassId × FieldType)) (ht5 : tys[5]? = some ((cV, FieldType.object "CommitLedgerModel$Version") : ClassId × FieldType)) (hlen : ws.length = 47) : gx_Met l y_Mo_init [Cond.code y_Mo_init b_Mo_init 1 none] { frames := 2, cells := 74, slots := 477700, locals := 40 } (gx_P z sz D classes tys ws [Value.ref a]) (gx_Q D classes tys (va_A ws sz) (fun r ws' => r = Sum.inl none ∧ gx_g ws ws' 69 [46] ∧ ∃ (q : Nat → Nat) (um : Value), q 46 = a ∧ mo_G0 cI cZ cV q um ws' ∧ mo_G1 cI cZ cV q um ws' ∧ mo_G2 cI cZ cV q um ws' ∧ mo_G3 cI cZ cV q um ws' ∧ mo_G4 cI cZ cV q um ws')) 74 477700 (va_A ws sz) := by
  refine gx_ofW (cc := b_Mo_init) (maxL := 1) (ret := none) (by decide) rfl ?_
  intro p e s m args below meth c s₁ B hml hv
  obtain ⟨rfl, hsz, hz, hP, hK, hD0, hY⟩ := hv
  have hx := B.exec
  have hb := B.bytes
  have hr := B.returns
  have hts := hY.hts (#[Value.ref a] : Array Value)
  have hown : s.vm.findClass "CommitLedgerModel" = some m.cls := findClass_of_methodNamed B.named
  have hlocks := B.notSynchronized
  have hin : meth.name = "<init>" := (name_of_methodNamed B.named B.method).1
  have hne : c.exceptionTable.isEmpty = true := B.noHandlers (atoms_spec (ws := [Cond.code y_Mo_init b_Mo_init 1 none]) B.pre _ List.mem_cons_self)
  subst hsz
  have hAz := gx_az hD0 hz
  have hD := hD0.self (sz := s.heap.size)
  have hN := gx_ns hP
  have hA : ∀ q : Nat, s.heap.size ≤ q → va_A ws s.heap.size q := fun q h => Or.inr h
  generalize va_A ws s.heap.size = A at hD hN hA hAz ⊢
  generalize hPQ : (fun (r : Option Value ⊕ String) (ws' : va_W) => r = Sum.inl none ∧ gx_g ws ws' 69 [46] ∧ ∃ (q : Nat → Nat) (um : Value), q 46 = a ∧ mo_G0 cI cZ cV q um ws' ∧ mo_G1 cI cZ cV q um ws' ∧ mo_G2 cI cZ cV q um ws' ∧ mo_G3 cI cZ cV q um ws' ∧ mo_G4 cI cZ cV q um ws') = PQ
  have hS : va_S A s.heap s.heap [] := va_S.rf
  have hlen0 := hlen
  have hU : gx_g ws ws 0 [46] := gx_g.rf
  have hl := lv_entry ([Value.ref a]) (n := 1) (Nat.le_of_ble_eq_true rfl)
  rw [lg_entry_eq]
  generalize (lg_sl ([Value.ref a]) ++ List.replicate (1 - (lg_sl ([Value.ref a])).length) Slot.unset).toArray = ls at hl ⊢
  have hl : lv_has ls 1 [(0, Value.ref a)] := hl
  refine lv_aload_n hx hb d_Mo_init_0 rfl (lv_at hl 0 rfl) ?_
  refine W.objInit hx hb hown (hts _ km_Mo_1) (hts _ kI_Object_init) (hts _ kc_Object_init) rfl (by rw [hml]; exact hl.1) rfl d_Mo_init_1 (Nat.le_of_ble_eq_true rfl) (Nat.le_of_ble_eq_true rfl) ?_
  refine W.eq (g2 := F0 m 4 ls []) rfl ?_
  refine lv_aload_n hx hb d_Mo_init_4 rfl (lv_at hl 0 rfl) ?_
  refine lv_sipush (v := 4096) hx hb d_Mo_init_5 (by decide) ?_
  refine gx_newa (atype := .int) (ty := .int) (N' := 4096) (a0 := (4096, Sum.inl (fun _ => 0))) hx hb (hts _ kA_int) rfl hK hP hD hS hA 0 ht0 (fun _ => rfl) (by decide) (by decide) (by decide) (Nat.le_of_ble_eq_true rfl) (Nat.le_of_ble_eq_true rfl) d_Mo_init_8 (fun q1 H hP9 hD9 hS9 => ?_)
  obtain ⟨ws2, e_ws2⟩ : ∃ x : va_W, x = ws ++ [((q1, Sum.inl (cI, 4096, Sum.inl (fun _ => 0))) : Nat × va_E)] := ⟨_, rfl⟩
  replace hP : va_P D classes ws2 H := by rw [e_ws2]; exact hP9
  replace hD : va_D A ws2 := by rw [e_ws2]; exact hD9
  replace hS := hS9
  clear hP9 hD9 hS9
  have f_47_ws2 : ws2[47]? = some ((q1, Sum.inl (cI, 4096, Sum.inl (fun _ => 0))) : Nat × va_E) := by rw [e_ws2]; exact gs_last hlen
  replace hlen : ws2.length = 48 := by rw [e_ws2]; exact gs_len hlen
  replace hU : gx_g ws ws2 1 [46] := by rw [e_ws2]; exact hU.push
  refine W.widen (k := 1) (n := 4096) (by decide) (by decide) ?_
  have f_46_ws2 : ws2[46]? = some ((a, Sum.inr (8, [Value.int 0, Value.int 0, Value.null, Value.null, Value.null, Value.int 0, Value.null, Value.null, Value.null, Value.null, Value.int 0, Value.int 0, Value.int 0, Value.int 0, Value.int 0, Value.null, Value.null, Value.null, Value.int 0, Value.int 0, Value.int 0, Value.null, Value.null, Value.int 0, Value.int 0, Value.int 0, Value.null, Value.null, Value.null, Value.null, Value.int 0, Value.null, Value.int 0, Value.int 0, Value.int 0])) : Nat × va_E) := by rw [e_ws2]; exact gs_app f_46
  clear f_46
  refine va_putF (D := D) (ci := 8) (v := Value.ref q1) (ty := .array .int) (C := "CommitLedgerModel") (T := F_Mo) (N := 35) hx hb hts i_Mo t_Mo t_Mo_ok n_Mo hown hK hP hD hS 46 f_46_ws2 rfl 2 (by decide) (hts _ kf_Mo_9) (fun _ h9 => h9) rfl hin rfl (by decide +kernel) rfl rfl (Nat.le_of_ble_eq_true rfl) d_Mo_init_10 (fun H locs hP9 hD9 hS9 => ?_)
  obtain ⟨ws3, e_ws3⟩ : ∃ x : va_W, x = ws2.set 46 ((a, Sum.inr (8, [Value.int 0, Value.int 0, Value.ref q1, Value.null, Value.null, Value.int 0, Value.null, Value.null, Value.null, Value.null, Value.int 0, Value.int 0, Value.int 0, Value.int 0, Value.int 0, Value.null, Value.null, Value.null, Value.int 0, Value.int 0, Value.int 0, Value.null, Value.null, Value.int 0, Value.int 0, Value.int 0, Value.null, Value.null, Value.null, Value.null, Value.int 0, Value.null, Value.int 0, Value.int 0, Value.int 0])) : Nat × va_E) := ⟨_, rfl⟩
  replace hP : va_P D classes ws3 H := by rw [e_ws3]; exact hP9
  replace hD : va_D A ws3 := by rw [e_ws3]; exact hD9
  replace hS := hS9
  clear hP9 hD9 hS9
  have f_46_ws3 : ws3[46]? = some ((a, Sum.inr (8, [Value.int 0, Value.int 0, Value.ref q1, Value.null, Value.null, Value.int 0, Value.null, Value.null, Value.null, Value.null, Value.int 0, Value.int 0, Value.int 0, Value.int 0, Value.int 0, Value.null, Value.null, Value.null, Value.int 0, Value.int 0, Value.int 0, Value.null, Value.null, Value.int 0, Value.int 0, Value.int 0, Value.null, Value.null, Value.null, Value.null, Value.int 0, Value.null, Value.int 0, Value.int 0, Value.int 0])) : Nat × va_E) := by rw [e_ws3]; exact gs_self f_46_ws2
  replace hlen : ws3.length = 48 := by rw [e_ws3]; exact gs_lens hlen
  replace hU : gx_g ws ws3 1 [46] := by rw [e_ws3]; exact hU.put (Or.inl (by simp))
  refine lv_aload_n hx hb d_Mo_init_13 rfl (lv_at hl 0 rfl) ?_
  refine lv_sipush (v := 4096) hx hb d_Mo_init_14 (by decide) ?_
  refine gx_newa (atype := .int) (ty := .int) (N' := 4096) (a0 := (4096, Sum.inl (fun _ => 0))) hx hb (hts _ kA_int) rfl hK hP hD hS hA 0 ht0 (fun _ => rfl) (by decide) (by decide) (by decide) (Nat.le_of_ble_eq_true rfl) (Nat.le_of_ble_eq_true rfl) d_Mo_init_17 (fun q4 H hP9 hD9 hS9 => ?_)
  obtain ⟨ws5, e_ws5⟩ : ∃ x : va_W, x = ws3 ++ [((q4, Sum.inl (cI, 4096, Sum.inl (fun _ => 0))) : Nat × va_E)] := ⟨_, rfl⟩
  replace hP : va_P D classes ws5 H := by rw [e_ws5]; exact hP9
  replace hD : va_D A ws5 := by rw [e_ws5]; exact hD9
  replace hS := hS9
  clear hP9 hD9 hS9
  have f_48_ws5 : ws5[48]? = some ((q4, Sum.inl (cI, 4096, Sum.inl (fun _ => 0))) : Nat × va_E) := by rw [e_ws5]; exact gs_last hlen
  replace hlen : ws5.length = 49 := by rw [e_ws5]; exact gs_len hlen
  replace hU : gx_g ws ws5 2 [46] := by rw [e_ws5]; exact hU.push
  refine W.widen (k := 2) (n := 8192) (by decide) (by decide) ?_
  have f_46_ws5 : ws5[46]? = some ((a, Sum.inr (8, [Value.int 0, Value.int 0, Value.ref q1, Value.null, Value.null, Value.int 0, Value.null, Value.null, Value.null, Value.null, Value.int 0, Value.int 0, Value.int 0, Value.int 0, Value.int 0, Value.null, Value.null, Value.null, Value.int 0, Value.int 0, Value.int 0, Value.null, Value.null, Value.int 0, Value.int 0, Value.int 0, Value.null, Value.null, Value.null, Value.null, Value.int 0, Value.null, Value.int 0, Value.int 0, Value.int 0])) : Nat × va_E) := by rw [e_ws5]; exact gs_app f_46_ws3
  clear f_46_ws3
  refine va_putF (D := D) (ci := 8) (v := Value.ref q4) (ty := .array .int) (C := "CommitLedgerModel") (T := F_Mo) (N := 35) hx hb hts i_Mo t_Mo t_Mo_ok n_Mo hown hK hP hD hS 46 f_46_ws5 rfl 3 (by decide) (hts _ kf_Mo_13) (fun _ h9 => h9) rfl hin rfl (by decide +kernel) rfl rfl (Nat.le_of_ble_eq_true rfl) d_Mo_init_19 (fun H locs hP9 hD9 hS9 => ?_)
  obtain ⟨ws6, e_ws6⟩ : ∃ x : va_W, x = ws5.set 46 ((a, Sum.inr (8, [Value.int 0, Value.int 0, Value.ref q1, Value.ref q4, Value.null, Value.int 0, Value.null, Value.null, Value.null, Value.null, Value.int 0, Value.int 0, Value.int 0, Value.int 0, Value.int 0, Value.null, Value.null, Value.null, Value.int 0, Value.int 0, Value.int 0, Value.null, Value.null, Value.int 0, Value.int 0, Value.int 0, Value.null, Value.null, Value.null, Value.null, Value.int 0, Value.null, Value.int 0, Value.int 0, Value.int 0])) : Nat × va_E) := ⟨_, rfl⟩
  replace hP : va_P D classes ws6 H := by rw [e_ws6]; exact hP9
  replace hD : va_D A ws6 := by rw [e_ws6]; exact hD9
  replace hS := hS9
  clear hP9 hD9 hS9
  have f_46_ws6 : ws6[46]? = some ((a, Sum.inr (8, [Value.int 0, Value.int 0, Value.ref q1, Value.ref q4, Value.null, Value.int 0, Value.null, Value.null, Value.null, Value.null, Value.int 0, Value.int 0, Value.int 0, Value.int 0, Value.int 0, Value.null, Value.null, Value.null, Value.int 0, Value.int 0, Value.int 0, Value.null, Value.null, Value.int 0, Value.int 0, Value.int 0, Value.null, Value.null, Value.null, Value.null, Value.int 0, Value.null, Value.int 0, Value.int 0, Value.int 0])) : Nat × va_E) := by rw [e_ws6]; exact gs_self f_46_ws5
  replace hlen : ws6.length = 49 := by rw [e_ws6]; exact gs_lens hlen
  replace hU : gx_g ws ws6 2 [46] := by rw [e_ws6]; exact hU.put (Or.inl (by simp))
  refine lv_aload_n hx hb d_Mo_init_22 rfl (lv_at hl 0 rfl) ?_
  refine lv_sipush (v := 4096) hx hb d_Mo_init_23 (by decide) ?_
  refine gx_newa (atype := .int) (ty := .int) (N' := 4096) (a0 := (4096, Sum.inl (fun _ => 0))) hx hb (hts _ kA_int) rfl hK hP hD hS hA 0 ht0 (fun _ => rfl) (by decide) (by decide) (by decide) (Nat.le_of_ble_eq_true rfl) (Nat.le_of_ble_eq_true rfl) d_Mo_init_26 (fun q7 H hP9 hD9 hS9 => ?_)
  obtain ⟨ws8, e_ws8⟩ : ∃ x : va_W, x = ws6 ++ [((q7, Sum.inl (cI, 4096, Sum.inl (fun _ => 0))) : Nat × va_E)] := ⟨_, rfl⟩
  replace hP : va_P D classes ws8 H := by rw [e_ws8]; exact hP9
  replace hD : va_D A ws8 := by rw [e_ws8]; exact hD9
  replace hS := hS9
  clear hP9 hD9 hS9
  have f_49_ws8 : ws8[49]? = some ((q7, Sum.inl (cI, 4096, Sum.inl (fun _ => 0))) : Nat × va_E) := by rw [e_ws8]; exact gs_last hlen
  replace hlen : ws8.length = 50 := by rw [e_ws8]; exact gs_len hlen
  replace hU : gx_g ws ws8 3 [46] := by rw [e_ws8]; exact hU.push
  refine W.widen (k := 3) (n := 12288) (by decide) (by decide) ?_
  have f_46_ws8 : ws8[46]? = some ((a, Sum.inr (8, [Value.int 0, Value.int 0, Value.ref q1, Value.ref q4, Value.null, Value.int 0, Value.null, Value.null, Value.null, Value.null, Value.int 0, Value.int 0, Value.int 0, Value.int 0, Value.int 0, Value.null, Value.null, Value.null, Value.int 0, Value.int 0, Value.int 0, Value.null, Value.null, Value.int 0, Value.int 0, Value.int 0, Value.null, Value.null, Value.null, Value.null, Value.int 0, Value.null, Value.int 0, Value.int 0, Value.int 0])) : Nat × va_E) := by rw [e_ws8]; exact gs_app f_46_ws6
  clear f_46_ws6
  refine va_putF (D := D) (ci := 8) (v := Value.ref q7) (ty := .array .int) (C := "CommitLedgerModel") (T := F_Mo) (N := 35) hx hb hts i_Mo t_Mo t_Mo_ok n_Mo hown hK hP hD hS 46 f_46_ws8 rfl 4 (by decide) (hts _ kf_Mo_16) (fun _ h9 => h9) rfl hin rfl (by decide +kernel) rfl rfl (Nat.le_of_ble_eq_true rfl) d_Mo_init_28 (fun H locs hP9 hD9 hS9 => ?_)
  obtain ⟨ws9, e_ws9⟩ : ∃ x : va_W, x = ws8.set 46 ((a, Sum.inr (8, [Value.int 0, Value.int 0, Value.ref q1, Value.ref q4, Value.ref q7, Value.int 0, Value.null, Value.null, Value.null, Value.null, Value.int 0, Value.int 0, Value.int 0, Value.int 0, Value.int 0, Value.null, Value.null, Value.null, Value.int 0, Value.int 0, Value.int 0, Value.null, Value.null, Value.int 0, Value.int 0, Value.int 0, Value.null, Value.null, Value.null, Value.null, Value.int 0, Value.null, Value.int 0, Value.int 0, Value.int 0])) : Nat × va_E) := ⟨_, rfl⟩
  replace hP : va_P D classes ws9 H := by rw [e_ws9]; exact hP9
  replace hD : va_D A ws9 := by rw [e_ws9]; exact hD9
  replace hS := hS9
  clear hP9 hD9 hS9
  have f_46_ws9 : ws9[46]? = some ((a, Sum.inr (8, [Value.int 0, Value.int 0, Value.ref q1, Value.ref q4, Value.ref q7, Value.int 0, Value.null, Value.null, Value.null, Value.null, Value.int 0, Value.int 0, Value.int 0, Value.int 0, Value.int 0, Value.null, Value.null, Value.null, Value.int 0, Value.int 0, Value.int 0, Value.null, Value.null, Value.int 0, Value.int 0, Value.int 0, Value.null, Value.null, Value.null, Value.null, Value.int 0, Value.null, Value.int 0, Value.int 0, Value.int 0])) : Nat × va_E) := by rw [e_ws9]; exact gs_self f_46_ws8
  replace hlen : ws9.length = 50 := by rw [e_ws9]; exact gs_lens hlen
  replace hU : gx_g ws ws9 3 [46] := by rw [e_ws9]; exact hU.put (Or.inl (by simp))
  refine lv_aload_n hx hb d_Mo_init_31 rfl (lv_at hl 0 rfl) ?_
  refine lv_ldc (v := 60000) hx hb hown (hts _ ki_Mo_19) d_Mo_init_32 ?_
  refine gx_newa (atype := .int) (ty := .int) (N' := 60000) (a0 := (60000, Sum.inl (fun _ => 0))) hx hb (hts _ kA_int) rfl hK hP hD hS hA 0 ht0 (fun _ => rfl) (by decide) (by decide) (by decide) (Nat.le_of_ble_eq_true rfl) (Nat.le_of_ble_eq_true rfl) d_Mo_init_34 (fun q10 H hP9 hD9 hS9 => ?_)
  obtain ⟨ws11, e_ws11⟩ : ∃ x : va_W, x = ws9 ++ [((q10, Sum.inl (cI, 60000, Sum.inl (fun _ => 0))) : Nat × va_E)] := ⟨_, rfl⟩
  replace hP : va_P D classes ws11 H := by rw [e_ws11]; exact hP9
  replace hD : va_D A ws11 := by rw [e_ws11]; exact hD9
  replace hS := hS9
  clear hP9 hD9 hS9
  have f_50_ws11 : ws11[50]? = some ((q10, Sum.inl (cI, 60000, Sum.inl (fun _ => 0))) : Nat × va_E) := by rw [e_ws11]; exact gs_last hlen
  replace hlen : ws11.length = 51 := by rw [e_ws11]; exact gs_len hlen
  replace hU : gx_g ws ws11 4 [46] := by rw [e_ws11]; exact hU.push
  refine W.widen (k := 4) (n := 72288) (by decide) (by decide) ?_
  have f_46_ws11 : ws11[46]? = some ((a, Sum.inr (8, [Value.int 0, Value.int 0, Value.ref q1, Value.ref q4, Value.ref q7, Value.int 0, Value.null, Value.null, Value.null, Value.null, Value.int 0, Value.int 0, Value.int 0, Value.int 0, Value.int 0, Value.null, Value.null, Value.null, Value.int 0, Value.int 0, Value.int 0, Value.null, Value.null, Value.int 0, Value.int 0, Value.int 0, Value.null, Value.null, Value.null, Value.null, Value.int 0, Value.null, Value.int 0, Value.int 0, Value.int 0])) : Nat × va_E) := by rw [e_ws11]; exact gs_app f_46_ws9
  clear f_46_ws9
  refine va_putF (D := D) (ci := 8) (v := Value.ref q10) (ty := .array .int) (C := "CommitLedgerModel") (T := F_Mo) (N := 35) hx hb hts i_Mo t_Mo t_Mo_ok n_Mo hown hK hP hD hS 46 f_46_ws11 rfl 6 (by decide) (hts _ kf_Mo_20) (fun _ h9 => h9) rfl hin rfl (by decide +kernel) rfl rfl (Nat.le_of_ble_eq_true rfl) d_Mo_init_36 (fun H locs hP9 hD9 hS9 => ?_)
  obtain ⟨ws12, e_ws12⟩ : ∃ x : va_W, x = ws11.set 46 ((a, Sum.inr (8, [Value.int 0, Value.int 0, Value.ref q1, Value.ref q4, Value.ref q7, Value.int 0, Value.ref q10, Value.null, Value.null, Value.null, Value.int 0, Value.int 0, Value.int 0, Value.int 0, Value.int 0, Value.null, Value.null, Value.null, Value.int 0, Value.int 0, Value.int 0, Value.null, Value.null, Value.int 0, Value.int 0, Value.int 0, Value.null, Value.null, Value.null, Value.null, Value.int 0, Value.null, Value.int 0, Value.int 0, Value.int 0])) : Nat × va_E) := ⟨_, rfl⟩
  replace hP : va_P D classes ws12 H := by rw [e_ws12]; exact hP9
  replace hD : va_D A ws12 := by rw [e_ws12]; exact hD9
  replace hS := hS9
  clear hP9 hD9 hS9
  have f_46_ws12 : ws12[46]? = some ((a, Sum.inr (8, [Value.int 0, Value.int 0, Value.ref q1, Value.ref q4, Value.ref q7, Value.int 0, Value.ref q10, Value.null, Value.null, Value.null, Value.int 0, Value.int 0, Value.int 0, Value.int 0, Value.int 0, Value.null, Value.null, Value.null, Value.int 0, Value.int 0, Value.int 0, Value.null, Value.null, Value.int 0, Value.int 0, Value.int 0, Value.null, Value.null, Value.null, Value.null, Value.int 0, Value.null, Value.int 0, Value.int 0, Value.int 0])) : Nat × va_E) := by rw [e_ws12]; exact gs_self f_46_ws11
  replace hlen : ws12.length = 51 := by rw [e_ws12]; exact gs_lens hlen
  replace hU : gx_g ws ws12 4 [46] := by rw [e_ws12]; exact hU.put (Or.inl (by simp))
  refine lv_aload_n hx hb d_Mo_init_39 rfl (lv_at hl 0 rfl) ?_
  refine lv_ldc (v := 60000) hx hb hown (hts _ ki_Mo_19) d_Mo_init_40 ?_
  refine gx_newa (atype := .boolean) (ty := .boolean) (N' := 60000) (a0 := (60000, Sum.inl (fun _ => 0))) hx hb (hts _ kA_boolean) rfl hK hP hD hS hA 1 ht1 (fun _ => rfl) (by decide) (by decide) (by decide) (Nat.le_of_ble_eq_true rfl) (Nat.le_of_ble_eq_true rfl) d_Mo_init_42 (fun q13 H hP9 hD9 hS9 => ?_)
  obtain ⟨ws14, e_ws14⟩ : ∃ x : va_W, x = ws12 ++ [((q13, Sum.inl (cZ, 60000, Sum.inl (fun _ => 0))) : Nat × va_E)] := ⟨_, rfl⟩
  replace hP : va_P D classes ws14 H := by rw [e_ws14]; exact hP9
  replace hD : va_D A ws14 := by rw [e_ws14]; exact hD9
  replace hS := hS9
  clear hP9 hD9 hS9
  have f_51_ws14 : ws14[51]? = some ((q13, Sum.inl (cZ, 60000, Sum.inl (fun _ => 0))) : Nat × va_E) := by rw [e_ws14]; exact gs_last hlen
  replace hlen : ws14.length = 52 := by rw [e_ws14]; exact gs_len hlen
  replace hU : gx_g ws ws14 5 [46] := by rw [e_ws14]; exact hU.push
  refine W.widen (k := 5) (n := 132288) (by decide) (by decide) ?_
  have f_46_ws14 : ws14[46]? = some ((a, Sum.inr (8, [Value.int 0, Value.int 0, Value.ref q1, Value.ref q4, Value.ref q7, Value.int 0, Value.ref q10, Value.null, Value.null, Value.null, Value.int 0, Value.int 0, Value.int 0, Value.int 0, Value.int 0, Value.null, Value.null, Value.null, Value.int 0, Value.int 0, Value.int 0, Value.null, Value.null, Value.int 0, Value.int 0, Value.int 0, Value.null, Value.null, Value.null, Value.null, Value.int 0, Value.null, Value.int 0, Value.int 0, Value.int 0])) : Nat × va_E) := by rw [e_ws14]; exact gs_app f_46_ws12
  clear f_46_ws12
  refine va_putF (D := D) (ci := 8) (v := Value.ref q13) (ty := .array .boolean) (C := "CommitLedgerModel") (T := F_Mo) (N := 35) hx hb hts i_Mo t_Mo t_Mo_ok n_Mo hown hK hP hD hS 46 f_46_ws14 rfl 7 (by decide) (hts _ kf_Mo_23) (fun _ h9 => h9) rfl hin rfl (by decide +kernel) rfl rfl (Nat.le_of_ble_eq_true rfl) d_Mo_init_44 (fun H locs hP9 hD9 hS9 => ?_)
  obtain ⟨ws15, e_ws15⟩ : ∃ x : va_W, x = ws14.set 46 ((a, Sum.inr (8, [Value.int 0, Value.int 0, Value.ref q1, Value.ref q4, Value.ref q7, Value.int 0, Value.ref q10, Value.ref q13, Value.null, Value.null, Value.int 0, Value.int 0, Value.int 0, Value.int 0, Value.int 0, Value.null, Value.null, Value.null, Value.int 0, Value.int 0, Value.int 0, Value.null, Value.null, Value.int 0, Value.int 0, Value.int 0, Value.null, Value.null, Value.null, Value.null, Value.int 0, Value.null, Value.int 0, Value.int 0, Value.int 0])) : Nat × va_E) := ⟨_, rfl⟩
  replace hP : va_P D classes ws15 H := by rw [e_ws15]; exact hP9
  replace hD : va_D A ws15 := by rw [e_ws15]; exact hD9
  replace hS := hS9
  clear hP9 hD9 hS9
  have f_46_ws15 : ws15[46]? = some ((a, Sum.inr (8, [Value.int 0, Value.int 0, Value.ref q1, Value.ref q4, Value.ref q7, Value.int 0, Value.ref q10, Value.ref q13, Value.null, Value.null, Value.int 0, Value.int 0, Value.int 0, Value.int 0, Value.int 0, Value.null, Value.null, Value.null, Value.int 0, Value.int 0, Value.int 0, Value.null, Value.null, Value.int 0, Value.int 0, Value.int 0, Value.null, Value.null, Value.null, Value.null, Value.int 0, Value.null, Value.int 0, Value.int 0, Value.int 0])) : Nat × va_E) := by rw [e_ws15]; exact gs_self f_46_ws14
  replace hlen : ws15.length = 52 := by rw [e_ws15]; exact gs_lens hlen
  replace hU : gx_g ws ws15 5 [46] := by rw [e_ws15]; exact hU.put (Or.inl (by simp))
  refine lv_aload_n hx hb d_Mo_init_47 rfl (lv_at hl 0 rfl) ?_
  refine lv_ldc (v := 60000) hx hb hown (hts _ ki_Mo_19) d_Mo_init_48 ?_
  refine gx_newa (atype := .boolean) (ty := .boolean) (N' := 60000) (a0 := (60000, Sum.inl (fun _ => 0))) hx hb (hts _ kA_boolean) rfl hK hP hD hS hA 1 ht1 (fun _ => rfl) (by decide) (by decide) (by decide) (Nat.le_of_ble_eq_true rfl) (Nat.le_of_ble_eq_true rfl) d_Mo_init_50 (fun q16 H hP9 hD9 hS9 => ?_)
  obtain ⟨ws17, e_ws17⟩ : ∃ x : va_W, x = ws15 ++ [((q16, Sum.inl (cZ, 60000, Sum.inl (fun _ => 0))) : Nat × va_E)] := ⟨_, rfl⟩
  replace hP : va_P D classes ws17 H := by rw [e_ws17]; exact hP9
  replace hD : va_D A ws17 := by rw [e_ws17]; exact hD9
  replace hS := hS9
  clear hP9 hD9 hS9
  have f_52_ws17 : ws17[52]? = some ((q16, Sum.inl (cZ, 60000, Sum.inl (fun _ => 0))) : Nat × va_E) := by rw [e_ws17]; exact gs_last hlen
  replace hlen : ws17.length = 53 := by rw [e_ws17]; exact gs_len hlen
  replace hU : gx_g ws ws17 6 [46] := by rw [e_ws17]; exact hU.push
  refine W.widen (k := 6) (n := 192288) (by decide) (by decide) ?_
  have f_46_ws17 : ws17[46]? = some ((a, Sum.inr (8, [Value.int 0, Value.int 0, Value.ref q1, Value.ref q4, Value.ref q7, Value.int 0, Value.ref q10, Value.ref q13, Value.null, Value.null, Value.int 0, Value.int 0, Value.int 0, Value.int 0, Value.int 0, Value.null, Value.null, Value.null, Value.int 0, Value.int 0, Value.int 0, Value.null, Value.null, Value.int 0, Value.int 0, Value.int 0, Value.null, Value.null, Value.null, Value.null, Value.int 0, Value.null, Value.int 0, Value.int 0, Value.int 0])) : Nat × va_E) := by rw [e_ws17]; exact gs_app f_46_ws15
  clear f_46_ws15
  refine va_putF (D := D) (ci := 8) (v := Value.ref q16) (ty := .array .boolean) (C := "CommitLedgerModel") (T := F_Mo) (N := 35) hx hb hts i_Mo t_Mo t_Mo_ok n_Mo hown hK hP hD hS 46 f_46_ws17 rfl 8 (by decide) (hts _ kf_Mo_27) (fun _ h9 => h9) rfl hin rfl (by decide +kernel) rfl rfl (Nat.le_of_ble_eq_true rfl) d_Mo_init_52 (fun H locs hP9 hD9 hS9 => ?_)
  obtain ⟨ws18, e_ws18⟩ : ∃ x : va_W, x = ws17.set 46 ((a, Sum.inr (8, [Value.int 0, Value.int 0, Value.ref q1, Value.ref q4, Value.ref q7, Value.int 0, Value.ref q10, Value.ref q13, Value.ref q16, Value.null, Value.int 0, Value.int 0, Value.int 0, Value.int 0, Value.int 0, Value.null, Value.null, Value.null, Value.int 0, Value.int 0, Value.int 0, Value.null, Value.null, Value.int 0, Value.int 0, Value.int 0, Value.null, Value.null, Value.null, Value.null, Value.int 0, Value.null, Value.int 0, Value.int 0, Value.int 0])) : Nat × va_E) := ⟨_, rfl⟩
  replace hP : va_P D classes ws18 H := by rw [e_ws18]; exact hP9
  replace hD : va_D A ws18 := by rw [e_ws18]; exact hD9
  replace hS := hS9
  clear hP9 hD9 hS9
  have f_46_ws18 : ws18[46]? = some ((a, Sum.inr (8, [Value.int 0, Value.int 0, Value.ref q1, Value.ref q4, Value.ref q7, Value.int 0, Value.ref q10, Value.ref q13, Value.ref q16, Value.null, Value.int 0, Value.int 0, Value.int 0, Value.int 0, Value.int 0, Value.null, Value.null, Value.null, Value.int 0, Value.int 0, Value.int 0, Value.null, Value.null, Value.int 0, Value.int 0, Value.int 0, Value.null, Value.null, Value.null, Value.null, Value.int 0, Value.null, Value.int 0, Value.int 0, Value.int 0])) : Nat × va_E) := by rw [e_ws18]; exact gs_self f_46_ws17
  replace hlen : ws18.length = 53 := by rw [e_ws18]; exact gs_lens hlen
  replace hU : gx_g ws ws18 6 [46] := by rw [e_ws18]; exact hU.put (Or.inl (by simp))
  refine lv_aload_n hx hb d_Mo_init_55 rfl (lv_at hl 0 rfl) ?_
  refine lv_ldc (v := 60000) hx hb hown (hts _ ki_Mo_19) d_Mo_init_56 ?_
  refine gx_newa (atype := .boolean) (ty := .boolean) (N' := 60000) (a0 := (60000, Sum.inl (fun _ => 0))) hx hb (hts _ kA_boolean) rfl hK hP hD hS hA 1 ht1 (fun _ => rfl) (by decide) (by decide) (by decide) (Nat.le_of_ble_eq_true rfl) (Nat.le_of_ble_eq_true rfl) d_Mo_init_58 (fun q19 H hP9 hD9 hS9 => ?_)
  obtain ⟨ws20, e_ws20⟩ : ∃ x : va_W, x = ws18 ++ [((q19, Sum.inl (cZ, 60000, Sum.inl (fun _ => 0))) : Nat × va_E)] := ⟨_, rfl⟩
  replace hP : va_P D classes ws20 H := by rw [e_ws20]; exact hP9
  replace hD : va_D A ws20 := by rw [e_ws20]; exact hD9
  replace hS := hS9
  clear hP9 hD9 hS9
  have f_53_ws20 : ws20[53]? = some ((q19, Sum.inl (cZ, 60000, Sum.inl (fun _ => 0))) : Nat × va_E) := by rw [e_ws20]; exact gs_last hlen
  replace hlen : ws20.length = 54 := by rw [e_ws20]; exact gs_len hlen
  replace hU : gx_g ws ws20 7 [46] := by rw [e_ws20]; exact hU.push
  refine W.widen (k := 7) (n := 252288) (by decide) (by decide) ?_
  have f_46_ws20 : ws20[46]? = some ((a, Sum.inr (8, [Value.int 0, Value.int 0, Value.ref q1, Value.ref q4, Value.ref q7, Value.int 0, Value.ref q10, Value.ref q13, Value.ref q16, Value.null, Value.int 0, Value.int 0, Value.int 0, Value.int 0, Value.int 0, Value.null, Value.null, Value.null, Value.int 0, Value.int 0, Value.int 0, Value.null, Value.null, Value.int 0, Value.int 0, Value.int 0, Value.null, Value.null, Value.null, Value.null, Value.int 0, Value.null, Value.int 0, Value.int 0, Value.int 0])) : Nat × va_E) := by rw [e_ws20]; exact gs_app f_46_ws18
  clear f_46_ws18
  refine va_putF (D := D) (ci := 8) (v := Value.ref q19) (ty := .array .boolean) (C := "CommitLedgerModel") (T := F_Mo) (N := 35) hx hb hts i_Mo t_Mo t_Mo_ok n_Mo hown hK hP hD hS 46 f_46_ws20 rfl 9 (by decide) (hts _ kf_Mo_30) (fun _ h9 => h9) rfl hin rfl (by decide +kernel) rfl rfl (Nat.le_of_ble_eq_true rfl) d_Mo_init_60 (fun H locs hP9 hD9 hS9 => ?_)
  obtain ⟨ws21, e_ws21⟩ : ∃ x : va_W, x = ws20.set 46 ((a, Sum.inr (8, [Value.int 0, Value.int 0, Value.ref q1, Value.ref q4, Value.ref q7, Value.int 0, Value.ref q10, Value.ref q13, Value.ref q16, Value.ref q19, Value.int 0, Value.int 0, Value.int 0, Value.int 0, Value.int 0, Value.null, Value.null, Value.null, Value.int 0, Value.int 0, Value.int 0, Value.null, Value.null, Value.int 0, Value.int 0, Value.int 0, Value.null, Value.null, Value.null, Value.null, Value.int 0, Value.null, Value.int 0, Value.int 0, Value.int 0])) : Nat × va_E) := ⟨_, rfl⟩
  replace hP : va_P D classes ws21 H := by rw [e_ws21]; exact hP9
  replace hD : va_D A ws21 := by rw [e_ws21]; exact hD9
  replace hS := hS9
  clear hP9 hD9 hS9
  have f_46_ws21 : ws21[46]? = some ((a, Sum.inr (8, [Value.int 0, Value.int 0, Value.ref q1, Value.ref q4, Value.ref q7, Value.int 0, Value.ref q10, Value.ref q13, Value.ref q16, Value.ref q19, Value.int 0, Value.int 0, Value.int 0, Value.int 0, Value.int 0, Value.null, Value.null, Value.null, Value.int 0, Value.int 0, Value.int 0, Value.null, Value.null, Value.int 0, Value.int 0, Value.int 0, Value.null, Value.null, Value.null, Value.null, Value.int 0, Value.null, Value.int 0, Value.int 0, Value.int 0])) : Nat × va_E) := by rw [e_ws21]; exact gs_self f_46_ws20
  replace hlen : ws21.length = 54 := by rw [e_ws21]; exact gs_lens hlen
  replace hU : gx_g ws ws21 7 [46] := by rw [e_ws21]; exact hU.put (Or.inl (by simp))
  refine lv_aload_n hx hb d_Mo_init_63 rfl (lv_at hl 0 rfl) ?_
  refine lv_iconst (v := (-1)) hx hb d_Mo_init_64 (by decide) ?_
  refine va_put (D := D) (ci := 8) (v := Value.int (-1)) (ty := .int) (C := "CommitLedgerModel") (T := F_Mo) (N := 35) hx hb hts i_Mo t_Mo t_Mo_ok n_Mo hown hK hP hD hS 46 f_46_ws21 rfl 13 (by decide) (hts _ kf_Mo_33) (fun _ h9 => h9) rfl (by decide +kernel) rfl rfl (Nat.le_of_ble_eq_true rfl) d_Mo_init_65 (fun H locs hP9 hD9 hS9 => ?_)
  obtain ⟨ws22, e_ws22⟩ : ∃ x : va_W, x = ws21.set 46 ((a, Sum.inr (8, [Value.int 0, Value.int 0, Value.ref q1, Value.ref q4, Value.ref q7, Value.int 0, Value.ref q10, Value.ref q13, Value.ref q16, Value.ref q19, Value.int 0, Value.int 0, Value.int 0, Value.int (-1), Value.int 0, Value.null, Value.null, Value.null, Value.int 0, Value.int 0, Value.int 0, Value.null, Value.null, Value.int 0, Value.int 0, Value.int 0, Value.null, Value.null, Value.null, Value.null, Value.int 0, Value.null, Value.int 0, Value.int 0, Value.int 0])) : Nat × va_E) := ⟨_, rfl⟩
  replace hP : va_P D classes ws22 H := by rw [e_ws22]; exact hP9
  replace hD : va_D A ws22 := by rw [e_ws22]; exact hD9
  replace hS := hS9
  clear hP9 hD9 hS9
  have f_46_ws22 : ws22[46]? = some ((a, Sum.inr (8, [Value.int 0, Value.int 0, Value.ref q1, Value.ref q4, Value.ref q7, Value.int 0, Value.ref q10, Value.ref q13, Value.ref q16, Value.ref q19, Value.int 0, Value.int 0, Value.int 0, Value.int (-1), Value.int 0, Value.null, Value.null, Value.null, Value.int 0, Value.int 0, Value.int 0, Value.null, Value.null, Value.int 0, Value.int 0, Value.int 0, Value.null, Value.null, Value.null, Value.null, Value.int 0, Value.null, Value.int 0, Value.int 0, Value.int 0])) : Nat × va_E) := by rw [e_ws22]; exact gs_self f_46_ws21
  replace hlen : ws22.length = 54 := by rw [e_ws22]; exact gs_lens hlen
  replace hU : gx_g ws ws22 7 [46] := by rw [e_ws22]; exact hU.put (Or.inl (by simp))
  refine lv_aload_n hx hb d_Mo_init_68 rfl (lv_at hl 0 rfl) ?_
  refine va_new (ci := 9) (fs := [Value.null, Value.null, Value.null, Value.null, Value.null, Value.null, Value.null, Value.int 0, Value.int 0, Value.int 0, Value.int 0]) (C := "CommitLedgerModel$Version") (T := F_Ve) (N := 11) hx hb hts i_Ve t_Ve t_Ve_ok hown (hts _ kk_Mo_37) (hts _ kX_Ve) (hts _ kN_Ve) hK hP hD hS hA rfl (by decide) (Nat.le_of_ble_eq_true rfl) (Nat.le_of_ble_eq_true rfl) d_Mo_init_69 (fun q23 H hP9 hD9 hS9 => ?_)
  obtain ⟨ws24, e_ws24⟩ : ∃ x : va_W, x = ws22 ++ [((q23, Sum.inr (9, [Value.null, Value.null, Value.null, Value.null, Value.null, Value.null, Value.null, Value.int 0, Value.int 0, Value.int 0, Value.int 0])) : Nat × va_E)] := ⟨_, rfl⟩
  replace hP : va_P D classes ws24 H := by rw [e_ws24]; exact hP9
  replace hD : va_D A ws24 := by rw [e_ws24]; exact hD9
  replace hS := hS9
  clear hP9 hD9 hS9
  have f_54_ws24 : ws24[54]? = some ((q23, Sum.inr (9, [Value.null, Value.null, Value.null, Value.null, Value.null, Value.null, Value.null, Value.int 0, Value.int 0, Value.int 0, Value.int 0])) : Nat × va_E) := by rw [e_ws24]; exact gs_last hlen
  replace hlen : ws24.length = 55 := by rw [e_ws24]; exact gs_len hlen
  replace hU : gx_g ws ws24 8 [46] := by rw [e_ws24]; exact hU.push
  refine W.widen (k := 8) (n := 252299) (by decide) (by decide) ?_
  refine lv_dup hx hb d_Mo_init_72 rfl ?_
  refine gx_call (ig := .invokespecial 39) (c_Ve_init l htr D tys z _ ws24 cI cZ q23 54 55 f_54_ws24 ht0 ht1 hlen (by decide)) (gx_invIN (As := []) (rest := [Value.ref q23, Value.ref a]) hx hb hown hts km_Mo_39 kI_Ve_init kc_Ve_init (by decide) rfl (show (parseMethodDescriptor y_Ve_init.desc).map (fun d => d.parameters.length) = some 0 by decide +kernel) rfl rfl d_Mo_init_73) (gx_cw (z := 0) hts kc_Ve_init kN_Ve rfl rfl ⟨Nat.le_of_ble_eq_true rfl, Nat.le_of_ble_eq_true rfl⟩) hb hml gx_blind (gx_pre hz hP hK hD hY hS hAz [Value.ref q23]) rfl hl.1 (lv_room (Nat.le_of_ble_eq_true rfl)) d_Mo_init_73 ⟨Nat.le_of_ble_eq_true rfl, Nat.le_of_ble_eq_true rfl⟩ (fun v25 st25 t25 L25 h0_25 hW_25 hQ_25 hL_25 => ?_) (fun v25 st25 t25 L25 h0_25 hW_25 hQ_25 hL_25 => ?_)
  · obtain ⟨ws26, hp, hP9, -, hD9, hS9⟩ := gx_back h0_25 hW_25 hQ_25 hL_25 hD hS hA
    clear hQ_25 h0_25 hL_25 hW_25 hP hD hS
    have hP := hP9
    have hD := hD9
    have hS := hS9
    clear hP9 hD9 hS9
    rcases hp with ⟨q27, q28, q29, q30, q31, q32, q33, hv9, e_ws26, f_54_ws26, f_55_ws26, f_56_ws26, f_57_ws26, f_58_ws26, f_59_ws26, f_60_ws26, f_61_ws26⟩
    cases hv9
    have f_54_ws26 : ws26[54]? = some ((q23, Sum.inr (9, [Value.ref q27, Value.ref q28, Value.ref q29, Value.ref q30, Value.ref q31, Value.ref q32, Value.ref q33, Value.int 0, Value.int 0, Value.int 0, Value.int 0])) : Nat × va_E) := f_54_ws26
    have f_55_ws26 : ws26[55]? = some ((q27, Sum.inl (cI, 4097, Sum.inl (fun _ => 0))) : Nat × va_E) := f_55_ws26
    have f_56_ws26 : ws26[56]? = some ((q28, Sum.inl (cI, 4097, Sum.inl (fun _ => 0))) : Nat × va_E) := f_56_ws26
    have f_57_ws26 : ws26[57]? = some ((q29, Sum.inl (cI, 4098, Sum.inl (fun _ => 0))) : Nat × va_E) := f_57_ws26
    have f_58_ws26 : ws26[58]? = some ((q30, Sum.inl (cI, 4097, Sum.inl (fun _ => 0))) : Nat × va_E) := f_58_ws26
    have f_59_ws26 : ws26[59]? = some ((q31, Sum.inl (cI, 4096, Sum.inl (fun _ => 0))) : Nat × va_E) := f_59_ws26
    have f_60_ws26 : ws26[60]? = some ((q32, Sum.inl (cZ, 4096, Sum.inl (fun _ => 0))) : Nat × va_E) := f_60_ws26
    have f_61_ws26 : ws26[61]? = some ((q33, Sum.inl (cZ, 4096, Sum.inl (fun _ => 0))) : Nat × va_E) := f_61_ws26
    replace hlen : ws26.length = 62 := by rw [e_ws26.1, hlen]
    replace hU : gx_g ws ws26 15 [46] := hU.call e_ws26 (by rw [hlen0]; decide)
    refine W.eq (g2 := F0 m 76 ls [Value.ref q23, Value.ref a]) rfl ?_
    refine W.widen (k := 15) (n := 280976) (by decide) (by decide) ?_
    generalize t25.heap = H at hP hS ⊢
    generalize locs ++ L25 = locs at hS ⊢
    have f_46_ws24 : ws24[46]? = some ((a, Sum.inr (8, [Value.int 0, Value.int 0, Value.ref q1, Value.ref q4, Value.ref q7, Value.int 0, Value.ref q10, Value.ref q13, Value.ref q16, Value.ref q19, Value.int 0, Value.int 0, Value.int 0, Value.int (-1), Value.int 0, Value.null, Value.null, Value.null, Value.int 0, Value.int 0, Value.int 0, Value.null, Value.null, Value.int 0, Value.int 0, Value.int 0, Value.null, Value.null, Value.null, Value.null, Value.int 0, Value.null, Value.int 0, Value.int 0, Value.int 0])) : Nat × va_E) := by rw [e_ws24]; exact gs_app f_46_ws22
    clear f_46_ws22
    have f_46_ws26 : ws26[46]? = some ((a, Sum.inr (8, [Value.int 0, Value.int 0, Value.ref q1, Value.ref q4, Value.ref q7, Value.int 0, Value.ref q10, Value.ref q13, Value.ref q16, Value.ref q19, Value.int 0, Value.int 0, Value.int 0, Value.int (-1), Value.int 0, Value.null, Value.null, Value.null, Value.int 0, Value.int 0, Value.int 0, Value.null, Value.null, Value.int 0, Value.int 0, Value.int 0, Value.null, Value.null, Value.null, Value.null, Value.int 0, Value.null, Value.int 0, Value.int 0, Value.int 0])) : Nat × va_E) := e_ws26.at (by first | decide | (simp; done) | (simp; omega)) f_46_ws24
    clear f_46_ws24
    refine va_putF (D := D) (ci := 8) (v := Value.ref q23) (ty := .object "CommitLedgerModel$Version") (C := "CommitLedgerModel") (T := F_Mo) (N := 35) hx hb hts i_Mo t_Mo t_Mo_ok n_Mo hown hK hP hD hS 46 f_46_ws26 rfl 15 (by decide) (hts _ kf_Mo_40) (fun _ h9 => h9) rfl hin rfl (by decide +kernel) rfl rfl (Nat.le_of_ble_eq_true rfl) d_Mo_init_76 (fun H locs hP9 hD9 hS9 => ?_)
    obtain ⟨ws34, e_ws34⟩ : ∃ x : va_W, x = ws26.set 46 ((a, Sum.inr (8, [Value.int 0, Value.int 0, Value.ref q1, Value.ref q4, Value.ref q7, Value.int 0, Value.ref q10, Value.ref q13, Value.ref q16, Value.ref q19, Value.int 0, Value.int 0, Value.int 0, Value.int (-1), Value.int 0, Value.ref q23, Value.null, Value.null, Value.int 0, Value.int 0, Value.int 0, Value.null, Value.null, Value.int 0, Value.int 0, Value.int 0, Value.null, Value.null, Value.null, Value.null, Value.int 0, Value.null, Value.int 0, Value.int 0, Value.int 0])) : Nat × va_E) := ⟨_, rfl⟩
    replace hP : va_P D classes ws34 H := by rw [e_ws34]; exact hP9
    replace hD : va_D A ws34 := by rw [e_ws34]; exact hD9
    replace hS := hS9
    clear hP9 hD9 hS9
    have f_46_ws34 : ws34[46]? = some ((a, Sum.inr (8, [Value.int 0, Value.int 0, Value.ref q1, Value.ref q4, Value.ref q7, Value.int 0, Value.ref q10, Value.ref q13, Value.ref q16, Value.ref q19, Value.int 0, Value.int 0, Value.int 0, Value.int (-1), Value.int 0, Value.ref q23, Value.null, Value.null, Value.int 0, Value.int 0, Value.int 0, Value.null, Value.null, Value.int 0, Value.int 0, Value.int 0, Value.null, Value.null, Value.null, Value.null, Value.int 0, Value.null, Value.int 0, Value.int 0, Value.int 0])) : Nat × va_E) := by rw [e_ws34]; exact gs_self f_46_ws26
    replace hlen : ws34.length = 62 := by rw [e_ws34]; exact gs_lens hlen
    replace hU : gx_g ws ws34 15 [46] := by rw [e_ws34]; exact hU.put (Or.inl (by simp))
    refine lv_aload_n hx hb d_Mo_init_79 rfl (lv_at hl 0 rfl) ?_
    refine va_new (ci := 9) (fs := [Value.null, Value.null, Value.null, Value.null, Value.null, Value.null, Value.null, Value.int 0, Value.int 0, Value.int 0, Value.int 0]) (C := "CommitLedgerModel$Version") (T := F_Ve) (N := 11) hx hb hts i_Ve t_Ve t_Ve_ok hown (hts _ kk_Mo_37) (hts _ kX_Ve) (hts _ kN_Ve) hK hP hD hS hA rfl (by decide) (Nat.le_of_ble_eq_true rfl) (Nat.le_of_ble_eq_true rfl) d_Mo_init_80 (fun q35 H hP9 hD9 hS9 => ?_)
    obtain ⟨ws36, e_ws36⟩ : ∃ x : va_W, x = ws34 ++ [((q35, Sum.inr (9, [Value.null, Value.null, Value.null, Value.null, Value.null, Value.null, Value.null, Value.int 0, Value.int 0, Value.int 0, Value.int 0])) : Nat × va_E)] := ⟨_, rfl⟩
    replace hP : va_P D classes ws36 H := by rw [e_ws36]; exact hP9
    replace hD : va_D A ws36 := by rw [e_ws36]; exact hD9
    replace hS := hS9
    clear hP9 hD9 hS9
    have f_62_ws36 : ws36[62]? = some ((q35, Sum.inr (9, [Value.null, Value.null, Value.null, Value.null, Value.null, Value.null, Value.null, Value.int 0, Value.int 0, Value.int 0, Value.int 0])) : Nat × va_E) := by rw [e_ws36]; exact gs_last hlen
    replace hlen : ws36.length = 63 := by rw [e_ws36]; exact gs_len hlen
    replace hU : gx_g ws ws36 16 [46] := by rw [e_ws36]; exact hU.push
    refine W.widen (k := 16) (n := 280987) (by decide) (by decide) ?_
    refine lv_dup hx hb d_Mo_init_83 rfl ?_
    refine gx_call (ig := .invokespecial 39) (c_Ve_init l htr D tys z _ ws36 cI cZ q35 62 63 f_62_ws36 ht0 ht1 hlen (by decide)) (gx_invIN (As := []) (rest := [Value.ref q35, Value.ref a]) hx hb hown hts km_Mo_39 kI_Ve_init kc_Ve_init (by decide) rfl (show (parseMethodDescriptor y_Ve_init.desc).map (fun d => d.parameters.length) = some 0 by decide +kernel) rfl rfl d_Mo_init_84) (gx_cw (z := 0) hts kc_Ve_init kN_Ve rfl rfl ⟨Nat.le_of_ble_eq_true rfl, Nat.le_of_ble_eq_true rfl⟩) hb hml gx_blind (gx_pre hz hP hK hD hY hS hAz [Value.ref q35]) rfl hl.1 (lv_room (Nat.le_of_ble_eq_true rfl)) d_Mo_init_84 ⟨Nat.le_of_ble_eq_true rfl, Nat.le_of_ble_eq_true rfl⟩ (fun v37 st37 t37 L37 h0_37 hW_37 hQ_37 hL_37 => ?_) (fun v37 st37 t37 L37 h0_37 hW_37 hQ_37 hL_37 => ?_)
    · obtain ⟨ws38, hp, hP9, -, hD9, hS9⟩ := gx_back h0_37 hW_37 hQ_37 hL_37 hD hS hA
      clear hQ_37 h0_37 hL_37 hW_37 hP hD hS
      have hP := hP9
      have hD := hD9
      have hS := hS9
      clear hP9 hD9 hS9
      rcases hp with ⟨q39, q40, q41, q42, q43, q44, q45, hv9, e_ws38, f_62_ws38, f_63_ws38, f_64_ws38, f_65_ws38, f_66_ws38, f_67_ws38, f_68_ws38, f_69_ws38⟩
      cases hv9
      have f_62_ws38 : ws38[62]? = some ((q35, Sum.inr (9, [Value.ref q39, Value.ref q40, Value.ref q41, Value.ref q42, Value.ref q43, Value.ref q44, Value.ref q45, Value.int 0, Value.int 0, Value.int 0, Value.int 0])) : Nat × va_E) := f_62_ws38
      have f_63_ws38 : ws38[63]? = some ((q39, Sum.inl (cI, 4097, Sum.inl (fun _ => 0))) : Nat × va_E) := f_63_ws38
      have f_64_ws38 : ws38[64]? = some ((q40, Sum.inl (cI, 4097, Sum.inl (fun _ => 0))) : Nat × va_E) := f_64_ws38
      have f_65_ws38 : ws38[65]? = some ((q41, Sum.inl (cI, 4098, Sum.inl (fun _ => 0))) : Nat × va_E) := f_65_ws38
      have f_66_ws38 : ws38[66]? = some ((q42, Sum.inl (cI, 4097, Sum.inl (fun _ => 0))) : Nat × va_E) := f_66_ws38
      have f_67_ws38 : ws38[67]? = some ((q43, Sum.inl (cI, 4096, Sum.inl (fun _ => 0))) : Nat × va_E) := f_67_ws38
      have f_68_ws38 : ws38[68]? = some ((q44, Sum.inl (cZ, 4096, Sum.inl (fun _ => 0))) : Nat × va_E) := f_68_ws38
      have f_69_ws38 : ws38[69]? = some ((q45, Sum.inl (cZ, 4096, Sum.inl (fun _ => 0))) : Nat × va_E) := f_69_ws38
      replace hlen : ws38.length = 70 := by rw [e_ws38.1, hlen]
      replace hU : gx_g ws ws38 23 [46] := hU.call e_ws38 (by rw [hlen0]; decide)
      refine W.eq (g2 := F0 m 87 ls [Value.ref q35, Value.ref a]) rfl ?_
      refine W.widen (k := 23) (n := 309664) (by decide) (by decide) ?_
      generalize t37.heap = H at hP hS ⊢
      generalize locs ++ L37 = locs at hS ⊢
      have f_46_ws36 : ws36[46]? = some ((a, Sum.inr (8, [Value.int 0, Value.int 0, Value.ref q1, Value.ref q4, Value.ref q7, Value.int 0, Value.ref q10, Value.ref q13, Value.ref q16, Value.ref q19, Value.int 0, Value.int 0, Value.int 0, Value.int (-1), Value.int 0, Value.ref q23, Value.null, Value.null, Value.int 0, Value.int 0, Value.int 0, Value.null, Value.null, Value.int 0, Value.int 0, Value.int 0, Value.null, Value.null, Value.null, Value.null, Value.int 0, Value.null, Value.int 0, Value.int 0, Value.int 0])) : Nat × va_E) := by rw [e_ws36]; exact gs_app f_46_ws34
      clear f_46_ws34
      have f_46_ws38 : ws38[46]? = some ((a, Sum.inr (8, [Value.int 0, Value.int 0, Value.ref q1, Value.ref q4, Value.ref q7, Value.int 0, Value.ref q10, Value.ref q13, Value.ref q16, Value.ref q19, Value.int 0, Value.int 0, Value.int 0, Value.int (-1), Value.int 0, Value.ref q23, Value.null, Value.null, Value.int 0, Value.int 0, Value.int 0, Value.null, Value.null, Value.int 0, Value.int 0, Value.int 0, Value.null, Value.null, Value.null, Value.null, Value.int 0, Value.null, Value.int 0, Value.int 0, Value.int 0])) : Nat × va_E) := e_ws38.at (by first | decide | (simp; done) | (simp; omega)) f_46_ws36
      clear f_46_ws36
      refine va_putF (D := D) (ci := 8) (v := Value.ref q35) (ty := .object "CommitLedgerModel$Version") (C := "CommitLedgerModel") (T := F_Mo) (N := 35) hx hb hts i_Mo t_Mo t_Mo_ok n_Mo hown hK hP hD hS 46 f_46_ws38 rfl 16 (by decide) (hts _ kf_Mo_44) (fun _ h9 => h9) rfl hin rfl (by decide +kernel) rfl rfl (Nat.le_of_ble_eq_true rfl) d_Mo_init_87 (fun H locs hP9 hD9 hS9 => ?_)
      obtain ⟨ws46, e_ws46⟩ : ∃ x : va_W, x = ws38.set 46 ((a, Sum.inr (8, [Value.int 0, Value.int 0, Value.ref q1, Value.ref q4, Value.ref q7, Value.int 0, Value.ref q10, Value.ref q13, Value.ref q16, Value.ref q19, Value.int 0, Value.int 0, Value.int 0, Value.int (-1), Value.int 0, Value.ref q23, Value.ref q35, Value.null, Value.int 0, Value.int 0, Value.int 0, Value.null, Value.null, Value.int 0, Value.int 0, Value.int 0, Value.null, Value.null, Value.null, Value.null, Value.int 0, Value.null, Value.int 0, Value.int 0, Value.int 0])) : Nat × va_E) := ⟨_, rfl⟩
      replace hP : va_P D classes ws46 H := by rw [e_ws46]; exact hP9
      replace hD : va_D A ws46 := by rw [e_ws46]; exact hD9
      replace hS := hS9
      clear hP9 hD9 hS9
      have f_46_ws46 : ws46[46]? = some ((a, Sum.inr (8, [Value.int 0, Value.int 0, Value.ref q1, Value.ref q4, Value.ref q7, Value.int 0, Value.ref q10, Value.ref q13, Value.ref q16, Value.ref q19, Value.int 0, Value.int 0, Value.int 0, Value.int (-1), Value.int 0, Value.ref q23, Value.ref q35, Value.null, Value.int 0, Value.int 0, Value.int 0, Value.null, Value.null, Value.int 0, Value.int 0, Value.int 0, Value.null, Value.null, Value.null, Value.null, Value.int 0, Value.null, Value.int 0, Value.int 0, Value.int 0])) : Nat × va_E) := by rw [e_ws46]; exact gs_self f_46_ws38
      replace hlen : ws46.length = 70 := by rw [e_ws46]; exact gs_lens hlen
      replace hU : gx_g ws ws46 23 [46] := by rw [e_ws46]; exact hU.put (Or.inl (by simp))
      refine lv_aload_n hx hb d_Mo_init_90 rfl (lv_at hl 0 rfl) ?_
      refine va_new (ci := 9) (fs := [Value.null, Value.null, Value.null, Value.null, Value.null, Value.null, Value.null, Value.int 0, Value.int 0, Value.int 0, Value.int 0]) (C := "CommitLedgerModel$Version") (T := F_Ve) (N := 11) hx hb hts i_Ve t_Ve t_Ve_ok hown (hts _ kk_Mo_37) (hts _ kX_Ve) (hts _ kN_Ve) hK hP hD hS hA rfl (by decide) (Nat.le_of_ble_eq_true rfl) (Nat.le_of_ble_eq_true rfl) d_Mo_init_91 (fun q47 H hP9 hD9 hS9 => ?_)
      obtain ⟨ws48, e_ws48⟩ : ∃ x : va_W, x = ws46 ++ [((q47, Sum.inr (9, [Value.null, Value.null, Value.null, Value.null, Value.null, Value.null, Value.null, Value.int 0, Value.int 0, Value.int 0, Value.int 0])) : Nat × va_E)] := ⟨_, rfl⟩
      replace hP : va_P D classes ws48 H := by rw [e_ws48]; exact hP9
      replace hD : va_D A ws48 := by rw [e_ws48]; exact hD9
      replace hS := hS9
      clear hP9 hD9 hS9
      have f_70_ws48 : ws48[70]? = some ((q47, Sum.inr (9, [Value.null, Value.null, Value.null, Value.null, Value.null, Value.null, Value.null, Value.int 0, Value.int 0, Value.int 0, Value.int 0])) : Nat × va_E) := by rw [e_ws48]; exact gs_last hlen
      replace hlen : ws48.length = 71 := by rw [e_ws48]; exact gs_len hlen
      replace hU : gx_g ws ws48 24 [46] := by rw [e_ws48]; exact hU.push
      refine W.widen (k := 24) (n := 309675) (by decide) (by decide) ?_
      refine lv_dup hx hb d_Mo_init_94 rfl ?_
      refine gx_call (ig := .invokespecial 39) (c_Ve_init l htr D tys z _ ws48 cI cZ q47 70 71 f_70_ws48 ht0 ht1 hlen (by decide)) (gx_invIN (As := []) (rest := [Value.ref q47, Value.ref a]) hx hb hown hts km_Mo_39 kI_Ve_init kc_Ve_init (by decide) rfl (show (parseMethodDescriptor y_Ve_init.desc).map (fun d => d.parameters.length) = some 0 by decide +kernel) rfl rfl d_Mo_init_95) (gx_cw (z := 0) hts kc_Ve_init kN_Ve rfl rfl ⟨Nat.le_of_ble_eq_true rfl, Nat.le_of_ble_eq_true rfl⟩) hb hml gx_blind (gx_pre hz hP hK hD hY hS hAz [Value.ref q47]) rfl hl.1 (lv_room (Nat.le_of_ble_eq_true rfl)) d_Mo_init_95 ⟨Nat.le_of_ble_eq_true rfl, Nat.le_of_ble_eq_true rfl⟩ (fun v49 st49 t49 L49 h0_49 hW_49 hQ_49 hL_49 => ?_) (fun v49 st49 t49 L49 h0_49 hW_49 hQ_49 hL_49 => ?_)
      · obtain ⟨ws50, hp, hP9, -, hD9, hS9⟩ := gx_back h0_49 hW_49 hQ_49 hL_49 hD hS hA
        clear hQ_49 h0_49 hL_49 hW_49 hP hD hS
        have hP := hP9
        have hD := hD9
        have hS := hS9
        clear hP9 hD9 hS9
        rcases hp with ⟨q51, q52, q53, q54, q55, q56, q57, hv9, e_ws50, f_70_ws50, f_71_ws50, f_72_ws50, f_73_ws50, f_74_ws50, f_75_ws50, f_76_ws50, f_77_ws50⟩
        cases hv9
        have f_70_ws50 : ws50[70]? = some ((q47, Sum.inr (9, [Value.ref q51, Value.ref q52, Value.ref q53, Value.ref q54, Value.ref q55, Value.ref q56, Value.ref q57, Value.int 0, Value.int 0, Value.int 0, Value.int 0])) : Nat × va_E) := f_70_ws50
        have f_71_ws50 : ws50[71]? = some ((q51, Sum.inl (cI, 4097, Sum.inl (fun _ => 0))) : Nat × va_E) := f_71_ws50
        have f_72_ws50 : ws50[72]? = some ((q52, Sum.inl (cI, 4097, Sum.inl (fun _ => 0))) : Nat × va_E) := f_72_ws50
        have f_73_ws50 : ws50[73]? = some ((q53, Sum.inl (cI, 4098, Sum.inl (fun _ => 0))) : Nat × va_E) := f_73_ws50
        have f_74_ws50 : ws50[74]? = some ((q54, Sum.inl (cI, 4097, Sum.inl (fun _ => 0))) : Nat × va_E) := f_74_ws50
        have f_75_ws50 : ws50[75]? = some ((q55, Sum.inl (cI, 4096, Sum.inl (fun _ => 0))) : Nat × va_E) := f_75_ws50
        have f_76_ws50 : ws50[76]? = some ((q56, Sum.inl (cZ, 4096, Sum.inl (fun _ => 0))) : Nat × va_E) := f_76_ws50
        have f_77_ws50 : ws50[77]? = some ((q57, Sum.inl (cZ, 4096, Sum.inl (fun _ => 0))) : Nat × va_E) := f_77_ws50
        replace hlen : ws50.length = 78 := by rw [e_ws50.1, hlen]
        replace hU : gx_g ws ws50 31 [46] := hU.call e_ws50 (by rw [hlen0]; decide)
        refine W.eq (g2 := F0 m 98 ls [Value.ref q47, Value.ref a]) rfl ?_
        refine W.widen (k := 31) (n := 338352) (by decide) (by decide) ?_
        generalize t49.heap = H at hP hS ⊢
        generalize locs ++ L49 = locs at hS ⊢
        have f_46_ws48 : ws48[46]? = some ((a, Sum.inr (8, [Value.int 0, Value.int 0, Value.ref q1, Value.ref q4, Value.ref q7, Value.int 0, Value.ref q10, Value.ref q13, Value.ref q16, Value.ref q19, Value.int 0, Value.int 0, Value.int 0, Value.int (-1), Value.int 0, Value.ref q23, Value.ref q35, Value.null, Value.int 0, Value.int 0, Value.int 0, Value.null, Value.null, Value.int 0, Value.int 0, Value.int 0, Value.null, Value.null, Value.null, Value.null, Value.int 0, Value.null, Value.int 0, Value.int 0, Value.int 0])) : Nat × va_E) := by rw [e_ws48]; exact gs_app f_46_ws46
        clear f_46_ws46
        have f_46_ws50 : ws50[46]? = some ((a, Sum.inr (8, [Value.int 0, Value.int 0, Value.ref q1, Value.ref q4, Value.ref q7, Value.int 0, Value.ref q10, Value.ref q13, Value.ref q16, Value.ref q19, Value.int 0, Value.int 0, Value.int 0, Value.int (-1), Value.int 0, Value.ref q23, Value.ref q35, Value.null, Value.int 0, Value.int 0, Value.int 0, Value.null, Value.null, Value.int 0, Value.int 0, Value.int 0, Value.null, Value.null, Value.null, Value.null, Value.int 0, Value.null, Value.int 0, Value.int 0, Value.int 0])) : Nat × va_E) := e_ws50.at (by first | decide | (simp; done) | (simp; omega)) f_46_ws48
        clear f_46_ws48
        refine va_putF (D := D) (ci := 8) (v := Value.ref q47) (ty := .object "CommitLedgerModel$Version") (C := "CommitLedgerModel") (T := F_Mo) (N := 35) hx hb hts i_Mo t_Mo t_Mo_ok n_Mo hown hK hP hD hS 46 f_46_ws50 rfl 17 (by decide) (hts _ kf_Mo_47) (fun _ h9 => h9) rfl hin rfl (by decide +kernel) rfl rfl (Nat.le_of_ble_eq_true rfl) d_Mo_init_98 (fun H locs hP9 hD9 hS9 => ?_)
        obtain ⟨ws58, e_ws58⟩ : ∃ x : va_W, x = ws50.set 46 ((a, Sum.inr (8, [Value.int 0, Value.int 0, Value.ref q1, Value.ref q4, Value.ref q7, Value.int 0, Value.ref q10, Value.ref q13, Value.ref q16, Value.ref q19, Value.int 0, Value.int 0, Value.int 0, Value.int (-1), Value.int 0, Value.ref q23, Value.ref q35, Value.ref q47, Value.int 0, Value.int 0, Value.int 0, Value.null, Value.null, Value.int 0, Value.int 0, Value.int 0, Value.null, Value.null, Value.null, Value.null, Value.int 0, Value.null, Value.int 0, Value.int 0, Value.int 0])) : Nat × va_E) := ⟨_, rfl⟩
        replace hP : va_P D classes ws58 H := by rw [e_ws58]; exact hP9
        replace hD : va_D A ws58 := by rw [e_ws58]; exact hD9
        replace hS := hS9
        clear hP9 hD9 hS9
        have f_46_ws58 : ws58[46]? = some ((a, Sum.inr (8, [Value.int 0, Value.int 0, Value.ref q1, Value.ref q4, Value.ref q7, Value.int 0, Value.ref q10, Value.ref q13, Value.ref q16, Value.ref q19, Value.int 0, Value.int 0, Value.int 0, Value.int (-1), Value.int 0, Value.ref q23, Value.ref q35, Value.ref q47, Value.int 0, Value.int 0, Value.int 0, Value.null, Value.null, Value.int 0, Value.int 0, Value.int 0, Value.null, Value.null, Value.null, Value.null, Value.int 0, Value.null, Value.int 0, Value.int 0, Value.int 0])) : Nat × va_E) := by rw [e_ws58]; exact gs_self f_46_ws50
        replace hlen : ws58.length = 78 := by rw [e_ws58]; exact gs_lens hlen
        replace hU : gx_g ws ws58 31 [46] := by rw [e_ws58]; exact hU.put (Or.inl (by simp))
        refine lv_aload_n hx hb d_Mo_init_101 rfl (lv_at hl 0 rfl) ?_
        refine lv_sipush (v := 4096) hx hb d_Mo_init_102 (by decide) ?_
        refine gx_newa (atype := .int) (ty := .int) (N' := 4096) (a0 := (4096, Sum.inl (fun _ => 0))) hx hb (hts _ kA_int) rfl hK hP hD hS hA 0 ht0 (fun _ => rfl) (by decide) (by decide) (by decide) (Nat.le_of_ble_eq_true rfl) (Nat.le_of_ble_eq_true rfl) d_Mo_init_105 (fun q59 H hP9 hD9 hS9 => ?_)
        obtain ⟨ws60, e_ws60⟩ : ∃ x : va_W, x = ws58 ++ [((q59, Sum.inl (cI, 4096, Sum.inl (fun _ => 0))) : Nat × va_E)] := ⟨_, rfl⟩
        replace hP : va_P D classes ws60 H := by rw [e_ws60]; exact hP9
        replace hD : va_D A ws60 := by rw [e_ws60]; exact hD9
        replace hS := hS9
        clear hP9 hD9 hS9
        have f_78_ws60 : ws60[78]? = some ((q59, Sum.inl (cI, 4096, Sum.inl (fun _ => 0))) : Nat × va_E) := by rw [e_ws60]; exact gs_last hlen
        replace hlen : ws60.length = 79 := by rw [e_ws60]; exact gs_len hlen
        replace hU : gx_g ws ws60 32 [46] := by rw [e_ws60]; exact hU.push
        refine W.widen (k := 32) (n := 342448) (by decide) (by decide) ?_
        have f_46_ws60 : ws60[46]? = some ((a, Sum.inr (8, [Value.int 0, Value.int 0, Value.ref q1, Value.ref q4, Value.ref q7, Value.int 0, Value.ref q10, Value.ref q13, Value.ref q16, Value.ref q19, Value.int 0, Value.int 0, Value.int 0, Value.int (-1), Value.int 0, Value.ref q23, Value.ref q35, Value.ref q47, Value.int 0, Value.int 0, Value.int 0, Value.null, Value.null, Value.int 0, Value.int 0, Value.int 0, Value.null, Value.null, Value.null, Value.null, Value.int 0, Value.null, Value.int 0, Value.int 0, Value.int 0])) : Nat × va_E) := by rw [e_ws60]; exact gs_app f_46_ws58
        clear f_46_ws58
        refine va_putF (D := D) (ci := 8) (v := Value.ref q59) (ty := .array .int) (C := "CommitLedgerModel") (T := F_Mo) (N := 35) hx hb hts i_Mo t_Mo t_Mo_ok n_Mo hown hK hP hD hS 46 f_46_ws60 rfl 21 (by decide) (hts _ kf_Mo_50) (fun _ h9 => h9) rfl hin rfl (by decide +kernel) rfl rfl (Nat.le_of_ble_eq_true rfl) d_Mo_init_107 (fun H locs hP9 hD9 hS9 => ?_)
        obtain ⟨ws61, e_ws61⟩ : ∃ x : va_W, x = ws60.set 46 ((a, Sum.inr (8, [Value.int 0, Value.int 0, Value.ref q1, Value.ref q4, Value.ref q7, Value.int 0, Value.ref q10, Value.ref q13, Value.ref q16, Value.ref q19, Value.int 0, Value.int 0, Value.int 0, Value.int (-1), Value.int 0, Value.ref q23, Value.ref q35, Value.ref q47, Value.int 0, Value.int 0, Value.int 0, Value.ref q59, Value.null, Value.int 0, Value.int 0, Value.int 0, Value.null, Value.null, Value.null, Value.null, Value.int 0, Value.null, Value.int 0, Value.int 0, Value.int 0])) : Nat × va_E) := ⟨_, rfl⟩
        replace hP : va_P D classes ws61 H := by rw [e_ws61]; exact hP9
        replace hD : va_D A ws61 := by rw [e_ws61]; exact hD9
        replace hS := hS9
        clear hP9 hD9 hS9
        have f_46_ws61 : ws61[46]? = some ((a, Sum.inr (8, [Value.int 0, Value.int 0, Value.ref q1, Value.ref q4, Value.ref q7, Value.int 0, Value.ref q10, Value.ref q13, Value.ref q16, Value.ref q19, Value.int 0, Value.int 0, Value.int 0, Value.int (-1), Value.int 0, Value.ref q23, Value.ref q35, Value.ref q47, Value.int 0, Value.int 0, Value.int 0, Value.ref q59, Value.null, Value.int 0, Value.int 0, Value.int 0, Value.null, Value.null, Value.null, Value.null, Value.int 0, Value.null, Value.int 0, Value.int 0, Value.int 0])) : Nat × va_E) := by rw [e_ws61]; exact gs_self f_46_ws60
        replace hlen : ws61.length = 79 := by rw [e_ws61]; exact gs_lens hlen
        replace hU : gx_g ws ws61 32 [46] := by rw [e_ws61]; exact hU.put (Or.inl (by simp))
        refine lv_aload_n hx hb d_Mo_init_110 rfl (lv_at hl 0 rfl) ?_
        refine lv_sipush (v := 4096) hx hb d_Mo_init_111 (by decide) ?_
        refine gx_newa (atype := .boolean) (ty := .boolean) (N' := 4096) (a0 := (4096, Sum.inl (fun _ => 0))) hx hb (hts _ kA_boolean) rfl hK hP hD hS hA 1 ht1 (fun _ => rfl) (by decide) (by decide) (by decide) (Nat.le_of_ble_eq_true rfl) (Nat.le_of_ble_eq_true rfl) d_Mo_init_114 (fun q62 H hP9 hD9 hS9 => ?_)
        obtain ⟨ws63, e_ws63⟩ : ∃ x : va_W, x = ws61 ++ [((q62, Sum.inl (cZ, 4096, Sum.inl (fun _ => 0))) : Nat × va_E)] := ⟨_, rfl⟩
        replace hP : va_P D classes ws63 H := by rw [e_ws63]; exact hP9
        replace hD : va_D A ws63 := by rw [e_ws63]; exact hD9
        replace hS := hS9
        clear hP9 hD9 hS9
        have f_79_ws63 : ws63[79]? = some ((q62, Sum.inl (cZ, 4096, Sum.inl (fun _ => 0))) : Nat × va_E) := by rw [e_ws63]; exact gs_last hlen
        replace hlen : ws63.length = 80 := by rw [e_ws63]; exact gs_len hlen
        replace hU : gx_g ws ws63 33 [46] := by rw [e_ws63]; exact hU.push
        refine W.widen (k := 33) (n := 346544) (by decide) (by decide) ?_
        have f_46_ws63 : ws63[46]? = some ((a, Sum.inr (8, [Value.int 0, Value.int 0, Value.ref q1, Value.ref q4, Value.ref q7, Value.int 0, Value.ref q10, Value.ref q13, Value.ref q16, Value.ref q19, Value.int 0, Value.int 0, Value.int 0, Value.int (-1), Value.int 0, Value.ref q23, Value.ref q35, Value.ref q47, Value.int 0, Value.int 0, Value.int 0, Value.ref q59, Value.null, Value.int 0, Value.int 0, Value.int 0, Value.null, Value.null, Value.null, Value.null, Value.int 0, Value.null, Value.int 0, Value.int 0, Value.int 0])) : Nat × va_E) := by rw [e_ws63]; exact gs_app f_46_ws61
        clear f_46_ws61
        refine va_putF (D := D) (ci := 8) (v := Value.ref q62) (ty := .array .boolean) (C := "CommitLedgerModel") (T := F_Mo) (N := 35) hx hb hts i_Mo t_Mo t_Mo_ok n_Mo hown hK hP hD hS 46 f_46_ws63 rfl 22 (by decide) (hts _ kf_Mo_53) (fun _ h9 => h9) rfl hin rfl (by decide +kernel) rfl rfl (Nat.le_of_ble_eq_true rfl) d_Mo_init_116 (fun H locs hP9 hD9 hS9 => ?_)
        obtain ⟨ws64, e_ws64⟩ : ∃ x : va_W, x = ws63.set 46 ((a, Sum.inr (8, [Value.int 0, Value.int 0, Value.ref q1, Value.ref q4, Value.ref q7, Value.int 0, Value.ref q10, Value.ref q13, Value.ref q16, Value.ref q19, Value.int 0, Value.int 0, Value.int 0, Value.int (-1), Value.int 0, Value.ref q23, Value.ref q35, Value.ref q47, Value.int 0, Value.int 0, Value.int 0, Value.ref q59, Value.ref q62, Value.int 0, Value.int 0, Value.int 0, Value.null, Value.null, Value.null, Value.null, Value.int 0, Value.null, Value.int 0, Value.int 0, Value.int 0])) : Nat × va_E) := ⟨_, rfl⟩
        replace hP : va_P D classes ws64 H := by rw [e_ws64]; exact hP9
        replace hD : va_D A ws64 := by rw [e_ws64]; exact hD9
        replace hS := hS9
        clear hP9 hD9 hS9
        have f_46_ws64 : ws64[46]? = some ((a, Sum.inr (8, [Value.int 0, Value.int 0, Value.ref q1, Value.ref q4, Value.ref q7, Value.int 0, Value.ref q10, Value.ref q13, Value.ref q16, Value.ref q19, Value.int 0, Value.int 0, Value.int 0, Value.int (-1), Value.int 0, Value.ref q23, Value.ref q35, Value.ref q47, Value.int 0, Value.int 0, Value.int 0, Value.ref q59, Value.ref q62, Value.int 0, Value.int 0, Value.int 0, Value.null, Value.null, Value.null, Value.null, Value.int 0, Value.null, Value.int 0, Value.int 0, Value.int 0])) : Nat × va_E) := by rw [e_ws64]; exact gs_self f_46_ws63
        replace hlen : ws64.length = 80 := by rw [e_ws64]; exact gs_lens hlen
        replace hU : gx_g ws ws64 33 [46] := by rw [e_ws64]; exact hU.put (Or.inl (by simp))
        refine lv_aload_n hx hb d_Mo_init_119 rfl (lv_at hl 0 rfl) ?_
        refine lv_bipush (v := 16) hx hb d_Mo_init_120 (by decide) ?_
        refine va_put (D := D) (ci := 8) (v := Value.int 16) (ty := .int) (C := "CommitLedgerModel") (T := F_Mo) (N := 35) hx hb hts i_Mo t_Mo t_Mo_ok n_Mo hown hK hP hD hS 46 f_46_ws64 rfl 24 (by decide) (hts _ kf_Mo_56) (fun _ h9 => h9) rfl (by decide +kernel) rfl rfl (Nat.le_of_ble_eq_true rfl) d_Mo_init_122 (fun H locs hP9 hD9 hS9 => ?_)
        obtain ⟨ws65, e_ws65⟩ : ∃ x : va_W, x = ws64.set 46 ((a, Sum.inr (8, [Value.int 0, Value.int 0, Value.ref q1, Value.ref q4, Value.ref q7, Value.int 0, Value.ref q10, Value.ref q13, Value.ref q16, Value.ref q19, Value.int 0, Value.int 0, Value.int 0, Value.int (-1), Value.int 0, Value.ref q23, Value.ref q35, Value.ref q47, Value.int 0, Value.int 0, Value.int 0, Value.ref q59, Value.ref q62, Value.int 0, Value.int 16, Value.int 0, Value.null, Value.null, Value.null, Value.null, Value.int 0, Value.null, Value.int 0, Value.int 0, Value.int 0])) : Nat × va_E) := ⟨_, rfl⟩
        replace hP : va_P D classes ws65 H := by rw [e_ws65]; exact hP9
        replace hD : va_D A ws65 := by rw [e_ws65]; exact hD9
        replace hS := hS9
        clear hP9 hD9 hS9
        have f_46_ws65 : ws65[46]? = some ((a, Sum.inr (8, [Value.int 0, Value.int 0, Value.ref q1, Value.ref q4, Value.ref q7, Value.int 0, Value.ref q10, Value.ref q13, Value.ref q16, Value.ref q19, Value.int 0, Value.int 0, Value.int 0, Value.int (-1), Value.int 0, Value.ref q23, Value.ref q35, Value.ref q47, Value.int 0, Value.int 0, Value.int 0, Value.ref q59, Value.ref q62, Value.int 0, Value.int 16, Value.int 0, Value.null, Value.null, Value.null, Value.null, Value.int 0, Value.null, Value.int 0, Value.int 0, Value.int 0])) : Nat × va_E) := by rw [e_ws65]; exact gs_self f_46_ws64
        replace hlen : ws65.length = 80 := by rw [e_ws65]; exact gs_lens hlen
        replace hU : gx_g ws ws65 33 [46] := by rw [e_ws65]; exact hU.put (Or.inl (by simp))
        refine lv_aload_n hx hb d_Mo_init_125 rfl (lv_at hl 0 rfl) ?_
        refine lv_iconst (v := 4) hx hb d_Mo_init_126 (by decide) ?_
        refine va_put (D := D) (ci := 8) (v := Value.int 4) (ty := .int) (C := "CommitLedgerModel") (T := F_Mo) (N := 35) hx hb hts i_Mo t_Mo t_Mo_ok n_Mo hown hK hP hD hS 46 f_46_ws65 rfl 25 (by decide) (hts _ kf_Mo_59) (fun _ h9 => h9) rfl (by decide +kernel) rfl rfl (Nat.le_of_ble_eq_true rfl) d_Mo_init_127 (fun H locs hP9 hD9 hS9 => ?_)
        obtain ⟨ws66, e_ws66⟩ : ∃ x : va_W, x = ws65.set 46 ((a, Sum.inr (8, [Value.int 0, Value.int 0, Value.ref q1, Value.ref q4, Value.ref q7, Value.int 0, Value.ref q10, Value.ref q13, Value.ref q16, Value.ref q19, Value.int 0, Value.int 0, Value.int 0, Value.int (-1), Value.int 0, Value.ref q23, Value.ref q35, Value.ref q47, Value.int 0, Value.int 0, Value.int 0, Value.ref q59, Value.ref q62, Value.int 0, Value.int 16, Value.int 4, Value.null, Value.null, Value.null, Value.null, Value.int 0, Value.null, Value.int 0, Value.int 0, Value.int 0])) : Nat × va_E) := ⟨_, rfl⟩
        replace hP : va_P D classes ws66 H := by rw [e_ws66]; exact hP9
        replace hD : va_D A ws66 := by rw [e_ws66]; exact hD9
        replace hS := hS9
        clear hP9 hD9 hS9
        have f_46_ws66 : ws66[46]? = some ((a, Sum.inr (8, [Value.int 0, Value.int 0, Value.ref q1, Value.ref q4, Value.ref q7, Value.int 0, Value.ref q10, Value.ref q13, Value.ref q16, Value.ref q19, Value.int 0, Value.int 0, Value.int 0, Value.int (-1), Value.int 0, Value.ref q23, Value.ref q35, Value.ref q47, Value.int 0, Value.int 0, Value.int 0, Value.ref q59, Value.ref q62, Value.int 0, Value.int 16, Value.int 4, Value.null, Value.null, Value.null, Value.null, Value.int 0, Value.null, Value.int 0, Value.int 0, Value.int 0])) : Nat × va_E) := by rw [e_ws66]; exact gs_self f_46_ws65
        replace hlen : ws66.length = 80 := by rw [e_ws66]; exact gs_lens hlen
        replace hU : gx_g ws ws66 33 [46] := by rw [e_ws66]; exact hU.put (Or.inl (by simp))
        refine lv_aload_n hx hb d_Mo_init_130 rfl (lv_at hl 0 rfl) ?_
        refine lv_iconst (v := 4) hx hb d_Mo_init_131 (by decide) ?_
        refine lv_sipush (v := 4096) hx hb d_Mo_init_132 (by decide) ?_
        refine gx_multi hx hb hown hts kk_Mo_62 kO_ints kA_int hP hS hA d_Mo_init_135 (Nat.le_of_ble_eq_true rfl) (Nat.le_of_ble_eq_true rfl) (fun q67 H locs hP9 hS9 => ?_)
        replace hP := hP9
        replace hS := hS9
        clear hP9 hS9
        refine W.widen (k := 38) (n := 362932) (by decide) (by decide) ?_
        refine va_putF (D := D) (ci := 8) (v := Value.ref q67) (ty := .array (.array .int)) (C := "CommitLedgerModel") (T := F_Mo) (N := 35) hx hb hts i_Mo t_Mo t_Mo_ok n_Mo hown hK hP hD hS 46 f_46_ws66 rfl 26 (by decide) (hts _ kf_Mo_64) (fun _ h9 => h9) rfl hin rfl (by decide +kernel) rfl rfl (Nat.le_of_ble_eq_true rfl) d_Mo_init_139 (fun H locs hP9 hD9 hS9 => ?_)
        obtain ⟨ws68, e_ws68⟩ : ∃ x : va_W, x = ws66.set 46 ((a, Sum.inr (8, [Value.int 0, Value.int 0, Value.ref q1, Value.ref q4, Value.ref q7, Value.int 0, Value.ref q10, Value.ref q13, Value.ref q16, Value.ref q19, Value.int 0, Value.int 0, Value.int 0, Value.int (-1), Value.int 0, Value.ref q23, Value.ref q35, Value.ref q47, Value.int 0, Value.int 0, Value.int 0, Value.ref q59, Value.ref q62, Value.int 0, Value.int 16, Value.int 4, Value.ref q67, Value.null, Value.null, Value.null, Value.int 0, Value.null, Value.int 0, Value.int 0, Value.int 0])) : Nat × va_E) := ⟨_, rfl⟩
        replace hP : va_P D classes ws68 H := by rw [e_ws68]; exact hP9
        replace hD : va_D A ws68 := by rw [e_ws68]; exact hD9
        replace hS := hS9
        clear hP9 hD9 hS9
        have f_46_ws68 : ws68[46]? = some ((a, Sum.inr (8, [Value.int 0, Value.int 0, Value.ref q1, Value.ref q4, Value.ref q7, Value.int 0, Value.ref q10, Value.ref q13, Value.ref q16, Value.ref q19, Value.int 0, Value.int 0, Value.int 0, Value.int (-1), Value.int 0, Value.ref q23, Value.ref q35, Value.ref q47, Value.int 0, Value.int 0, Value.int 0, Value.ref q59, Value.ref q62, Value.int 0, Value.int 16, Value.int 4, Value.ref q67, Value.null, Value.null, Value.null, Value.int 0, Value.null, Value.int 0, Value.int 0, Value.int 0])) : Nat × va_E) := by rw [e_ws68]; exact gs_self f_46_ws66
        replace hlen : ws68.length = 80 := by rw [e_ws68]; exact gs_lens hlen
        replace hU : gx_g ws ws68 33 [46] := by rw [e_ws68]; exact hU.put (Or.inl (by simp))
        refine lv_aload_n hx hb d_Mo_init_142 rfl (lv_at hl 0 rfl) ?_
        refine lv_iconst (v := 4) hx hb d_Mo_init_143 (by decide) ?_
        refine gx_newa (atype := .int) (ty := .int) (N' := 4) (a0 := (4, Sum.inl (fun _ => 0))) hx hb (hts _ kA_int) rfl hK hP hD hS hA 0 ht0 (fun _ => rfl) (by decide) (by decide) (by decide) (Nat.le_of_ble_eq_true rfl) (Nat.le_of_ble_eq_true rfl) d_Mo_init_144 (fun q69 H hP9 hD9 hS9 => ?_)
        obtain ⟨ws70, e_ws70⟩ : ∃ x : va_W, x = ws68 ++ [((q69, Sum.inl (cI, 4, Sum.inl (fun _ => 0))) : Nat × va_E)] := ⟨_, rfl⟩
        replace hP : va_P D classes ws70 H := by rw [e_ws70]; exact hP9
        replace hD : va_D A ws70 := by rw [e_ws70]; exact hD9
        replace hS := hS9
        clear hP9 hD9 hS9
        have f_80_ws70 : ws70[80]? = some ((q69, Sum.inl (cI, 4, Sum.inl (fun _ => 0))) : Nat × va_E) := by rw [e_ws70]; exact gs_last hlen
        replace hlen : ws70.length = 81 := by rw [e_ws70]; exact gs_len hlen
        replace hU : gx_g ws ws70 34 [46] := by rw [e_ws70]; exact hU.push
        refine W.widen (k := 39) (n := 362936) (by decide) (by decide) ?_
        have f_46_ws70 : ws70[46]? = some ((a, Sum.inr (8, [Value.int 0, Value.int 0, Value.ref q1, Value.ref q4, Value.ref q7, Value.int 0, Value.ref q10, Value.ref q13, Value.ref q16, Value.ref q19, Value.int 0, Value.int 0, Value.int 0, Value.int (-1), Value.int 0, Value.ref q23, Value.ref q35, Value.ref q47, Value.int 0, Value.int 0, Value.int 0, Value.ref q59, Value.ref q62, Value.int 0, Value.int 16, Value.int 4, Value.ref q67, Value.null, Value.null, Value.null, Value.int 0, Value.null, Value.int 0, Value.int 0, Value.int 0])) : Nat × va_E) := by rw [e_ws70]; exact gs_app f_46_ws68
        clear f_46_ws68
        refine va_putF (D := D) (ci := 8) (v := Value.ref q69) (ty := .array .int) (C := "CommitLedgerModel") (T := F_Mo) (N := 35) hx hb hts i_Mo t_Mo t_Mo_ok n_Mo hown hK hP hD hS 46 f_46_ws70 rfl 27 (by decide) (hts _ kf_Mo_67) (fun _ h9 => h9) rfl hin rfl (by decide +kernel) rfl rfl (Nat.le_of_ble_eq_true rfl) d_Mo_init_146 (fun H locs hP9 hD9 hS9 => ?_)
        obtain ⟨ws71, e_ws71⟩ : ∃ x : va_W, x = ws70.set 46 ((a, Sum.inr (8, [Value.int 0, Value.int 0, Value.ref q1, Value.ref q4, Value.ref q7, Value.int 0, Value.ref q10, Value.ref q13, Value.ref q16, Value.ref q19, Value.int 0, Value.int 0, Value.int 0, Value.int (-1), Value.int 0, Value.ref q23, Value.ref q35, Value.ref q47, Value.int 0, Value.int 0, Value.int 0, Value.ref q59, Value.ref q62, Value.int 0, Value.int 16, Value.int 4, Value.ref q67, Value.ref q69, Value.null, Value.null, Value.int 0, Value.null, Value.int 0, Value.int 0, Value.int 0])) : Nat × va_E) := ⟨_, rfl⟩
        replace hP : va_P D classes ws71 H := by rw [e_ws71]; exact hP9
        replace hD : va_D A ws71 := by rw [e_ws71]; exact hD9
        replace hS := hS9
        clear hP9 hD9 hS9
        have f_46_ws71 : ws71[46]? = some ((a, Sum.inr (8, [Value.int 0, Value.int 0, Value.ref q1, Value.ref q4, Value.ref q7, Value.int 0, Value.ref q10, Value.ref q13, Value.ref q16, Value.ref q19, Value.int 0, Value.int 0, Value.int 0, Value.int (-1), Value.int 0, Value.ref q23, Value.ref q35, Value.ref q47, Value.int 0, Value.int 0, Value.int 0, Value.ref q59, Value.ref q62, Value.int 0, Value.int 16, Value.int 4, Value.ref q67, Value.ref q69, Value.null, Value.null, Value.int 0, Value.null, Value.int 0, Value.int 0, Value.int 0])) : Nat × va_E) := by rw [e_ws71]; exact gs_self f_46_ws70
        replace hlen : ws71.length = 81 := by rw [e_ws71]; exact gs_lens hlen
        replace hU : gx_g ws ws71 34 [46] := by rw [e_ws71]; exact hU.put (Or.inl (by simp))
        refine lv_aload_n hx hb d_Mo_init_149 rfl (lv_at hl 0 rfl) ?_
        refine lv_iconst (v := 4) hx hb d_Mo_init_150 (by decide) ?_
        refine gx_newa (atype := .int) (ty := .int) (N' := 4) (a0 := (4, Sum.inl (fun _ => 0))) hx hb (hts _ kA_int) rfl hK hP hD hS hA 0 ht0 (fun _ => rfl) (by decide) (by decide) (by decide) (Nat.le_of_ble_eq_true rfl) (Nat.le_of_ble_eq_true rfl) d_Mo_init_151 (fun q72 H hP9 hD9 hS9 => ?_)
        obtain ⟨ws73, e_ws73⟩ : ∃ x : va_W, x = ws71 ++ [((q72, Sum.inl (cI, 4, Sum.inl (fun _ => 0))) : Nat × va_E)] := ⟨_, rfl⟩
        replace hP : va_P D classes ws73 H := by rw [e_ws73]; exact hP9
        replace hD : va_D A ws73 := by rw [e_ws73]; exact hD9
        replace hS := hS9
        clear hP9 hD9 hS9
        have f_81_ws73 : ws73[81]? = some ((q72, Sum.inl (cI, 4, Sum.inl (fun _ => 0))) : Nat × va_E) := by rw [e_ws73]; exact gs_last hlen
        replace hlen : ws73.length = 82 := by rw [e_ws73]; exact gs_len hlen
        replace hU : gx_g ws ws73 35 [46] := by rw [e_ws73]; exact hU.push
        refine W.widen (k := 40) (n := 362940) (by decide) (by decide) ?_
        have f_46_ws73 : ws73[46]? = some ((a, Sum.inr (8, [Value.int 0, Value.int 0, Value.ref q1, Value.ref q4, Value.ref q7, Value.int 0, Value.ref q10, Value.ref q13, Value.ref q16, Value.ref q19, Value.int 0, Value.int 0, Value.int 0, Value.int (-1), Value.int 0, Value.ref q23, Value.ref q35, Value.ref q47, Value.int 0, Value.int 0, Value.int 0, Value.ref q59, Value.ref q62, Value.int 0, Value.int 16, Value.int 4, Value.ref q67, Value.ref q69, Value.null, Value.null, Value.int 0, Value.null, Value.int 0, Value.int 0, Value.int 0])) : Nat × va_E) := by rw [e_ws73]; exact gs_app f_46_ws71
        clear f_46_ws71
        refine va_putF (D := D) (ci := 8) (v := Value.ref q72) (ty := .array .int) (C := "CommitLedgerModel") (T := F_Mo) (N := 35) hx hb hts i_Mo t_Mo t_Mo_ok n_Mo hown hK hP hD hS 46 f_46_ws73 rfl 28 (by decide) (hts _ kf_Mo_70) (fun _ h9 => h9) rfl hin rfl (by decide +kernel) rfl rfl (Nat.le_of_ble_eq_true rfl) d_Mo_init_153 (fun H locs hP9 hD9 hS9 => ?_)
        obtain ⟨ws74, e_ws74⟩ : ∃ x : va_W, x = ws73.set 46 ((a, Sum.inr (8, [Value.int 0, Value.int 0, Value.ref q1, Value.ref q4, Value.ref q7, Value.int 0, Value.ref q10, Value.ref q13, Value.ref q16, Value.ref q19, Value.int 0, Value.int 0, Value.int 0, Value.int (-1), Value.int 0, Value.ref q23, Value.ref q35, Value.ref q47, Value.int 0, Value.int 0, Value.int 0, Value.ref q59, Value.ref q62, Value.int 0, Value.int 16, Value.int 4, Value.ref q67, Value.ref q69, Value.ref q72, Value.null, Value.int 0, Value.null, Value.int 0, Value.int 0, Value.int 0])) : Nat × va_E) := ⟨_, rfl⟩
        replace hP : va_P D classes ws74 H := by rw [e_ws74]; exact hP9
        replace hD : va_D A ws74 := by rw [e_ws74]; exact hD9
        replace hS := hS9
        clear hP9 hD9 hS9
        have f_46_ws74 : ws74[46]? = some ((a, Sum.inr (8, [Value.int 0, Value.int 0, Value.ref q1, Value.ref q4, Value.ref q7, Value.int 0, Value.ref q10, Value.ref q13, Value.ref q16, Value.ref q19, Value.int 0, Value.int 0, Value.int 0, Value.int (-1), Value.int 0, Value.ref q23, Value.ref q35, Value.ref q47, Value.int 0, Value.int 0, Value.int 0, Value.ref q59, Value.ref q62, Value.int 0, Value.int 16, Value.int 4, Value.ref q67, Value.ref q69, Value.ref q72, Value.null, Value.int 0, Value.null, Value.int 0, Value.int 0, Value.int 0])) : Nat × va_E) := by rw [e_ws74]; exact gs_self f_46_ws73
        replace hlen : ws74.length = 82 := by rw [e_ws74]; exact gs_lens hlen
        replace hU : gx_g ws ws74 35 [46] := by rw [e_ws74]; exact hU.put (Or.inl (by simp))
        refine lv_aload_n hx hb d_Mo_init_156 rfl (lv_at hl 0 rfl) ?_
        refine lv_iconst (v := 4) hx hb d_Mo_init_157 (by decide) ?_
        refine gx_newa (atype := .int) (ty := .int) (N' := 4) (a0 := (4, Sum.inl (fun _ => 0))) hx hb (hts _ kA_int) rfl hK hP hD hS hA 0 ht0 (fun _ => rfl) (by decide) (by decide) (by decide) (Nat.le_of_ble_eq_true rfl) (Nat.le_of_ble_eq_true rfl) d_Mo_init_158 (fun q75 H hP9 hD9 hS9 => ?_)
        obtain ⟨ws76, e_ws76⟩ : ∃ x : va_W, x = ws74 ++ [((q75, Sum.inl (cI, 4, Sum.inl (fun _ => 0))) : Nat × va_E)] := ⟨_, rfl⟩
        replace hP : va_P D classes ws76 H := by rw [e_ws76]; exact hP9
        replace hD : va_D A ws76 := by rw [e_ws76]; exact hD9
        replace hS := hS9
        clear hP9 hD9 hS9
        have f_82_ws76 : ws76[82]? = some ((q75, Sum.inl (cI, 4, Sum.inl (fun _ => 0))) : Nat × va_E) := by rw [e_ws76]; exact gs_last hlen
        replace hlen : ws76.length = 83 := by rw [e_ws76]; exact gs_len hlen
        replace hU : gx_g ws ws76 36 [46] := by rw [e_ws76]; exact hU.push
        refine W.widen (k := 41) (n := 362944) (by decide) (by decide) ?_
        have f_46_ws76 : ws76[46]? = some ((a, Sum.inr (8, [Value.int 0, Value.int 0, Value.ref q1, Value.ref q4, Value.ref q7, Value.int 0, Value.ref q10, Value.ref q13, Value.ref q16, Value.ref q19, Value.int 0, Value.int 0, Value.int 0, Value.int (-1), Value.int 0, Value.ref q23, Value.ref q35, Value.ref q47, Value.int 0, Value.int 0, Value.int 0, Value.ref q59, Value.ref q62, Value.int 0, Value.int 16, Value.int 4, Value.ref q67, Value.ref q69, Value.ref q72, Value.null, Value.int 0, Value.null, Value.int 0, Value.int 0, Value.int 0])) : Nat × va_E) := by rw [e_ws76]; exact gs_app f_46_ws74
        clear f_46_ws74
        refine va_putF (D := D) (ci := 8) (v := Value.ref q75) (ty := .array .int) (C := "CommitLedgerModel") (T := F_Mo) (N := 35) hx hb hts i_Mo t_Mo t_Mo_ok n_Mo hown hK hP hD hS 46 f_46_ws76 rfl 29 (by decide) (hts _ kf_Mo_73) (fun _ h9 => h9) rfl hin rfl (by decide +kernel) rfl rfl (Nat.le_of_ble_eq_true rfl) d_Mo_init_160 (fun H locs hP9 hD9 hS9 => ?_)
        obtain ⟨ws77, e_ws77⟩ : ∃ x : va_W, x = ws76.set 46 ((a, Sum.inr (8, [Value.int 0, Value.int 0, Value.ref q1, Value.ref q4, Value.ref q7, Value.int 0, Value.ref q10, Value.ref q13, Value.ref q16, Value.ref q19, Value.int 0, Value.int 0, Value.int 0, Value.int (-1), Value.int 0, Value.ref q23, Value.ref q35, Value.ref q47, Value.int 0, Value.int 0, Value.int 0, Value.ref q59, Value.ref q62, Value.int 0, Value.int 16, Value.int 4, Value.ref q67, Value.ref q69, Value.ref q72, Value.ref q75, Value.int 0, Value.null, Value.int 0, Value.int 0, Value.int 0])) : Nat × va_E) := ⟨_, rfl⟩
        replace hP : va_P D classes ws77 H := by rw [e_ws77]; exact hP9
        replace hD : va_D A ws77 := by rw [e_ws77]; exact hD9
        replace hS := hS9
        clear hP9 hD9 hS9
        have f_46_ws77 : ws77[46]? = some ((a, Sum.inr (8, [Value.int 0, Value.int 0, Value.ref q1, Value.ref q4, Value.ref q7, Value.int 0, Value.ref q10, Value.ref q13, Value.ref q16, Value.ref q19, Value.int 0, Value.int 0, Value.int 0, Value.int (-1), Value.int 0, Value.ref q23, Value.ref q35, Value.ref q47, Value.int 0, Value.int 0, Value.int 0, Value.ref q59, Value.ref q62, Value.int 0, Value.int 16, Value.int 4, Value.ref q67, Value.ref q69, Value.ref q72, Value.ref q75, Value.int 0, Value.null, Value.int 0, Value.int 0, Value.int 0])) : Nat × va_E) := by rw [e_ws77]; exact gs_self f_46_ws76
        replace hlen : ws77.length = 83 := by rw [e_ws77]; exact gs_lens hlen
        replace hU : gx_g ws ws77 36 [46] := by rw [e_ws77]; exact hU.put (Or.inl (by simp))
        refine lv_aload_n hx hb d_Mo_init_163 rfl (lv_at hl 0 rfl) ?_
        refine lv_iconst (v := 4) hx hb d_Mo_init_164 (by decide) ?_
        refine gx_newq (C := "CommitLedgerModel$Version") (N' := 4) hx hb hown (hts _ kk_Mo_37) (hts _ kO_Ve) hK hP hD hS hA 5 ht5 (by decide) (by decide) (by decide) (Nat.le_of_ble_eq_true rfl) (Nat.le_of_ble_eq_true rfl) d_Mo_init_165 (fun q78 H hP9 hD9 hS9 => ?_)
        obtain ⟨ws79, e_ws79⟩ : ∃ x : va_W, x = ws77 ++ [((q78, Sum.inl (cV, 4, Sum.inr (Sum.inr (Sum.inr (Sum.inr (fun _ => none)))))) : Nat × va_E)] := ⟨_, rfl⟩
        replace hP : va_P D classes ws79 H := by rw [e_ws79]; exact hP9
        replace hD : va_D A ws79 := by rw [e_ws79]; exact hD9
        replace hS := hS9
        clear hP9 hD9 hS9
        have f_83_ws79 : ws79[83]? = some ((q78, Sum.inl (cV, 4, Sum.inr (Sum.inr (Sum.inr (Sum.inr (fun _ => none)))))) : Nat × va_E) := by rw [e_ws79]; exact gs_last hlen
        replace hlen : ws79.length = 84 := by rw [e_ws79]; exact gs_len hlen
        replace hU : gx_g ws ws79 37 [46] := by rw [e_ws79]; exact hU.push
        refine W.widen (k := 42) (n := 362948) (by decide) (by decide) ?_
        refine lv_dup hx hb d_Mo_init_168 rfl ?_
        refine lv_iconst (v := 0) hx hb d_Mo_init_169 (by decide) ?_
        refine va_new (ci := 9) (fs := [Value.null, Value.null, Value.null, Value.null, Value.null, Value.null, Value.null, Value.int 0, Value.int 0, Value.int 0, Value.int 0]) (C := "CommitLedgerModel$Version") (T := F_Ve) (N := 11) hx hb hts i_Ve t_Ve t_Ve_ok hown (hts _ kk_Mo_37) (hts _ kX_Ve) (hts _ kN_Ve) hK hP hD hS hA rfl (by decide) (Nat.le_of_ble_eq_true rfl) (Nat.le_of_ble_eq_true rfl) d_Mo_init_170 (fun q80 H hP9 hD9 hS9 => ?_)
        obtain ⟨ws81, e_ws81⟩ : ∃ x : va_W, x = ws79 ++ [((q80, Sum.inr (9, [Value.null, Value.null, Value.null, Value.null, Value.null, Value.null, Value.null, Value.int 0, Value.int 0, Value.int 0, Value.int 0])) : Nat × va_E)] := ⟨_, rfl⟩
        replace hP : va_P D classes ws81 H := by rw [e_ws81]; exact hP9
        replace hD : va_D A ws81 := by rw [e_ws81]; exact hD9
        replace hS := hS9
        clear hP9 hD9 hS9
        have f_84_ws81 : ws81[84]? = some ((q80, Sum.inr (9, [Value.null, Value.null, Value.null, Value.null, Value.null, Value.null, Value.null, Value.int 0, Value.int 0, Value.int 0, Value.int 0])) : Nat × va_E) := by rw [e_ws81]; exact gs_last hlen
        replace hlen : ws81.length = 85 := by rw [e_ws81]; exact gs_len hlen
        replace hU : gx_g ws ws81 38 [46] := by rw [e_ws81]; exact hU.push
        refine W.widen (k := 43) (n := 362959) (by decide) (by decide) ?_
        refine lv_dup hx hb d_Mo_init_173 rfl ?_
        refine gx_call (ig := .invokespecial 39) (c_Ve_init l htr D tys z _ ws81 cI cZ q80 84 85 f_84_ws81 ht0 ht1 hlen (by decide)) (gx_invIN (As := []) (rest := [Value.ref q80, Value.int 0, Value.ref q78, Value.ref q78, Value.ref a]) hx hb hown hts km_Mo_39 kI_Ve_init kc_Ve_init (by decide) rfl (show (parseMethodDescriptor y_Ve_init.desc).map (fun d => d.parameters.length) = some 0 by decide +kernel) rfl rfl d_Mo_init_174) (gx_cw (z := 0) hts kc_Ve_init kN_Ve rfl rfl ⟨Nat.le_of_ble_eq_true rfl, Nat.le_of_ble_eq_true rfl⟩) hb hml gx_blind (gx_pre hz hP hK hD hY hS hAz [Value.ref q80]) rfl hl.1 (lv_room (Nat.le_of_ble_eq_true rfl)) d_Mo_init_174 ⟨Nat.le_of_ble_eq_true rfl, Nat.le_of_ble_eq_true rfl⟩ (fun v82 st82 t82 L82 h0_82 hW_82 hQ_82 hL_82 => ?_) (fun v82 st82 t82 L82 h0_82 hW_82 hQ_82 hL_82 => ?_)
        · obtain ⟨ws83, hp, hP9, -, hD9, hS9⟩ := gx_back h0_82 hW_82 hQ_82 hL_82 hD hS hA
          clear hQ_82 h0_82 hL_82 hW_82 hP hD hS
          have hP := hP9
          have hD := hD9
          have hS := hS9
          clear hP9 hD9 hS9
          rcases hp with ⟨q84, q85, q86, q87, q88, q89, q90, hv9, e_ws83, f_84_ws83, f_85_ws83, f_86_ws83, f_87_ws83, f_88_ws83, f_89_ws83, f_90_ws83, f_91_ws83⟩
          cases hv9
          have f_84_ws83 : ws83[84]? = some ((q80, Sum.inr (9, [Value.ref q84, Value.ref q85, Value.ref q86, Value.ref q87, Value.ref q88, Value.ref q89, Value.ref q90, Value.int 0, Value.int 0, Value.int 0, Value.int 0])) : Nat × va_E) := f_84_ws83
          have f_85_ws83 : ws83[85]? = some ((q84, Sum.inl (cI, 4097, Sum.inl (fun _ => 0))) : Nat × va_E) := f_85_ws83
          have f_86_ws83 : ws83[86]? = some ((q85, Sum.inl (cI, 4097, Sum.inl (fun _ => 0))) : Nat × va_E) := f_86_ws83
          have f_87_ws83 : ws83[87]? = some ((q86, Sum.inl (cI, 4098, Sum.inl (fun _ => 0))) : Nat × va_E) := f_87_ws83
          have f_88_ws83 : ws83[88]? = some ((q87, Sum.inl (cI, 4097, Sum.inl (fun _ => 0))) : Nat × va_E) := f_88_ws83
          have f_89_ws83 : ws83[89]? = some ((q88, Sum.inl (cI, 4096, Sum.inl (fun _ => 0))) : Nat × va_E) := f_89_ws83
          have f_90_ws83 : ws83[90]? = some ((q89, Sum.inl (cZ, 4096, Sum.inl (fun _ => 0))) : Nat × va_E) := f_90_ws83
          have f_91_ws83 : ws83[91]? = some ((q90, Sum.inl (cZ, 4096, Sum.inl (fun _ => 0))) : Nat × va_E) := f_91_ws83
          replace hlen : ws83.length = 92 := by rw [e_ws83.1, hlen]
          replace hU : gx_g ws ws83 45 [46] := hU.call e_ws83 (by rw [hlen0]; decide)
          refine W.eq (g2 := F0 m 177 ls [Value.ref q80, Value.int 0, Value.ref q78, Value.ref q78, Value.ref a]) rfl ?_
          refine W.widen (k := 50) (n := 391636) (by decide) (by decide) ?_
          generalize t82.heap = H at hP hS ⊢
          generalize locs ++ L82 = locs at hS ⊢
          have f_83_ws81 : ws81[83]? = some ((q78, Sum.inl (cV, 4, Sum.inr (Sum.inr (Sum.inr (Sum.inr (fun _ => none)))))) : Nat × va_E) := by rw [e_ws81]; exact gs_app f_83_ws79
          clear f_83_ws79
          have f_83_ws83 : ws83[83]? = some ((q78, Sum.inl (cV, 4, Sum.inr (Sum.inr (Sum.inr (Sum.inr (fun _ => none)))))) : Nat × va_E) := e_ws83.at (by first | decide | (simp; done) | (simp; omega)) f_83_ws81
          clear f_83_ws81
          refine gx_aast (D := D) (j := 0) hx hb hK hP hD hS 83 5 84 9 f_83_ws83 ht5 f_84_ws83 rfl (gx_inl (by decide)) (by decide) d_Mo_init_177 (fun H locs hP9 hD9 hS9 => ?_)
          obtain ⟨ws91, e_ws91⟩ : ∃ x : va_W, x = ws83.set 83 ((q78, Sum.inl (cV, 4, Sum.inr (Sum.inr (Sum.inr (Sum.inr (va_up (fun _ => none) 0 (some q80))))))) : Nat × va_E) := ⟨_, rfl⟩
          replace hP : va_P D classes ws91 H := by rw [e_ws91]; exact hP9
          replace hD : va_D A ws91 := by rw [e_ws91]; exact hD9
          replace hS := hS9
          clear hP9 hD9 hS9
          have f_83_ws91 : ws91[83]? = some ((q78, Sum.inl (cV, 4, Sum.inr (Sum.inr (Sum.inr (Sum.inr (va_up (fun _ => none) 0 (some q80))))))) : Nat × va_E) := by rw [e_ws91]; exact gs_self f_83_ws83
          replace hlen : ws91.length = 92 := by rw [e_ws91]; exact gs_lens hlen
          replace hU : gx_g ws ws91 45 [46] := by rw [e_ws91]; exact hU.put (Or.inr (by rw [hlen0]; decide))
          refine lv_dup hx hb d_Mo_init_178 rfl ?_
          refine lv_iconst (v := 1) hx hb d_Mo_init_179 (by decide) ?_
          refine va_new (ci := 9) (fs := [Value.null, Value.null, Value.null, Value.null, Value.null, Value.null, Value.null, Value.int 0, Value.int 0, Value.int 0, Value.int 0]) (C := "CommitLedgerModel$Version") (T := F_Ve) (N := 11) hx hb hts i_Ve t_Ve t_Ve_ok hown (hts _ kk_Mo_37) (hts _ kX_Ve) (hts _ kN_Ve) hK hP hD hS hA rfl (by decide) (Nat.le_of_ble_eq_true rfl) (Nat.le_of_ble_eq_true rfl) d_Mo_init_180 (fun q92 H hP9 hD9 hS9 => ?_)
          obtain ⟨ws93, e_ws93⟩ : ∃ x : va_W, x = ws91 ++ [((q92, Sum.inr (9, [Value.null, Value.null, Value.null, Value.null, Value.null, Value.null, Value.null, Value.int 0, Value.int 0, Value.int 0, Value.int 0])) : Nat × va_E)] := ⟨_, rfl⟩
          replace hP : va_P D classes ws93 H := by rw [e_ws93]; exact hP9
          replace hD : va_D A ws93 := by rw [e_ws93]; exact hD9
          replace hS := hS9
          clear hP9 hD9 hS9
          have f_92_ws93 : ws93[92]? = some ((q92, Sum.inr (9, [Value.null, Value.null, Value.null, Value.null, Value.null, Value.null, Value.null, Value.int 0, Value.int 0, Value.int 0, Value.int 0])) : Nat × va_E) := by rw [e_ws93]; exact gs_last hlen
          replace hlen : ws93.length = 93 := by rw [e_ws93]; exact gs_len hlen
          replace hU : gx_g ws ws93 46 [46] := by rw [e_ws93]; exact hU.push
          refine W.widen (k := 51) (n := 391647) (by decide) (by decide) ?_
          refine lv_dup hx hb d_Mo_init_183 rfl ?_
          refine gx_call (ig := .invokespecial 39) (c_Ve_init l htr D tys z _ ws93 cI cZ q92 92 93 f_92_ws93 ht0 ht1 hlen (by decide)) (gx_invIN (As := []) (rest := [Value.ref q92, Value.int 1, Value.ref q78, Value.ref q78, Value.ref a]) hx hb hown hts km_Mo_39 kI_Ve_init kc_Ve_init (by decide) rfl (show (parseMethodDescriptor y_Ve_init.desc).map (fun d => d.parameters.length) = some 0 by decide +kernel) rfl rfl d_Mo_init_184) (gx_cw (z := 0) hts kc_Ve_init kN_Ve rfl rfl ⟨Nat.le_of_ble_eq_true rfl, Nat.le_of_ble_eq_true rfl⟩) hb hml gx_blind (gx_pre hz hP hK hD hY hS hAz [Value.ref q92]) rfl hl.1 (lv_room (Nat.le_of_ble_eq_true rfl)) d_Mo_init_184 ⟨Nat.le_of_ble_eq_true rfl, Nat.le_of_ble_eq_true rfl⟩ (fun v94 st94 t94 L94 h0_94 hW_94 hQ_94 hL_94 => ?_) (fun v94 st94 t94 L94 h0_94 hW_94 hQ_94 hL_94 => ?_)
          · obtain ⟨ws95, hp, hP9, -, hD9, hS9⟩ := gx_back h0_94 hW_94 hQ_94 hL_94 hD hS hA
            clear hQ_94 h0_94 hL_94 hW_94 hP hD hS
            have hP := hP9
            have hD := hD9
            have hS := hS9
            clear hP9 hD9 hS9
            rcases hp with ⟨q96, q97, q98, q99, q100, q101, q102, hv9, e_ws95, f_92_ws95, f_93_ws95, f_94_ws95, f_95_ws95, f_96_ws95, f_97_ws95, f_98_ws95, f_99_ws95⟩
            cases hv9
            have f_92_ws95 : ws95[92]? = some ((q92, Sum.inr (9, [Value.ref q96, Value.ref q97, Value.ref q98, Value.ref q99, Value.ref q100, Value.ref q101, Value.ref q102, Value.int 0, Value.int 0, Value.int 0, Value.int 0])) : Nat × va_E) := f_92_ws95
            have f_93_ws95 : ws95[93]? = some ((q96, Sum.inl (cI, 4097, Sum.inl (fun _ => 0))) : Nat × va_E) := f_93_ws95
            have f_94_ws95 : ws95[94]? = some ((q97, Sum.inl (cI, 4097, Sum.inl (fun _ => 0))) : Nat × va_E) := f_94_ws95
            have f_95_ws95 : ws95[95]? = some ((q98, Sum.inl (cI, 4098, Sum.inl (fun _ => 0))) : Nat × va_E) := f_95_ws95
            have f_96_ws95 : ws95[96]? = some ((q99, Sum.inl (cI, 4097, Sum.inl (fun _ => 0))) : Nat × va_E) := f_96_ws95
            have f_97_ws95 : ws95[97]? = some ((q100, Sum.inl (cI, 4096, Sum.inl (fun _ => 0))) : Nat × va_E) := f_97_ws95
            have f_98_ws95 : ws95[98]? = some ((q101, Sum.inl (cZ, 4096, Sum.inl (fun _ => 0))) : Nat × va_E) := f_98_ws95
            have f_99_ws95 : ws95[99]? = some ((q102, Sum.inl (cZ, 4096, Sum.inl (fun _ => 0))) : Nat × va_E) := f_99_ws95
            replace hlen : ws95.length = 100 := by rw [e_ws95.1, hlen]
            replace hU : gx_g ws ws95 53 [46] := hU.call e_ws95 (by rw [hlen0]; decide)
            refine W.eq (g2 := F0 m 187 ls [Value.ref q92, Value.int 1, Value.ref q78, Value.ref q78, Value.ref a]) rfl ?_
            refine W.widen (k := 58) (n := 420324) (by decide) (by decide) ?_
            generalize t94.heap = H at hP hS ⊢
            generalize locs ++ L94 = locs at hS ⊢
            have f_83_ws93 : ws93[83]? = some ((q78, Sum.inl (cV, 4, Sum.inr (Sum.inr (Sum.inr (Sum.inr (va_up (fun _ => none) 0 (some q80))))))) : Nat × va_E) := by rw [e_ws93]; exact gs_app f_83_ws91
            clear f_83_ws91
            have f_83_ws95 : ws95[83]? = some ((q78, Sum.inl (cV, 4, Sum.inr (Sum.inr (Sum.inr (Sum.inr (va_up (fun _ => none) 0 (some q80))))))) : Nat × va_E) := e_ws95.at (by first | decide | (simp; done) | (simp; omega)) f_83_ws93
            clear f_83_ws93
            refine gx_aast (D := D) (j := 1) hx hb hK hP hD hS 83 5 92 9 f_83_ws95 ht5 f_92_ws95 rfl (gx_inl (by decide)) (by decide) d_Mo_init_187 (fun H locs hP9 hD9 hS9 => ?_)
            obtain ⟨ws103, e_ws103⟩ : ∃ x : va_W, x = ws95.set 83 ((q78, Sum.inl (cV, 4, Sum.inr (Sum.inr (Sum.inr (Sum.inr (va_up (va_up (fun _ => none) 0 (some q80)) 1 (some q92))))))) : Nat × va_E) := ⟨_, rfl⟩
            replace hP : va_P D classes ws103 H := by rw [e_ws103]; exact hP9
            replace hD : va_D A ws103 := by rw [e_ws103]; exact hD9
            replace hS := hS9
            clear hP9 hD9 hS9
            have f_83_ws103 : ws103[83]? = some ((q78, Sum.inl (cV, 4, Sum.inr (Sum.inr (Sum.inr (Sum.inr (va_up (va_up (fun _ => none) 0 (some q80)) 1 (some q92))))))) : Nat × va_E) := by rw [e_ws103]; exact gs_self f_83_ws95
            replace hlen : ws103.length = 100 := by rw [e_ws103]; exact gs_lens hlen
            replace hU : gx_g ws ws103 53 [46] := by rw [e_ws103]; exact hU.put (Or.inr (by rw [hlen0]; decide))
            refine lv_dup hx hb d_Mo_init_188 rfl ?_
            refine lv_iconst (v := 2) hx hb d_Mo_init_189 (by decide) ?_
            refine va_new (ci := 9) (fs := [Value.null, Value.null, Value.null, Value.null, Value.null, Value.null, Value.null, Value.int 0, Value.int 0, Value.int 0, Value.int 0]) (C := "CommitLedgerModel$Version") (T := F_Ve) (N := 11) hx hb hts i_Ve t_Ve t_Ve_ok hown (hts _ kk_Mo_37) (hts _ kX_Ve) (hts _ kN_Ve) hK hP hD hS hA rfl (by decide) (Nat.le_of_ble_eq_true rfl) (Nat.le_of_ble_eq_true rfl) d_Mo_init_190 (fun q104 H hP9 hD9 hS9 => ?_)
            obtain ⟨ws105, e_ws105⟩ : ∃ x : va_W, x = ws103 ++ [((q104, Sum.inr (9, [Value.null, Value.null, Value.null, Value.null, Value.null, Value.null, Value.null, Value.int 0, Value.int 0, Value.int 0, Value.int 0])) : Nat × va_E)] := ⟨_, rfl⟩
            replace hP : va_P D classes ws105 H := by rw [e_ws105]; exact hP9
            replace hD : va_D A ws105 := by rw [e_ws105]; exact hD9
            replace hS := hS9
            clear hP9 hD9 hS9
            have f_100_ws105 : ws105[100]? = some ((q104, Sum.inr (9, [Value.null, Value.null, Value.null, Value.null, Value.null, Value.null, Value.null, Value.int 0, Value.int 0, Value.int 0, Value.int 0])) : Nat × va_E) := by rw [e_ws105]; exact gs_last hlen
            replace hlen : ws105.length = 101 := by rw [e_ws105]; exact gs_len hlen
            replace hU : gx_g ws ws105 54 [46] := by rw [e_ws105]; exact hU.push
            refine W.widen (k := 59) (n := 420335) (by decide) (by decide) ?_
            refine lv_dup hx hb d_Mo_init_193 rfl ?_
            refine gx_call (ig := .invokespecial 39) (c_Ve_init l htr D tys z _ ws105 cI cZ q104 100 101 f_100_ws105 ht0 ht1 hlen (by decide)) (gx_invIN (As := []) (rest := [Value.ref q104, Value.int 2, Value.ref q78, Value.ref q78, Value.ref a]) hx hb hown hts km_Mo_39 kI_Ve_init kc_Ve_init (by decide) rfl (show (parseMethodDescriptor y_Ve_init.desc).map (fun d => d.parameters.length) = some 0 by decide +kernel) rfl rfl d_Mo_init_194) (gx_cw (z := 0) hts kc_Ve_init kN_Ve rfl rfl ⟨Nat.le_of_ble_eq_true rfl, Nat.le_of_ble_eq_true rfl⟩) hb hml gx_blind (gx_pre hz hP hK hD hY hS hAz [Value.ref q104]) rfl hl.1 (lv_room (Nat.le_of_ble_eq_true rfl)) d_Mo_init_194 ⟨Nat.le_of_ble_eq_true rfl, Nat.le_of_ble_eq_true rfl⟩ (fun v106 st106 t106 L106 h0_106 hW_106 hQ_106 hL_106 => ?_) (fun v106 st106 t106 L106 h0_106 hW_106 hQ_106 hL_106 => ?_)
            · obtain ⟨ws107, hp, hP9, -, hD9, hS9⟩ := gx_back h0_106 hW_106 hQ_106 hL_106 hD hS hA
              clear hQ_106 h0_106 hL_106 hW_106 hP hD hS
              have hP := hP9
              have hD := hD9
              have hS := hS9
              clear hP9 hD9 hS9
              rcases hp with ⟨q108, q109, q110, q111, q112, q113, q114, hv9, e_ws107, f_100_ws107, f_101_ws107, f_102_ws107, f_103_ws107, f_104_ws107, f_105_ws107, f_106_ws107, f_107_ws107⟩
              cases hv9
              have f_100_ws107 : ws107[100]? = some ((q104, Sum.inr (9, [Value.ref q108, Value.ref q109, Value.ref q110, Value.ref q111, Value.ref q112, Value.ref q113, Value.ref q114, Value.int 0, Value.int 0, Value.int 0, Value.int 0])) : Nat × va_E) := f_100_ws107
              have f_101_ws107 : ws107[101]? = some ((q108, Sum.inl (cI, 4097, Sum.inl (fun _ => 0))) : Nat × va_E) := f_101_ws107
              have f_102_ws107 : ws107[102]? = some ((q109, Sum.inl (cI, 4097, Sum.inl (fun _ => 0))) : Nat × va_E) := f_102_ws107
              have f_103_ws107 : ws107[103]? = some ((q110, Sum.inl (cI, 4098, Sum.inl (fun _ => 0))) : Nat × va_E) := f_103_ws107
              have f_104_ws107 : ws107[104]? = some ((q111, Sum.inl (cI, 4097, Sum.inl (fun _ => 0))) : Nat × va_E) := f_104_ws107
              have f_105_ws107 : ws107[105]? = some ((q112, Sum.inl (cI, 4096, Sum.inl (fun _ => 0))) : Nat × va_E) := f_105_ws107
              have f_106_ws107 : ws107[106]? = some ((q113, Sum.inl (cZ, 4096, Sum.inl (fun _ => 0))) : Nat × va_E) := f_106_ws107
              have f_107_ws107 : ws107[107]? = some ((q114, Sum.inl (cZ, 4096, Sum.inl (fun _ => 0))) : Nat × va_E) := f_107_ws107
              replace hlen : ws107.length = 108 := by rw [e_ws107.1, hlen]
              replace hU : gx_g ws ws107 61 [46] := hU.call e_ws107 (by rw [hlen0]; decide)
              refine W.eq (g2 := F0 m 197 ls [Value.ref q104, Value.int 2, Value.ref q78, Value.ref q78, Value.ref a]) rfl ?_
              refine W.widen (k := 66) (n := 449012) (by decide) (by decide) ?_
              generalize t106.heap = H at hP hS ⊢
              generalize locs ++ L106 = locs at hS ⊢
              have f_83_ws105 : ws105[83]? = some ((q78, Sum.inl (cV, 4, Sum.inr (Sum.inr (Sum.inr (Sum.inr (va_up (va_up (fun _ => none) 0 (some q80)) 1 (some q92))))))) : Nat × va_E) := by rw [e_ws105]; exact gs_app f_83_ws103
              clear f_83_ws103
              have f_83_ws107 : ws107[83]? = some ((q78, Sum.inl (cV, 4, Sum.inr (Sum.inr (Sum.inr (Sum.inr (va_up (va_up (fun _ => none) 0 (some q80)) 1 (some q92))))))) : Nat × va_E) := e_ws107.at (by first | decide | (simp; done) | (simp; omega)) f_83_ws105
              clear f_83_ws105
              refine gx_aast (D := D) (j := 2) hx hb hK hP hD hS 83 5 100 9 f_83_ws107 ht5 f_100_ws107 rfl (gx_inl (by decide)) (by decide) d_Mo_init_197 (fun H locs hP9 hD9 hS9 => ?_)
              obtain ⟨ws115, e_ws115⟩ : ∃ x : va_W, x = ws107.set 83 ((q78, Sum.inl (cV, 4, Sum.inr (Sum.inr (Sum.inr (Sum.inr (va_up (va_up (va_up (fun _ => none) 0 (some q80)) 1 (some q92)) 2 (some q104))))))) : Nat × va_E) := ⟨_, rfl⟩
              replace hP : va_P D classes ws115 H := by rw [e_ws115]; exact hP9
              replace hD : va_D A ws115 := by rw [e_ws115]; exact hD9
              replace hS := hS9
              clear hP9 hD9 hS9
              have f_83_ws115 : ws115[83]? = some ((q78, Sum.inl (cV, 4, Sum.inr (Sum.inr (Sum.inr (Sum.inr (va_up (va_up (va_up (fun _ => none) 0 (some q80)) 1 (some q92)) 2 (some q104))))))) : Nat × va_E) := by rw [e_ws115]; exact gs_self f_83_ws107
              replace hlen : ws115.length = 108 := by rw [e_ws115]; exact gs_lens hlen
              replace hU : gx_g ws ws115 61 [46] := by rw [e_ws115]; exact hU.put (Or.inr (by rw [hlen0]; decide))
              refine lv_dup hx hb d_Mo_init_198 rfl ?_
              refine lv_iconst (v := 3) hx hb d_Mo_init_199 (by decide) ?_
              refine va_new (ci := 9) (fs := [Value.null, Value.null, Value.null, Value.null, Value.null, Value.null, Value.null, Value.int 0, Value.int 0, Value.int 0, Value.int 0]) (C := "CommitLedgerModel$Version") (T := F_Ve) (N := 11) hx hb hts i_Ve t_Ve t_Ve_ok hown (hts _ kk_Mo_37) (hts _ kX_Ve) (hts _ kN_Ve) hK hP hD hS hA rfl (by decide) (Nat.le_of_ble_eq_true rfl) (Nat.le_of_ble_eq_true rfl) d_Mo_init_200 (fun q116 H hP9 hD9 hS9 => ?_)
              obtain ⟨ws117, e_ws117⟩ : ∃ x : va_W, x = ws115 ++ [((q116, Sum.inr (9, [Value.null, Value.null, Value.null, Value.null, Value.null, Value.null, Value.null, Value.int 0, Value.int 0, Value.int 0, Value.int 0])) : Nat × va_E)] := ⟨_, rfl⟩
              replace hP : va_P D classes ws117 H := by rw [e_ws117]; exact hP9
              replace hD : va_D A ws117 := by rw [e_ws117]; exact hD9
              replace hS := hS9
              clear hP9 hD9 hS9
              have f_108_ws117 : ws117[108]? = some ((q116, Sum.inr (9, [Value.null, Value.null, Value.null, Value.null, Value.null, Value.null, Value.null, Value.int 0, Value.int 0, Value.int 0, Value.int 0])) : Nat × va_E) := by rw [e_ws117]; exact gs_last hlen
              replace hlen : ws117.length = 109 := by rw [e_ws117]; exact gs_len hlen
              replace hU : gx_g ws ws117 62 [46] := by rw [e_ws117]; exact hU.push
              refine W.widen (k := 67) (n := 449023) (by decide) (by decide) ?_
              refine lv_dup hx hb d_Mo_init_203 rfl ?_
              refine gx_call (ig := .invokespecial 39) (c_Ve_init l htr D tys z _ ws117 cI cZ q116 108 109 f_108_ws117 ht0 ht1 hlen (by decide)) (gx_invIN (As := []) (rest := [Value.ref q116, Value.int 3, Value.ref q78, Value.ref q78, Value.ref a]) hx hb hown hts km_Mo_39 kI_Ve_init kc_Ve_init (by decide) rfl (show (parseMethodDescriptor y_Ve_init.desc).map (fun d => d.parameters.length) = some 0 by decide +kernel) rfl rfl d_Mo_init_204) (gx_cw (z := 0) hts kc_Ve_init kN_Ve rfl rfl ⟨Nat.le_of_ble_eq_true rfl, Nat.le_of_ble_eq_true rfl⟩) hb hml gx_blind (gx_pre hz hP hK hD hY hS hAz [Value.ref q116]) rfl hl.1 (lv_room (Nat.le_of_ble_eq_true rfl)) d_Mo_init_204 ⟨Nat.le_of_ble_eq_true rfl, Nat.le_of_ble_eq_true rfl⟩ (fun v118 st118 t118 L118 h0_118 hW_118 hQ_118 hL_118 => ?_) (fun v118 st118 t118 L118 h0_118 hW_118 hQ_118 hL_118 => ?_)
              · obtain ⟨ws119, hp, hP9, -, hD9, hS9⟩ := gx_back h0_118 hW_118 hQ_118 hL_118 hD hS hA
                clear hQ_118 h0_118 hL_118 hW_118 hP hD hS
                have hP := hP9
                have hD := hD9
                have hS := hS9
                clear hP9 hD9 hS9
                rcases hp with ⟨q120, q121, q122, q123, q124, q125, q126, hv9, e_ws119, f_108_ws119, f_109_ws119, f_110_ws119, f_111_ws119, f_112_ws119, f_113_ws119, f_114_ws119, f_115_ws119⟩
                cases hv9
                have f_108_ws119 : ws119[108]? = some ((q116, Sum.inr (9, [Value.ref q120, Value.ref q121, Value.ref q122, Value.ref q123, Value.ref q124, Value.ref q125, Value.ref q126, Value.int 0, Value.int 0, Value.int 0, Value.int 0])) : Nat × va_E) := f_108_ws119
                have f_109_ws119 : ws119[109]? = some ((q120, Sum.inl (cI, 4097, Sum.inl (fun _ => 0))) : Nat × va_E) := f_109_ws119
                have f_110_ws119 : ws119[110]? = some ((q121, Sum.inl (cI, 4097, Sum.inl (fun _ => 0))) : Nat × va_E) := f_110_ws119
                have f_111_ws119 : ws119[111]? = some ((q122, Sum.inl (cI, 4098, Sum.inl (fun _ => 0))) : Nat × va_E) := f_111_ws119
                have f_112_ws119 : ws119[112]? = some ((q123, Sum.inl (cI, 4097, Sum.inl (fun _ => 0))) : Nat × va_E) := f_112_ws119
                have f_113_ws119 : ws119[113]? = some ((q124, Sum.inl (cI, 4096, Sum.inl (fun _ => 0))) : Nat × va_E) := f_113_ws119
                have f_114_ws119 : ws119[114]? = some ((q125, Sum.inl (cZ, 4096, Sum.inl (fun _ => 0))) : Nat × va_E) := f_114_ws119
                have f_115_ws119 : ws119[115]? = some ((q126, Sum.inl (cZ, 4096, Sum.inl (fun _ => 0))) : Nat × va_E) := f_115_ws119
                replace hlen : ws119.length = 116 := by rw [e_ws119.1, hlen]
                replace hU : gx_g ws ws119 69 [46] := hU.call e_ws119 (by rw [hlen0]; decide)
                refine W.eq (g2 := F0 m 207 ls [Value.ref q116, Value.int 3, Value.ref q78, Value.ref q78, Value.ref a]) rfl ?_
                refine W.widen (k := 74) (n := 477700) (by decide) (by decide) ?_
                generalize t118.heap = H at hP hS ⊢
                generalize locs ++ L118 = locs at hS ⊢
                have f_83_ws117 : ws117[83]? = some ((q78, Sum.inl (cV, 4, Sum.inr (Sum.inr (Sum.inr (Sum.inr (va_up (va_up (va_up (fun _ => none) 0 (some q80)) 1 (some q92)) 2 (some q104))))))) : Nat × va_E) := by rw [e_ws117]; exact gs_app f_83_ws115
                clear f_83_ws115
                have f_83_ws119 : ws119[83]? = some ((q78, Sum.inl (cV, 4, Sum.inr (Sum.inr (Sum.inr (Sum.inr (va_up (va_up (va_up (fun _ => none) 0 (some q80)) 1 (some q92)) 2 (some q104))))))) : Nat × va_E) := e_ws119.at (by first | decide | (simp; done) | (simp; omega)) f_83_ws117
                clear f_83_ws117
                refine gx_aast (D := D) (j := 3) hx hb hK hP hD hS 83 5 108 9 f_83_ws119 ht5 f_108_ws119 rfl (gx_inl (by decide)) (by decide) d_Mo_init_207 (fun H locs hP9 hD9 hS9 => ?_)
                obtain ⟨ws127, e_ws127⟩ : ∃ x : va_W, x = ws119.set 83 ((q78, Sum.inl (cV, 4, Sum.inr (Sum.inr (Sum.inr (Sum.inr (va_up (va_up (va_up (va_up (fun _ => none) 0 (some q80)) 1 (some q92)) 2 (some q104)) 3 (some q116))))))) : Nat × va_E) := ⟨_, rfl⟩
                replace hP : va_P D classes ws127 H := by rw [e_ws127]; exact hP9
                replace hD : va_D A ws127 := by rw [e_ws127]; exact hD9
                replace hS := hS9
                clear hP9 hD9 hS9
                have f_83_ws127 : ws127[83]? = some ((q78, Sum.inl (cV, 4, Sum.inr (Sum.inr (Sum.inr (Sum.inr (va_up (va_up (va_up (va_up (fun _ => none) 0 (some q80)) 1 (some q92)) 2 (some q104)) 3 (some q116))))))) : Nat × va_E) := by rw [e_ws127]; exact gs_self f_83_ws119
                replace hlen : ws127.length = 116 := by rw [e_ws127]; exact gs_lens hlen
                replace hU : gx_g ws ws127 69 [46] := by rw [e_ws127]; exact hU.put (Or.inr (by rw [hlen0]; decide))
                have f_46_ws79 : ws79[46]? = some ((a, Sum.inr (8, [Value.int 0, Value.int 0, Value.ref q1, Value.ref q4, Value.ref q7, Value.int 0, Value.ref q10, Value.ref q13, Value.ref q16, Value.ref q19, Value.int 0, Value.int 0, Value.int 0, Value.int (-1), Value.int 0, Value.ref q23, Value.ref q35, Value.ref q47, Value.int 0, Value.int 0, Value.int 0, Value.ref q59, Value.ref q62, Value.int 0, Value.int 16, Value.int 4, Value.ref q67, Value.ref q69, Value.ref q72, Value.ref q75, Value.int 0, Value.null, Value.int 0, Value.int 0, Value.int 0])) : Nat × va_E) := by rw [e_ws79]; exact gs_app f_46_ws77
                clear f_46_ws77
                have f_46_ws81 : ws81[46]? = some ((a, Sum.inr (8, [Value.int 0, Value.int 0, Value.ref q1, Value.ref q4, Value.ref q7, Value.int 0, Value.ref q10, Value.ref q13, Value.ref q16, Value.ref q19, Value.int 0, Value.int 0, Value.int 0, Value.int (-1), Value.int 0, Value.ref q23, Value.ref q35, Value.ref q47, Value.int 0, Value.int 0, Value.int 0, Value.ref q59, Value.ref q62, Value.int 0, Value.int 16, Value.int 4, Value.ref q67, Value.ref q69, Value.ref q72, Value.ref q75, Value.int 0, Value.null, Value.int 0, Value.int 0, Value.int 0])) : Nat × va_E) := by rw [e_ws81]; exact gs_app f_46_ws79
                clear f_46_ws79
                have f_46_ws83 : ws83[46]? = some ((a, Sum.inr (8, [Value.int 0, Value.int 0, Value.ref q1, Value.ref q4, Value.ref q7, Value.int 0, Value.ref q10, Value.ref q13, Value.ref q16, Value.ref q19, Value.int 0, Value.int 0, Value.int 0, Value.int (-1), Value.int 0, Value.ref q23, Value.ref q35, Value.ref q47, Value.int 0, Value.int 0, Value.int 0, Value.ref q59, Value.ref q62, Value.int 0, Value.int 16, Value.int 4, Value.ref q67, Value.ref q69, Value.ref q72, Value.ref q75, Value.int 0, Value.null, Value.int 0, Value.int 0, Value.int 0])) : Nat × va_E) := e_ws83.at (by first | decide | (simp; done) | (simp; omega)) f_46_ws81
                clear f_46_ws81
                have f_46_ws91 : ws91[46]? = some ((a, Sum.inr (8, [Value.int 0, Value.int 0, Value.ref q1, Value.ref q4, Value.ref q7, Value.int 0, Value.ref q10, Value.ref q13, Value.ref q16, Value.ref q19, Value.int 0, Value.int 0, Value.int 0, Value.int (-1), Value.int 0, Value.ref q23, Value.ref q35, Value.ref q47, Value.int 0, Value.int 0, Value.int 0, Value.ref q59, Value.ref q62, Value.int 0, Value.int 16, Value.int 4, Value.ref q67, Value.ref q69, Value.ref q72, Value.ref q75, Value.int 0, Value.null, Value.int 0, Value.int 0, Value.int 0])) : Nat × va_E) := by rw [e_ws91]; exact gs_ne (by decide) f_46_ws83
                clear f_46_ws83
                have f_46_ws93 : ws93[46]? = some ((a, Sum.inr (8, [Value.int 0, Value.int 0, Value.ref q1, Value.ref q4, Value.ref q7, Value.int 0, Value.ref q10, Value.ref q13, Value.ref q16, Value.ref q19, Value.int 0, Value.int 0, Value.int 0, Value.int (-1), Value.int 0, Value.ref q23, Value.ref q35, Value.ref q47, Value.int 0, Value.int 0, Value.int 0, Value.ref q59, Value.ref q62, Value.int 0, Value.int 16, Value.int 4, Value.ref q67, Value.ref q69, Value.ref q72, Value.ref q75, Value.int 0, Value.null, Value.int 0, Value.int 0, Value.int 0])) : Nat × va_E) := by rw [e_ws93]; exact gs_app f_46_ws91
                clear f_46_ws91
                have f_46_ws95 : ws95[46]? = some ((a, Sum.inr (8, [Value.int 0, Value.int 0, Value.ref q1, Value.ref q4, Value.ref q7, Value.int 0, Value.ref q10, Value.ref q13, Value.ref q16, Value.ref q19, Value.int 0, Value.int 0, Value.int 0, Value.int (-1), Value.int 0, Value.ref q23, Value.ref q35, Value.ref q47, Value.int 0, Value.int 0, Value.int 0, Value.ref q59, Value.ref q62, Value.int 0, Value.int 16, Value.int 4, Value.ref q67, Value.ref q69, Value.ref q72, Value.ref q75, Value.int 0, Value.null, Value.int 0, Value.int 0, Value.int 0])) : Nat × va_E) := e_ws95.at (by first | decide | (simp; done) | (simp; omega)) f_46_ws93
                clear f_46_ws93
                have f_46_ws103 : ws103[46]? = some ((a, Sum.inr (8, [Value.int 0, Value.int 0, Value.ref q1, Value.ref q4, Value.ref q7, Value.int 0, Value.ref q10, Value.ref q13, Value.ref q16, Value.ref q19, Value.int 0, Value.int 0, Value.int 0, Value.int (-1), Value.int 0, Value.ref q23, Value.ref q35, Value.ref q47, Value.int 0, Value.int 0, Value.int 0, Value.ref q59, Value.ref q62, Value.int 0, Value.int 16, Value.int 4, Value.ref q67, Value.ref q69, Value.ref q72, Value.ref q75, Value.int 0, Value.null, Value.int 0, Value.int 0, Value.int 0])) : Nat × va_E) := by rw [e_ws103]; exact gs_ne (by decide) f_46_ws95
                clear f_46_ws95
                have f_46_ws105 : ws105[46]? = some ((a, Sum.inr (8, [Value.int 0, Value.int 0, Value.ref q1, Value.ref q4, Value.ref q7, Value.int 0, Value.ref q10, Value.ref q13, Value.ref q16, Value.ref q19, Value.int 0, Value.int 0, Value.int 0, Value.int (-1), Value.int 0, Value.ref q23, Value.ref q35, Value.ref q47, Value.int 0, Value.int 0, Value.int 0, Value.ref q59, Value.ref q62, Value.int 0, Value.int 16, Value.int 4, Value.ref q67, Value.ref q69, Value.ref q72, Value.ref q75, Value.int 0, Value.null, Value.int 0, Value.int 0, Value.int 0])) : Nat × va_E) := by rw [e_ws105]; exact gs_app f_46_ws103
                clear f_46_ws103
                have f_46_ws107 : ws107[46]? = some ((a, Sum.inr (8, [Value.int 0, Value.int 0, Value.ref q1, Value.ref q4, Value.ref q7, Value.int 0, Value.ref q10, Value.ref q13, Value.ref q16, Value.ref q19, Value.int 0, Value.int 0, Value.int 0, Value.int (-1), Value.int 0, Value.ref q23, Value.ref q35, Value.ref q47, Value.int 0, Value.int 0, Value.int 0, Value.ref q59, Value.ref q62, Value.int 0, Value.int 16, Value.int 4, Value.ref q67, Value.ref q69, Value.ref q72, Value.ref q75, Value.int 0, Value.null, Value.int 0, Value.int 0, Value.int 0])) : Nat × va_E) := e_ws107.at (by first | decide | (simp; done) | (simp; omega)) f_46_ws105
                clear f_46_ws105
                have f_46_ws115 : ws115[46]? = some ((a, Sum.inr (8, [Value.int 0, Value.int 0, Value.ref q1, Value.ref q4, Value.ref q7, Value.int 0, Value.ref q10, Value.ref q13, Value.ref q16, Value.ref q19, Value.int 0, Value.int 0, Value.int 0, Value.int (-1), Value.int 0, Value.ref q23, Value.ref q35, Value.ref q47, Value.int 0, Value.int 0, Value.int 0, Value.ref q59, Value.ref q62, Value.int 0, Value.int 16, Value.int 4, Value.ref q67, Value.ref q69, Value.ref q72, Value.ref q75, Value.int 0, Value.null, Value.int 0, Value.int 0, Value.int 0])) : Nat × va_E) := by rw [e_ws115]; exact gs_ne (by decide) f_46_ws107
                clear f_46_ws107
                have f_46_ws117 : ws117[46]? = some ((a, Sum.inr (8, [Value.int 0, Value.int 0, Value.ref q1, Value.ref q4, Value.ref q7, Value.int 0, Value.ref q10, Value.ref q13, Value.ref q16, Value.ref q19, Value.int 0, Value.int 0, Value.int 0, Value.int (-1), Value.int 0, Value.ref q23, Value.ref q35, Value.ref q47, Value.int 0, Value.int 0, Value.int 0, Value.ref q59, Value.ref q62, Value.int 0, Value.int 16, Value.int 4, Value.ref q67, Value.ref q69, Value.ref q72, Value.ref q75, Value.int 0, Value.null, Value.int 0, Value.int 0, Value.int 0])) : Nat × va_E) := by rw [e_ws117]; exact gs_app f_46_ws115
                clear f_46_ws115
                have f_46_ws119 : ws119[46]? = some ((a, Sum.inr (8, [Value.int 0, Value.int 0, Value.ref q1, Value.ref q4, Value.ref q7, Value.int 0, Value.ref q10, Value.ref q13, Value.ref q16, Value.ref q19, Value.int 0, Value.int 0, Value.int 0, Value.int (-1), Value.int 0, Value.ref q23, Value.ref q35, Value.ref q47, Value.int 0, Value.int 0, Value.int 0, Value.ref q59, Value.ref q62, Value.int 0, Value.int 16, Value.int 4, Value.ref q67, Value.ref q69, Value.ref q72, Value.ref q75, Value.int 0, Value.null, Value.int 0, Value.int 0, Value.int 0])) : Nat × va_E) := e_ws119.at (by first | decide | (simp; done) | (simp; omega)) f_46_ws117
                clear f_46_ws117
                have f_46_ws127 : ws127[46]? = some ((a, Sum.inr (8, [Value.int 0, Value.int 0, Value.ref q1, Value.ref q4, Value.ref q7, Value.int 0, Value.ref q10, Value.ref q13, Value.ref q16, Value.ref q19, Value.int 0, Value.int 0, Value.int 0, Value.int (-1), Value.int 0, Value.ref q23, Value.ref q35, Value.ref q47, Value.int 0, Value.int 0, Value.int 0, Value.ref q59, Value.ref q62, Value.int 0, Value.int 16, Value.int 4, Value.ref q67, Value.ref q69, Value.ref q72, Value.ref q75, Value.int 0, Value.null, Value.int 0, Value.int 0, Value.int 0])) : Nat × va_E) := by rw [e_ws127]; exact gs_ne (by decide) f_46_ws119
                clear f_46_ws119
                refine va_putF (D := D) (ci := 8) (v := Value.ref q78) (ty := .array (.object "CommitLedgerModel$Version")) (C := "CommitLedgerModel") (T := F_Mo) (N := 35) hx hb hts i_Mo t_Mo t_Mo_ok n_Mo hown hK hP hD hS 46 f_46_ws127 rfl 31 (by decide) (hts _ kf_Mo_76) (fun _ h9 => h9) rfl hin rfl (by decide +kernel) rfl rfl (Nat.le_of_ble_eq_true rfl) d_Mo_init_208 (fun H locs hP9 hD9 hS9 => ?_)
                obtain ⟨ws128, e_ws128⟩ : ∃ x : va_W, x = ws127.set 46 ((a, Sum.inr (8, [Value.int 0, Value.int 0, Value.ref q1, Value.ref q4, Value.ref q7, Value.int 0, Value.ref q10, Value.ref q13, Value.ref q16, Value.ref q19, Value.int 0, Value.int 0, Value.int 0, Value.int (-1), Value.int 0, Value.ref q23, Value.ref q35, Value.ref q47, Value.int 0, Value.int 0, Value.int 0, Value.ref q59, Value.ref q62, Value.int 0, Value.int 16, Value.int 4, Value.ref q67, Value.ref q69, Value.ref q72, Value.ref q75, Value.int 0, Value.ref q78, Value.int 0, Value.int 0, Value.int 0])) : Nat × va_E) := ⟨_, rfl⟩
                replace hP : va_P D classes ws128 H := by rw [e_ws128]; exact hP9
                replace hD : va_D A ws128 := by rw [e_ws128]; exact hD9
                replace hS := hS9
                clear hP9 hD9 hS9
                have f_46_ws128 : ws128[46]? = some ((a, Sum.inr (8, [Value.int 0, Value.int 0, Value.ref q1, Value.ref q4, Value.ref q7, Value.int 0, Value.ref q10, Value.ref q13, Value.ref q16, Value.ref q19, Value.int 0, Value.int 0, Value.int 0, Value.int (-1), Value.int 0, Value.ref q23, Value.ref q35, Value.ref q47, Value.int 0, Value.int 0, Value.int 0, Value.ref q59, Value.ref q62, Value.int 0, Value.int 16, Value.int 4, Value.ref q67, Value.ref q69, Value.ref q72, Value.ref q75, Value.int 0, Value.ref q78, Value.int 0, Value.int 0, Value.int 0])) : Nat × va_E) := by rw [e_ws128]; exact gs_self f_46_ws127
                replace hlen : ws128.length = 116 := by rw [e_ws128]; exact gs_lens hlen
                replace hU : gx_g ws ws128 69 [46] := by rw [e_ws128]; exact hU.put (Or.inl (by simp))
                have f_47_ws3 : ws3[47]? = some ((q1, Sum.inl (cI, 4096, Sum.inl (fun _ => 0))) : Nat × va_E) := by rw [e_ws3]; exact gs_ne (by decide) f_47_ws2
                clear f_47_ws2
                have f_47_ws5 : ws5[47]? = some ((q1, Sum.inl (cI, 4096, Sum.inl (fun _ => 0))) : Nat × va_E) := by rw [e_ws5]; exact gs_app f_47_ws3
                clear f_47_ws3
                have f_47_ws6 : ws6[47]? = some ((q1, Sum.inl (cI, 4096, Sum.inl (fun _ => 0))) : Nat × va_E) := by rw [e_ws6]; exact gs_ne (by decide) f_47_ws5
                clear f_47_ws5
                have f_47_ws8 : ws8[47]? = some ((q1, Sum.inl (cI, 4096, Sum.inl (fun _ => 0))) : Nat × va_E) := by rw [e_ws8]; exact gs_app f_47_ws6
                clear f_47_ws6
                have f_47_ws9 : ws9[47]? = some ((q1, Sum.inl (cI, 4096, Sum.inl (fun _ => 0))) : Nat × va_E) := by rw [e_ws9]; exact gs_ne (by decide) f_47_ws8
                clear f_47_ws8
                have f_47_ws11 : ws11[47]? = some ((q1, Sum.inl (cI, 4096, Sum.inl (fun _ => 0))) : Nat × va_E) := by rw [e_ws11]; exact gs_app f_47_ws9
                clear f_47_ws9
                have f_47_ws12 : ws12[47]? = some ((q1, Sum.inl (cI, 4096, Sum.inl (fun _ => 0))) : Nat × va_E) := by rw [e_ws12]; exact gs_ne (by decide) f_47_ws11
                clear f_47_ws11
                have f_47_ws14 : ws14[47]? = some ((q1, Sum.inl (cI, 4096, Sum.inl (fun _ => 0))) : Nat × va_E) := by rw [e_ws14]; exact gs_app f_47_ws12
                clear f_47_ws12
                have f_47_ws15 : ws15[47]? = some ((q1, Sum.inl (cI, 4096, Sum.inl (fun _ => 0))) : Nat × va_E) := by rw [e_ws15]; exact gs_ne (by decide) f_47_ws14
                clear f_47_ws14
                have f_47_ws17 : ws17[47]? = some ((q1, Sum.inl (cI, 4096, Sum.inl (fun _ => 0))) : Nat × va_E) := by rw [e_ws17]; exact gs_app f_47_ws15
                clear f_47_ws15
                have f_47_ws18 : ws18[47]? = some ((q1, Sum.inl (cI, 4096, Sum.inl (fun _ => 0))) : Nat × va_E) := by rw [e_ws18]; exact gs_ne (by decide) f_47_ws17
                clear f_47_ws17
                have f_47_ws20 : ws20[47]? = some ((q1, Sum.inl (cI, 4096, Sum.inl (fun _ => 0))) : Nat × va_E) := by rw [e_ws20]; exact gs_app f_47_ws18
                clear f_47_ws18
                have f_47_ws21 : ws21[47]? = some ((q1, Sum.inl (cI, 4096, Sum.inl (fun _ => 0))) : Nat × va_E) := by rw [e_ws21]; exact gs_ne (by decide) f_47_ws20
                clear f_47_ws20
                have f_47_ws22 : ws22[47]? = some ((q1, Sum.inl (cI, 4096, Sum.inl (fun _ => 0))) : Nat × va_E) := by rw [e_ws22]; exact gs_ne (by decide) f_47_ws21
                clear f_47_ws21
                have f_47_ws24 : ws24[47]? = some ((q1, Sum.inl (cI, 4096, Sum.inl (fun _ => 0))) : Nat × va_E) := by rw [e_ws24]; exact gs_app f_47_ws22
                clear f_47_ws22
                have f_47_ws26 : ws26[47]? = some ((q1, Sum.inl (cI, 4096, Sum.inl (fun _ => 0))) : Nat × va_E) := e_ws26.at (by first | decide | (simp; done) | (simp; omega)) f_47_ws24
                clear f_47_ws24
                have f_47_ws34 : ws34[47]? = some ((q1, Sum.inl (cI, 4096, Sum.inl (fun _ => 0))) : Nat × va_E) := by rw [e_ws34]; exact gs_ne (by decide) f_47_ws26
                clear f_47_ws26
                have f_47_ws36 : ws36[47]? = some ((q1, Sum.inl (cI, 4096, Sum.inl (fun _ => 0))) : Nat × va_E) := by rw [e_ws36]; exact gs_app f_47_ws34
                clear f_47_ws34
                have f_47_ws38 : ws38[47]? = some ((q1, Sum.inl (cI, 4096, Sum.inl (fun _ => 0))) : Nat × va_E) := e_ws38.at (by first | decide | (simp; done) | (simp; omega)) f_47_ws36
                clear f_47_ws36
                have f_47_ws46 : ws46[47]? = some ((q1, Sum.inl (cI, 4096, Sum.inl (fun _ => 0))) : Nat × va_E) := by rw [e_ws46]; exact gs_ne (by decide) f_47_ws38
                clear f_47_ws38
                have f_47_ws48 : ws48[47]? = some ((q1, Sum.inl (cI, 4096, Sum.inl (fun _ => 0))) : Nat × va_E) := by rw [e_ws48]; exact gs_app f_47_ws46
                clear f_47_ws46
                have f_47_ws50 : ws50[47]? = some ((q1, Sum.inl (cI, 4096, Sum.inl (fun _ => 0))) : Nat × va_E) := e_ws50.at (by first | decide | (simp; done) | (simp; omega)) f_47_ws48
                clear f_47_ws48
                have f_47_ws58 : ws58[47]? = some ((q1, Sum.inl (cI, 4096, Sum.inl (fun _ => 0))) : Nat × va_E) := by rw [e_ws58]; exact gs_ne (by decide) f_47_ws50
                clear f_47_ws50
                have f_47_ws60 : ws60[47]? = some ((q1, Sum.inl (cI, 4096, Sum.inl (fun _ => 0))) : Nat × va_E) := by rw [e_ws60]; exact gs_app f_47_ws58
                clear f_47_ws58
                have f_47_ws61 : ws61[47]? = some ((q1, Sum.inl (cI, 4096, Sum.inl (fun _ => 0))) : Nat × va_E) := by rw [e_ws61]; exact gs_ne (by decide) f_47_ws60
                clear f_47_ws60
                have f_47_ws63 : ws63[47]? = some ((q1, Sum.inl (cI, 4096, Sum.inl (fun _ => 0))) : Nat × va_E) := by rw [e_ws63]; exact gs_app f_47_ws61
                clear f_47_ws61
                have f_47_ws64 : ws64[47]? = some ((q1, Sum.inl (cI, 4096, Sum.inl (fun _ => 0))) : Nat × va_E) := by rw [e_ws64]; exact gs_ne (by decide) f_47_ws63
                clear f_47_ws63
                have f_47_ws65 : ws65[47]? = some ((q1, Sum.inl (cI, 4096, Sum.inl (fun _ => 0))) : Nat × va_E) := by rw [e_ws65]; exact gs_ne (by decide) f_47_ws64
                clear f_47_ws64
                have f_47_ws66 : ws66[47]? = some ((q1, Sum.inl (cI, 4096, Sum.inl (fun _ => 0))) : Nat × va_E) := by rw [e_ws66]; exact gs_ne (by decide) f_47_ws65
                clear f_47_ws65
                have f_47_ws68 : ws68[47]? = some ((q1, Sum.inl (cI, 4096, Sum.inl (fun _ => 0))) : Nat × va_E) := by rw [e_ws68]; exact gs_ne (by decide) f_47_ws66
                clear f_47_ws66
                have f_47_ws70 : ws70[47]? = some ((q1, Sum.inl (cI, 4096, Sum.inl (fun _ => 0))) : Nat × va_E) := by rw [e_ws70]; exact gs_app f_47_ws68
                clear f_47_ws68
                have f_47_ws71 : ws71[47]? = some ((q1, Sum.inl (cI, 4096, Sum.inl (fun _ => 0))) : Nat × va_E) := by rw [e_ws71]; exact gs_ne (by decide) f_47_ws70
                clear f_47_ws70
                have f_47_ws73 : ws73[47]? = some ((q1, Sum.inl (cI, 4096, Sum.inl (fun _ => 0))) : Nat × va_E) := by rw [e_ws73]; exact gs_app f_47_ws71
                clear f_47_ws71
                have f_47_ws74 : ws74[47]? = some ((q1, Sum.inl (cI, 4096, Sum.inl (fun _ => 0))) : Nat × va_E) := by rw [e_ws74]; exact gs_ne (by decide) f_47_ws73
                clear f_47_ws73
                have f_47_ws76 : ws76[47]? = some ((q1, Sum.inl (cI, 4096, Sum.inl (fun _ => 0))) : Nat × va_E) := by rw [e_ws76]; exact gs_app f_47_ws74
                clear f_47_ws74
                have f_47_ws77 : ws77[47]? = some ((q1, Sum.inl (cI, 4096, Sum.inl (fun _ => 0))) : Nat × va_E) := by rw [e_ws77]; exact gs_ne (by decide) f_47_ws76
                clear f_47_ws76
                have f_47_ws79 : ws79[47]? = some ((q1, Sum.inl (cI, 4096, Sum.inl (fun _ => 0))) : Nat × va_E) := by rw [e_ws79]; exact gs_app f_47_ws77
                clear f_47_ws77
                have f_47_ws81 : ws81[47]? = some ((q1, Sum.inl (cI, 4096, Sum.inl (fun _ => 0))) : Nat × va_E) := by rw [e_ws81]; exact gs_app f_47_ws79
                clear f_47_ws79
                have f_47_ws83 : ws83[47]? = some ((q1, Sum.inl (cI, 4096, Sum.inl (fun _ => 0))) : Nat × va_E) := e_ws83.at (by first | decide | (simp; done) | (simp; omega)) f_47_ws81
                clear f_47_ws81
                have f_47_ws91 : ws91[47]? = some ((q1, Sum.inl (cI, 4096, Sum.inl (fun _ => 0))) : Nat × va_E) := by rw [e_ws91]; exact gs_ne (by decide) f_47_ws83
                clear f_47_ws83
                have f_47_ws93 : ws93[47]? = some ((q1, Sum.inl (cI, 4096, Sum.inl (fun _ => 0))) : Nat × va_E) := by rw [e_ws93]; exact gs_app f_47_ws91
                clear f_47_ws91
                have f_47_ws95 : ws95[47]? = some ((q1, Sum.inl (cI, 4096, Sum.inl (fun _ => 0))) : Nat × va_E) := e_ws95.at (by first | decide | (simp; done) | (simp; omega)) f_47_ws93
                clear f_47_ws93
                have f_47_ws103 : ws103[47]? = some ((q1, Sum.inl (cI, 4096, Sum.inl (fun _ => 0))) : Nat × va_E) := by rw [e_ws103]; exact gs_ne (by decide) f_47_ws95
                clear f_47_ws95
                have f_47_ws105 : ws105[47]? = some ((q1, Sum.inl (cI, 4096, Sum.inl (fun _ => 0))) : Nat × va_E) := by rw [e_ws105]; exact gs_app f_47_ws103
                clear f_47_ws103
                have f_47_ws107 : ws107[47]? = some ((q1, Sum.inl (cI, 4096, Sum.inl (fun _ => 0))) : Nat × va_E) := e_ws107.at (by first | decide | (simp; done) | (simp; omega)) f_47_ws105
                clear f_47_ws105
                have f_47_ws115 : ws115[47]? = some ((q1, Sum.inl (cI, 4096, Sum.inl (fun _ => 0))) : Nat × va_E) := by rw [e_ws115]; exact gs_ne (by decide) f_47_ws107
                clear f_47_ws107
                have f_47_ws117 : ws117[47]? = some ((q1, Sum.inl (cI, 4096, Sum.inl (fun _ => 0))) : Nat × va_E) := by rw [e_ws117]; exact gs_app f_47_ws115
                clear f_47_ws115
                have f_47_ws119 : ws119[47]? = some ((q1, Sum.inl (cI, 4096, Sum.inl (fun _ => 0))) : Nat × va_E) := e_ws119.at (by first | decide | (simp; done) | (simp; omega)) f_47_ws117
                clear f_47_ws117
                have f_47_ws127 : ws127[47]? = some ((q1, Sum.inl (cI, 4096, Sum.inl (fun _ => 0))) : Nat × va_E) := by rw [e_ws127]; exact gs_ne (by decide) f_47_ws119
                clear f_47_ws119
                have f_47_ws128 : ws128[47]? = some ((q1, Sum.inl (cI, 4096, Sum.inl (fun _ => 0))) : Nat × va_E) := by rw [e_ws128]; exact gs_ne (by decide) f_47_ws127
                clear f_47_ws127
                have f_48_ws6 : ws6[48]? = some ((q4, Sum.inl (cI, 4096, Sum.inl (fun _ => 0))) : Nat × va_E) := by rw [e_ws6]; exact gs_ne (by decide) f_48_ws5
                clear f_48_ws5
                have f_48_ws8 : ws8[48]? = some ((q4, Sum.inl (cI, 4096, Sum.inl (fun _ => 0))) : Nat × va_E) := by rw [e_ws8]; exact gs_app f_48_ws6
                clear f_48_ws6
                have f_48_ws9 : ws9[48]? = some ((q4, Sum.inl (cI, 4096, Sum.inl (fun _ => 0))) : Nat × va_E) := by rw [e_ws9]; exact gs_ne (by decide) f_48_ws8
                clear f_48_ws8
                have f_48_ws11 : ws11[48]? = some ((q4, Sum.inl (cI, 4096, Sum.inl (fun _ => 0))) : Nat × va_E) := by rw [e_ws11]; exact gs_app f_48_ws9
                clear f_48_ws9
                have f_48_ws12 : ws12[48]? = some ((q4, Sum.inl (cI, 4096, Sum.inl (fun _ => 0))) : Nat × va_E) := by rw [e_ws12]; exact gs_ne (by decide) f_48_ws11
                clear f_48_ws11
                have f_48_ws14 : ws14[48]? = some ((q4, Sum.inl (cI, 4096, Sum.inl (fun _ => 0))) : Nat × va_E) := by rw [e_ws14]; exact gs_app f_48_ws12
                clear f_48_ws12
                have f_48_ws15 : ws15[48]? = some ((q4, Sum.inl (cI, 4096, Sum.inl (fun _ => 0))) : Nat × va_E) := by rw [e_ws15]; exact gs_ne (by decide) f_48_ws14
                clear f_48_ws14
                have f_48_ws17 : ws17[48]? = some ((q4, Sum.inl (cI, 4096, Sum.inl (fun _ => 0))) : Nat × va_E) := by rw [e_ws17]; exact gs_app f_48_ws15
                clear f_48_ws15
                have f_48_ws18 : ws18[48]? = some ((q4, Sum.inl (cI, 4096, Sum.inl (fun _ => 0))) : Nat × va_E) := by rw [e_ws18]; exact gs_ne (by decide) f_48_ws17
                clear f_48_ws17
                have f_48_ws20 : ws20[48]? = some ((q4, Sum.inl (cI, 4096, Sum.inl (fun _ => 0))) : Nat × va_E) := by rw [e_ws20]; exact gs_app f_48_ws18
                clear f_48_ws18
                have f_48_ws21 : ws21[48]? = some ((q4, Sum.inl (cI, 4096, Sum.inl (fun _ => 0))) : Nat × va_E) := by rw [e_ws21]; exact gs_ne (by decide) f_48_ws20
                clear f_48_ws20
                have f_48_ws22 : ws22[48]? = some ((q4, Sum.inl (cI, 4096, Sum.inl (fun _ => 0))) : Nat × va_E) := by rw [e_ws22]; exact gs_ne (by decide) f_48_ws21
                clear f_48_ws21
                have f_48_ws24 : ws24[48]? = some ((q4, Sum.inl (cI, 4096, Sum.inl (fun _ => 0))) : Nat × va_E) := by rw [e_ws24]; exact gs_app f_48_ws22
                clear f_48_ws22
                have f_48_ws26 : ws26[48]? = some ((q4, Sum.inl (cI, 4096, Sum.inl (fun _ => 0))) : Nat × va_E) := e_ws26.at (by first | decide | (simp; done) | (simp; omega)) f_48_ws24
                clear f_48_ws24
                have f_48_ws34 : ws34[48]? = some ((q4, Sum.inl (cI, 4096, Sum.inl (fun _ => 0))) : Nat × va_E) := by rw [e_ws34]; exact gs_ne (by decide) f_48_ws26
                clear f_48_ws26
                have f_48_ws36 : ws36[48]? = some ((q4, Sum.inl (cI, 4096, Sum.inl (fun _ => 0))) : Nat × va_E) := by rw [e_ws36]; exact gs_app f_48_ws34
                clear f_48_ws34
                have f_48_ws38 : ws38[48]? = some ((q4, Sum.inl (cI, 4096, Sum.inl (fun _ => 0))) : Nat × va_E) := e_ws38.at (by first | decide | (simp; done) | (simp; omega)) f_48_ws36
                clear f_48_ws36
                have f_48_ws46 : ws46[48]? = some ((q4, Sum.inl (cI, 4096, Sum.inl (fun _ => 0))) : Nat × va_E) := by rw [e_ws46]; exact gs_ne (by decide) f_48_ws38
                clear f_48_ws38
                have f_48_ws48 : ws48[48]? = some ((q4, Sum.inl (cI, 4096, Sum.inl (fun _ => 0))) : Nat × va_E) := by rw [e_ws48]; exact gs_app f_48_ws46
                clear f_48_ws46
                have f_48_ws50 : ws50[48]? = some ((q4, Sum.inl (cI, 4096, Sum.inl (fun _ => 0))) : Nat × va_E) := e_ws50.at (by first | decide | (simp; done) | (simp; omega)) f_48_ws48
                clear f_48_ws48
                have f_48_ws58 : ws58[48]? = some ((q4, Sum.inl (cI, 4096, Sum.inl (fun _ => 0))) : Nat × va_E) := by rw [e_ws58]; exact gs_ne (by decide) f_48_ws50
                clear f_48_ws50
                have f_48_ws60 : ws60[48]? = some ((q4, Sum.inl (cI, 4096, Sum.inl (fun _ => 0))) : Nat × va_E) := by rw [e_ws60]; exact gs_app f_48_ws58
                clear f_48_ws58
                have f_48_ws61 : ws61[48]? = some ((q4, Sum.inl (cI, 4096, Sum.inl (fun _ => 0))) : Nat × va_E) := by rw [e_ws61]; exact gs_ne (by decide) f_48_ws60
                clear f_48_ws60
                have f_48_ws63 : ws63[48]? = some ((q4, Sum.inl (cI, 4096, Sum.inl (fun _ => 0))) : Nat × va_E) := by rw [e_ws63]; exact gs_app f_48_ws61
                clear f_48_ws61
                have f_48_ws64 : ws64[48]? = some ((q4, Sum.inl (cI, 4096, Sum.inl (fun _ => 0))) : Nat × va_E) := by rw [e_ws64]; exact gs_ne (by decide) f_48_ws63
                clear f_48_ws63
                have f_48_ws65 : ws65[48]? = some ((q4, Sum.inl (cI, 4096, Sum.inl (fun _ => 0))) : Nat × va_E) := by rw [e_ws65]; exact gs_ne (by decide) f_48_ws64
                clear f_48_ws64
                have f_48_ws66 : ws66[48]? = some ((q4, Sum.inl (cI, 4096, Sum.inl (fun _ => 0))) : Nat × va_E) := by rw [e_ws66]; exact gs_ne (by decide) f_48_ws65
                clear f_48_ws65
                have f_48_ws68 : ws68[48]? = some ((q4, Sum.inl (cI, 4096, Sum.inl (fun _ => 0))) : Nat × va_E) := by rw [e_ws68]; exact gs_ne (by decide) f_48_ws66
                clear f_48_ws66
                have f_48_ws70 : ws70[48]? = some ((q4, Sum.inl (cI, 4096, Sum.inl (fun _ => 0))) : Nat × va_E) := by rw [e_ws70]; exact gs_app f_48_ws68
                clear f_48_ws68
                have f_48_ws71 : ws71[48]? = some ((q4, Sum.inl (cI, 4096, Sum.inl (fun _ => 0))) : Nat × va_E) := by rw [e_ws71]; exact gs_ne (by decide) f_48_ws70
                clear f_48_ws70
                have f_48_ws73 : ws73[48]? = some ((q4, Sum.inl (cI, 4096, Sum.inl (fun _ => 0))) : Nat × va_E) := by rw [e_ws73]; exact gs_app f_48_ws71
                clear f_48_ws71
                have f_48_ws74 : ws74[48]? = some ((q4, Sum.inl (cI, 4096, Sum.inl (fun _ => 0))) : Nat × va_E) := by rw [e_ws74]; exact gs_ne (by decide) f_48_ws73
                clear f_48_ws73
                have f_48_ws76 : ws76[48]? = some ((q4, Sum.inl (cI, 4096, Sum.inl (fun _ => 0))) : Nat × va_E) := by rw [e_ws76]; exact gs_app f_48_ws74
                clear f_48_ws74
                have f_48_ws77 : ws77[48]? = some ((q4, Sum.inl (cI, 4096, Sum.inl (fun _ => 0))) : Nat × va_E) := by rw [e_ws77]; exact gs_ne (by decide) f_48_ws76
                clear f_48_ws76
                have f_48_ws79 : ws79[48]? = some ((q4, Sum.inl (cI, 4096, Sum.inl (fun _ => 0))) : Nat × va_E) := by rw [e_ws79]; exact gs_app f_48_ws77
                clear f_48_ws77
                have f_48_ws81 : ws81[48]? = some ((q4, Sum.inl (cI, 4096, Sum.inl (fun _ => 0))) : Nat × va_E) := by rw [e_ws81]; exact gs_app f_48_ws79
                clear f_48_ws79
                have f_48_ws83 : ws83[48]? = some ((q4, Sum.inl (cI, 4096, Sum.inl (fun _ => 0))) : Nat × va_E) := e_ws83.at (by first | decide | (simp; done) | (simp; omega)) f_48_ws81
                clear f_48_ws81
                have f_48_ws91 : ws91[48]? = some ((q4, Sum.inl (cI, 4096, Sum.inl (fun _ => 0))) : Nat × va_E) := by rw [e_ws91]; exact gs_ne (by decide) f_48_ws83
                clear f_48_ws83
                have f_48_ws93 : ws93[48]? = some ((q4, Sum.inl (cI, 4096, Sum.inl (fun _ => 0))) : Nat × va_E) := by rw [e_ws93]; exact gs_app f_48_ws91
                clear f_48_ws91
                have f_48_ws95 : ws95[48]? = some ((q4, Sum.inl (cI, 4096, Sum.inl (fun _ => 0))) : Nat × va_E) := e_ws95.at (by first | decide | (simp; done) | (simp; omega)) f_48_ws93
                clear f_48_ws93
                have f_48_ws103 : ws103[48]? = some ((q4, Sum.inl (cI, 4096, Sum.inl (fun _ => 0))) : Nat × va_E) := by rw [e_ws103]; exact gs_ne (by decide) f_48_ws95
                clear f_48_ws95
                have f_48_ws105 : ws105[48]? = some ((q4, Sum.inl (cI, 4096, Sum.inl (fun _ => 0))) : Nat × va_E) := by rw [e_ws105]; exact gs_app f_48_ws103
                clear f_48_ws103
                have f_48_ws107 : ws107[48]? = some ((q4, Sum.inl (cI, 4096, Sum.inl (fun _ => 0))) : Nat × va_E) := e_ws107.at (by first | decide | (simp; done) | (simp; omega)) f_48_ws105
                clear f_48_ws105
                have f_48_ws115 : ws115[48]? = some ((q4, Sum.inl (cI, 4096, Sum.inl (fun _ => 0))) : Nat × va_E) := by rw [e_ws115]; exact gs_ne (by decide) f_48_ws107
                clear f_48_ws107
                have f_48_ws117 : ws117[48]? = some ((q4, Sum.inl (cI, 4096, Sum.inl (fun _ => 0))) : Nat × va_E) := by rw [e_ws117]; exact gs_app f_48_ws115
                clear f_48_ws115
                have f_48_ws119 : ws119[48]? = some ((q4, Sum.inl (cI, 4096, Sum.inl (fun _ => 0))) : Nat × va_E) := e_ws119.at (by first | decide | (simp; done) | (simp; omega)) f_48_ws117
                clear f_48_ws117
                have f_48_ws127 : ws127[48]? = some ((q4, Sum.inl (cI, 4096, Sum.inl (fun _ => 0))) : Nat × va_E) := by rw [e_ws127]; exact gs_ne (by decide) f_48_ws119
                clear f_48_ws119
                have f_48_ws128 : ws128[48]? = some ((q4, Sum.inl (cI, 4096, Sum.inl (fun _ => 0))) : Nat × va_E) := by rw [e_ws128]; exact gs_ne (by decide) f_48_ws127
                clear f_48_ws127
                have f_49_ws9 : ws9[49]? = some ((q7, Sum.inl (cI, 4096, Sum.inl (fun _ => 0))) : Nat × va_E) := by rw [e_ws9]; exact gs_ne (by decide) f_49_ws8
                clear f_49_ws8
                have f_49_ws11 : ws11[49]? = some ((q7, Sum.inl (cI, 4096, Sum.inl (fun _ => 0))) : Nat × va_E) := by rw [e_ws11]; exact gs_app f_49_ws9
                clear f_49_ws9
                have f_49_ws12 : ws12[49]? = some ((q7, Sum.inl (cI, 4096, Sum.inl (fun _ => 0))) : Nat × va_E) := by rw [e_ws12]; exact gs_ne (by decide) f_49_ws11
                clear f_49_ws11
                have f_49_ws14 : ws14[49]? = some ((q7, Sum.inl (cI, 4096, Sum.inl (fun _ => 0))) : Nat × va_E) := by rw [e_ws14]; exact gs_app f_49_ws12
                clear f_49_ws12
                have f_49_ws15 : ws15[49]? = some ((q7, Sum.inl (cI, 4096, Sum.inl (fun _ => 0))) : Nat × va_E) := by rw [e_ws15]; exact gs_ne (by decide) f_49_ws14
                clear f_49_ws14
                have f_49_ws17 : ws17[49]? = some ((q7, Sum.inl (cI, 4096, Sum.inl (fun _ => 0))) : Nat × va_E) := by rw [e_ws17]; exact gs_app f_49_ws15
                clear f_49_ws15
                have f_49_ws18 : ws18[49]? = some ((q7, Sum.inl (cI, 4096, Sum.inl (fun _ => 0))) : Nat × va_E) := by rw [e_ws18]; exact gs_ne (by decide) f_49_ws17
                clear f_49_ws17
                have f_49_ws20 : ws20[49]? = some ((q7, Sum.inl (cI, 4096, Sum.inl (fun _ => 0))) : Nat × va_E) := by rw [e_ws20]; exact gs_app f_49_ws18
                clear f_49_ws18
                have f_49_ws21 : ws21[49]? = some ((q7, Sum.inl (cI, 4096, Sum.inl (fun _ => 0))) : Nat × va_E) := by rw [e_ws21]; exact gs_ne (by decide) f_49_ws20
                clear f_49_ws20
                have f_49_ws22 : ws22[49]? = some ((q7, Sum.inl (cI, 4096, Sum.inl (fun _ => 0))) : Nat × va_E) := by rw [e_ws22]; exact gs_ne (by decide) f_49_ws21
                clear f_49_ws21
                have f_49_ws24 : ws24[49]? = some ((q7, Sum.inl (cI, 4096, Sum.inl (fun _ => 0))) : Nat × va_E) := by rw [e_ws24]; exact gs_app f_49_ws22
                clear f_49_ws22
                have f_49_ws26 : ws26[49]? = some ((q7, Sum.inl (cI, 4096, Sum.inl (fun _ => 0))) : Nat × va_E) := e_ws26.at (by first | decide | (simp; done) | (simp; omega)) f_49_ws24
                clear f_49_ws24
                have f_49_ws34 : ws34[49]? = some ((q7, Sum.inl (cI, 4096, Sum.inl (fun _ => 0))) : Nat × va_E) := by rw [e_ws34]; exact gs_ne (by decide) f_49_ws26
                clear f_49_ws26
                have f_49_ws36 : ws36[49]? = some ((q7, Sum.inl (cI, 4096, Sum.inl (fun _ => 0))) : Nat × va_E) := by rw [e_ws36]; exact gs_app f_49_ws34
                clear f_49_ws34
                have f_49_ws38 : ws38[49]? = some ((q7, Sum.inl (cI, 4096, Sum.inl (fun _ => 0))) : Nat × va_E) := e_ws38.at (by first | decide | (simp; done) | (simp; omega)) f_49_ws36
                clear f_49_ws36
                have f_49_ws46 : ws46[49]? = some ((q7, Sum.inl (cI, 4096, Sum.inl (fun _ => 0))) : Nat × va_E) := by rw [e_ws46]; exact gs_ne (by decide) f_49_ws38
                clear f_49_ws38
                have f_49_ws48 : ws48[49]? = some ((q7, Sum.inl (cI, 4096, Sum.inl (fun _ => 0))) : Nat × va_E) := by rw [e_ws48]; exact gs_app f_49_ws46
                clear f_49_ws46
                have f_49_ws50 : ws50[49]? = some ((q7, Sum.inl (cI, 4096, Sum.inl (fun _ => 0))) : Nat × va_E) := e_ws50.at (by first | decide | (simp; done) | (simp; omega)) f_49_ws48
                clear f_49_ws48
                have f_49_ws58 : ws58[49]? = some ((q7, Sum.inl (cI, 4096, Sum.inl (fun _ => 0))) : Nat × va_E) := by rw [e_ws58]; exact gs_ne (by decide) f_49_ws50
                clear f_49_ws50
                have f_49_ws60 : ws60[49]? = some ((q7, Sum.inl (cI, 4096, Sum.inl (fun _ => 0))) : Nat × va_E) := by rw [e_ws60]; exact gs_app f_49_ws58
                clear f_49_ws58
                have f_49_ws61 : ws61[49]? = some ((q7, Sum.inl (cI, 4096, Sum.inl (fun _ => 0))) : Nat × va_E) := by rw [e_ws61]; exact gs_ne (by decide) f_49_ws60
                clear f_49_ws60
                have f_49_ws63 : ws63[49]? = some ((q7, Sum.inl (cI, 4096, Sum.inl (fun _ => 0))) : Nat × va_E) := by rw [e_ws63]; exact gs_app f_49_ws61
                clear f_49_ws61
                have f_49_ws64 : ws64[49]? = some ((q7, Sum.inl (cI, 4096, Sum.inl (fun _ => 0))) : Nat × va_E) := by rw [e_ws64]; exact gs_ne (by decide) f_49_ws63
                clear f_49_ws63
                have f_49_ws65 : ws65[49]? = some ((q7, Sum.inl (cI, 4096, Sum.inl (fun _ => 0))) : Nat × va_E) := by rw [e_ws65]; exact gs_ne (by decide) f_49_ws64
                clear f_49_ws64
                have f_49_ws66 : ws66[49]? = some ((q7, Sum.inl (cI, 4096, Sum.inl (fun _ => 0))) : Nat × va_E) := by rw [e_ws66]; exact gs_ne (by decide) f_49_ws65
                clear f_49_ws65
                have f_49_ws68 : ws68[49]? = some ((q7, Sum.inl (cI, 4096, Sum.inl (fun _ => 0))) : Nat × va_E) := by rw [e_ws68]; exact gs_ne (by decide) f_49_ws66
                clear f_49_ws66
                have f_49_ws70 : ws70[49]? = some ((q7, Sum.inl (cI, 4096, Sum.inl (fun _ => 0))) : Nat × va_E) := by rw [e_ws70]; exact gs_app f_49_ws68
                clear f_49_ws68
                have f_49_ws71 : ws71[49]? = some ((q7, Sum.inl (cI, 4096, Sum.inl (fun _ => 0))) : Nat × va_E) := by rw [e_ws71]; exact gs_ne (by decide) f_49_ws70
                clear f_49_ws70
                have f_49_ws73 : ws73[49]? = some ((q7, Sum.inl (cI, 4096, Sum.inl (fun _ => 0))) : Nat × va_E) := by rw [e_ws73]; exact gs_app f_49_ws71
                clear f_49_ws71
                have f_49_ws74 : ws74[49]? = some ((q7, Sum.inl (cI, 4096, Sum.inl (fun _ => 0))) : Nat × va_E) := by rw [e_ws74]; exact gs_ne (by decide) f_49_ws73
                clear f_49_ws73
                have f_49_ws76 : ws76[49]? = some ((q7, Sum.inl (cI, 4096, Sum.inl (fun _ => 0))) : Nat × va_E) := by rw [e_ws76]; exact gs_app f_49_ws74
                clear f_49_ws74
                have f_49_ws77 : ws77[49]? = some ((q7, Sum.inl (cI, 4096, Sum.inl (fun _ => 0))) : Nat × va_E) := by rw [e_ws77]; exact gs_ne (by decide) f_49_ws76
                clear f_49_ws76
                have f_49_ws79 : ws79[49]? = some ((q7, Sum.inl (cI, 4096, Sum.inl (fun _ => 0))) : Nat × va_E) := by rw [e_ws79]; exact gs_app f_49_ws77
                clear f_49_ws77
                have f_49_ws81 : ws81[49]? = some ((q7, Sum.inl (cI, 4096, Sum.inl (fun _ => 0))) : Nat × va_E) := by rw [e_ws81]; exact gs_app f_49_ws79
                clear f_49_ws79
                have f_49_ws83 : ws83[49]? = some ((q7, Sum.inl (cI, 4096, Sum.inl (fun _ => 0))) : Nat × va_E) := e_ws83.at (by first | decide | (simp; done) | (simp; omega)) f_49_ws81
                clear f_49_ws81
                have f_49_ws91 : ws91[49]? = some ((q7, Sum.inl (cI, 4096, Sum.inl (fun _ => 0))) : Nat × va_E) := by rw [e_ws91]; exact gs_ne (by decide) f_49_ws83
                clear f_49_ws83
                have f_49_ws93 : ws93[49]? = some ((q7, Sum.inl (cI, 4096, Sum.inl (fun _ => 0))) : Nat × va_E) := by rw [e_ws93]; exact gs_app f_49_ws91
                clear f_49_ws91
                have f_49_ws95 : ws95[49]? = some ((q7, Sum.inl (cI, 4096, Sum.inl (fun _ => 0))) : Nat × va_E) := e_ws95.at (by first | decide | (simp; done) | (simp; omega)) f_49_ws93
                clear f_49_ws93
                have f_49_ws103 : ws103[49]? = some ((q7, Sum.inl (cI, 4096, Sum.inl (fun _ => 0))) : Nat × va_E) := by rw [e_ws103]; exact gs_ne (by decide) f_49_ws95
                clear f_49_ws95
                have f_49_ws105 : ws105[49]? = some ((q7, Sum.inl (cI, 4096, Sum.inl (fun _ => 0))) : Nat × va_E) := by rw [e_ws105]; exact gs_app f_49_ws103
                clear f_49_ws103
                have f_49_ws107 : ws107[49]? = some ((q7, Sum.inl (cI, 4096, Sum.inl (fun _ => 0))) : Nat × va_E) := e_ws107.at (by first | decide | (simp; done) | (simp; omega)) f_49_ws105
                clear f_49_ws105
                have f_49_ws115 : ws115[49]? = some ((q7, Sum.inl (cI, 4096, Sum.inl (fun _ => 0))) : Nat × va_E) := by rw [e_ws115]; exact gs_ne (by decide) f_49_ws107
                clear f_49_ws107
                have f_49_ws117 : ws117[49]? = some ((q7, Sum.inl (cI, 4096, Sum.inl (fun _ => 0))) : Nat × va_E) := by rw [e_ws117]; exact gs_app f_49_ws115
                clear f_49_ws115
                have f_49_ws119 : ws119[49]? = some ((q7, Sum.inl (cI, 4096, Sum.inl (fun _ => 0))) : Nat × va_E) := e_ws119.at (by first | decide | (simp; done) | (simp; omega)) f_49_ws117
                clear f_49_ws117
                have f_49_ws127 : ws127[49]? = some ((q7, Sum.inl (cI, 4096, Sum.inl (fun _ => 0))) : Nat × va_E) := by rw [e_ws127]; exact gs_ne (by decide) f_49_ws119
                clear f_49_ws119
                have f_49_ws128 : ws128[49]? = some ((q7, Sum.inl (cI, 4096, Sum.inl (fun _ => 0))) : Nat × va_E) := by rw [e_ws128]; exact gs_ne (by decide) f_49_ws127
                clear f_49_ws127
                have f_50_ws12 : ws12[50]? = some ((q10, Sum.inl (cI, 60000, Sum.inl (fun _ => 0))) : Nat × va_E) := by rw [e_ws12]; exact gs_ne (by decide) f_50_ws11
                clear f_50_ws11
                have f_50_ws14 : ws14[50]? = some ((q10, Sum.inl (cI, 60000, Sum.inl (fun _ => 0))) : Nat × va_E) := by rw [e_ws14]; exact gs_app f_50_ws12
                clear f_50_ws12
                have f_50_ws15 : ws15[50]? = some ((q10, Sum.inl (cI, 60000, Sum.inl (fun _ => 0))) : Nat × va_E) := by rw [e_ws15]; exact gs_ne (by decide) f_50_ws14
                clear f_50_ws14
                have f_50_ws17 : ws17[50]? = some ((q10, Sum.inl (cI, 60000, Sum.inl (fun _ => 0))) : Nat × va_E) := by rw [e_ws17]; exact gs_app f_50_ws15
                clear f_50_ws15
                have f_50_ws18 : ws18[50]? = some ((q10, Sum.inl (cI, 60000, Sum.inl (fun _ => 0))) : Nat × va_E) := by rw [e_ws18]; exact gs_ne (by decide) f_50_ws17
                clear f_50_ws17
                have f_50_ws20 : ws20[50]? = some ((q10, Sum.inl (cI, 60000, Sum.inl (fun _ => 0))) : Nat × va_E) := by rw [e_ws20]; exact gs_app f_50_ws18
                clear f_50_ws18
                have f_50_ws21 : ws21[50]? = some ((q10, Sum.inl (cI, 60000, Sum.inl (fun _ => 0))) : Nat × va_E) := by rw [e_ws21]; exact gs_ne (by decide) f_50_ws20
                clear f_50_ws20
                have f_50_ws22 : ws22[50]? = some ((q10, Sum.inl (cI, 60000, Sum.inl (fun _ => 0))) : Nat × va_E) := by rw [e_ws22]; exact gs_ne (by decide) f_50_ws21
                clear f_50_ws21
                have f_50_ws24 : ws24[50]? = some ((q10, Sum.inl (cI, 60000, Sum.inl (fun _ => 0))) : Nat × va_E) := by rw [e_ws24]; exact gs_app f_50_ws22
                clear f_50_ws22
                have f_50_ws26 : ws26[50]? = some ((q10, Sum.inl (cI, 60000, Sum.inl (fun _ => 0))) : Nat × va_E) := e_ws26.at (by first | decide | (simp; done) | (simp; omega)) f_50_ws24
                clear f_50_ws24
                have f_50_ws34 : ws34[50]? = some ((q10, Sum.inl (cI, 60000, Sum.inl (fun _ => 0))) : Nat × va_E) := by rw [e_ws34]; exact gs_ne (by decide) f_50_ws26
                clear f_50_ws26
                have f_50_ws36 : ws36[50]? = some ((q10, Sum.inl (cI, 60000, Sum.inl (fun _ => 0))) : Nat × va_E) := by rw [e_ws36]; exact gs_app f_50_ws34
                clear f_50_ws34
                have f_50_ws38 : ws38[50]? = some ((q10, Sum.inl (cI, 60000, Sum.inl (fun _ => 0))) : Nat × va_E) := e_ws38.at (by first | decide | (simp; done) | (simp; omega)) f_50_ws36
                clear f_50_ws36
                have f_50_ws46 : ws46[50]? = some ((q10, Sum.inl (cI, 60000, Sum.inl (fun _ => 0))) : Nat × va_E) := by rw [e_ws46]; exact gs_ne (by decide) f_50_ws38
                clear f_50_ws38
                have f_50_ws48 : ws48[50]? = some ((q10, Sum.inl (cI, 60000, Sum.inl (fun _ => 0))) : Nat × va_E) := by rw [e_ws48]; exact gs_app f_50_ws46
                clear f_50_ws46
                have f_50_ws50 : ws50[50]? = some ((q10, Sum.inl (cI, 60000, Sum.inl (fun _ => 0))) : Nat × va_E) := e_ws50.at (by first | decide | (simp; done) | (simp; omega)) f_50_ws48
                clear f_50_ws48
                have f_50_ws58 : ws58[50]? = some ((q10, Sum.inl (cI, 60000, Sum.inl (fun _ => 0))) : Nat × va_E) := by rw [e_ws58]; exact gs_ne (by decide) f_50_ws50
                clear f_50_ws50
                have f_50_ws60 : ws60[50]? = some ((q10, Sum.inl (cI, 60000, Sum.inl (fun _ => 0))) : Nat × va_E) := by rw [e_ws60]; exact gs_app f_50_ws58
                clear f_50_ws58
                have f_50_ws61 : ws61[50]? = some ((q10, Sum.inl (cI, 60000, Sum.inl (fun _ => 0))) : Nat × va_E) := by rw [e_ws61]; exact gs_ne (by decide) f_50_ws60
                clear f_50_ws60
                have f_50_ws63 : ws63[50]? = some ((q10, Sum.inl (cI, 60000, Sum.inl (fun _ => 0))) : Nat × va_E) := by rw [e_ws63]; exact gs_app f_50_ws61
                clear f_50_ws61
                have f_50_ws64 : ws64[50]? = some ((q10, Sum.inl (cI, 60000, Sum.inl (fun _ => 0))) : Nat × va_E) := by rw [e_ws64]; exact gs_ne (by decide) f_50_ws63
                clear f_50_ws63
                have f_50_ws65 : ws65[50]? = some ((q10, Sum.inl (cI, 60000, Sum.inl (fun _ => 0))) : Nat × va_E) := by rw [e_ws65]; exact gs_ne (by decide) f_50_ws64
                clear f_50_ws64
                have f_50_ws66 : ws66[50]? = some ((q10, Sum.inl (cI, 60000, Sum.inl (fun _ => 0))) : Nat × va_E) := by rw [e_ws66]; exact gs_ne (by decide) f_50_ws65
                clear f_50_ws65
                have f_50_ws68 : ws68[50]? = some ((q10, Sum.inl (cI, 60000, Sum.inl (fun _ => 0))) : Nat × va_E) := by rw [e_ws68]; exact gs_ne (by decide) f_50_ws66
                clear f_50_ws66
                have f_50_ws70 : ws70[50]? = some ((q10, Sum.inl (cI, 60000, Sum.inl (fun _ => 0))) : Nat × va_E) := by rw [e_ws70]; exact gs_app f_50_ws68
                clear f_50_ws68
                have f_50_ws71 : ws71[50]? = some ((q10, Sum.inl (cI, 60000, Sum.inl (fun _ => 0))) : Nat × va_E) := by rw [e_ws71]; exact gs_ne (by decide) f_50_ws70
                clear f_50_ws70
                have f_50_ws73 : ws73[50]? = some ((q10, Sum.inl (cI, 60000, Sum.inl (fun _ => 0))) : Nat × va_E) := by rw [e_ws73]; exact gs_app f_50_ws71
                clear f_50_ws71
                have f_50_ws74 : ws74[50]? = some ((q10, Sum.inl (cI, 60000, Sum.inl (fun _ => 0))) : Nat × va_E) := by rw [e_ws74]; exact gs_ne (by decide) f_50_ws73
                clear f_50_ws73
                have f_50_ws76 : ws76[50]? = some ((q10, Sum.inl (cI, 60000, Sum.inl (fun _ => 0))) : Nat × va_E) := by rw [e_ws76]; exact gs_app f_50_ws74
                clear f_50_ws74
                have f_50_ws77 : ws77[50]? = some ((q10, Sum.inl (cI, 60000, Sum.inl (fun _ => 0))) : Nat × va_E) := by rw [e_ws77]; exact gs_ne (by decide) f_50_ws76
                clear f_50_ws76
                have f_50_ws79 : ws79[50]? = some ((q10, Sum.inl (cI, 60000, Sum.inl (fun _ => 0))) : Nat × va_E) := by rw [e_ws79]; exact gs_app f_50_ws77
                clear f_50_ws77
                have f_50_ws81 : ws81[50]? = some ((q10, Sum.inl (cI, 60000, Sum.inl (fun _ => 0))) : Nat × va_E) := by rw [e_ws81]; exact gs_app f_50_ws79
                clear f_50_ws79
                have f_50_ws83 : ws83[50]? = some ((q10, Sum.inl (cI, 60000, Sum.inl (fun _ => 0))) : Nat × va_E) := e_ws83.at (by first | decide | (simp; done) | (simp; omega)) f_50_ws81
                clear f_50_ws81
                have f_50_ws91 : ws91[50]? = some ((q10, Sum.inl (cI, 60000, Sum.inl (fun _ => 0))) : Nat × va_E) := by rw [e_ws91]; exact gs_ne (by decide) f_50_ws83
                clear f_50_ws83
                have f_50_ws93 : ws93[50]? = some ((q10, Sum.inl (cI, 60000, Sum.inl (fun _ => 0))) : Nat × va_E) := by rw [e_ws93]; exact gs_app f_50_ws91
                clear f_50_ws91
                have f_50_ws95 : ws95[50]? = some ((q10, Sum.inl (cI, 60000, Sum.inl (fun _ => 0))) : Nat × va_E) := e_ws95.at (by first | decide | (simp; done) | (simp; omega)) f_50_ws93
                clear f_50_ws93
                have f_50_ws103 : ws103[50]? = some ((q10, Sum.inl (cI, 60000, Sum.inl (fun _ => 0))) : Nat × va_E) := by rw [e_ws103]; exact gs_ne (by decide) f_50_ws95
                clear f_50_ws95
                have f_50_ws105 : ws105[50]? = some ((q10, Sum.inl (cI, 60000, Sum.inl (fun _ => 0))) : Nat × va_E) := by rw [e_ws105]; exact gs_app f_50_ws103
                clear f_50_ws103
                have f_50_ws107 : ws107[50]? = some ((q10, Sum.inl (cI, 60000, Sum.inl (fun _ => 0))) : Nat × va_E) := e_ws107.at (by first | decide | (simp; done) | (simp; omega)) f_50_ws105
                clear f_50_ws105
                have f_50_ws115 : ws115[50]? = some ((q10, Sum.inl (cI, 60000, Sum.inl (fun _ => 0))) : Nat × va_E) := by rw [e_ws115]; exact gs_ne (by decide) f_50_ws107
                clear f_50_ws107
                have f_50_ws117 : ws117[50]? = some ((q10, Sum.inl (cI, 60000, Sum.inl (fun _ => 0))) : Nat × va_E) := by rw [e_ws117]; exact gs_app f_50_ws115
                clear f_50_ws115
                have f_50_ws119 : ws119[50]? = some ((q10, Sum.inl (cI, 60000, Sum.inl (fun _ => 0))) : Nat × va_E) := e_ws119.at (by first | decide | (simp; done) | (simp; omega)) f_50_ws117
                clear f_50_ws117
                have f_50_ws127 : ws127[50]? = some ((q10, Sum.inl (cI, 60000, Sum.inl (fun _ => 0))) : Nat × va_E) := by rw [e_ws127]; exact gs_ne (by decide) f_50_ws119
                clear f_50_ws119
                have f_50_ws128 : ws128[50]? = some ((q10, Sum.inl (cI, 60000, Sum.inl (fun _ => 0))) : Nat × va_E) := by rw [e_ws128]; exact gs_ne (by decide) f_50_ws127
                clear f_50_ws127
                have f_51_ws15 : ws15[51]? = some ((q13, Sum.inl (cZ, 60000, Sum.inl (fun _ => 0))) : Nat × va_E) := by rw [e_ws15]; exact gs_ne (by decide) f_51_ws14
                clear f_51_ws14
                have f_51_ws17 : ws17[51]? = some ((q13, Sum.inl (cZ, 60000, Sum.inl (fun _ => 0))) : Nat × va_E) := by rw [e_ws17]; exact gs_app f_51_ws15
                clear f_51_ws15
                have f_51_ws18 : ws18[51]? = some ((q13, Sum.inl (cZ, 60000, Sum.inl (fun _ => 0))) : Nat × va_E) := by rw [e_ws18]; exact gs_ne (by decide) f_51_ws17
                clear f_51_ws17
                have f_51_ws20 : ws20[51]? = some ((q13, Sum.inl (cZ, 60000, Sum.inl (fun _ => 0))) : Nat × va_E) := by rw [e_ws20]; exact gs_app f_51_ws18
                clear f_51_ws18
                have f_51_ws21 : ws21[51]? = some ((q13, Sum.inl (cZ, 60000, Sum.inl (fun _ => 0))) : Nat × va_E) := by rw [e_ws21]; exact gs_ne (by decide) f_51_ws20
                clear f_51_ws20
                have f_51_ws22 : ws22[51]? = some ((q13, Sum.inl (cZ, 60000, Sum.inl (fun _ => 0))) : Nat × va_E) := by rw [e_ws22]; exact gs_ne (by decide) f_51_ws21
                clear f_51_ws21
                have f_51_ws24 : ws24[51]? = some ((q13, Sum.inl (cZ, 60000, Sum.inl (fun _ => 0))) : Nat × va_E) := by rw [e_ws24]; exact gs_app f_51_ws22
                clear f_51_ws22
                have f_51_ws26 : ws26[51]? = some ((q13, Sum.inl (cZ, 60000, Sum.inl (fun _ => 0))) : Nat × va_E) := e_ws26.at (by first | decide | (simp; done) | (simp; omega)) f_51_ws24
                clear f_51_ws24
                have f_51_ws34 : ws34[51]? = some ((q13, Sum.inl (cZ, 60000, Sum.inl (fun _ => 0))) : Nat × va_E) := by rw [e_ws34]; exact gs_ne (by decide) f_51_ws26
                clear f_51_ws26
                have f_51_ws36 : ws36[51]? = some ((q13, Sum.inl (cZ, 60000, Sum.inl (fun _ => 0))) : Nat × va_E) := by rw [e_ws36]; exact gs_app f_51_ws34
                clear f_51_ws34
                have f_51_ws38 : ws38[51]? = some ((q13, Sum.inl (cZ, 60000, Sum.inl (fun _ => 0))) : Nat × va_E) := e_ws38.at (by first | decide | (simp; done) | (simp; omega)) f_51_ws36
                clear f_51_ws36
                have f_51_ws46 : ws46[51]? = some ((q13, Sum.inl (cZ, 60000, Sum.inl (fun _ => 0))) : Nat × va_E) := by rw [e_ws46]; exact gs_ne (by decide) f_51_ws38
                clear f_51_ws38
                have f_51_ws48 : ws48[51]? = some ((q13, Sum.inl (cZ, 60000, Sum.inl (fun _ => 0))) : Nat × va_E) := by rw [e_ws48]; exact gs_app f_51_ws46
                clear f_51_ws46
                have f_51_ws50 : ws50[51]? = some ((q13, Sum.inl (cZ, 60000, Sum.inl (fun _ => 0))) : Nat × va_E) := e_ws50.at (by first | decide | (simp; done) | (simp; omega)) f_51_ws48
                clear f_51_ws48
                have f_51_ws58 : ws58[51]? = some ((q13, Sum.inl (cZ, 60000, Sum.inl (fun _ => 0))) : Nat × va_E) := by rw [e_ws58]; exact gs_ne (by decide) f_51_ws50
                clear f_51_ws50
                have f_51_ws60 : ws60[51]? = some ((q13, Sum.inl (cZ, 60000, Sum.inl (fun _ => 0))) : Nat × va_E) := by rw [e_ws60]; exact gs_app f_51_ws58
                clear f_51_ws58
                have f_51_ws61 : ws61[51]? = some ((q13, Sum.inl (cZ, 60000, Sum.inl (fun _ => 0))) : Nat × va_E) := by rw [e_ws61]; exact gs_ne (by decide) f_51_ws60
                clear f_51_ws60
                have f_51_ws63 : ws63[51]? = some ((q13, Sum.inl (cZ, 60000, Sum.inl (fun _ => 0))) : Nat × va_E) := by rw [e_ws63]; exact gs_app f_51_ws61
                clear f_51_ws61
                have f_51_ws64 : ws64[51]? = some ((q13, Sum.inl (cZ, 60000, Sum.inl (fun _ => 0))) : Nat × va_E) := by rw [e_ws64]; exact gs_ne (by decide) f_51_ws63
                clear f_51_ws63
                have f_51_ws65 : ws65[51]? = some ((q13, Sum.inl (cZ, 60000, Sum.inl (fun _ => 0))) : Nat × va_E) := by rw [e_ws65]; exact gs_ne (by decide) f_51_ws64
                clear f_51_ws64
                have f_51_ws66 : ws66[51]? = some ((q13, Sum.inl (cZ, 60000, Sum.inl (fun _ => 0))) : Nat × va_E) := by rw [e_ws66]; exact gs_ne (by decide) f_51_ws65
                clear f_51_ws65
                have f_51_ws68 : ws68[51]? = some ((q13, Sum.inl (cZ, 60000, Sum.inl (fun _ => 0))) : Nat × va_E) := by rw [e_ws68]; exact gs_ne (by decide) f_51_ws66
                clear f_51_ws66
                have f_51_ws70 : ws70[51]? = some ((q13, Sum.inl (cZ, 60000, Sum.inl (fun _ => 0))) : Nat × va_E) := by rw [e_ws70]; exact gs_app f_51_ws68
                clear f_51_ws68
                have f_51_ws71 : ws71[51]? = some ((q13, Sum.inl (cZ, 60000, Sum.inl (fun _ => 0))) : Nat × va_E) := by rw [e_ws71]; exact gs_ne (by decide) f_51_ws70
                clear f_51_ws70
                have f_51_ws73 : ws73[51]? = some ((q13, Sum.inl (cZ, 60000, Sum.inl (fun _ => 0))) : Nat × va_E) := by rw [e_ws73]; exact gs_app f_51_ws71
                clear f_51_ws71
                have f_51_ws74 : ws74[51]? = some ((q13, Sum.inl (cZ, 60000, Sum.inl (fun _ => 0))) : Nat × va_E) := by rw [e_ws74]; exact gs_ne (by decide) f_51_ws73
                clear f_51_ws73
                have f_51_ws76 : ws76[51]? = some ((q13, Sum.inl (cZ, 60000, Sum.inl (fun _ => 0))) : Nat × va_E) := by rw [e_ws76]; exact gs_app f_51_ws74
                clear f_51_ws74
                have f_51_ws77 : ws77[51]? = some ((q13, Sum.inl (cZ, 60000, Sum.inl (fun _ => 0))) : Nat × va_E) := by rw [e_ws77]; exact gs_ne (by decide) f_51_ws76
                clear f_51_ws76
                have f_51_ws79 : ws79[51]? = some ((q13, Sum.inl (cZ, 60000, Sum.inl (fun _ => 0))) : Nat × va_E) := by rw [e_ws79]; exact gs_app f_51_ws77
                clear f_51_ws77
                have f_51_ws81 : ws81[51]? = some ((q13, Sum.inl (cZ, 60000, Sum.inl (fun _ => 0))) : Nat × va_E) := by rw [e_ws81]; exact gs_app f_51_ws79
                clear f_51_ws79
                have f_51_ws83 : ws83[51]? = some ((q13, Sum.inl (cZ, 60000, Sum.inl (fun _ => 0))) : Nat × va_E) := e_ws83.at (by first | decide | (simp; done) | (simp; omega)) f_51_ws81
                clear f_51_ws81
                have f_51_ws91 : ws91[51]? = some ((q13, Sum.inl (cZ, 60000, Sum.inl (fun _ => 0))) : Nat × va_E) := by rw [e_ws91]; exact gs_ne (by decide) f_51_ws83
                clear f_51_ws83
                have f_51_ws93 : ws93[51]? = some ((q13, Sum.inl (cZ, 60000, Sum.inl (fun _ => 0))) : Nat × va_E) := by rw [e_ws93]; exact gs_app f_51_ws91
                clear f_51_ws91
                have f_51_ws95 : ws95[51]? = some ((q13, Sum.inl (cZ, 60000, Sum.inl (fun _ => 0))) : Nat × va_E) := e_ws95.at (by first | decide | (simp; done) | (simp; omega)) f_51_ws93
                clear f_51_ws93
                have f_51_ws103 : ws103[51]? = some ((q13, Sum.inl (cZ, 60000, Sum.inl (fun _ => 0))) : Nat × va_E) := by rw [e_ws103]; exact gs_ne (by decide) f_51_ws95
                clear f_51_ws95
                have f_51_ws105 : ws105[51]? = some ((q13, Sum.inl (cZ, 60000, Sum.inl (fun _ => 0))) : Nat × va_E) := by rw [e_ws105]; exact gs_app f_51_ws103
                clear f_51_ws103
                have f_51_ws107 : ws107[51]? = some ((q13, Sum.inl (cZ, 60000, Sum.inl (fun _ => 0))) : Nat × va_E) := e_ws107.at (by first | decide | (simp; done) | (simp; omega)) f_51_ws105
                clear f_51_ws105
                have f_51_ws115 : ws115[51]? = some ((q13, Sum.inl (cZ, 60000, Sum.inl (fun _ => 0))) : Nat × va_E) := by rw [e_ws115]; exact gs_ne (by decide) f_51_ws107
                clear f_51_ws107
                have f_51_ws117 : ws117[51]? = some ((q13, Sum.inl (cZ, 60000, Sum.inl (fun _ => 0))) : Nat × va_E) := by rw [e_ws117]; exact gs_app f_51_ws115
                clear f_51_ws115
                have f_51_ws119 : ws119[51]? = some ((q13, Sum.inl (cZ, 60000, Sum.inl (fun _ => 0))) : Nat × va_E) := e_ws119.at (by first | decide | (simp; done) | (simp; omega)) f_51_ws117
                clear f_51_ws117
                have f_51_ws127 : ws127[51]? = some ((q13, Sum.inl (cZ, 60000, Sum.inl (fun _ => 0))) : Nat × va_E) := by rw [e_ws127]; exact gs_ne (by decide) f_51_ws119
                clear f_51_ws119
                have f_51_ws128 : ws128[51]? = some ((q13, Sum.inl (cZ, 60000, Sum.inl (fun _ => 0))) : Nat × va_E) := by rw [e_ws128]; exact gs_ne (by decide) f_51_ws127
                clear f_51_ws127
                have f_52_ws18 : ws18[52]? = some ((q16, Sum.inl (cZ, 60000, Sum.inl (fun _ => 0))) : Nat × va_E) := by rw [e_ws18]; exact gs_ne (by decide) f_52_ws17
                clear f_52_ws17
                have f_52_ws20 : ws20[52]? = some ((q16, Sum.inl (cZ, 60000, Sum.inl (fun _ => 0))) : Nat × va_E) := by rw [e_ws20]; exact gs_app f_52_ws18
                clear f_52_ws18
                have f_52_ws21 : ws21[52]? = some ((q16, Sum.inl (cZ, 60000, Sum.inl (fun _ => 0))) : Nat × va_E) := by rw [e_ws21]; exact gs_ne (by decide) f_52_ws20
                clear f_52_ws20
                have f_52_ws22 : ws22[52]? = some ((q16, Sum.inl (cZ, 60000, Sum.inl (fun _ => 0))) : Nat × va_E) := by rw [e_ws22]; exact gs_ne (by decide) f_52_ws21
                clear f_52_ws21
                have f_52_ws24 : ws24[52]? = some ((q16, Sum.inl (cZ, 60000, Sum.inl (fun _ => 0))) : Nat × va_E) := by rw [e_ws24]; exact gs_app f_52_ws22
                clear f_52_ws22
                have f_52_ws26 : ws26[52]? = some ((q16, Sum.inl (cZ, 60000, Sum.inl (fun _ => 0))) : Nat × va_E) := e_ws26.at (by first | decide | (simp; done) | (simp; omega)) f_52_ws24
                clear f_52_ws24
                have f_52_ws34 : ws34[52]? = some ((q16, Sum.inl (cZ, 60000, Sum.inl (fun _ => 0))) : Nat × va_E) := by rw [e_ws34]; exact gs_ne (by decide) f_52_ws26
                clear f_52_ws26
                have f_52_ws36 : ws36[52]? = some ((q16, Sum.inl (cZ, 60000, Sum.inl (fun _ => 0))) : Nat × va_E) := by rw [e_ws36]; exact gs_app f_52_ws34
                clear f_52_ws34
                have f_52_ws38 : ws38[52]? = some ((q16, Sum.inl (cZ, 60000, Sum.inl (fun _ => 0))) : Nat × va_E) := e_ws38.at (by first | decide | (simp; done) | (simp; omega)) f_52_ws36
                clear f_52_ws36
                have f_52_ws46 : ws46[52]? = some ((q16, Sum.inl (cZ, 60000, Sum.inl (fun _ => 0))) : Nat × va_E) := by rw [e_ws46]; exact gs_ne (by decide) f_52_ws38
                clear f_52_ws38
                have f_52_ws48 : ws48[52]? = some ((q16, Sum.inl (cZ, 60000, Sum.inl (fun _ => 0))) : Nat × va_E) := by rw [e_ws48]; exact gs_app f_52_ws46
                clear f_52_ws46
                have f_52_ws50 : ws50[52]? = some ((q16, Sum.inl (cZ, 60000, Sum.inl (fun _ => 0))) : Nat × va_E) := e_ws50.at (by first | decide | (simp; done) | (simp; omega)) f_52_ws48
                clear f_52_ws48
                have f_52_ws58 : ws58[52]? = some ((q16, Sum.inl (cZ, 60000, Sum.inl (fun _ => 0))) : Nat × va_E) := by rw [e_ws58]; exact gs_ne (by decide) f_52_ws50
                clear f_52_ws50
                have f_52_ws60 : ws60[52]? = some ((q16, Sum.inl (cZ, 60000, Sum.inl (fun _ => 0))) : Nat × va_E) := by rw [e_ws60]; exact gs_app f_52_ws58
                clear f_52_ws58
                have f_52_ws61 : ws61[52]? = some ((q16, Sum.inl (cZ, 60000, Sum.inl (fun _ => 0))) : Nat × va_E) := by rw [e_ws61]; exact gs_ne (by decide) f_52_ws60
                clear f_52_ws60
                have f_52_ws63 : ws63[52]? = some ((q16, Sum.inl (cZ, 60000, Sum.inl (fun _ => 0))) : Nat × va_E) := by rw [e_ws63]; exact gs_app f_52_ws61
                clear f_52_ws61
                have f_52_ws64 : ws64[52]? = some ((q16, Sum.inl (cZ, 60000, Sum.inl (fun _ => 0))) : Nat × va_E) := by rw [e_ws64]; exact gs_ne (by decide) f_52_ws63
                clear f_52_ws63
                have f_52_ws65 : ws65[52]? = some ((q16, Sum.inl (cZ, 60000, Sum.inl (fun _ => 0))) : Nat × va_E) := by rw [e_ws65]; exact gs_ne (by decide) f_52_ws64
                clear f_52_ws64
                have f_52_ws66 : ws66[52]? = some ((q16, Sum.inl (cZ, 60000, Sum.inl (fun _ => 0))) : Nat × va_E) := by rw [e_ws66]; exact gs_ne (by decide) f_52_ws65
                clear f_52_ws65
                have f_52_ws68 : ws68[52]? = some ((q16, Sum.inl (cZ, 60000, Sum.inl (fun _ => 0))) : Nat × va_E) := by rw [e_ws68]; exact gs_ne (by decide) f_52_ws66
                clear f_52_ws66
                have f_52_ws70 : ws70[52]? = some ((q16, Sum.inl (cZ, 60000, Sum.inl (fun _ => 0))) : Nat × va_E) := by rw [e_ws70]; exact gs_app f_52_ws68
                clear f_52_ws68
                have f_52_ws71 : ws71[52]? = some ((q16, Sum.inl (cZ, 60000, Sum.inl (fun _ => 0))) : Nat × va_E) := by rw [e_ws71]; exact gs_ne (by decide) f_52_ws70
                clear f_52_ws70
                have f_52_ws73 : ws73[52]? = some ((q16, Sum.inl (cZ, 60000, Sum.inl (fun _ => 0))) : Nat × va_E) := by rw [e_ws73]; exact gs_app f_52_ws71
                clear f_52_ws71
                have f_52_ws74 : ws74[52]? = some ((q16, Sum.inl (cZ, 60000, Sum.inl (fun _ => 0))) : Nat × va_E) := by rw [e_ws74]; exact gs_ne (by decide) f_52_ws73
                clear f_52_ws73
                have f_52_ws76 : ws76[52]? = some ((q16, Sum.inl (cZ, 60000, Sum.inl (fun _ => 0))) : Nat × va_E) := by rw [e_ws76]; exact gs_app f_52_ws74
                clear f_52_ws74
                have f_52_ws77 : ws77[52]? = some ((q16, Sum.inl (cZ, 60000, Sum.inl (fun _ => 0))) : Nat × va_E) := by rw [e_ws77]; exact gs_ne (by decide) f_52_ws76
                clear f_52_ws76
                have f_52_ws79 : ws79[52]? = some ((q16, Sum.inl (cZ, 60000, Sum.inl (fun _ => 0))) : Nat × va_E) := by rw [e_ws79]; exact gs_app f_52_ws77
                clear f_52_ws77
                have f_52_ws81 : ws81[52]? = some ((q16, Sum.inl (cZ, 60000, Sum.inl (fun _ => 0))) : Nat × va_E) := by rw [e_ws81]; exact gs_app f_52_ws79
                clear f_52_ws79
                have f_52_ws83 : ws83[52]? = some ((q16, Sum.inl (cZ, 60000, Sum.inl (fun _ => 0))) : Nat × va_E) := e_ws83.at (by first | decide | (simp; done) | (simp; omega)) f_52_ws81
                clear f_52_ws81
                have f_52_ws91 : ws91[52]? = some ((q16, Sum.inl (cZ, 60000, Sum.inl (fun _ => 0))) : Nat × va_E) := by rw [e_ws91]; exact gs_ne (by decide) f_52_ws83
                clear f_52_ws83
                have f_52_ws93 : ws93[52]? = some ((q16, Sum.inl (cZ, 60000, Sum.inl (fun _ => 0))) : Nat × va_E) := by rw [e_ws93]; exact gs_app f_52_ws91
                clear f_52_ws91
                have f_52_ws95 : ws95[52]? = some ((q16, Sum.inl (cZ, 60000, Sum.inl (fun _ => 0))) : Nat × va_E) := e_ws95.at (by first | decide | (simp; done) | (simp; omega)) f_52_ws93
                clear f_52_ws93
                have f_52_ws103 : ws103[52]? = some ((q16, Sum.inl (cZ, 60000, Sum.inl (fun _ => 0))) : Nat × va_E) := by rw [e_ws103]; exact gs_ne (by decide) f_52_ws95
                clear f_52_ws95
                have f_52_ws105 : ws105[52]? = some ((q16, Sum.inl (cZ, 60000, Sum.inl (fun _ => 0))) : Nat × va_E) := by rw [e_ws105]; exact gs_app f_52_ws103
                clear f_52_ws103
                have f_52_ws107 : ws107[52]? = some ((q16, Sum.inl (cZ, 60000, Sum.inl (fun _ => 0))) : Nat × va_E) := e_ws107.at (by first | decide | (simp; done) | (simp; omega)) f_52_ws105
                clear f_52_ws105
                have f_52_ws115 : ws115[52]? = some ((q16, Sum.inl (cZ, 60000, Sum.inl (fun _ => 0))) : Nat × va_E) := by rw [e_ws115]; exact gs_ne (by decide) f_52_ws107
                clear f_52_ws107
                have f_52_ws117 : ws117[52]? = some ((q16, Sum.inl (cZ, 60000, Sum.inl (fun _ => 0))) : Nat × va_E) := by rw [e_ws117]; exact gs_app f_52_ws115
                clear f_52_ws115
                have f_52_ws119 : ws119[52]? = some ((q16, Sum.inl (cZ, 60000, Sum.inl (fun _ => 0))) : Nat × va_E) := e_ws119.at (by first | decide | (simp; done) | (simp; omega)) f_52_ws117
                clear f_52_ws117
                have f_52_ws127 : ws127[52]? = some ((q16, Sum.inl (cZ, 60000, Sum.inl (fun _ => 0))) : Nat × va_E) := by rw [e_ws127]; exact gs_ne (by decide) f_52_ws119
                clear f_52_ws119
                have f_52_ws128 : ws128[52]? = some ((q16, Sum.inl (cZ, 60000, Sum.inl (fun _ => 0))) : Nat × va_E) := by rw [e_ws128]; exact gs_ne (by decide) f_52_ws127
                clear f_52_ws127
                have f_53_ws21 : ws21[53]? = some ((q19, Sum.inl (cZ, 60000, Sum.inl (fun _ => 0))) : Nat × va_E) := by rw [e_ws21]; exact gs_ne (by decide) f_53_ws20
                clear f_53_ws20
                have f_53_ws22 : ws22[53]? = some ((q19, Sum.inl (cZ, 60000, Sum.inl (fun _ => 0))) : Nat × va_E) := by rw [e_ws22]; exact gs_ne (by decide) f_53_ws21
                clear f_53_ws21
                have f_53_ws24 : ws24[53]? = some ((q19, Sum.inl (cZ, 60000, Sum.inl (fun _ => 0))) : Nat × va_E) := by rw [e_ws24]; exact gs_app f_53_ws22
                clear f_53_ws22
                have f_53_ws26 : ws26[53]? = some ((q19, Sum.inl (cZ, 60000, Sum.inl (fun _ => 0))) : Nat × va_E) := e_ws26.at (by first | decide | (simp; done) | (simp; omega)) f_53_ws24
                clear f_53_ws24
                have f_53_ws34 : ws34[53]? = some ((q19, Sum.inl (cZ, 60000, Sum.inl (fun _ => 0))) : Nat × va_E) := by rw [e_ws34]; exact gs_ne (by decide) f_53_ws26
                clear f_53_ws26
                have f_53_ws36 : ws36[53]? = some ((q19, Sum.inl (cZ, 60000, Sum.inl (fun _ => 0))) : Nat × va_E) := by rw [e_ws36]; exact gs_app f_53_ws34
                clear f_53_ws34
                have f_53_ws38 : ws38[53]? = some ((q19, Sum.inl (cZ, 60000, Sum.inl (fun _ => 0))) : Nat × va_E) := e_ws38.at (by first | decide | (simp; done) | (simp; omega)) f_53_ws36
                clear f_53_ws36
                have f_53_ws46 : ws46[53]? = some ((q19, Sum.inl (cZ, 60000, Sum.inl (fun _ => 0))) : Nat × va_E) := by rw [e_ws46]; exact gs_ne (by decide) f_53_ws38
                clear f_53_ws38
                have f_53_ws48 : ws48[53]? = some ((q19, Sum.inl (cZ, 60000, Sum.inl (fun _ => 0))) : Nat × va_E) := by rw [e_ws48]; exact gs_app f_53_ws46
                clear f_53_ws46
                have f_53_ws50 : ws50[53]? = some ((q19, Sum.inl (cZ, 60000, Sum.inl (fun _ => 0))) : Nat × va_E) := e_ws50.at (by first | decide | (simp; done) | (simp; omega)) f_53_ws48
                clear f_53_ws48
                have f_53_ws58 : ws58[53]? = some ((q19, Sum.inl (cZ, 60000, Sum.inl (fun _ => 0))) : Nat × va_E) := by rw [e_ws58]; exact gs_ne (by decide) f_53_ws50
                clear f_53_ws50
                have f_53_ws60 : ws60[53]? = some ((q19, Sum.inl (cZ, 60000, Sum.inl (fun _ => 0))) : Nat × va_E) := by rw [e_ws60]; exact gs_app f_53_ws58
                clear f_53_ws58
                have f_53_ws61 : ws61[53]? = some ((q19, Sum.inl (cZ, 60000, Sum.inl (fun _ => 0))) : Nat × va_E) := by rw [e_ws61]; exact gs_ne (by decide) f_53_ws60
                clear f_53_ws60
                have f_53_ws63 : ws63[53]? = some ((q19, Sum.inl (cZ, 60000, Sum.inl (fun _ => 0))) : Nat × va_E) := by rw [e_ws63]; exact gs_app f_53_ws61
                clear f_53_ws61
                have f_53_ws64 : ws64[53]? = some ((q19, Sum.inl (cZ, 60000, Sum.inl (fun _ => 0))) : Nat × va_E) := by rw [e_ws64]; exact gs_ne (by decide) f_53_ws63
                clear f_53_ws63
                have f_53_ws65 : ws65[53]? = some ((q19, Sum.inl (cZ, 60000, Sum.inl (fun _ => 0))) : Nat × va_E) := by rw [e_ws65]; exact gs_ne (by decide) f_53_ws64
                clear f_53_ws64
                have f_53_ws66 : ws66[53]? = some ((q19, Sum.inl (cZ, 60000, Sum.inl (fun _ => 0))) : Nat × va_E) := by rw [e_ws66]; exact gs_ne (by decide) f_53_ws65
                clear f_53_ws65
                have f_53_ws68 : ws68[53]? = some ((q19, Sum.inl (cZ, 60000, Sum.inl (fun _ => 0))) : Nat × va_E) := by rw [e_ws68]; exact gs_ne (by decide) f_53_ws66
                clear f_53_ws66
                have f_53_ws70 : ws70[53]? = some ((q19, Sum.inl (cZ, 60000, Sum.inl (fun _ => 0))) : Nat × va_E) := by rw [e_ws70]; exact gs_app f_53_ws68
                clear f_53_ws68
                have f_53_ws71 : ws71[53]? = some ((q19, Sum.inl (cZ, 60000, Sum.inl (fun _ => 0))) : Nat × va_E) := by rw [e_ws71]; exact gs_ne (by decide) f_53_ws70
                clear f_53_ws70
                have f_53_ws73 : ws73[53]? = some ((q19, Sum.inl (cZ, 60000, Sum.inl (fun _ => 0))) : Nat × va_E) := by rw [e_ws73]; exact gs_app f_53_ws71
                clear f_53_ws71
                have f_53_ws74 : ws74[53]? = some ((q19, Sum.inl (cZ, 60000, Sum.inl (fun _ => 0))) : Nat × va_E) := by rw [e_ws74]; exact gs_ne (by decide) f_53_ws73
                clear f_53_ws73
                have f_53_ws76 : ws76[53]? = some ((q19, Sum.inl (cZ, 60000, Sum.inl (fun _ => 0))) : Nat × va_E) := by rw [e_ws76]; exact gs_app f_53_ws74
                clear f_53_ws74
                have f_53_ws77 : ws77[53]? = some ((q19, Sum.inl (cZ, 60000, Sum.inl (fun _ => 0))) : Nat × va_E) := by rw [e_ws77]; exact gs_ne (by decide) f_53_ws76
                clear f_53_ws76
                have f_53_ws79 : ws79[53]? = some ((q19, Sum.inl (cZ, 60000, Sum.inl (fun _ => 0))) : Nat × va_E) := by rw [e_ws79]; exact gs_app f_53_ws77
                clear f_53_ws77
                have f_53_ws81 : ws81[53]? = some ((q19, Sum.inl (cZ, 60000, Sum.inl (fun _ => 0))) : Nat × va_E) := by rw [e_ws81]; exact gs_app f_53_ws79
                clear f_53_ws79
                have f_53_ws83 : ws83[53]? = some ((q19, Sum.inl (cZ, 60000, Sum.inl (fun _ => 0))) : Nat × va_E) := e_ws83.at (by first | decide | (simp; done) | (simp; omega)) f_53_ws81
                clear f_53_ws81
                have f_53_ws91 : ws91[53]? = some ((q19, Sum.inl (cZ, 60000, Sum.inl (fun _ => 0))) : Nat × va_E) := by rw [e_ws91]; exact gs_ne (by decide) f_53_ws83
                clear f_53_ws83
                have f_53_ws93 : ws93[53]? = some ((q19, Sum.inl (cZ, 60000, Sum.inl (fun _ => 0))) : Nat × va_E) := by rw [e_ws93]; exact gs_app f_53_ws91
                clear f_53_ws91
                have f_53_ws95 : ws95[53]? = some ((q19, Sum.inl (cZ, 60000, Sum.inl (fun _ => 0))) : Nat × va_E) := e_ws95.at (by first | decide | (simp; done) | (simp; omega)) f_53_ws93
                clear f_53_ws93
                have f_53_ws103 : ws103[53]? = some ((q19, Sum.inl (cZ, 60000, Sum.inl (fun _ => 0))) : Nat × va_E) := by rw [e_ws103]; exact gs_ne (by decide) f_53_ws95
                clear f_53_ws95
                have f_53_ws105 : ws105[53]? = some ((q19, Sum.inl (cZ, 60000, Sum.inl (fun _ => 0))) : Nat × va_E) := by rw [e_ws105]; exact gs_app f_53_ws103
                clear f_53_ws103
                have f_53_ws107 : ws107[53]? = some ((q19, Sum.inl (cZ, 60000, Sum.inl (fun _ => 0))) : Nat × va_E) := e_ws107.at (by first | decide | (simp; done) | (simp; omega)) f_53_ws105
                clear f_53_ws105
                have f_53_ws115 : ws115[53]? = some ((q19, Sum.inl (cZ, 60000, Sum.inl (fun _ => 0))) : Nat × va_E) := by rw [e_ws115]; exact gs_ne (by decide) f_53_ws107
                clear f_53_ws107
                have f_53_ws117 : ws117[53]? = some ((q19, Sum.inl (cZ, 60000, Sum.inl (fun _ => 0))) : Nat × va_E) := by rw [e_ws117]; exact gs_app f_53_ws115
                clear f_53_ws115
                have f_53_ws119 : ws119[53]? = some ((q19, Sum.inl (cZ, 60000, Sum.inl (fun _ => 0))) : Nat × va_E) := e_ws119.at (by first | decide | (simp; done) | (simp; omega)) f_53_ws117
                clear f_53_ws117
                have f_53_ws127 : ws127[53]? = some ((q19, Sum.inl (cZ, 60000, Sum.inl (fun _ => 0))) : Nat × va_E) := by rw [e_ws127]; exact gs_ne (by decide) f_53_ws119
                clear f_53_ws119
                have f_53_ws128 : ws128[53]? = some ((q19, Sum.inl (cZ, 60000, Sum.inl (fun _ => 0))) : Nat × va_E) := by rw [e_ws128]; exact gs_ne (by decide) f_53_ws127
                clear f_53_ws127
                have f_54_ws34 : ws34[54]? = some ((q23, Sum.inr (9, [Value.ref q27, Value.ref q28, Value.ref q29, Value.ref q30, Value.ref q31, Value.ref q32, Value.ref q33, Value.int 0, Value.int 0, Value.int 0, Value.int 0])) : Nat × va_E) := by rw [e_ws34]; exact gs_ne (by decide) f_54_ws26
                clear f_54_ws26
                have f_54_ws36 : ws36[54]? = some ((q23, Sum.inr (9, [Value.ref q27, Value.ref q28, Value.ref q29, Value.ref q30, Value.ref q31, Value.ref q32, Value.ref q33, Value.int 0, Value.int 0, Value.int 0, Value.int 0])) : Nat × va_E) := by rw [e_ws36]; exact gs_app f_54_ws34
                clear f_54_ws34
                have f_54_ws38 : ws38[54]? = some ((q23, Sum.inr (9, [Value.ref q27, Value.ref q28, Value.ref q29, Value.ref q30, Value.ref q31, Value.ref q32, Value.ref q33, Value.int 0, Value.int 0, Value.int 0, Value.int 0])) : Nat × va_E) := e_ws38.at (by first | decide | (simp; done) | (simp; omega)) f_54_ws36
                clear f_54_ws36
                have f_54_ws46 : ws46[54]? = some ((q23, Sum.inr (9, [Value.ref q27, Value.ref q28, Value.ref q29, Value.ref q30, Value.ref q31, Value.ref q32, Value.ref q33, Value.int 0, Value.int 0, Value.int 0, Value.int 0])) : Nat × va_E) := by rw [e_ws46]; exact gs_ne (by decide) f_54_ws38
                clear f_54_ws38
                have f_54_ws48 : ws48[54]? = some ((q23, Sum.inr (9, [Value.ref q27, Value.ref q28, Value.ref q29, Value.ref q30, Value.ref q31, Value.ref q32, Value.ref q33, Value.int 0, Value.int 0, Value.int 0, Value.int 0])) : Nat × va_E) := by rw [e_ws48]; exact gs_app f_54_ws46
                clear f_54_ws46
                have f_54_ws50 : ws50[54]? = some ((q23, Sum.inr (9, [Value.ref q27, Value.ref q28, Value.ref q29, Value.ref q30, Value.ref q31, Value.ref q32, Value.ref q33, Value.int 0, Value.int 0, Value.int 0, Value.int 0])) : Nat × va_E) := e_ws50.at (by first | decide | (simp; done) | (simp; omega)) f_54_ws48
                clear f_54_ws48
                have f_54_ws58 : ws58[54]? = some ((q23, Sum.inr (9, [Value.ref q27, Value.ref q28, Value.ref q29, Value.ref q30, Value.ref q31, Value.ref q32, Value.ref q33, Value.int 0, Value.int 0, Value.int 0, Value.int 0])) : Nat × va_E) := by rw [e_ws58]; exact gs_ne (by decide) f_54_ws50
                clear f_54_ws50
                have f_54_ws60 : ws60[54]? = some ((q23, Sum.inr (9, [Value.ref q27, Value.ref q28, Value.ref q29, Value.ref q30, Value.ref q31, Value.ref q32, Value.ref q33, Value.int 0, Value.int 0, Value.int 0, Value.int 0])) : Nat × va_E) := by rw [e_ws60]; exact gs_app f_54_ws58
                clear f_54_ws58
                have f_54_ws61 : ws61[54]? = some ((q23, Sum.inr (9, [Value.ref q27, Value.ref q28, Value.ref q29, Value.ref q30, Value.ref q31, Value.ref q32, Value.ref q33, Value.int 0, Value.int 0, Value.int 0, Value.int 0])) : Nat × va_E) := by rw [e_ws61]; exact gs_ne (by decide) f_54_ws60
                clear f_54_ws60
                have f_54_ws63 : ws63[54]? = some ((q23, Sum.inr (9, [Value.ref q27, Value.ref q28, Value.ref q29, Value.ref q30, Value.ref q31, Value.ref q32, Value.ref q33, Value.int 0, Value.int 0, Value.int 0, Value.int 0])) : Nat × va_E) := by rw [e_ws63]; exact gs_app f_54_ws61
                clear f_54_ws61
                have f_54_ws64 : ws64[54]? = some ((q23, Sum.inr (9, [Value.ref q27, Value.ref q28, Value.ref q29, Value.ref q30, Value.ref q31, Value.ref q32, Value.ref q33, Value.int 0, Value.int 0, Value.int 0, Value.int 0])) : Nat × va_E) := by rw [e_ws64]; exact gs_ne (by decide) f_54_ws63
                clear f_54_ws63
                have f_54_ws65 : ws65[54]? = some ((q23, Sum.inr (9, [Value.ref q27, Value.ref q28, Value.ref q29, Value.ref q30, Value.ref q31, Value.ref q32, Value.ref q33, Value.int 0, Value.int 0, Value.int 0, Value.int 0])) : Nat × va_E) := by rw [e_ws65]; exact gs_ne (by decide) f_54_ws64
                clear f_54_ws64
                have f_54_ws66 : ws66[54]? = some ((q23, Sum.inr (9, [Value.ref q27, Value.ref q28, Value.ref q29, Value.ref q30, Value.ref q31, Value.ref q32, Value.ref q33, Value.int 0, Value.int 0, Value.int 0, Value.int 0])) : Nat × va_E) := by rw [e_ws66]; exact gs_ne (by decide) f_54_ws65
                clear f_54_ws65
                have f_54_ws68 : ws68[54]? = some ((q23, Sum.inr (9, [Value.ref q27, Value.ref q28, Value.ref q29, Value.ref q30, Value.ref q31, Value.ref q32, Value.ref q33, Value.int 0, Value.int 0, Value.int 0, Value.int 0])) : Nat × va_E) := by rw [e_ws68]; exact gs_ne (by decide) f_54_ws66
                clear f_54_ws66
                have f_54_ws70 : ws70[54]? = some ((q23, Sum.inr (9, [Value.ref q27, Value.ref q28, Value.ref q29, Value.ref q30, Value.ref q31, Value.ref q32, Value.ref q33, Value.int 0, Value.int 0, Value.int 0, Value.int 0])) : Nat × va_E) := by rw [e_ws70]; exact gs_app f_54_ws68
                clear f_54_ws68
                have f_54_ws71 : ws71[54]? = some ((q23, Sum.inr (9, [Value.ref q27, Value.ref q28, Value.ref q29, Value.ref q30, Value.ref q31, Value.ref q32, Value.ref q33, Value.int 0, Value.int 0, Value.int 0, Value.int 0])) : Nat × va_E) := by rw [e_ws71]; exact gs_ne (by decide) f_54_ws70
                clear f_54_ws70
                have f_54_ws73 : ws73[54]? = some ((q23, Sum.inr (9, [Value.ref q27, Value.ref q28, Value.ref q29, Value.ref q30, Value.ref q31, Value.ref q32, Value.ref q33, Value.int 0, Value.int 0, Value.int 0, Value.int 0])) : Nat × va_E) := by rw [e_ws73]; exact gs_app f_54_ws71
                clear f_54_ws71
                have f_54_ws74 : ws74[54]? = some ((q23, Sum.inr (9, [Value.ref q27, Value.ref q28, Value.ref q29, Value.ref q30, Value.ref q31, Value.ref q32, Value.ref q33, Value.int 0, Value.int 0, Value.int 0, Value.int 0])) : Nat × va_E) := by rw [e_ws74]; exact gs_ne (by decide) f_54_ws73
                clear f_54_ws73
                have f_54_ws76 : ws76[54]? = some ((q23, Sum.inr (9, [Value.ref q27, Value.ref q28, Value.ref q29, Value.ref q30, Value.ref q31, Value.ref q32, Value.ref q33, Value.int 0, Value.int 0, Value.int 0, Value.int 0])) : Nat × va_E) := by rw [e_ws76]; exact gs_app f_54_ws74
                clear f_54_ws74
                have f_54_ws77 : ws77[54]? = some ((q23, Sum.inr (9, [Value.ref q27, Value.ref q28, Value.ref q29, Value.ref q30, Value.ref q31, Value.ref q32, Value.ref q33, Value.int 0, Value.int 0, Value.int 0, Value.int 0])) : Nat × va_E) := by rw [e_ws77]; exact gs_ne (by decide) f_54_ws76
                clear f_54_ws76
                have f_54_ws79 : ws79[54]? = some ((q23, Sum.inr (9, [Value.ref q27, Value.ref q28, Value.ref q29, Value.ref q30, Value.ref q31, Value.ref q32, Value.ref q33, Value.int 0, Value.int 0, Value.int 0, Value.int 0])) : Nat × va_E) := by rw [e_ws79]; exact gs_app f_54_ws77
                clear f_54_ws77
                have f_54_ws81 : ws81[54]? = some ((q23, Sum.inr (9, [Value.ref q27, Value.ref q28, Value.ref q29, Value.ref q30, Value.ref q31, Value.ref q32, Value.ref q33, Value.int 0, Value.int 0, Value.int 0, Value.int 0])) : Nat × va_E) := by rw [e_ws81]; exact gs_app f_54_ws79
                clear f_54_ws79
                have f_54_ws83 : ws83[54]? = some ((q23, Sum.inr (9, [Value.ref q27, Value.ref q28, Value.ref q29, Value.ref q30, Value.ref q31, Value.ref q32, Value.ref q33, Value.int 0, Value.int 0, Value.int 0, Value.int 0])) : Nat × va_E) := e_ws83.at (by first | decide | (simp; done) | (simp; omega)) f_54_ws81
                clear f_54_ws81
                have f_54_ws91 : ws91[54]? = some ((q23, Sum.inr (9, [Value.ref q27, Value.ref q28, Value.ref q29, Value.ref q30, Value.ref q31, Value.ref q32, Value.ref q33, Value.int 0, Value.int 0, Value.int 0, Value.int 0])) : Nat × va_E) := by rw [e_ws91]; exact gs_ne (by decide) f_54_ws83
                clear f_54_ws83
                have f_54_ws93 : ws93[54]? = some ((q23, Sum.inr (9, [Value.ref q27, Value.ref q28, Value.ref q29, Value.ref q30, Value.ref q31, Value.ref q32, Value.ref q33, Value.int 0, Value.int 0, Value.int 0, Value.int 0])) : Nat × va_E) := by rw [e_ws93]; exact gs_app f_54_ws91
                clear f_54_ws91
                have f_54_ws95 : ws95[54]? = some ((q23, Sum.inr (9, [Value.ref q27, Value.ref q28, Value.ref q29, Value.ref q30, Value.ref q31, Value.ref q32, Value.ref q33, Value.int 0, Value.int 0, Value.int 0, Value.int 0])) : Nat × va_E) := e_ws95.at (by first | decide | (simp; done) | (simp; omega)) f_54_ws93
                clear f_54_ws93
                have f_54_ws103 : ws103[54]? = some ((q23, Sum.inr (9, [Value.ref q27, Value.ref q28, Value.ref q29, Value.ref q30, Value.ref q31, Value.ref q32, Value.ref q33, Value.int 0, Value.int 0, Value.int 0, Value.int 0])) : Nat × va_E) := by rw [e_ws103]; exact gs_ne (by decide) f_54_ws95
                clear f_54_ws95
                have f_54_ws105 : ws105[54]? = some ((q23, Sum.inr (9, [Value.ref q27, Value.ref q28, Value.ref q29, Value.ref q30, Value.ref q31, Value.ref q32, Value.ref q33, Value.int 0, Value.int 0, Value.int 0, Value.int 0])) : Nat × va_E) := by rw [e_ws105]; exact gs_app f_54_ws103
                clear f_54_ws103
                have f_54_ws107 : ws107[54]? = some ((q23, Sum.inr (9, [Value.ref q27, Value.ref q28, Value.ref q29, Value.ref q30, Value.ref q31, Value.ref q32, Value.ref q33, Value.int 0, Value.int 0, Value.int 0, Value.int 0])) : Nat × va_E) := e_ws107.at (by first | decide | (simp; done) | (simp; omega)) f_54_ws105
                clear f_54_ws105
                have f_54_ws115 : ws115[54]? = some ((q23, Sum.inr (9, [Value.ref q27, Value.ref q28, Value.ref q29, Value.ref q30, Value.ref q31, Value.ref q32, Value.ref q33, Value.int 0, Value.int 0, Value.int 0, Value.int 0])) : Nat × va_E) := by rw [e_ws115]; exact gs_ne (by decide) f_54_ws107
                clear f_54_ws107
                have f_54_ws117 : ws117[54]? = some ((q23, Sum.inr (9, [Value.ref q27, Value.ref q28, Value.ref q29, Value.ref q30, Value.ref q31, Value.ref q32, Value.ref q33, Value.int 0, Value.int 0, Value.int 0, Value.int 0])) : Nat × va_E) := by rw [e_ws117]; exact gs_app f_54_ws115
                clear f_54_ws115
                have f_54_ws119 : ws119[54]? = some ((q23, Sum.inr (9, [Value.ref q27, Value.ref q28, Value.ref q29, Value.ref q30, Value.ref q31, Value.ref q32, Value.ref q33, Value.int 0, Value.int 0, Value.int 0, Value.int 0])) : Nat × va_E) := e_ws119.at (by first | decide | (simp; done) | (simp; omega)) f_54_ws117
                clear f_54_ws117
                have f_54_ws127 : ws127[54]? = some ((q23, Sum.inr (9, [Value.ref q27, Value.ref q28, Value.ref q29, Value.ref q30, Value.ref q31, Value.ref q32, Value.ref q33, Value.int 0, Value.int 0, Value.int 0, Value.int 0])) : Nat × va_E) := by rw [e_ws127]; exact gs_ne (by decide) f_54_ws119
                clear f_54_ws119
                have f_54_ws128 : ws128[54]? = some ((q23, Sum.inr (9, [Value.ref q27, Value.ref q28, Value.ref q29, Value.ref q30, Value.ref q31, Value.ref q32, Value.ref q33, Value.int 0, Value.int 0, Value.int 0, Value.int 0])) : Nat × va_E) := by rw [e_ws128]; exact gs_ne (by decide) f_54_ws127
                clear f_54_ws127
                have f_55_ws34 : ws34[55]? = some ((q27, Sum.inl (cI, 4097, Sum.inl (fun _ => 0))) : Nat × va_E) := by rw [e_ws34]; exact gs_ne (by decide) f_55_ws26
                clear f_55_ws26
                have f_55_ws36 : ws36[55]? = some ((q27, Sum.inl (cI, 4097, Sum.inl (fun _ => 0))) : Nat × va_E) := by rw [e_ws36]; exact gs_app f_55_ws34
                clear f_55_ws34
                have f_55_ws38 : ws38[55]? = some ((q27, Sum.inl (cI, 4097, Sum.inl (fun _ => 0))) : Nat × va_E) := e_ws38.at (by first | decide | (simp; done) | (simp; omega)) f_55_ws36
                clear f_55_ws36
                have f_55_ws46 : ws46[55]? = some ((q27, Sum.inl (cI, 4097, Sum.inl (fun _ => 0))) : Nat × va_E) := by rw [e_ws46]; exact gs_ne (by decide) f_55_ws38
                clear f_55_ws38
                have f_55_ws48 : ws48[55]? = some ((q27, Sum.inl (cI, 4097, Sum.inl (fun _ => 0))) : Nat × va_E) := by rw [e_ws48]; exact gs_app f_55_ws46
                clear f_55_ws46
                have f_55_ws50 : ws50[55]? = some ((q27, Sum.inl (cI, 4097, Sum.inl (fun _ => 0))) : Nat × va_E) := e_ws50.at (by first | decide | (simp; done) | (simp; omega)) f_55_ws48
                clear f_55_ws48
                have f_55_ws58 : ws58[55]? = some ((q27, Sum.inl (cI, 4097, Sum.inl (fun _ => 0))) : Nat × va_E) := by rw [e_ws58]; exact gs_ne (by decide) f_55_ws50
                clear f_55_ws50
                have f_55_ws60 : ws60[55]? = some ((q27, Sum.inl (cI, 4097, Sum.inl (fun _ => 0))) : Nat × va_E) := by rw [e_ws60]; exact gs_app f_55_ws58
                clear f_55_ws58
                have f_55_ws61 : ws61[55]? = some ((q27, Sum.inl (cI, 4097, Sum.inl (fun _ => 0))) : Nat × va_E) := by rw [e_ws61]; exact gs_ne (by decide) f_55_ws60
                clear f_55_ws60
                have f_55_ws63 : ws63[55]? = some ((q27, Sum.inl (cI, 4097, Sum.inl (fun _ => 0))) : Nat × va_E) := by rw [e_ws63]; exact gs_app f_55_ws61
                clear f_55_ws61
                have f_55_ws64 : ws64[55]? = some ((q27, Sum.inl (cI, 4097, Sum.inl (fun _ => 0))) : Nat × va_E) := by rw [e_ws64]; exact gs_ne (by decide) f_55_ws63
                clear f_55_ws63
                have f_55_ws65 : ws65[55]? = some ((q27, Sum.inl (cI, 4097, Sum.inl (fun _ => 0))) : Nat × va_E) := by rw [e_ws65]; exact gs_ne (by decide) f_55_ws64
                clear f_55_ws64
                have f_55_ws66 : ws66[55]? = some ((q27, Sum.inl (cI, 4097, Sum.inl (fun _ => 0))) : Nat × va_E) := by rw [e_ws66]; exact gs_ne (by decide) f_55_ws65
                clear f_55_ws65
                have f_55_ws68 : ws68[55]? = some ((q27, Sum.inl (cI, 4097, Sum.inl (fun _ => 0))) : Nat × va_E) := by rw [e_ws68]; exact gs_ne (by decide) f_55_ws66
                clear f_55_ws66
                have f_55_ws70 : ws70[55]? = some ((q27, Sum.inl (cI, 4097, Sum.inl (fun _ => 0))) : Nat × va_E) := by rw [e_ws70]; exact gs_app f_55_ws68
                clear f_55_ws68
                have f_55_ws71 : ws71[55]? = some ((q27, Sum.inl (cI, 4097, Sum.inl (fun _ => 0))) : Nat × va_E) := by rw [e_ws71]; exact gs_ne (by decide) f_55_ws70
                clear f_55_ws70
                have f_55_ws73 : ws73[55]? = some ((q27, Sum.inl (cI, 4097, Sum.inl (fun _ => 0))) : Nat × va_E) := by rw [e_ws73]; exact gs_app f_55_ws71
                clear f_55_ws71
                have f_55_ws74 : ws74[55]? = some ((q27, Sum.inl (cI, 4097, Sum.inl (fun _ => 0))) : Nat × va_E) := by rw [e_ws74]; exact gs_ne (by decide) f_55_ws73
                clear f_55_ws73
                have f_55_ws76 : ws76[55]? = some ((q27, Sum.inl (cI, 4097, Sum.inl (fun _ => 0))) : Nat × va_E) := by rw [e_ws76]; exact gs_app f_55_ws74
                clear f_55_ws74
                have f_55_ws77 : ws77[55]? = some ((q27, Sum.inl (cI, 4097, Sum.inl (fun _ => 0))) : Nat × va_E) := by rw [e_ws77]; exact gs_ne (by decide) f_55_ws76
                clear f_55_ws76
                have f_55_ws79 : ws79[55]? = some ((q27, Sum.inl (cI, 4097, Sum.inl (fun _ => 0))) : Nat × va_E) := by rw [e_ws79]; exact gs_app f_55_ws77
                clear f_55_ws77
                have f_55_ws81 : ws81[55]? = some ((q27, Sum.inl (cI, 4097, Sum.inl (fun _ => 0))) : Nat × va_E) := by rw [e_ws81]; exact gs_app f_55_ws79
                clear f_55_ws79
                have f_55_ws83 : ws83[55]? = some ((q27, Sum.inl (cI, 4097, Sum.inl (fun _ => 0))) : Nat × va_E) := e_ws83.at (by first | decide | (simp; done) | (simp; omega)) f_55_ws81
                clear f_55_ws81
                have f_55_ws91 : ws91[55]? = some ((q27, Sum.inl (cI, 4097, Sum.inl (fun _ => 0))) : Nat × va_E) := by rw [e_ws91]; exact gs_ne (by decide) f_55_ws83
                clear f_55_ws83
                have f_55_ws93 : ws93[55]? = some ((q27, Sum.inl (cI, 4097, Sum.inl (fun _ => 0))) : Nat × va_E) := by rw [e_ws93]; exact gs_app f_55_ws91
                clear f_55_ws91
                have f_55_ws95 : ws95[55]? = some ((q27, Sum.inl (cI, 4097, Sum.inl (fun _ => 0))) : Nat × va_E) := e_ws95.at (by first | decide | (simp; done) | (simp; omega)) f_55_ws93
                clear f_55_ws93
                have f_55_ws103 : ws103[55]? = some ((q27, Sum.inl (cI, 4097, Sum.inl (fun _ => 0))) : Nat × va_E) := by rw [e_ws103]; exact gs_ne (by decide) f_55_ws95
                clear f_55_ws95
                have f_55_ws105 : ws105[55]? = some ((q27, Sum.inl (cI, 4097, Sum.inl (fun _ => 0))) : Nat × va_E) := by rw [e_ws105]; exact gs_app f_55_ws103
                clear f_55_ws103
                have f_55_ws107 : ws107[55]? = some ((q27, Sum.inl (cI, 4097, Sum.inl (fun _ => 0))) : Nat × va_E) := e_ws107.at (by first | decide | (simp; done) | (simp; omega)) f_55_ws105
                clear f_55_ws105
                have f_55_ws115 : ws115[55]? = some ((q27, Sum.inl (cI, 4097, Sum.inl (fun _ => 0))) : Nat × va_E) := by rw [e_ws115]; exact gs_ne (by decide) f_55_ws107
                clear f_55_ws107
                have f_55_ws117 : ws117[55]? = some ((q27, Sum.inl (cI, 4097, Sum.inl (fun _ => 0))) : Nat × va_E) := by rw [e_ws117]; exact gs_app f_55_ws115
                clear f_55_ws115
                have f_55_ws119 : ws119[55]? = some ((q27, Sum.inl (cI, 4097, Sum.inl (fun _ => 0))) : Nat × va_E) := e_ws119.at (by first | decide | (simp; done) | (simp; omega)) f_55_ws117
                clear f_55_ws117
                have f_55_ws127 : ws127[55]? = some ((q27, Sum.inl (cI, 4097, Sum.inl (fun _ => 0))) : Nat × va_E) := by rw [e_ws127]; exact gs_ne (by decide) f_55_ws119
                clear f_55_ws119
                have f_55_ws128 : ws128[55]? = some ((q27, Sum.inl (cI, 4097, Sum.inl (fun _ => 0))) : Nat × va_E) := by rw [e_ws128]; exact gs_ne (by decide) f_55_ws127
                clear f_55_ws127
                have f_56_ws34 : ws34[56]? = some ((q28, Sum.inl (cI, 4097, Sum.inl (fun _ => 0))) : Nat × va_E) := by rw [e_ws34]; exact gs_ne (by decide) f_56_ws26
                clear f_56_ws26
                have f_56_ws36 : ws36[56]? = some ((q28, Sum.inl (cI, 4097, Sum.inl (fun _ => 0))) : Nat × va_E) := by rw [e_ws36]; exact gs_app f_56_ws34
                clear f_56_ws34
                have f_56_ws38 : ws38[56]? = some ((q28, Sum.inl (cI, 4097, Sum.inl (fun _ => 0))) : Nat × va_E) := e_ws38.at (by first | decide | (simp; done) | (simp; omega)) f_56_ws36
                clear f_56_ws36
                have f_56_ws46 : ws46[56]? = some ((q28, Sum.inl (cI, 4097, Sum.inl (fun _ => 0))) : Nat × va_E) := by rw [e_ws46]; exact gs_ne (by decide) f_56_ws38
                clear f_56_ws38
                have f_56_ws48 : ws48[56]? = some ((q28, Sum.inl (cI, 4097, Sum.inl (fun _ => 0))) : Nat × va_E) := by rw [e_ws48]; exact gs_app f_56_ws46
                clear f_56_ws46
                have f_56_ws50 : ws50[56]? = some ((q28, Sum.inl (cI, 4097, Sum.inl (fun _ => 0))) : Nat × va_E) := e_ws50.at (by first | decide | (simp; done) | (simp; omega)) f_56_ws48
                clear f_56_ws48
                have f_56_ws58 : ws58[56]? = some ((q28, Sum.inl (cI, 4097, Sum.inl (fun _ => 0))) : Nat × va_E) := by rw [e_ws58]; exact gs_ne (by decide) f_56_ws50
                clear f_56_ws50
                have f_56_ws60 : ws60[56]? = some ((q28, Sum.inl (cI, 4097, Sum.inl (fun _ => 0))) : Nat × va_E) := by rw [e_ws60]; exact gs_app f_56_ws58
                clear f_56_ws58
                have f_56_ws61 : ws61[56]? = some ((q28, Sum.inl (cI, 4097, Sum.inl (fun _ => 0))) : Nat × va_E) := by rw [e_ws61]; exact gs_ne (by decide) f_56_ws60
                clear f_56_ws60
                have f_56_ws63 : ws63[56]? = some ((q28, Sum.inl (cI, 4097, Sum.inl (fun _ => 0))) : Nat × va_E) := by rw [e_ws63]; exact gs_app f_56_ws61
                clear f_56_ws61
                have f_56_ws64 : ws64[56]? = some ((q28, Sum.inl (cI, 4097, Sum.inl (fun _ => 0))) : Nat × va_E) := by rw [e_ws64]; exact gs_ne (by decide) f_56_ws63
                clear f_56_ws63
                have f_56_ws65 : ws65[56]? = some ((q28, Sum.inl (cI, 4097, Sum.inl (fun _ => 0))) : Nat × va_E) := by rw [e_ws65]; exact gs_ne (by decide) f_56_ws64
                clear f_56_ws64
                have f_56_ws66 : ws66[56]? = some ((q28, Sum.inl (cI, 4097, Sum.inl (fun _ => 0))) : Nat × va_E) := by rw [e_ws66]; exact gs_ne (by decide) f_56_ws65
                clear f_56_ws65
                have f_56_ws68 : ws68[56]? = some ((q28, Sum.inl (cI, 4097, Sum.inl (fun _ => 0))) : Nat × va_E) := by rw [e_ws68]; exact gs_ne (by decide) f_56_ws66
                clear f_56_ws66
                have f_56_ws70 : ws70[56]? = some ((q28, Sum.inl (cI, 4097, Sum.inl (fun _ => 0))) : Nat × va_E) := by rw [e_ws70]; exact gs_app f_56_ws68
                clear f_56_ws68
                have f_56_ws71 : ws71[56]? = some ((q28, Sum.inl (cI, 4097, Sum.inl (fun _ => 0))) : Nat × va_E) := by rw [e_ws71]; exact gs_ne (by decide) f_56_ws70
                clear f_56_ws70
                have f_56_ws73 : ws73[56]? = some ((q28, Sum.inl (cI, 4097, Sum.inl (fun _ => 0))) : Nat × va_E) := by rw [e_ws73]; exact gs_app f_56_ws71
                clear f_56_ws71
                have f_56_ws74 : ws74[56]? = some ((q28, Sum.inl (cI, 4097, Sum.inl (fun _ => 0))) : Nat × va_E) := by rw [e_ws74]; exact gs_ne (by decide) f_56_ws73
                clear f_56_ws73
                have f_56_ws76 : ws76[56]? = some ((q28, Sum.inl (cI, 4097, Sum.inl (fun _ => 0))) : Nat × va_E) := by rw [e_ws76]; exact gs_app f_56_ws74
                clear f_56_ws74
                have f_56_ws77 : ws77[56]? = some ((q28, Sum.inl (cI, 4097, Sum.inl (fun _ => 0))) : Nat × va_E) := by rw [e_ws77]; exact gs_ne (by decide) f_56_ws76
                clear f_56_ws76
                have f_56_ws79 : ws79[56]? = some ((q28, Sum.inl (cI, 4097, Sum.inl (fun _ => 0))) : Nat × va_E) := by rw [e_ws79]; exact gs_app f_56_ws77
                clear f_56_ws77
                have f_56_ws81 : ws81[56]? = some ((q28, Sum.inl (cI, 4097, Sum.inl (fun _ => 0))) : Nat × va_E) := by rw [e_ws81]; exact gs_app f_56_ws79
                clear f_56_ws79
                have f_56_ws83 : ws83[56]? = some ((q28, Sum.inl (cI, 4097, Sum.inl (fun _ => 0))) : Nat × va_E) := e_ws83.at (by first | decide | (simp; done) | (simp; omega)) f_56_ws81
                clear f_56_ws81
                have f_56_ws91 : ws91[56]? = some ((q28, Sum.inl (cI, 4097, Sum.inl (fun _ => 0))) : Nat × va_E) := by rw [e_ws91]; exact gs_ne (by decide) f_56_ws83
                clear f_56_ws83
                have f_56_ws93 : ws93[56]? = some ((q28, Sum.inl (cI, 4097, Sum.inl (fun _ => 0))) : Nat × va_E) := by rw [e_ws93]; exact gs_app f_56_ws91
                clear f_56_ws91
                have f_56_ws95 : ws95[56]? = some ((q28, Sum.inl (cI, 4097, Sum.inl (fun _ => 0))) : Nat × va_E) := e_ws95.at (by first | decide | (simp; done) | (simp; omega)) f_56_ws93
                clear f_56_ws93
                have f_56_ws103 : ws103[56]? = some ((q28, Sum.inl (cI, 4097, Sum.inl (fun _ => 0))) : Nat × va_E) := by rw [e_ws103]; exact gs_ne (by decide) f_56_ws95
                clear f_56_ws95
                have f_56_ws105 : ws105[56]? = some ((q28, Sum.inl (cI, 4097, Sum.inl (fun _ => 0))) : Nat × va_E) := by rw [e_ws105]; exact gs_app f_56_ws103
                clear f_56_ws103
                have f_56_ws107 : ws107[56]? = some ((q28, Sum.inl (cI, 4097, Sum.inl (fun _ => 0))) : Nat × va_E) := e_ws107.at (by first | decide | (simp; done) | (simp; omega)) f_56_ws105
                clear f_56_ws105
                have f_56_ws115 : ws115[56]? = some ((q28, Sum.inl (cI, 4097, Sum.inl (fun _ => 0))) : Nat × va_E) := by rw [e_ws115]; exact gs_ne (by decide) f_56_ws107
                clear f_56_ws107
                have f_56_ws117 : ws117[56]? = some ((q28, Sum.inl (cI, 4097, Sum.inl (fun _ => 0))) : Nat × va_E) := by rw [e_ws117]; exact gs_app f_56_ws115
                clear f_56_ws115
                have f_56_ws119 : ws119[56]? = some ((q28, Sum.inl (cI, 4097, Sum.inl (fun _ => 0))) : Nat × va_E) := e_ws119.at (by first | decide | (simp; done) | (simp; omega)) f_56_ws117
                clear f_56_ws117
                have f_56_ws127 : ws127[56]? = some ((q28, Sum.inl (cI, 4097, Sum.inl (fun _ => 0))) : Nat × va_E) := by rw [e_ws127]; exact gs_ne (by decide) f_56_ws119
                clear f_56_ws119
                have f_56_ws128 : ws128[56]? = some ((q28, Sum.inl (cI, 4097, Sum.inl (fun _ => 0))) : Nat × va_E) := by rw [e_ws128]; exact gs_ne (by decide) f_56_ws127
                clear f_56_ws127
                have f_57_ws34 : ws34[57]? = some ((q29, Sum.inl (cI, 4098, Sum.inl (fun _ => 0))) : Nat × va_E) := by rw [e_ws34]; exact gs_ne (by decide) f_57_ws26
                clear f_57_ws26
                have f_57_ws36 : ws36[57]? = some ((q29, Sum.inl (cI, 4098, Sum.inl (fun _ => 0))) : Nat × va_E) := by rw [e_ws36]; exact gs_app f_57_ws34
                clear f_57_ws34
                have f_57_ws38 : ws38[57]? = some ((q29, Sum.inl (cI, 4098, Sum.inl (fun _ => 0))) : Nat × va_E) := e_ws38.at (by first | decide | (simp; done) | (simp; omega)) f_57_ws36
                clear f_57_ws36
                have f_57_ws46 : ws46[57]? = some ((q29, Sum.inl (cI, 4098, Sum.inl (fun _ => 0))) : Nat × va_E) := by rw [e_ws46]; exact gs_ne (by decide) f_57_ws38
                clear f_57_ws38
                have f_57_ws48 : ws48[57]? = some ((q29, Sum.inl (cI, 4098, Sum.inl (fun _ => 0))) : Nat × va_E) := by rw [e_ws48]; exact gs_app f_57_ws46
                clear f_57_ws46
                have f_57_ws50 : ws50[57]? = some ((q29, Sum.inl (cI, 4098, Sum.inl (fun _ => 0))) : Nat × va_E) := e_ws50.at (by first | decide | (simp; done) | (simp; omega)) f_57_ws48
                clear f_57_ws48
                have f_57_ws58 : ws58[57]? = some ((q29, Sum.inl (cI, 4098, Sum.inl (fun _ => 0))) : Nat × va_E) := by rw [e_ws58]; exact gs_ne (by decide) f_57_ws50
                clear f_57_ws50
                have f_57_ws60 : ws60[57]? = some ((q29, Sum.inl (cI, 4098, Sum.inl (fun _ => 0))) : Nat × va_E) := by rw [e_ws60]; exact gs_app f_57_ws58
                clear f_57_ws58
                have f_57_ws61 : ws61[57]? = some ((q29, Sum.inl (cI, 4098, Sum.inl (fun _ => 0))) : Nat × va_E) := by rw [e_ws61]; exact gs_ne (by decide) f_57_ws60
                clear f_57_ws60
                have f_57_ws63 : ws63[57]? = some ((q29, Sum.inl (cI, 4098, Sum.inl (fun _ => 0))) : Nat × va_E) := by rw [e_ws63]; exact gs_app f_57_ws61
                clear f_57_ws61
                have f_57_ws64 : ws64[57]? = some ((q29, Sum.inl (cI, 4098, Sum.inl (fun _ => 0))) : Nat × va_E) := by rw [e_ws64]; exact gs_ne (by decide) f_57_ws63
                clear f_57_ws63
                have f_57_ws65 : ws65[57]? = some ((q29, Sum.inl (cI, 4098, Sum.inl (fun _ => 0))) : Nat × va_E) := by rw [e_ws65]; exact gs_ne (by decide) f_57_ws64
                clear f_57_ws64
                have f_57_ws66 : ws66[57]? = some ((q29, Sum.inl (cI, 4098, Sum.inl (fun _ => 0))) : Nat × va_E) := by rw [e_ws66]; exact gs_ne (by decide) f_57_ws65
                clear f_57_ws65
                have f_57_ws68 : ws68[57]? = some ((q29, Sum.inl (cI, 4098, Sum.inl (fun _ => 0))) : Nat × va_E) := by rw [e_ws68]; exact gs_ne (by decide) f_57_ws66
                clear f_57_ws66
                have f_57_ws70 : ws70[57]? = some ((q29, Sum.inl (cI, 4098, Sum.inl (fun _ => 0))) : Nat × va_E) := by rw [e_ws70]; exact gs_app f_57_ws68
                clear f_57_ws68
                have f_57_ws71 : ws71[57]? = some ((q29, Sum.inl (cI, 4098, Sum.inl (fun _ => 0))) : Nat × va_E) := by rw [e_ws71]; exact gs_ne (by decide) f_57_ws70
                clear f_57_ws70
                have f_57_ws73 : ws73[57]? = some ((q29, Sum.inl (cI, 4098, Sum.inl (fun _ => 0))) : Nat × va_E) := by rw [e_ws73]; exact gs_app f_57_ws71
                clear f_57_ws71
                have f_57_ws74 : ws74[57]? = some ((q29, Sum.inl (cI, 4098, Sum.inl (fun _ => 0))) : Nat × va_E) := by rw [e_ws74]; exact gs_ne (by decide) f_57_ws73
                clear f_57_ws73
                have f_57_ws76 : ws76[57]? = some ((q29, Sum.inl (cI, 4098, Sum.inl (fun _ => 0))) : Nat × va_E) := by rw [e_ws76]; exact gs_app f_57_ws74
                clear f_57_ws74
                have f_57_ws77 : ws77[57]? = some ((q29, Sum.inl (cI, 4098, Sum.inl (fun _ => 0))) : Nat × va_E) := by rw [e_ws77]; exact gs_ne (by decide) f_57_ws76
                clear f_57_ws76
                have f_57_ws79 : ws79[57]? = some ((q29, Sum.inl (cI, 4098, Sum.inl (fun _ => 0))) : Nat × va_E) := by rw [e_ws79]; exact gs_app f_57_ws77
                clear f_57_ws77
                have f_57_ws81 : ws81[57]? = some ((q29, Sum.inl (cI, 4098, Sum.inl (fun _ => 0))) : Nat × va_E) := by rw [e_ws81]; exact gs_app f_57_ws79
                clear f_57_ws79
                have f_57_ws83 : ws83[57]? = some ((q29, Sum.inl (cI, 4098, Sum.inl (fun _ => 0))) : Nat × va_E) := e_ws83.at (by first | decide | (simp; done) | (simp; omega)) f_57_ws81
                clear f_57_ws81
                have f_57_ws91 : ws91[57]? = some ((q29, Sum.inl (cI, 4098, Sum.inl (fun _ => 0))) : Nat × va_E) := by rw [e_ws91]; exact gs_ne (by decide) f_57_ws83
                clear f_57_ws83
                have f_57_ws93 : ws93[57]? = some ((q29, Sum.inl (cI, 4098, Sum.inl (fun _ => 0))) : Nat × va_E) := by rw [e_ws93]; exact gs_app f_57_ws91
                clear f_57_ws91
                have f_57_ws95 : ws95[57]? = some ((q29, Sum.inl (cI, 4098, Sum.inl (fun _ => 0))) : Nat × va_E) := e_ws95.at (by first | decide | (simp; done) | (simp; omega)) f_57_ws93
                clear f_57_ws93
                have f_57_ws103 : ws103[57]? = some ((q29, Sum.inl (cI, 4098, Sum.inl (fun _ => 0))) : Nat × va_E) := by rw [e_ws103]; exact gs_ne (by decide) f_57_ws95
                clear f_57_ws95
                have f_57_ws105 : ws105[57]? = some ((q29, Sum.inl (cI, 4098, Sum.inl (fun _ => 0))) : Nat × va_E) := by rw [e_ws105]; exact gs_app f_57_ws103
                clear f_57_ws103
                have f_57_ws107 : ws107[57]? = some ((q29, Sum.inl (cI, 4098, Sum.inl (fun _ => 0))) : Nat × va_E) := e_ws107.at (by first | decide | (simp; done) | (simp; omega)) f_57_ws105
                clear f_57_ws105
                have f_57_ws115 : ws115[57]? = some ((q29, Sum.inl (cI, 4098, Sum.inl (fun _ => 0))) : Nat × va_E) := by rw [e_ws115]; exact gs_ne (by decide) f_57_ws107
                clear f_57_ws107
                have f_57_ws117 : ws117[57]? = some ((q29, Sum.inl (cI, 4098, Sum.inl (fun _ => 0))) : Nat × va_E) := by rw [e_ws117]; exact gs_app f_57_ws115
                clear f_57_ws115
                have f_57_ws119 : ws119[57]? = some ((q29, Sum.inl (cI, 4098, Sum.inl (fun _ => 0))) : Nat × va_E) := e_ws119.at (by first | decide | (simp; done) | (simp; omega)) f_57_ws117
                clear f_57_ws117
                have f_57_ws127 : ws127[57]? = some ((q29, Sum.inl (cI, 4098, Sum.inl (fun _ => 0))) : Nat × va_E) := by rw [e_ws127]; exact gs_ne (by decide) f_57_ws119
                clear f_57_ws119
                have f_57_ws128 : ws128[57]? = some ((q29, Sum.inl (cI, 4098, Sum.inl (fun _ => 0))) : Nat × va_E) := by rw [e_ws128]; exact gs_ne (by decide) f_57_ws127
                clear f_57_ws127
                have f_58_ws34 : ws34[58]? = some ((q30, Sum.inl (cI, 4097, Sum.inl (fun _ => 0))) : Nat × va_E) := by rw [e_ws34]; exact gs_ne (by decide) f_58_ws26
                clear f_58_ws26
                have f_58_ws36 : ws36[58]? = some ((q30, Sum.inl (cI, 4097, Sum.inl (fun _ => 0))) : Nat × va_E) := by rw [e_ws36]; exact gs_app f_58_ws34
                clear f_58_ws34
                have f_58_ws38 : ws38[58]? = some ((q30, Sum.inl (cI, 4097, Sum.inl (fun _ => 0))) : Nat × va_E) := e_ws38.at (by first | decide | (simp; done) | (simp; omega)) f_58_ws36
                clear f_58_ws36
                have f_58_ws46 : ws46[58]? = some ((q30, Sum.inl (cI, 4097, Sum.inl (fun _ => 0))) : Nat × va_E) := by rw [e_ws46]; exact gs_ne (by decide) f_58_ws38
                clear f_58_ws38
                have f_58_ws48 : ws48[58]? = some ((q30, Sum.inl (cI, 4097, Sum.inl (fun _ => 0))) : Nat × va_E) := by rw [e_ws48]; exact gs_app f_58_ws46
                clear f_58_ws46
                have f_58_ws50 : ws50[58]? = some ((q30, Sum.inl (cI, 4097, Sum.inl (fun _ => 0))) : Nat × va_E) := e_ws50.at (by first | decide | (simp; done) | (simp; omega)) f_58_ws48
                clear f_58_ws48
                have f_58_ws58 : ws58[58]? = some ((q30, Sum.inl (cI, 4097, Sum.inl (fun _ => 0))) : Nat × va_E) := by rw [e_ws58]; exact gs_ne (by decide) f_58_ws50
                clear f_58_ws50
                have f_58_ws60 : ws60[58]? = some ((q30, Sum.inl (cI, 4097, Sum.inl (fun _ => 0))) : Nat × va_E) := by rw [e_ws60]; exact gs_app f_58_ws58
                clear f_58_ws58
                have f_58_ws61 : ws61[58]? = some ((q30, Sum.inl (cI, 4097, Sum.inl (fun _ => 0))) : Nat × va_E) := by rw [e_ws61]; exact gs_ne (by decide) f_58_ws60
                clear f_58_ws60
                have f_58_ws63 : ws63[58]? = some ((q30, Sum.inl (cI, 4097, Sum.inl (fun _ => 0))) : Nat × va_E) := by rw [e_ws63]; exact gs_app f_58_ws61
                clear f_58_ws61
                have f_58_ws64 : ws64[58]? = some ((q30, Sum.inl (cI, 4097, Sum.inl (fun _ => 0))) : Nat × va_E) := by rw [e_ws64]; exact gs_ne (by decide) f_58_ws63
                clear f_58_ws63
                have f_58_ws65 : ws65[58]? = some ((q30, Sum.inl (cI, 4097, Sum.inl (fun _ => 0))) : Nat × va_E) := by rw [e_ws65]; exact gs_ne (by decide) f_58_ws64
                clear f_58_ws64
                have f_58_ws66 : ws66[58]? = some ((q30, Sum.inl (cI, 4097, Sum.inl (fun _ => 0))) : Nat × va_E) := by rw [e_ws66]; exact gs_ne (by decide) f_58_ws65
                clear f_58_ws65
                have f_58_ws68 : ws68[58]? = some ((q30, Sum.inl (cI, 4097, Sum.inl (fun _ => 0))) : Nat × va_E) := by rw [e_ws68]; exact gs_ne (by decide) f_58_ws66
                clear f_58_ws66
                have f_58_ws70 : ws70[58]? = some ((q30, Sum.inl (cI, 4097, Sum.inl (fun _ => 0))) : Nat × va_E) := by rw [e_ws70]; exact gs_app f_58_ws68
                clear f_58_ws68
                have f_58_ws71 : ws71[58]? = some ((q30, Sum.inl (cI, 4097, Sum.inl (fun _ => 0))) : Nat × va_E) := by rw [e_ws71]; exact gs_ne (by decide) f_58_ws70
                clear f_58_ws70
                have f_58_ws73 : ws73[58]? = some ((q30, Sum.inl (cI, 4097, Sum.inl (fun _ => 0))) : Nat × va_E) := by rw [e_ws73]; exact gs_app f_58_ws71
                clear f_58_ws71
                have f_58_ws74 : ws74[58]? = some ((q30, Sum.inl (cI, 4097, Sum.inl (fun _ => 0))) : Nat × va_E) := by rw [e_ws74]; exact gs_ne (by decide) f_58_ws73
                clear f_58_ws73
                have f_58_ws76 : ws76[58]? = some ((q30, Sum.inl (cI, 4097, Sum.inl (fun _ => 0))) : Nat × va_E) := by rw [e_ws76]; exact gs_app f_58_ws74
                clear f_58_ws74
                have f_58_ws77 : ws77[58]? = some ((q30, Sum.inl (cI, 4097, Sum.inl (fun _ => 0))) : Nat × va_E) := by rw [e_ws77]; exact gs_ne (by decide) f_58_ws76
                clear f_58_ws76
                have f_58_ws79 : ws79[58]? = some ((q30, Sum.inl (cI, 4097, Sum.inl (fun _ => 0))) : Nat × va_E) := by rw [e_ws79]; exact gs_app f_58_ws77
                clear f_58_ws77
                have f_58_ws81 : ws81[58]? = some ((q30, Sum.inl (cI, 4097, Sum.inl (fun _ => 0))) : Nat × va_E) := by rw [e_ws81]; exact gs_app f_58_ws79
                clear f_58_ws79
                have f_58_ws83 : ws83[58]? = some ((q30, Sum.inl (cI, 4097, Sum.inl (fun _ => 0))) : Nat × va_E) := e_ws83.at (by first | decide | (simp; done) | (simp; omega)) f_58_ws81
                clear f_58_ws81
                have f_58_ws91 : ws91[58]? = some ((q30, Sum.inl (cI, 4097, Sum.inl (fun _ => 0))) : Nat × va_E) := by rw [e_ws91]; exact gs_ne (by decide) f_58_ws83
                clear f_58_ws83
                have f_58_ws93 : ws93[58]? = some ((q30, Sum.inl (cI, 4097, Sum.inl (fun _ => 0))) : Nat × va_E) := by rw [e_ws93]; exact gs_app f_58_ws91
                clear f_58_ws91
                have f_58_ws95 : ws95[58]? = some ((q30, Sum.inl (cI, 4097, Sum.inl (fun _ => 0))) : Nat × va_E) := e_ws95.at (by first | decide | (simp; done) | (simp; omega)) f_58_ws93
                clear f_58_ws93
                have f_58_ws103 : ws103[58]? = some ((q30, Sum.inl (cI, 4097, Sum.inl (fun _ => 0))) : Nat × va_E) := by rw [e_ws103]; exact gs_ne (by decide) f_58_ws95
                clear f_58_ws95
                have f_58_ws105 : ws105[58]? = some ((q30, Sum.inl (cI, 4097, Sum.inl (fun _ => 0))) : Nat × va_E) := by rw [e_ws105]; exact gs_app f_58_ws103
                clear f_58_ws103
                have f_58_ws107 : ws107[58]? = some ((q30, Sum.inl (cI, 4097, Sum.inl (fun _ => 0))) : Nat × va_E) := e_ws107.at (by first | decide | (simp; done) | (simp; omega)) f_58_ws105
                clear f_58_ws105
                have f_58_ws115 : ws115[58]? = some ((q30, Sum.inl (cI, 4097, Sum.inl (fun _ => 0))) : Nat × va_E) := by rw [e_ws115]; exact gs_ne (by decide) f_58_ws107
                clear f_58_ws107
                have f_58_ws117 : ws117[58]? = some ((q30, Sum.inl (cI, 4097, Sum.inl (fun _ => 0))) : Nat × va_E) := by rw [e_ws117]; exact gs_app f_58_ws115
                clear f_58_ws115
                have f_58_ws119 : ws119[58]? = some ((q30, Sum.inl (cI, 4097, Sum.inl (fun _ => 0))) : Nat × va_E) := e_ws119.at (by first | decide | (simp; done) | (simp; omega)) f_58_ws117
                clear f_58_ws117
                have f_58_ws127 : ws127[58]? = some ((q30, Sum.inl (cI, 4097, Sum.inl (fun _ => 0))) : Nat × va_E) := by rw [e_ws127]; exact gs_ne (by decide) f_58_ws119
                clear f_58_ws119
                have f_58_ws128 : ws128[58]? = some ((q30, Sum.inl (cI, 4097, Sum.inl (fun _ => 0))) : Nat × va_E) := by rw [e_ws128]; exact gs_ne (by decide) f_58_ws127
                clear f_58_ws127
                have f_59_ws34 : ws34[59]? = some ((q31, Sum.inl (cI, 4096, Sum.inl (fun _ => 0))) : Nat × va_E) := by rw [e_ws34]; exact gs_ne (by decide) f_59_ws26
                clear f_59_ws26
                have f_59_ws36 : ws36[59]? = some ((q31, Sum.inl (cI, 4096, Sum.inl (fun _ => 0))) : Nat × va_E) := by rw [e_ws36]; exact gs_app f_59_ws34
                clear f_59_ws34
                have f_59_ws38 : ws38[59]? = some ((q31, Sum.inl (cI, 4096, Sum.inl (fun _ => 0))) : Nat × va_E) := e_ws38.at (by first | decide | (simp; done) | (simp; omega)) f_59_ws36
                clear f_59_ws36
                have f_59_ws46 : ws46[59]? = some ((q31, Sum.inl (cI, 4096, Sum.inl (fun _ => 0))) : Nat × va_E) := by rw [e_ws46]; exact gs_ne (by decide) f_59_ws38
                clear f_59_ws38
                have f_59_ws48 : ws48[59]? = some ((q31, Sum.inl (cI, 4096, Sum.inl (fun _ => 0))) : Nat × va_E) := by rw [e_ws48]; exact gs_app f_59_ws46
                clear f_59_ws46
                have f_59_ws50 : ws50[59]? = some ((q31, Sum.inl (cI, 4096, Sum.inl (fun _ => 0))) : Nat × va_E) := e_ws50.at (by first | decide | (simp; done) | (simp; omega)) f_59_ws48
                clear f_59_ws48
                have f_59_ws58 : ws58[59]? = some ((q31, Sum.inl (cI, 4096, Sum.inl (fun _ => 0))) : Nat × va_E) := by rw [e_ws58]; exact gs_ne (by decide) f_59_ws50
                clear f_59_ws50
                have f_59_ws60 : ws60[59]? = some ((q31, Sum.inl (cI, 4096, Sum.inl (fun _ => 0))) : Nat × va_E) := by rw [e_ws60]; exact gs_app f_59_ws58
                clear f_59_ws58
                have f_59_ws61 : ws61[59]? = some ((q31, Sum.inl (cI, 4096, Sum.inl (fun _ => 0))) : Nat × va_E) := by rw [e_ws61]; exact gs_ne (by decide) f_59_ws60
                clear f_59_ws60
                have f_59_ws63 : ws63[59]? = some ((q31, Sum.inl (cI, 4096, Sum.inl (fun _ => 0))) : Nat × va_E) := by rw [e_ws63]; exact gs_app f_59_ws61
                clear f_59_ws61
                have f_59_ws64 : ws64[59]? = some ((q31, Sum.inl (cI, 4096, Sum.inl (fun _ => 0))) : Nat × va_E) := by rw [e_ws64]; exact gs_ne (by decide) f_59_ws63
                clear f_59_ws63
                have f_59_ws65 : ws65[59]? = some ((q31, Sum.inl (cI, 4096, Sum.inl (fun _ => 0))) : Nat × va_E) := by rw [e_ws65]; exact gs_ne (by decide) f_59_ws64
                clear f_59_ws64
                have f_59_ws66 : ws66[59]? = some ((q31, Sum.inl (cI, 4096, Sum.inl (fun _ => 0))) : Nat × va_E) := by rw [e_ws66]; exact gs_ne (by decide) f_59_ws65
                clear f_59_ws65
                have f_59_ws68 : ws68[59]? = some ((q31, Sum.inl (cI, 4096, Sum.inl (fun _ => 0))) : Nat × va_E) := by rw [e_ws68]; exact gs_ne (by decide) f_59_ws66
                clear f_59_ws66
                have f_59_ws70 : ws70[59]? = some ((q31, Sum.inl (cI, 4096, Sum.inl (fun _ => 0))) : Nat × va_E) := by rw [e_ws70]; exact gs_app f_59_ws68
                clear f_59_ws68
                have f_59_ws71 : ws71[59]? = some ((q31, Sum.inl (cI, 4096, Sum.inl (fun _ => 0))) : Nat × va_E) := by rw [e_ws71]; exact gs_ne (by decide) f_59_ws70
                clear f_59_ws70
                have f_59_ws73 : ws73[59]? = some ((q31, Sum.inl (cI, 4096, Sum.inl (fun _ => 0))) : Nat × va_E) := by rw [e_ws73]; exact gs_app f_59_ws71
                clear f_59_ws71
                have f_59_ws74 : ws74[59]? = some ((q31, Sum.inl (cI, 4096, Sum.inl (fun _ => 0))) : Nat × va_E) := by rw [e_ws74]; exact gs_ne (by decide) f_59_ws73
                clear f_59_ws73
                have f_59_ws76 : ws76[59]? = some ((q31, Sum.inl (cI, 4096, Sum.inl (fun _ => 0))) : Nat × va_E) := by rw [e_ws76]; exact gs_app f_59_ws74
                clear f_59_ws74
                have f_59_ws77 : ws77[59]? = some ((q31, Sum.inl (cI, 4096, Sum.inl (fun _ => 0))) : Nat × va_E) := by rw [e_ws77]; exact gs_ne (by decide) f_59_ws76
                clear f_59_ws76
                have f_59_ws79 : ws79[59]? = some ((q31, Sum.inl (cI, 4096, Sum.inl (fun _ => 0))) : Nat × va_E) := by rw [e_ws79]; exact gs_app f_59_ws77
                clear f_59_ws77
                have f_59_ws81 : ws81[59]? = some ((q31, Sum.inl (cI, 4096, Sum.inl (fun _ => 0))) : Nat × va_E) := by rw [e_ws81]; exact gs_app f_59_ws79
                clear f_59_ws79
                have f_59_ws83 : ws83[59]? = some ((q31, Sum.inl (cI, 4096, Sum.inl (fun _ => 0))) : Nat × va_E) := e_ws83.at (by first | decide | (simp; done) | (simp; omega)) f_59_ws81
                clear f_59_ws81
                have f_59_ws91 : ws91[59]? = some ((q31, Sum.inl (cI, 4096, Sum.inl (fun _ => 0))) : Nat × va_E) := by rw [e_ws91]; exact gs_ne (by decide) f_59_ws83
                clear f_59_ws83
                have f_59_ws93 : ws93[59]? = some ((q31, Sum.inl (cI, 4096, Sum.inl (fun _ => 0))) : Nat × va_E) := by rw [e_ws93]; exact gs_app f_59_ws91
                clear f_59_ws91
                have f_59_ws95 : ws95[59]? = some ((q31, Sum.inl (cI, 4096, Sum.inl (fun _ => 0))) : Nat × va_E) := e_ws95.at (by first | decide | (simp; done) | (simp; omega)) f_59_ws93
                clear f_59_ws93
                have f_59_ws103 : ws103[59]? = some ((q31, Sum.inl (cI, 4096, Sum.inl (fun _ => 0))) : Nat × va_E) := by rw [e_ws103]; exact gs_ne (by decide) f_59_ws95
                clear f_59_ws95
                have f_59_ws105 : ws105[59]? = some ((q31, Sum.inl (cI, 4096, Sum.inl (fun _ => 0))) : Nat × va_E) := by rw [e_ws105]; exact gs_app f_59_ws103
                clear f_59_ws103
                have f_59_ws107 : ws107[59]? = some ((q31, Sum.inl (cI, 4096, Sum.inl (fun _ => 0))) : Nat × va_E) := e_ws107.at (by first | decide | (simp; done) | (simp; omega)) f_59_ws105
                clear f_59_ws105
                have f_59_ws115 : ws115[59]? = some ((q31, Sum.inl (cI, 4096, Sum.inl (fun _ => 0))) : Nat × va_E) := by rw [e_ws115]; exact gs_ne (by decide) f_59_ws107
                clear f_59_ws107
                have f_59_ws117 : ws117[59]? = some ((q31, Sum.inl (cI, 4096, Sum.inl (fun _ => 0))) : Nat × va_E) := by rw [e_ws117]; exact gs_app f_59_ws115
                clear f_59_ws115
                have f_59_ws119 : ws119[59]? = some ((q31, Sum.inl (cI, 4096, Sum.inl (fun _ => 0))) : Nat × va_E) := e_ws119.at (by first | decide | (simp; done) | (simp; omega)) f_59_ws117
                clear f_59_ws117
                have f_59_ws127 : ws127[59]? = some ((q31, Sum.inl (cI, 4096, Sum.inl (fun _ => 0))) : Nat × va_E) := by rw [e_ws127]; exact gs_ne (by decide) f_59_ws119
                clear f_59_ws119
                have f_59_ws128 : ws128[59]? = some ((q31, Sum.inl (cI, 4096, Sum.inl (fun _ => 0))) : Nat × va_E) := by rw [e_ws128]; exact gs_ne (by decide) f_59_ws127
                clear f_59_ws127
                have f_60_ws34 : ws34[60]? = some ((q32, Sum.inl (cZ, 4096, Sum.inl (fun _ => 0))) : Nat × va_E) := by rw [e_ws34]; exact gs_ne (by decide) f_60_ws26
                clear f_60_ws26
                have f_60_ws36 : ws36[60]? = some ((q32, Sum.inl (cZ, 4096, Sum.inl (fun _ => 0))) : Nat × va_E) := by rw [e_ws36]; exact gs_app f_60_ws34
                clear f_60_ws34
                have f_60_ws38 : ws38[60]? = some ((q32, Sum.inl (cZ, 4096, Sum.inl (fun _ => 0))) : Nat × va_E) := e_ws38.at (by first | decide | (simp; done) | (simp; omega)) f_60_ws36
                clear f_60_ws36
                have f_60_ws46 : ws46[60]? = some ((q32, Sum.inl (cZ, 4096, Sum.inl (fun _ => 0))) : Nat × va_E) := by rw [e_ws46]; exact gs_ne (by decide) f_60_ws38
                clear f_60_ws38
                have f_60_ws48 : ws48[60]? = some ((q32, Sum.inl (cZ, 4096, Sum.inl (fun _ => 0))) : Nat × va_E) := by rw [e_ws48]; exact gs_app f_60_ws46
                clear f_60_ws46
                have f_60_ws50 : ws50[60]? = some ((q32, Sum.inl (cZ, 4096, Sum.inl (fun _ => 0))) : Nat × va_E) := e_ws50.at (by first | decide | (simp; done) | (simp; omega)) f_60_ws48
                clear f_60_ws48
                have f_60_ws58 : ws58[60]? = some ((q32, Sum.inl (cZ, 4096, Sum.inl (fun _ => 0))) : Nat × va_E) := by rw [e_ws58]; exact gs_ne (by decide) f_60_ws50
                clear f_60_ws50
                have f_60_ws60 : ws60[60]? = some ((q32, Sum.inl (cZ, 4096, Sum.inl (fun _ => 0))) : Nat × va_E) := by rw [e_ws60]; exact gs_app f_60_ws58
                clear f_60_ws58
                have f_60_ws61 : ws61[60]? = some ((q32, Sum.inl (cZ, 4096, Sum.inl (fun _ => 0))) : Nat × va_E) := by rw [e_ws61]; exact gs_ne (by decide) f_60_ws60
                clear f_60_ws60
                have f_60_ws63 : ws63[60]? = some ((q32, Sum.inl (cZ, 4096, Sum.inl (fun _ => 0))) : Nat × va_E) := by rw [e_ws63]; exact gs_app f_60_ws61
                clear f_60_ws61
                have f_60_ws64 : ws64[60]? = some ((q32, Sum.inl (cZ, 4096, Sum.inl (fun _ => 0))) : Nat × va_E) := by rw [e_ws64]; exact gs_ne (by decide) f_60_ws63
                clear f_60_ws63
                have f_60_ws65 : ws65[60]? = some ((q32, Sum.inl (cZ, 4096, Sum.inl (fun _ => 0))) : Nat × va_E) := by rw [e_ws65]; exact gs_ne (by decide) f_60_ws64
                clear f_60_ws64
                have f_60_ws66 : ws66[60]? = some ((q32, Sum.inl (cZ, 4096, Sum.inl (fun _ => 0))) : Nat × va_E) := by rw [e_ws66]; exact gs_ne (by decide) f_60_ws65
                clear f_60_ws65
                have f_60_ws68 : ws68[60]? = some ((q32, Sum.inl (cZ, 4096, Sum.inl (fun _ => 0))) : Nat × va_E) := by rw [e_ws68]; exact gs_ne (by decide) f_60_ws66
                clear f_60_ws66
                have f_60_ws70 : ws70[60]? = some ((q32, Sum.inl (cZ, 4096, Sum.inl (fun _ => 0))) : Nat × va_E) := by rw [e_ws70]; exact gs_app f_60_ws68
                clear f_60_ws68
                have f_60_ws71 : ws71[60]? = some ((q32, Sum.inl (cZ, 4096, Sum.inl (fun _ => 0))) : Nat × va_E) := by rw [e_ws71]; exact gs_ne (by decide) f_60_ws70
                clear f_60_ws70
                have f_60_ws73 : ws73[60]? = some ((q32, Sum.inl (cZ, 4096, Sum.inl (fun _ => 0))) : Nat × va_E) := by rw [e_ws73]; exact gs_app f_60_ws71
                clear f_60_ws71
                have f_60_ws74 : ws74[60]? = some ((q32, Sum.inl (cZ, 4096, Sum.inl (fun _ => 0))) : Nat × va_E) := by rw [e_ws74]; exact gs_ne (by decide) f_60_ws73
                clear f_60_ws73
                have f_60_ws76 : ws76[60]? = some ((q32, Sum.inl (cZ, 4096, Sum.inl (fun _ => 0))) : Nat × va_E) := by rw [e_ws76]; exact gs_app f_60_ws74
                clear f_60_ws74
                have f_60_ws77 : ws77[60]? = some ((q32, Sum.inl (cZ, 4096, Sum.inl (fun _ => 0))) : Nat × va_E) := by rw [e_ws77]; exact gs_ne (by decide) f_60_ws76
                clear f_60_ws76
                have f_60_ws79 : ws79[60]? = some ((q32, Sum.inl (cZ, 4096, Sum.inl (fun _ => 0))) : Nat × va_E) := by rw [e_ws79]; exact gs_app f_60_ws77
                clear f_60_ws77
                have f_60_ws81 : ws81[60]? = some ((q32, Sum.inl (cZ, 4096, Sum.inl (fun _ => 0))) : Nat × va_E) := by rw [e_ws81]; exact gs_app f_60_ws79
                clear f_60_ws79
                have f_60_ws83 : ws83[60]? = some ((q32, Sum.inl (cZ, 4096, Sum.inl (fun _ => 0))) : Nat × va_E) := e_ws83.at (by first | decide | (simp; done) | (simp; omega)) f_60_ws81
                clear f_60_ws81
                have f_60_ws91 : ws91[60]? = some ((q32, Sum.inl (cZ, 4096, Sum.inl (fun _ => 0))) : Nat × va_E) := by rw [e_ws91]; exact gs_ne (by decide) f_60_ws83
                clear f_60_ws83
                have f_60_ws93 : ws93[60]? = some ((q32, Sum.inl (cZ, 4096, Sum.inl (fun _ => 0))) : Nat × va_E) := by rw [e_ws93]; exact gs_app f_60_ws91
                clear f_60_ws91
                have f_60_ws95 : ws95[60]? = some ((q32, Sum.inl (cZ, 4096, Sum.inl (fun _ => 0))) : Nat × va_E) := e_ws95.at (by first | decide | (simp; done) | (simp; omega)) f_60_ws93
                clear f_60_ws93
                have f_60_ws103 : ws103[60]? = some ((q32, Sum.inl (cZ, 4096, Sum.inl (fun _ => 0))) : Nat × va_E) := by rw [e_ws103]; exact gs_ne (by decide) f_60_ws95
                clear f_60_ws95
                have f_60_ws105 : ws105[60]? = some ((q32, Sum.inl (cZ, 4096, Sum.inl (fun _ => 0))) : Nat × va_E) := by rw [e_ws105]; exact gs_app f_60_ws103
                clear f_60_ws103
                have f_60_ws107 : ws107[60]? = some ((q32, Sum.inl (cZ, 4096, Sum.inl (fun _ => 0))) : Nat × va_E) := e_ws107.at (by first | decide | (simp; done) | (simp; omega)) f_60_ws105
                clear f_60_ws105
                have f_60_ws115 : ws115[60]? = some ((q32, Sum.inl (cZ, 4096, Sum.inl (fun _ => 0))) : Nat × va_E) := by rw [e_ws115]; exact gs_ne (by decide) f_60_ws107
                clear f_60_ws107
                have f_60_ws117 : ws117[60]? = some ((q32, Sum.inl (cZ, 4096, Sum.inl (fun _ => 0))) : Nat × va_E) := by rw [e_ws117]; exact gs_app f_60_ws115
                clear f_60_ws115
                have f_60_ws119 : ws119[60]? = some ((q32, Sum.inl (cZ, 4096, Sum.inl (fun _ => 0))) : Nat × va_E) := e_ws119.at (by first | decide | (simp; done) | (simp; omega)) f_60_ws117
                clear f_60_ws117
                have f_60_ws127 : ws127[60]? = some ((q32, Sum.inl (cZ, 4096, Sum.inl (fun _ => 0))) : Nat × va_E) := by rw [e_ws127]; exact gs_ne (by decide) f_60_ws119
                clear f_60_ws119
                have f_60_ws128 : ws128[60]? = some ((q32, Sum.inl (cZ, 4096, Sum.inl (fun _ => 0))) : Nat × va_E) := by rw [e_ws128]; exact gs_ne (by decide) f_60_ws127
                clear f_60_ws127
                have f_61_ws34 : ws34[61]? = some ((q33, Sum.inl (cZ, 4096, Sum.inl (fun _ => 0))) : Nat × va_E) := by rw [e_ws34]; exact gs_ne (by decide) f_61_ws26
                clear f_61_ws26
                have f_61_ws36 : ws36[61]? = some ((q33, Sum.inl (cZ, 4096, Sum.inl (fun _ => 0))) : Nat × va_E) := by rw [e_ws36]; exact gs_app f_61_ws34
                clear f_61_ws34
                have f_61_ws38 : ws38[61]? = some ((q33, Sum.inl (cZ, 4096, Sum.inl (fun _ => 0))) : Nat × va_E) := e_ws38.at (by first | decide | (simp; done) | (simp; omega)) f_61_ws36
                clear f_61_ws36
                have f_61_ws46 : ws46[61]? = some ((q33, Sum.inl (cZ, 4096, Sum.inl (fun _ => 0))) : Nat × va_E) := by rw [e_ws46]; exact gs_ne (by decide) f_61_ws38
                clear f_61_ws38
                have f_61_ws48 : ws48[61]? = some ((q33, Sum.inl (cZ, 4096, Sum.inl (fun _ => 0))) : Nat × va_E) := by rw [e_ws48]; exact gs_app f_61_ws46
                clear f_61_ws46
                have f_61_ws50 : ws50[61]? = some ((q33, Sum.inl (cZ, 4096, Sum.inl (fun _ => 0))) : Nat × va_E) := e_ws50.at (by first | decide | (simp; done) | (simp; omega)) f_61_ws48
                clear f_61_ws48
                have f_61_ws58 : ws58[61]? = some ((q33, Sum.inl (cZ, 4096, Sum.inl (fun _ => 0))) : Nat × va_E) := by rw [e_ws58]; exact gs_ne (by decide) f_61_ws50
                clear f_61_ws50
                have f_61_ws60 : ws60[61]? = some ((q33, Sum.inl (cZ, 4096, Sum.inl (fun _ => 0))) : Nat × va_E) := by rw [e_ws60]; exact gs_app f_61_ws58
                clear f_61_ws58
                have f_61_ws61 : ws61[61]? = some ((q33, Sum.inl (cZ, 4096, Sum.inl (fun _ => 0))) : Nat × va_E) := by rw [e_ws61]; exact gs_ne (by decide) f_61_ws60
                clear f_61_ws60
                have f_61_ws63 : ws63[61]? = some ((q33, Sum.inl (cZ, 4096, Sum.inl (fun _ => 0))) : Nat × va_E) := by rw [e_ws63]; exact gs_app f_61_ws61
                clear f_61_ws61
                have f_61_ws64 : ws64[61]? = some ((q33, Sum.inl (cZ, 4096, Sum.inl (fun _ => 0))) : Nat × va_E) := by rw [e_ws64]; exact gs_ne (by decide) f_61_ws63
                clear f_61_ws63
                have f_61_ws65 : ws65[61]? = some ((q33, Sum.inl (cZ, 4096, Sum.inl (fun _ => 0))) : Nat × va_E) := by rw [e_ws65]; exact gs_ne (by decide) f_61_ws64
                clear f_61_ws64
                have f_61_ws66 : ws66[61]? = some ((q33, Sum.inl (cZ, 4096, Sum.inl (fun _ => 0))) : Nat × va_E) := by rw [e_ws66]; exact gs_ne (by decide) f_61_ws65
                clear f_61_ws65
                have f_61_ws68 : ws68[61]? = some ((q33, Sum.inl (cZ, 4096, Sum.inl (fun _ => 0))) : Nat × va_E) := by rw [e_ws68]; exact gs_ne (by decide) f_61_ws66
                clear f_61_ws66
                have f_61_ws70 : ws70[61]? = some ((q33, Sum.inl (cZ, 4096, Sum.inl (fun _ => 0))) : Nat × va_E) := by rw [e_ws70]; exact gs_app f_61_ws68
                clear f_61_ws68
                have f_61_ws71 : ws71[61]? = some ((q33, Sum.inl (cZ, 4096, Sum.inl (fun _ => 0))) : Nat × va_E) := by rw [e_ws71]; exact gs_ne (by decide) f_61_ws70
                clear f_61_ws70
                have f_61_ws73 : ws73[61]? = some ((q33, Sum.inl (cZ, 4096, Sum.inl (fun _ => 0))) : Nat × va_E) := by rw [e_ws73]; exact gs_app f_61_ws71
                clear f_61_ws71
                have f_61_ws74 : ws74[61]? = some ((q33, Sum.inl (cZ, 4096, Sum.inl (fun _ => 0))) : Nat × va_E) := by rw [e_ws74]; exact gs_ne (by decide) f_61_ws73
                clear f_61_ws73
                have f_61_ws76 : ws76[61]? = some ((q33, Sum.inl (cZ, 4096, Sum.inl (fun _ => 0))) : Nat × va_E) := by rw [e_ws76]; exact gs_app f_61_ws74
                clear f_61_ws74
                have f_61_ws77 : ws77[61]? = some ((q33, Sum.inl (cZ, 4096, Sum.inl (fun _ => 0))) : Nat × va_E) := by rw [e_ws77]; exact gs_ne (by decide) f_61_ws76
                clear f_61_ws76
                have f_61_ws79 : ws79[61]? = some ((q33, Sum.inl (cZ, 4096, Sum.inl (fun _ => 0))) : Nat × va_E) := by rw [e_ws79]; exact gs_app f_61_ws77
                clear f_61_ws77
                have f_61_ws81 : ws81[61]? = some ((q33, Sum.inl (cZ, 4096, Sum.inl (fun _ => 0))) : Nat × va_E) := by rw [e_ws81]; exact gs_app f_61_ws79
                clear f_61_ws79
                have f_61_ws83 : ws83[61]? = some ((q33, Sum.inl (cZ, 4096, Sum.inl (fun _ => 0))) : Nat × va_E) := e_ws83.at (by first | decide | (simp; done) | (simp; omega)) f_61_ws81
                clear f_61_ws81
                have f_61_ws91 : ws91[61]? = some ((q33, Sum.inl (cZ, 4096, Sum.inl (fun _ => 0))) : Nat × va_E) := by rw [e_ws91]; exact gs_ne (by decide) f_61_ws83
                clear f_61_ws83
                have f_61_ws93 : ws93[61]? = some ((q33, Sum.inl (cZ, 4096, Sum.inl (fun _ => 0))) : Nat × va_E) := by rw [e_ws93]; exact gs_app f_61_ws91
                clear f_61_ws91
                have f_61_ws95 : ws95[61]? = some ((q33, Sum.inl (cZ, 4096, Sum.inl (fun _ => 0))) : Nat × va_E) := e_ws95.at (by first | decide | (simp; done) | (simp; omega)) f_61_ws93
                clear f_61_ws93
                have f_61_ws103 : ws103[61]? = some ((q33, Sum.inl (cZ, 4096, Sum.inl (fun _ => 0))) : Nat × va_E) := by rw [e_ws103]; exact gs_ne (by decide) f_61_ws95
                clear f_61_ws95
                have f_61_ws105 : ws105[61]? = some ((q33, Sum.inl (cZ, 4096, Sum.inl (fun _ => 0))) : Nat × va_E) := by rw [e_ws105]; exact gs_app f_61_ws103
                clear f_61_ws103
                have f_61_ws107 : ws107[61]? = some ((q33, Sum.inl (cZ, 4096, Sum.inl (fun _ => 0))) : Nat × va_E) := e_ws107.at (by first | decide | (simp; done) | (simp; omega)) f_61_ws105
                clear f_61_ws105
                have f_61_ws115 : ws115[61]? = some ((q33, Sum.inl (cZ, 4096, Sum.inl (fun _ => 0))) : Nat × va_E) := by rw [e_ws115]; exact gs_ne (by decide) f_61_ws107
                clear f_61_ws107
                have f_61_ws117 : ws117[61]? = some ((q33, Sum.inl (cZ, 4096, Sum.inl (fun _ => 0))) : Nat × va_E) := by rw [e_ws117]; exact gs_app f_61_ws115
                clear f_61_ws115
                have f_61_ws119 : ws119[61]? = some ((q33, Sum.inl (cZ, 4096, Sum.inl (fun _ => 0))) : Nat × va_E) := e_ws119.at (by first | decide | (simp; done) | (simp; omega)) f_61_ws117
                clear f_61_ws117
                have f_61_ws127 : ws127[61]? = some ((q33, Sum.inl (cZ, 4096, Sum.inl (fun _ => 0))) : Nat × va_E) := by rw [e_ws127]; exact gs_ne (by decide) f_61_ws119
                clear f_61_ws119
                have f_61_ws128 : ws128[61]? = some ((q33, Sum.inl (cZ, 4096, Sum.inl (fun _ => 0))) : Nat × va_E) := by rw [e_ws128]; exact gs_ne (by decide) f_61_ws127
                clear f_61_ws127
                have f_62_ws46 : ws46[62]? = some ((q35, Sum.inr (9, [Value.ref q39, Value.ref q40, Value.ref q41, Value.ref q42, Value.ref q43, Value.ref q44, Value.ref q45, Value.int 0, Value.int 0, Value.int 0, Value.int 0])) : Nat × va_E) := by rw [e_ws46]; exact gs_ne (by decide) f_62_ws38
                clear f_62_ws38
                have f_62_ws48 : ws48[62]? = some ((q35, Sum.inr (9, [Value.ref q39, Value.ref q40, Value.ref q41, Value.ref q42, Value.ref q43, Value.ref q44, Value.ref q45, Value.int 0, Value.int 0, Value.int 0, Value.int 0])) : Nat × va_E) := by rw [e_ws48]; exact gs_app f_62_ws46
                clear f_62_ws46
                have f_62_ws50 : ws50[62]? = some ((q35, Sum.inr (9, [Value.ref q39, Value.ref q40, Value.ref q41, Value.ref q42, Value.ref q43, Value.ref q44, Value.ref q45, Value.int 0, Value.int 0, Value.int 0, Value.int 0])) : Nat × va_E) := e_ws50.at (by first | decide | (simp; done) | (simp; omega)) f_62_ws48
                clear f_62_ws48
                have f_62_ws58 : ws58[62]? = some ((q35, Sum.inr (9, [Value.ref q39, Value.ref q40, Value.ref q41, Value.ref q42, Value.ref q43, Value.ref q44, Value.ref q45, Value.int 0, Value.int 0, Value.int 0, Value.int 0])) : Nat × va_E) := by rw [e_ws58]; exact gs_ne (by decide) f_62_ws50
                clear f_62_ws50
                have f_62_ws60 : ws60[62]? = some ((q35, Sum.inr (9, [Value.ref q39, Value.ref q40, Value.ref q41, Value.ref q42, Value.ref q43, Value.ref q44, Value.ref q45, Value.int 0, Value.int 0, Value.int 0, Value.int 0])) : Nat × va_E) := by rw [e_ws60]; exact gs_app f_62_ws58
                clear f_62_ws58
                have f_62_ws61 : ws61[62]? = some ((q35, Sum.inr (9, [Value.ref q39, Value.ref q40, Value.ref q41, Value.ref q42, Value.ref q43, Value.ref q44, Value.ref q45, Value.int 0, Value.int 0, Value.int 0, Value.int 0])) : Nat × va_E) := by rw [e_ws61]; exact gs_ne (by decide) f_62_ws60
                clear f_62_ws60
                have f_62_ws63 : ws63[62]? = some ((q35, Sum.inr (9, [Value.ref q39, Value.ref q40, Value.ref q41, Value.ref q42, Value.ref q43, Value.ref q44, Value.ref q45, Value.int 0, Value.int 0, Value.int 0, Value.int 0])) : Nat × va_E) := by rw [e_ws63]; exact gs_app f_62_ws61
                clear f_62_ws61
                have f_62_ws64 : ws64[62]? = some ((q35, Sum.inr (9, [Value.ref q39, Value.ref q40, Value.ref q41, Value.ref q42, Value.ref q43, Value.ref q44, Value.ref q45, Value.int 0, Value.int 0, Value.int 0, Value.int 0])) : Nat × va_E) := by rw [e_ws64]; exact gs_ne (by decide) f_62_ws63
                clear f_62_ws63
                have f_62_ws65 : ws65[62]? = some ((q35, Sum.inr (9, [Value.ref q39, Value.ref q40, Value.ref q41, Value.ref q42, Value.ref q43, Value.ref q44, Value.ref q45, Value.int 0, Value.int 0, Value.int 0, Value.int 0])) : Nat × va_E) := by rw [e_ws65]; exact gs_ne (by decide) f_62_ws64
                clear f_62_ws64
                have f_62_ws66 : ws66[62]? = some ((q35, Sum.inr (9, [Value.ref q39, Value.ref q40, Value.ref q41, Value.ref q42, Value.ref q43, Value.ref q44, Value.ref q45, Value.int 0, Value.int 0, Value.int 0, Value.int 0])) : Nat × va_E) := by rw [e_ws66]; exact gs_ne (by decide) f_62_ws65
                clear f_62_ws65
                have f_62_ws68 : ws68[62]? = some ((q35, Sum.inr (9, [Value.ref q39, Value.ref q40, Value.ref q41, Value.ref q42, Value.ref q43, Value.ref q44, Value.ref q45, Value.int 0, Value.int 0, Value.int 0, Value.int 0])) : Nat × va_E) := by rw [e_ws68]; exact gs_ne (by decide) f_62_ws66
                clear f_62_ws66
                have f_62_ws70 : ws70[62]? = some ((q35, Sum.inr (9, [Value.ref q39, Value.ref q40, Value.ref q41, Value.ref q42, Value.ref q43, Value.ref q44, Value.ref q45, Value.int 0, Value.int 0, Value.int 0, Value.int 0])) : Nat × va_E) := by rw [e_ws70]; exact gs_app f_62_ws68
                clear f_62_ws68
                have f_62_ws71 : ws71[62]? = some ((q35, Sum.inr (9, [Value.ref q39, Value.ref q40, Value.ref q41, Value.ref q42, Value.ref q43, Value.ref q44, Value.ref q45, Value.int 0, Value.int 0, Value.int 0, Value.int 0])) : Nat × va_E) := by rw [e_ws71]; exact gs_ne (by decide) f_62_ws70
                clear f_62_ws70
                have f_62_ws73 : ws73[62]? = some ((q35, Sum.inr (9, [Value.ref q39, Value.ref q40, Value.ref q41, Value.ref q42, Value.ref q43, Value.ref q44, Value.ref q45, Value.int 0, Value.int 0, Value.int 0, Value.int 0])) : Nat × va_E) := by rw [e_ws73]; exact gs_app f_62_ws71
                clear f_62_ws71
                have f_62_ws74 : ws74[62]? = some ((q35, Sum.inr (9, [Value.ref q39, Value.ref q40, Value.ref q41, Value.ref q42, Value.ref q43, Value.ref q44, Value.ref q45, Value.int 0, Value.int 0, Value.int 0, Value.int 0])) : Nat × va_E) := by rw [e_ws74]; exact gs_ne (by decide) f_62_ws73
                clear f_62_ws73
                have f_62_ws76 : ws76[62]? = some ((q35, Sum.inr (9, [Value.ref q39, Value.ref q40, Value.ref q41, Value.ref q42, Value.ref q43, Value.ref q44, Value.ref q45, Value.int 0, Value.int 0, Value.int 0, Value.int 0])) : Nat × va_E) := by rw [e_ws76]; exact gs_app f_62_ws74
                clear f_62_ws74
                have f_62_ws77 : ws77[62]? = some ((q35, Sum.inr (9, [Value.ref q39, Value.ref q40, Value.ref q41, Value.ref q42, Value.ref q43, Value.ref q44, Value.ref q45, Value.int 0, Value.int 0, Value.int 0, Value.int 0])) : Nat × va_E) := by rw [e_ws77]; exact gs_ne (by decide) f_62_ws76
                clear f_62_ws76
                have f_62_ws79 : ws79[62]? = some ((q35, Sum.inr (9, [Value.ref q39, Value.ref q40, Value.ref q41, Value.ref q42, Value.ref q43, Value.ref q44, Value.ref q45, Value.int 0, Value.int 0, Value.int 0, Value.int 0])) : Nat × va_E) := by rw [e_ws79]; exact gs_app f_62_ws77
                clear f_62_ws77
                have f_62_ws81 : ws81[62]? = some ((q35, Sum.inr (9, [Value.ref q39, Value.ref q40, Value.ref q41, Value.ref q42, Value.ref q43, Value.ref q44, Value.ref q45, Value.int 0, Value.int 0, Value.int 0, Value.int 0])) : Nat × va_E) := by rw [e_ws81]; exact gs_app f_62_ws79
                clear f_62_ws79
                have f_62_ws83 : ws83[62]? = some ((q35, Sum.inr (9, [Value.ref q39, Value.ref q40, Value.ref q41, Value.ref q42, Value.ref q43, Value.ref q44, Value.ref q45, Value.int 0, Value.int 0, Value.int 0, Value.int 0])) : Nat × va_E) := e_ws83.at (by first | decide | (simp; done) | (simp; omega)) f_62_ws81
                clear f_62_ws81
                have f_62_ws91 : ws91[62]? = some ((q35, Sum.inr (9, [Value.ref q39, Value.ref q40, Value.ref q41, Value.ref q42, Value.ref q43, Value.ref q44, Value.ref q45, Value.int 0, Value.int 0, Value.int 0, Value.int 0])) : Nat × va_E) := by rw [e_ws91]; exact gs_ne (by decide) f_62_ws83
                clear f_62_ws83
                have f_62_ws93 : ws93[62]? = some ((q35, Sum.inr (9, [Value.ref q39, Value.ref q40, Value.ref q41, Value.ref q42, Value.ref q43, Value.ref q44, Value.ref q45, Value.int 0, Value.int 0, Value.int 0, Value.int 0])) : Nat × va_E) := by rw [e_ws93]; exact gs_app f_62_ws91
                clear f_62_ws91
                have f_62_ws95 : ws95[62]? = some ((q35, Sum.inr (9, [Value.ref q39, Value.ref q40, Value.ref q41, Value.ref q42, Value.ref q43, Value.ref q44, Value.ref q45, Value.int 0, Value.int 0, Value.int 0, Value.int 0])) : Nat × va_E) := e_ws95.at (by first | decide | (simp; done) | (simp; omega)) f_62_ws93
                clear f_62_ws93
                have f_62_ws103 : ws103[62]? = some ((q35, Sum.inr (9, [Value.ref q39, Value.ref q40, Value.ref q41, Value.ref q42, Value.ref q43, Value.ref q44, Value.ref q45, Value.int 0, Value.int 0, Value.int 0, Value.int 0])) : Nat × va_E) := by rw [e_ws103]; exact gs_ne (by decide) f_62_ws95
                clear f_62_ws95
                have f_62_ws105 : ws105[62]? = some ((q35, Sum.inr (9, [Value.ref q39, Value.ref q40, Value.ref q41, Value.ref q42, Value.ref q43, Value.ref q44, Value.ref q45, Value.int 0, Value.int 0, Value.int 0, Value.int 0])) : Nat × va_E) := by rw [e_ws105]; exact gs_app f_62_ws103
                clear f_62_ws103
                have f_62_ws107 : ws107[62]? = some ((q35, Sum.inr (9, [Value.ref q39, Value.ref q40, Value.ref q41, Value.ref q42, Value.ref q43, Value.ref q44, Value.ref q45, Value.int 0, Value.int 0, Value.int 0, Value.int 0])) : Nat × va_E) := e_ws107.at (by first | decide | (simp; done) | (simp; omega)) f_62_ws105
                clear f_62_ws105
                have f_62_ws115 : ws115[62]? = some ((q35, Sum.inr (9, [Value.ref q39, Value.ref q40, Value.ref q41, Value.ref q42, Value.ref q43, Value.ref q44, Value.ref q45, Value.int 0, Value.int 0, Value.int 0, Value.int 0])) : Nat × va_E) := by rw [e_ws115]; exact gs_ne (by decide) f_62_ws107
                clear f_62_ws107
                have f_62_ws117 : ws117[62]? = some ((q35, Sum.inr (9, [Value.ref q39, Value.ref q40, Value.ref q41, Value.ref q42, Value.ref q43, Value.ref q44, Value.ref q45, Value.int 0, Value.int 0, Value.int 0, Value.int 0])) : Nat × va_E) := by rw [e_ws117]; exact gs_app f_62_ws115
                clear f_62_ws115
                have f_62_ws119 : ws119[62]? = some ((q35, Sum.inr (9, [Value.ref q39, Value.ref q40, Value.ref q41, Value.ref q42, Value.ref q43, Value.ref q44, Value.ref q45, Value.int 0, Value.int 0, Value.int 0, Value.int 0])) : Nat × va_E) := e_ws119.at (by first | decide | (simp; done) | (simp; omega)) f_62_ws117
                clear f_62_ws117
                have f_62_ws127 : ws127[62]? = some ((q35, Sum.inr (9, [Value.ref q39, Value.ref q40, Value.ref q41, Value.ref q42, Value.ref q43, Value.ref q44, Value.ref q45, Value.int 0, Value.int 0, Value.int 0, Value.int 0])) : Nat × va_E) := by rw [e_ws127]; exact gs_ne (by decide) f_62_ws119
                clear f_62_ws119
                have f_62_ws128 : ws128[62]? = some ((q35, Sum.inr (9, [Value.ref q39, Value.ref q40, Value.ref q41, Value.ref q42, Value.ref q43, Value.ref q44, Value.ref q45, Value.int 0, Value.int 0, Value.int 0, Value.int 0])) : Nat × va_E) := by rw [e_ws128]; exact gs_ne (by decide) f_62_ws127
                clear f_62_ws127
                have f_63_ws46 : ws46[63]? = some ((q39, Sum.inl (cI, 4097, Sum.inl (fun _ => 0))) : Nat × va_E) := by rw [e_ws46]; exact gs_ne (by decide) f_63_ws38
                clear f_63_ws38
                have f_63_ws48 : ws48[63]? = some ((q39, Sum.inl (cI, 4097, Sum.inl (fun _ => 0))) : Nat × va_E) := by rw [e_ws48]; exact gs_app f_63_ws46
                clear f_63_ws46
                have f_63_ws50 : ws50[63]? = some ((q39, Sum.inl (cI, 4097, Sum.inl (fun _ => 0))) : Nat × va_E) := e_ws50.at (by first | decide | (simp; done) | (simp; omega)) f_63_ws48
                clear f_63_ws48
                have f_63_ws58 : ws58[63]? = some ((q39, Sum.inl (cI, 4097, Sum.inl (fun _ => 0))) : Nat × va_E) := by rw [e_ws58]; exact gs_ne (by decide) f_63_ws50
                clear f_63_ws50
                have f_63_ws60 : ws60[63]? = some ((q39, Sum.inl (cI, 4097, Sum.inl (fun _ => 0))) : Nat × va_E) := by rw [e_ws60]; exact gs_app f_63_ws58
                clear f_63_ws58
                have f_63_ws61 : ws61[63]? = some ((q39, Sum.inl (cI, 4097, Sum.inl (fun _ => 0))) : Nat × va_E) := by rw [e_ws61]; exact gs_ne (by decide) f_63_ws60
                clear f_63_ws60
                have f_63_ws63 : ws63[63]? = some ((q39, Sum.inl (cI, 4097, Sum.inl (fun _ => 0))) : Nat × va_E) := by rw [e_ws63]; exact gs_app f_63_ws61
                clear f_63_ws61
                have f_63_ws64 : ws64[63]? = some ((q39, Sum.inl (cI, 4097, Sum.inl (fun _ => 0))) : Nat × va_E) := by rw [e_ws64]; exact gs_ne (by decide) f_63_ws63
                clear f_63_ws63
                have f_63_ws65 : ws65[63]? = some ((q39, Sum.inl (cI, 4097, Sum.inl (fun _ => 0))) : Nat × va_E) := by rw [e_ws65]; exact gs_ne (by decide) f_63_ws64
                clear f_63_ws64
                have f_63_ws66 : ws66[63]? = some ((q39, Sum.inl (cI, 4097, Sum.inl (fun _ => 0))) : Nat × va_E) := by rw [e_ws66]; exact gs_ne (by decide) f_63_ws65
                clear f_63_ws65
                have f_63_ws68 : ws68[63]? = some ((q39, Sum.inl (cI, 4097, Sum.inl (fun _ => 0))) : Nat × va_E) := by rw [e_ws68]; exact gs_ne (by decide) f_63_ws66
                clear f_63_ws66
                have f_63_ws70 : ws70[63]? = some ((q39, Sum.inl (cI, 4097, Sum.inl (fun _ => 0))) : Nat × va_E) := by rw [e_ws70]; exact gs_app f_63_ws68
                clear f_63_ws68
                have f_63_ws71 : ws71[63]? = some ((q39, Sum.inl (cI, 4097, Sum.inl (fun _ => 0))) : Nat × va_E) := by rw [e_ws71]; exact gs_ne (by decide) f_63_ws70
                clear f_63_ws70
                have f_63_ws73 : ws73[63]? = some ((q39, Sum.inl (cI, 4097, Sum.inl (fun _ => 0))) : Nat × va_E) := by rw [e_ws73]; exact gs_app f_63_ws71
                clear f_63_ws71
                have f_63_ws74 : ws74[63]? = some ((q39, Sum.inl (cI, 4097, Sum.inl (fun _ => 0))) : Nat × va_E) := by rw [e_ws74]; exact gs_ne (by decide) f_63_ws73
                clear f_63_ws73
                have f_63_ws76 : ws76[63]? = some ((q39, Sum.inl (cI, 4097, Sum.inl (fun _ => 0))) : Nat × va_E) := by rw [e_ws76]; exact gs_app f_63_ws74
                clear f_63_ws74
                have f_63_ws77 : ws77[63]? = some ((q39, Sum.inl (cI, 4097, Sum.inl (fun _ => 0))) : Nat × va_E) := by rw [e_ws77]; exact gs_ne (by decide) f_63_ws76
                clear f_63_ws76
                have f_63_ws79 : ws79[63]? = some ((q39, Sum.inl (cI, 4097, Sum.inl (fun _ => 0))) : Nat × va_E) := by rw [e_ws79]; exact gs_app f_63_ws77
                clear f_63_ws77
                have f_63_ws81 : ws81[63]? = some ((q39, Sum.inl (cI, 4097, Sum.inl (fun _ => 0))) : Nat × va_E) := by rw [e_ws81]; exact gs_app f_63_ws79
                clear f_63_ws79
                have f_63_ws83 : ws83[63]? = some ((q39, Sum.inl (cI, 4097, Sum.inl (fun _ => 0))) : Nat × va_E) := e_ws83.at (by first | decide | (simp; done) | (simp; omega)) f_63_ws81
                clear f_63_ws81
                have f_63_ws91 : ws91[63]? = some ((q39, Sum.inl (cI, 4097, Sum.inl (fun _ => 0))) : Nat × va_E) := by rw [e_ws91]; exact gs_ne (by decide) f_63_ws83
                clear f_63_ws83
                have f_63_ws93 : ws93[63]? = some ((q39, Sum.inl (cI, 4097, Sum.inl (fun _ => 0))) : Nat × va_E) := by rw [e_ws93]; exact gs_app f_63_ws91
                clear f_63_ws91
                have f_63_ws95 : ws95[63]? = some ((q39, Sum.inl (cI, 4097, Sum.inl (fun _ => 0))) : Nat × va_E) := e_ws95.at (by first | decide | (simp; done) | (simp; omega)) f_63_ws93
                clear f_63_ws93
                have f_63_ws103 : ws103[63]? = some ((q39, Sum.inl (cI, 4097, Sum.inl (fun _ => 0))) : Nat × va_E) := by rw [e_ws103]; exact gs_ne (by decide) f_63_ws95
                clear f_63_ws95
                have f_63_ws105 : ws105[63]? = some ((q39, Sum.inl (cI, 4097, Sum.inl (fun _ => 0))) : Nat × va_E) := by rw [e_ws105]; exact gs_app f_63_ws103
                clear f_63_ws103
                have f_63_ws107 : ws107[63]? = some ((q39, Sum.inl (cI, 4097, Sum.inl (fun _ => 0))) : Nat × va_E) := e_ws107.at (by first | decide | (simp; done) | (simp; omega)) f_63_ws105
                clear f_63_ws105
                have f_63_ws115 : ws115[63]? = some ((q39, Sum.inl (cI, 4097, Sum.inl (fun _ => 0))) : Nat × va_E) := by rw [e_ws115]; exact gs_ne (by decide) f_63_ws107
                clear f_63_ws107
                have f_63_ws117 : ws117[63]? = some ((q39, Sum.inl (cI, 4097, Sum.inl (fun _ => 0))) : Nat × va_E) := by rw [e_ws117]; exact gs_app f_63_ws115
                clear f_63_ws115
                have f_63_ws119 : ws119[63]? = some ((q39, Sum.inl (cI, 4097, Sum.inl (fun _ => 0))) : Nat × va_E) := e_ws119.at (by first | decide | (simp; done) | (simp; omega)) f_63_ws117
                clear f_63_ws117
                have f_63_ws127 : ws127[63]? = some ((q39, Sum.inl (cI, 4097, Sum.inl (fun _ => 0))) : Nat × va_E) := by rw [e_ws127]; exact gs_ne (by decide) f_63_ws119
                clear f_63_ws119
                have f_63_ws128 : ws128[63]? = some ((q39, Sum.inl (cI, 4097, Sum.inl (fun _ => 0))) : Nat × va_E) := by rw [e_ws128]; exact gs_ne (by decide) f_63_ws127
                clear f_63_ws127
                have f_64_ws46 : ws46[64]? = some ((q40, Sum.inl (cI, 4097, Sum.inl (fun _ => 0))) : Nat × va_E) := by rw [e_ws46]; exact gs_ne (by decide) f_64_ws38
                clear f_64_ws38
                have f_64_ws48 : ws48[64]? = some ((q40, Sum.inl (cI, 4097, Sum.inl (fun _ => 0))) : Nat × va_E) := by rw [e_ws48]; exact gs_app f_64_ws46
                clear f_64_ws46
                have f_64_ws50 : ws50[64]? = some ((q40, Sum.inl (cI, 4097, Sum.inl (fun _ => 0))) : Nat × va_E) := e_ws50.at (by first | decide | (simp; done) | (simp; omega)) f_64_ws48
                clear f_64_ws48
                have f_64_ws58 : ws58[64]? = some ((q40, Sum.inl (cI, 4097, Sum.inl (fun _ => 0))) : Nat × va_E) := by rw [e_ws58]; exact gs_ne (by decide) f_64_ws50
                clear f_64_ws50
                have f_64_ws60 : ws60[64]? = some ((q40, Sum.inl (cI, 4097, Sum.inl (fun _ => 0))) : Nat × va_E) := by rw [e_ws60]; exact gs_app f_64_ws58
                clear f_64_ws58
                have f_64_ws61 : ws61[64]? = some ((q40, Sum.inl (cI, 4097, Sum.inl (fun _ => 0))) : Nat × va_E) := by rw [e_ws61]; exact gs_ne (by decide) f_64_ws60
                clear f_64_ws60
                have f_64_ws63 : ws63[64]? = some ((q40, Sum.inl (cI, 4097, Sum.inl (fun _ => 0))) : Nat × va_E) := by rw [e_ws63]; exact gs_app f_64_ws61
                clear f_64_ws61
                have f_64_ws64 : ws64[64]? = some ((q40, Sum.inl (cI, 4097, Sum.inl (fun _ => 0))) : Nat × va_E) := by rw [e_ws64]; exact gs_ne (by decide) f_64_ws63
                clear f_64_ws63
                have f_64_ws65 : ws65[64]? = some ((q40, Sum.inl (cI, 4097, Sum.inl (fun _ => 0))) : Nat × va_E) := by rw [e_ws65]; exact gs_ne (by decide) f_64_ws64
                clear f_64_ws64
                have f_64_ws66 : ws66[64]? = some ((q40, Sum.inl (cI, 4097, Sum.inl (fun _ => 0))) : Nat × va_E) := by rw [e_ws66]; exact gs_ne (by decide) f_64_ws65
                clear f_64_ws65
                have f_64_ws68 : ws68[64]? = some ((q40, Sum.inl (cI, 4097, Sum.inl (fun _ => 0))) : Nat × va_E) := by rw [e_ws68]; exact gs_ne (by decide) f_64_ws66
                clear f_64_ws66
                have f_64_ws70 : ws70[64]? = some ((q40, Sum.inl (cI, 4097, Sum.inl (fun _ => 0))) : Nat × va_E) := by rw [e_ws70]; exact gs_app f_64_ws68
                clear f_64_ws68
                have f_64_ws71 : ws71[64]? = some ((q40, Sum.inl (cI, 4097, Sum.inl (fun _ => 0))) : Nat × va_E) := by rw [e_ws71]; exact gs_ne (by decide) f_64_ws70
                clear f_64_ws70
                have f_64_ws73 : ws73[64]? = some ((q40, Sum.inl (cI, 4097, Sum.inl (fun _ => 0))) : Nat × va_E) := by rw [e_ws73]; exact gs_app f_64_ws71
                clear f_64_ws71
                have f_64_ws74 : ws74[64]? = some ((q40, Sum.inl (cI, 4097, Sum.inl (fun _ => 0))) : Nat × va_E) := by rw [e_ws74]; exact gs_ne (by decide) f_64_ws73
                clear f_64_ws73
                have f_64_ws76 : ws76[64]? = some ((q40, Sum.inl (cI, 4097, Sum.inl (fun _ => 0))) : Nat × va_E) := by rw [e_ws76]; exact gs_app f_64_ws74
                clear f_64_ws74
                have f_64_ws77 : ws77[64]? = some ((q40, Sum.inl (cI, 4097, Sum.inl (fun _ => 0))) : Nat × va_E) := by rw [e_ws77]; exact gs_ne (by decide) f_64_ws76
                clear f_64_ws76
                have f_64_ws79 : ws79[64]? = some ((q40, Sum.inl (cI, 4097, Sum.inl (fun _ => 0))) : Nat × va_E) := by rw [e_ws79]; exact gs_app f_64_ws77
                clear f_64_ws77
                have f_64_ws81 : ws81[64]? = some ((q40, Sum.inl (cI, 4097, Sum.inl (fun _ => 0))) : Nat × va_E) := by rw [e_ws81]; exact gs_app f_64_ws79
                clear f_64_ws79
                have f_64_ws83 : ws83[64]? = some ((q40, Sum.inl (cI, 4097, Sum.inl (fun _ => 0))) : Nat × va_E) := e_ws83.at (by first | decide | (simp; done) | (simp; omega)) f_64_ws81
                clear f_64_ws81
                have f_64_ws91 : ws91[64]? = some ((q40, Sum.inl (cI, 4097, Sum.inl (fun _ => 0))) : Nat × va_E) := by rw [e_ws91]; exact gs_ne (by decide) f_64_ws83
                clear f_64_ws83
                have f_64_ws93 : ws93[64]? = some ((q40, Sum.inl (cI, 4097, Sum.inl (fun _ => 0))) : Nat × va_E) := by rw [e_ws93]; exact gs_app f_64_ws91
                clear f_64_ws91
                have f_64_ws95 : ws95[64]? = some ((q40, Sum.inl (cI, 4097, Sum.inl (fun _ => 0))) : Nat × va_E) := e_ws95.at (by first | decide | (simp; done) | (simp; omega)) f_64_ws93
                clear f_64_ws93
                have f_64_ws103 : ws103[64]? = some ((q40, Sum.inl (cI, 4097, Sum.inl (fun _ => 0))) : Nat × va_E) := by rw [e_ws103]; exact gs_ne (by decide) f_64_ws95
                clear f_64_ws95
                have f_64_ws105 : ws105[64]? = some ((q40, Sum.inl (cI, 4097, Sum.inl (fun _ => 0))) : Nat × va_E) := by rw [e_ws105]; exact gs_app f_64_ws103
                clear f_64_ws103
                have f_64_ws107 : ws107[64]? = some ((q40, Sum.inl (cI, 4097, Sum.inl (fun _ => 0))) : Nat × va_E) := e_ws107.at (by first | decide | (simp; done) | (simp; omega)) f_64_ws105
                clear f_64_ws105
                have f_64_ws115 : ws115[64]? = some ((q40, Sum.inl (cI, 4097, Sum.inl (fun _ => 0))) : Nat × va_E) := by rw [e_ws115]; exact gs_ne (by decide) f_64_ws107
                clear f_64_ws107
                have f_64_ws117 : ws117[64]? = some ((q40, Sum.inl (cI, 4097, Sum.inl (fun _ => 0))) : Nat × va_E) := by rw [e_ws117]; exact gs_app f_64_ws115
                clear f_64_ws115
                have f_64_ws119 : ws119[64]? = some ((q40, Sum.inl (cI, 4097, Sum.inl (fun _ => 0))) : Nat × va_E) := e_ws119.at (by first | decide | (simp; done) | (simp; omega)) f_64_ws117
                clear f_64_ws117
                have f_64_ws127 : ws127[64]? = some ((q40, Sum.inl (cI, 4097, Sum.inl (fun _ => 0))) : Nat × va_E) := by rw [e_ws127]; exact gs_ne (by decide) f_64_ws119
                clear f_64_ws119
                have f_64_ws128 : ws128[64]? = some ((q40, Sum.inl (cI, 4097, Sum.inl (fun _ => 0))) : Nat × va_E) := by rw [e_ws128]; exact gs_ne (by decide) f_64_ws127
                clear f_64_ws127
                have f_65_ws46 : ws46[65]? = some ((q41, Sum.inl (cI, 4098, Sum.inl (fun _ => 0))) : Nat × va_E) := by rw [e_ws46]; exact gs_ne (by decide) f_65_ws38
                clear f_65_ws38
                have f_65_ws48 : ws48[65]? = some ((q41, Sum.inl (cI, 4098, Sum.inl (fun _ => 0))) : Nat × va_E) := by rw [e_ws48]; exact gs_app f_65_ws46
                clear f_65_ws46
                have f_65_ws50 : ws50[65]? = some ((q41, Sum.inl (cI, 4098, Sum.inl (fun _ => 0))) : Nat × va_E) := e_ws50.at (by first | decide | (simp; done) | (simp; omega)) f_65_ws48
                clear f_65_ws48
                have f_65_ws58 : ws58[65]? = some ((q41, Sum.inl (cI, 4098, Sum.inl (fun _ => 0))) : Nat × va_E) := by rw [e_ws58]; exact gs_ne (by decide) f_65_ws50
                clear f_65_ws50
                have f_65_ws60 : ws60[65]? = some ((q41, Sum.inl (cI, 4098, Sum.inl (fun _ => 0))) : Nat × va_E) := by rw [e_ws60]; exact gs_app f_65_ws58
                clear f_65_ws58
                have f_65_ws61 : ws61[65]? = some ((q41, Sum.inl (cI, 4098, Sum.inl (fun _ => 0))) : Nat × va_E) := by rw [e_ws61]; exact gs_ne (by decide) f_65_ws60
                clear f_65_ws60
                have f_65_ws63 : ws63[65]? = some ((q41, Sum.inl (cI, 4098, Sum.inl (fun _ => 0))) : Nat × va_E) := by rw [e_ws63]; exact gs_app f_65_ws61
                clear f_65_ws61
                have f_65_ws64 : ws64[65]? = some ((q41, Sum.inl (cI, 4098, Sum.inl (fun _ => 0))) : Nat × va_E) := by rw [e_ws64]; exact gs_ne (by decide) f_65_ws63
                clear f_65_ws63
                have f_65_ws65 : ws65[65]? = some ((q41, Sum.inl (cI, 4098, Sum.inl (fun _ => 0))) : Nat × va_E) := by rw [e_ws65]; exact gs_ne (by decide) f_65_ws64
                clear f_65_ws64
                have f_65_ws66 : ws66[65]? = some ((q41, Sum.inl (cI, 4098, Sum.inl (fun _ => 0))) : Nat × va_E) := by rw [e_ws66]; exact gs_ne (by decide) f_65_ws65
                clear f_65_ws65
                have f_65_ws68 : ws68[65]? = some ((q41, Sum.inl (cI, 4098, Sum.inl (fun _ => 0))) : Nat × va_E) := by rw [e_ws68]; exact gs_ne (by decide) f_65_ws66
                clear f_65_ws66
                have f_65_ws70 : ws70[65]? = some ((q41, Sum.inl (cI, 4098, Sum.inl (fun _ => 0))) : Nat × va_E) := by rw [e_ws70]; exact gs_app f_65_ws68
                clear f_65_ws68
                have f_65_ws71 : ws71[65]? = some ((q41, Sum.inl (cI, 4098, Sum.inl (fun _ => 0))) : Nat × va_E) := by rw [e_ws71]; exact gs_ne (by decide) f_65_ws70
                clear f_65_ws70
                have f_65_ws73 : ws73[65]? = some ((q41, Sum.inl (cI, 4098, Sum.inl (fun _ => 0))) : Nat × va_E) := by rw [e_ws73]; exact gs_app f_65_ws71
                clear f_65_ws71
                have f_65_ws74 : ws74[65]? = some ((q41, Sum.inl (cI, 4098, Sum.inl (fun _ => 0))) : Nat × va_E) := by rw [e_ws74]; exact gs_ne (by decide) f_65_ws73
                clear f_65_ws73
                have f_65_ws76 : ws76[65]? = some ((q41, Sum.inl (cI, 4098, Sum.inl (fun _ => 0))) : Nat × va_E) := by rw [e_ws76]; exact gs_app f_65_ws74
                clear f_65_ws74
                have f_65_ws77 : ws77[65]? = some ((q41, Sum.inl (cI, 4098, Sum.inl (fun _ => 0))) : Nat × va_E) := by rw [e_ws77]; exact gs_ne (by decide) f_65_ws76
                clear f_65_ws76
                have f_65_ws79 : ws79[65]? = some ((q41, Sum.inl (cI, 4098, Sum.inl (fun _ => 0))) : Nat × va_E) := by rw [e_ws79]; exact gs_app f_65_ws77
                clear f_65_ws77
                have f_65_ws81 : ws81[65]? = some ((q41, Sum.inl (cI, 4098, Sum.inl (fun _ => 0))) : Nat × va_E) := by rw [e_ws81]; exact gs_app f_65_ws79
                clear f_65_ws79
                have f_65_ws83 : ws83[65]? = some ((q41, Sum.inl (cI, 4098, Sum.inl (fun _ => 0))) : Nat × va_E) := e_ws83.at (by first | decide | (simp; done) | (simp; omega)) f_65_ws81
                clear f_65_ws81
                have f_65_ws91 : ws91[65]? = some ((q41, Sum.inl (cI, 4098, Sum.inl (fun _ => 0))) : Nat × va_E) := by rw [e_ws91]; exact gs_ne (by decide) f_65_ws83
                clear f_65_ws83
                have f_65_ws93 : ws93[65]? = some ((q41, Sum.inl (cI, 4098, Sum.inl (fun _ => 0))) : Nat × va_E) := by rw [e_ws93]; exact gs_app f_65_ws91
                clear f_65_ws91
                have f_65_ws95 : ws95[65]? = some ((q41, Sum.inl (cI, 4098, Sum.inl (fun _ => 0))) : Nat × va_E) := e_ws95.at (by first | decide | (simp; done) | (simp; omega)) f_65_ws93
                clear f_65_ws93
                have f_65_ws103 : ws103[65]? = some ((q41, Sum.inl (cI, 4098, Sum.inl (fun _ => 0))) : Nat × va_E) := by rw [e_ws103]; exact gs_ne (by decide) f_65_ws95
                clear f_65_ws95
                have f_65_ws105 : ws105[65]? = some ((q41, Sum.inl (cI, 4098, Sum.inl (fun _ => 0))) : Nat × va_E) := by rw [e_ws105]; exact gs_app f_65_ws103
                clear f_65_ws103
                have f_65_ws107 : ws107[65]? = some ((q41, Sum.inl (cI, 4098, Sum.inl (fun _ => 0))) : Nat × va_E) := e_ws107.at (by first | decide | (simp; done) | (simp; omega)) f_65_ws105
                clear f_65_ws105
                have f_65_ws115 : ws115[65]? = some ((q41, Sum.inl (cI, 4098, Sum.inl (fun _ => 0))) : Nat × va_E) := by rw [e_ws115]; exact gs_ne (by decide) f_65_ws107
                clear f_65_ws107
                have f_65_ws117 : ws117[65]? = some ((q41, Sum.inl (cI, 4098, Sum.inl (fun _ => 0))) : Nat × va_E) := by rw [e_ws117]; exact gs_app f_65_ws115
                clear f_65_ws115
                have f_65_ws119 : ws119[65]? = some ((q41, Sum.inl (cI, 4098, Sum.inl (fun _ => 0))) : Nat × va_E) := e_ws119.at (by first | decide | (simp; done) | (simp; omega)) f_65_ws117
                clear f_65_ws117
                have f_65_ws127 : ws127[65]? = some ((q41, Sum.inl (cI, 4098, Sum.inl (fun _ => 0))) : Nat × va_E) := by rw [e_ws127]; exact gs_ne (by decide) f_65_ws119
                clear f_65_ws119
                have f_65_ws128 : ws128[65]? = some ((q41, Sum.inl (cI, 4098, Sum.inl (fun _ => 0))) : Nat × va_E) := by rw [e_ws128]; exact gs_ne (by decide) f_65_ws127
                clear f_65_ws127
                have f_66_ws46 : ws46[66]? = some ((q42, Sum.inl (cI, 4097, Sum.inl (fun _ => 0))) : Nat × va_E) := by rw [e_ws46]; exact gs_ne (by decide) f_66_ws38
                clear f_66_ws38
                have f_66_ws48 : ws48[66]? = some ((q42, Sum.inl (cI, 4097, Sum.inl (fun _ => 0))) : Nat × va_E) := by rw [e_ws48]; exact gs_app f_66_ws46
                clear f_66_ws46
                have f_66_ws50 : ws50[66]? = some ((q42, Sum.inl (cI, 4097, Sum.inl (fun _ => 0))) : Nat × va_E) := e_ws50.at (by first | decide | (simp; done) | (simp; omega)) f_66_ws48
                clear f_66_ws48
                have f_66_ws58 : ws58[66]? = some ((q42, Sum.inl (cI, 4097, Sum.inl (fun _ => 0))) : Nat × va_E) := by rw [e_ws58]; exact gs_ne (by decide) f_66_ws50
                clear f_66_ws50
                have f_66_ws60 : ws60[66]? = some ((q42, Sum.inl (cI, 4097, Sum.inl (fun _ => 0))) : Nat × va_E) := by rw [e_ws60]; exact gs_app f_66_ws58
                clear f_66_ws58
                have f_66_ws61 : ws61[66]? = some ((q42, Sum.inl (cI, 4097, Sum.inl (fun _ => 0))) : Nat × va_E) := by rw [e_ws61]; exact gs_ne (by decide) f_66_ws60
                clear f_66_ws60
                have f_66_ws63 : ws63[66]? = some ((q42, Sum.inl (cI, 4097, Sum.inl (fun _ => 0))) : Nat × va_E) := by rw [e_ws63]; exact gs_app f_66_ws61
                clear f_66_ws61
                have f_66_ws64 : ws64[66]? = some ((q42, Sum.inl (cI, 4097, Sum.inl (fun _ => 0))) : Nat × va_E) := by rw [e_ws64]; exact gs_ne (by decide) f_66_ws63
                clear f_66_ws63
                have f_66_ws65 : ws65[66]? = some ((q42, Sum.inl (cI, 4097, Sum.inl (fun _ => 0))) : Nat × va_E) := by rw [e_ws65]; exact gs_ne (by decide) f_66_ws64
                clear f_66_ws64
                have f_66_ws66 : ws66[66]? = some ((q42, Sum.inl (cI, 4097, Sum.inl (fun _ => 0))) : Nat × va_E) := by rw [e_ws66]; exact gs_ne (by decide) f_66_ws65
                clear f_66_ws65
                have f_66_ws68 : ws68[66]? = some ((q42, Sum.inl (cI, 4097, Sum.inl (fun _ => 0))) : Nat × va_E) := by rw [e_ws68]; exact gs_ne (by decide) f_66_ws66
                clear f_66_ws66
                have f_66_ws70 : ws70[66]? = some ((q42, Sum.inl (cI, 4097, Sum.inl (fun _ => 0))) : Nat × va_E) := by rw [e_ws70]; exact gs_app f_66_ws68
                clear f_66_ws68
                have f_66_ws71 : ws71[66]? = some ((q42, Sum.inl (cI, 4097, Sum.inl (fun _ => 0))) : Nat × va_E) := by rw [e_ws71]; exact gs_ne (by decide) f_66_ws70
                clear f_66_ws70
                have f_66_ws73 : ws73[66]? = some ((q42, Sum.inl (cI, 4097, Sum.inl (fun _ => 0))) : Nat × va_E) := by rw [e_ws73]; exact gs_app f_66_ws71
                clear f_66_ws71
                have f_66_ws74 : ws74[66]? = some ((q42, Sum.inl (cI, 4097, Sum.inl (fun _ => 0))) : Nat × va_E) := by rw [e_ws74]; exact gs_ne (by decide) f_66_ws73
                clear f_66_ws73
                have f_66_ws76 : ws76[66]? = some ((q42, Sum.inl (cI, 4097, Sum.inl (fun _ => 0))) : Nat × va_E) := by rw [e_ws76]; exact gs_app f_66_ws74
                clear f_66_ws74
                have f_66_ws77 : ws77[66]? = some ((q42, Sum.inl (cI, 4097, Sum.inl (fun _ => 0))) : Nat × va_E) := by rw [e_ws77]; exact gs_ne (by decide) f_66_ws76
                clear f_66_ws76
                have f_66_ws79 : ws79[66]? = some ((q42, Sum.inl (cI, 4097, Sum.inl (fun _ => 0))) : Nat × va_E) := by rw [e_ws79]; exact gs_app f_66_ws77
                clear f_66_ws77
                have f_66_ws81 : ws81[66]? = some ((q42, Sum.inl (cI, 4097, Sum.inl (fun _ => 0))) : Nat × va_E) := by rw [e_ws81]; exact gs_app f_66_ws79
                clear f_66_ws79
                have f_66_ws83 : ws83[66]? = some ((q42, Sum.inl (cI, 4097, Sum.inl (fun _ => 0))) : Nat × va_E) := e_ws83.at (by first | decide | (simp; done) | (simp; omega)) f_66_ws81
                clear f_66_ws81
                have f_66_ws91 : ws91[66]? = some ((q42, Sum.inl (cI, 4097, Sum.inl (fun _ => 0))) : Nat × va_E) := by rw [e_ws91]; exact gs_ne (by decide) f_66_ws83
                clear f_66_ws83
                have f_66_ws93 : ws93[66]? = some ((q42, Sum.inl (cI, 4097, Sum.inl (fun _ => 0))) : Nat × va_E) := by rw [e_ws93]; exact gs_app f_66_ws91
                clear f_66_ws91
                have f_66_ws95 : ws95[66]? = some ((q42, Sum.inl (cI, 4097, Sum.inl (fun _ => 0))) : Nat × va_E) := e_ws95.at (by first | decide | (simp; done) | (simp; omega)) f_66_ws93
                clear f_66_ws93
                have f_66_ws103 : ws103[66]? = some ((q42, Sum.inl (cI, 4097, Sum.inl (fun _ => 0))) : Nat × va_E) := by rw [e_ws103]; exact gs_ne (by decide) f_66_ws95
                clear f_66_ws95
                have f_66_ws105 : ws105[66]? = some ((q42, Sum.inl (cI, 4097, Sum.inl (fun _ => 0))) : Nat × va_E) := by rw [e_ws105]; exact gs_app f_66_ws103
                clear f_66_ws103
                have f_66_ws107 : ws107[66]? = some ((q42, Sum.inl (cI, 4097, Sum.inl (fun _ => 0))) : Nat × va_E) := e_ws107.at (by first | decide | (simp; done) | (simp; omega)) f_66_ws105
                clear f_66_ws105
                have f_66_ws115 : ws115[66]? = some ((q42, Sum.inl (cI, 4097, Sum.inl (fun _ => 0))) : Nat × va_E) := by rw [e_ws115]; exact gs_ne (by decide) f_66_ws107
                clear f_66_ws107
                have f_66_ws117 : ws117[66]? = some ((q42, Sum.inl (cI, 4097, Sum.inl (fun _ => 0))) : Nat × va_E) := by rw [e_ws117]; exact gs_app f_66_ws115
                clear f_66_ws115
                have f_66_ws119 : ws119[66]? = some ((q42, Sum.inl (cI, 4097, Sum.inl (fun _ => 0))) : Nat × va_E) := e_ws119.at (by first | decide | (simp; done) | (simp; omega)) f_66_ws117
                clear f_66_ws117
                have f_66_ws127 : ws127[66]? = some ((q42, Sum.inl (cI, 4097, Sum.inl (fun _ => 0))) : Nat × va_E) := by rw [e_ws127]; exact gs_ne (by decide) f_66_ws119
                clear f_66_ws119
                have f_66_ws128 : ws128[66]? = some ((q42, Sum.inl (cI, 4097, Sum.inl (fun _ => 0))) : Nat × va_E) := by rw [e_ws128]; exact gs_ne (by decide) f_66_ws127
                clear f_66_ws127
                have f_67_ws46 : ws46[67]? = some ((q43, Sum.inl (cI, 4096, Sum.inl (fun _ => 0))) : Nat × va_E) := by rw [e_ws46]; exact gs_ne (by decide) f_67_ws38
                clear f_67_ws38
                have f_67_ws48 : ws48[67]? = some ((q43, Sum.inl (cI, 4096, Sum.inl (fun _ => 0))) : Nat × va_E) := by rw [e_ws48]; exact gs_app f_67_ws46
                clear f_67_ws46
                have f_67_ws50 : ws50[67]? = some ((q43, Sum.inl (cI, 4096, Sum.inl (fun _ => 0))) : Nat × va_E) := e_ws50.at (by first | decide | (simp; done) | (simp; omega)) f_67_ws48
                clear f_67_ws48
                have f_67_ws58 : ws58[67]? = some ((q43, Sum.inl (cI, 4096, Sum.inl (fun _ => 0))) : Nat × va_E) := by rw [e_ws58]; exact gs_ne (by decide) f_67_ws50
                clear f_67_ws50
                have f_67_ws60 : ws60[67]? = some ((q43, Sum.inl (cI, 4096, Sum.inl (fun _ => 0))) : Nat × va_E) := by rw [e_ws60]; exact gs_app f_67_ws58
                clear f_67_ws58
                have f_67_ws61 : ws61[67]? = some ((q43, Sum.inl (cI, 4096, Sum.inl (fun _ => 0))) : Nat × va_E) := by rw [e_ws61]; exact gs_ne (by decide) f_67_ws60
                clear f_67_ws60
                have f_67_ws63 : ws63[67]? = some ((q43, Sum.inl (cI, 4096, Sum.inl (fun _ => 0))) : Nat × va_E) := by rw [e_ws63]; exact gs_app f_67_ws61
                clear f_67_ws61
                have f_67_ws64 : ws64[67]? = some ((q43, Sum.inl (cI, 4096, Sum.inl (fun _ => 0))) : Nat × va_E) := by rw [e_ws64]; exact gs_ne (by decide) f_67_ws63
                clear f_67_ws63
                have f_67_ws65 : ws65[67]? = some ((q43, Sum.inl (cI, 4096, Sum.inl (fun _ => 0))) : Nat × va_E) := by rw [e_ws65]; exact gs_ne (by decide) f_67_ws64
                clear f_67_ws64
                have f_67_ws66 : ws66[67]? = some ((q43, Sum.inl (cI, 4096, Sum.inl (fun _ => 0))) : Nat × va_E) := by rw [e_ws66]; exact gs_ne (by decide) f_67_ws65
                clear f_67_ws65
                have f_67_ws68 : ws68[67]? = some ((q43, Sum.inl (cI, 4096, Sum.inl (fun _ => 0))) : Nat × va_E) := by rw [e_ws68]; exact gs_ne (by decide) f_67_ws66
                clear f_67_ws66
                have f_67_ws70 : ws70[67]? = some ((q43, Sum.inl (cI, 4096, Sum.inl (fun _ => 0))) : Nat × va_E) := by rw [e_ws70]; exact gs_app f_67_ws68
                clear f_67_ws68
                have f_67_ws71 : ws71[67]? = some ((q43, Sum.inl (cI, 4096, Sum.inl (fun _ => 0))) : Nat × va_E) := by rw [e_ws71]; exact gs_ne (by decide) f_67_ws70
                clear f_67_ws70
                have f_67_ws73 : ws73[67]? = some ((q43, Sum.inl (cI, 4096, Sum.inl (fun _ => 0))) : Nat × va_E) := by rw [e_ws73]; exact gs_app f_67_ws71
                clear f_67_ws71
                have f_67_ws74 : ws74[67]? = some ((q43, Sum.inl (cI, 4096, Sum.inl (fun _ => 0))) : Nat × va_E) := by rw [e_ws74]; exact gs_ne (by decide) f_67_ws73
                clear f_67_ws73
                have f_67_ws76 : ws76[67]? = some ((q43, Sum.inl (cI, 4096, Sum.inl (fun _ => 0))) : Nat × va_E) := by rw [e_ws76]; exact gs_app f_67_ws74
                clear f_67_ws74
                have f_67_ws77 : ws77[67]? = some ((q43, Sum.inl (cI, 4096, Sum.inl (fun _ => 0))) : Nat × va_E) := by rw [e_ws77]; exact gs_ne (by decide) f_67_ws76
                clear f_67_ws76
                have f_67_ws79 : ws79[67]? = some ((q43, Sum.inl (cI, 4096, Sum.inl (fun _ => 0))) : Nat × va_E) := by rw [e_ws79]; exact gs_app f_67_ws77
                clear f_67_ws77
                have f_67_ws81 : ws81[67]? = some ((q43, Sum.inl (cI, 4096, Sum.inl (fun _ => 0))) : Nat × va_E) := by rw [e_ws81]; exact gs_app f_67_ws79
                clear f_67_ws79
                have f_67_ws83 : ws83[67]? = some ((q43, Sum.inl (cI, 4096, Sum.inl (fun _ => 0))) : Nat × va_E) := e_ws83.at (by first | decide | (simp; done) | (simp; omega)) f_67_ws81
                clear f_67_ws81
                have f_67_ws91 : ws91[67]? = some ((q43, Sum.inl (cI, 4096, Sum.inl (fun _ => 0))) : Nat × va_E) := by rw [e_ws91]; exact gs_ne (by decide) f_67_ws83
                clear f_67_ws83
                have f_67_ws93 : ws93[67]? = some ((q43, Sum.inl (cI, 4096, Sum.inl (fun _ => 0))) : Nat × va_E) := by rw [e_ws93]; exact gs_app f_67_ws91
                clear f_67_ws91
                have f_67_ws95 : ws95[67]? = some ((q43, Sum.inl (cI, 4096, Sum.inl (fun _ => 0))) : Nat × va_E) := e_ws95.at (by first | decide | (simp; done) | (simp; omega)) f_67_ws93
                clear f_67_ws93
                have f_67_ws103 : ws103[67]? = some ((q43, Sum.inl (cI, 4096, Sum.inl (fun _ => 0))) : Nat × va_E) := by rw [e_ws103]; exact gs_ne (by decide) f_67_ws95
                clear f_67_ws95
                have f_67_ws105 : ws105[67]? = some ((q43, Sum.inl (cI, 4096, Sum.inl (fun _ => 0))) : Nat × va_E) := by rw [e_ws105]; exact gs_app f_67_ws103
                clear f_67_ws103
                have f_67_ws107 : ws107[67]? = some ((q43, Sum.inl (cI, 4096, Sum.inl (fun _ => 0))) : Nat × va_E) := e_ws107.at (by first | decide | (simp; done) | (simp; omega)) f_67_ws105
                clear f_67_ws105
                have f_67_ws115 : ws115[67]? = some ((q43, Sum.inl (cI, 4096, Sum.inl (fun _ => 0))) : Nat × va_E) := by rw [e_ws115]; exact gs_ne (by decide) f_67_ws107
                clear f_67_ws107
                have f_67_ws117 : ws117[67]? = some ((q43, Sum.inl (cI, 4096, Sum.inl (fun _ => 0))) : Nat × va_E) := by rw [e_ws117]; exact gs_app f_67_ws115
                clear f_67_ws115
                have f_67_ws119 : ws119[67]? = some ((q43, Sum.inl (cI, 4096, Sum.inl (fun _ => 0))) : Nat × va_E) := e_ws119.at (by first | decide | (simp; done) | (simp; omega)) f_67_ws117
                clear f_67_ws117
                have f_67_ws127 : ws127[67]? = some ((q43, Sum.inl (cI, 4096, Sum.inl (fun _ => 0))) : Nat × va_E) := by rw [e_ws127]; exact gs_ne (by decide) f_67_ws119
                clear f_67_ws119
                have f_67_ws128 : ws128[67]? = some ((q43, Sum.inl (cI, 4096, Sum.inl (fun _ => 0))) : Nat × va_E) := by rw [e_ws128]; exact gs_ne (by decide) f_67_ws127
                clear f_67_ws127
                have f_68_ws46 : ws46[68]? = some ((q44, Sum.inl (cZ, 4096, Sum.inl (fun _ => 0))) : Nat × va_E) := by rw [e_ws46]; exact gs_ne (by decide) f_68_ws38
                clear f_68_ws38
                have f_68_ws48 : ws48[68]? = some ((q44, Sum.inl (cZ, 4096, Sum.inl (fun _ => 0))) : Nat × va_E) := by rw [e_ws48]; exact gs_app f_68_ws46
                clear f_68_ws46
                have f_68_ws50 : ws50[68]? = some ((q44, Sum.inl (cZ, 4096, Sum.inl (fun _ => 0))) : Nat × va_E) := e_ws50.at (by first | decide | (simp; done) | (simp; omega)) f_68_ws48
                clear f_68_ws48
                have f_68_ws58 : ws58[68]? = some ((q44, Sum.inl (cZ, 4096, Sum.inl (fun _ => 0))) : Nat × va_E) := by rw [e_ws58]; exact gs_ne (by decide) f_68_ws50
                clear f_68_ws50
                have f_68_ws60 : ws60[68]? = some ((q44, Sum.inl (cZ, 4096, Sum.inl (fun _ => 0))) : Nat × va_E) := by rw [e_ws60]; exact gs_app f_68_ws58
                clear f_68_ws58
                have f_68_ws61 : ws61[68]? = some ((q44, Sum.inl (cZ, 4096, Sum.inl (fun _ => 0))) : Nat × va_E) := by rw [e_ws61]; exact gs_ne (by decide) f_68_ws60
                clear f_68_ws60
                have f_68_ws63 : ws63[68]? = some ((q44, Sum.inl (cZ, 4096, Sum.inl (fun _ => 0))) : Nat × va_E) := by rw [e_ws63]; exact gs_app f_68_ws61
                clear f_68_ws61
                have f_68_ws64 : ws64[68]? = some ((q44, Sum.inl (cZ, 4096, Sum.inl (fun _ => 0))) : Nat × va_E) := by rw [e_ws64]; exact gs_ne (by decide) f_68_ws63
                clear f_68_ws63
                have f_68_ws65 : ws65[68]? = some ((q44, Sum.inl (cZ, 4096, Sum.inl (fun _ => 0))) : Nat × va_E) := by rw [e_ws65]; exact gs_ne (by decide) f_68_ws64
                clear f_68_ws64
                have f_68_ws66 : ws66[68]? = some ((q44, Sum.inl (cZ, 4096, Sum.inl (fun _ => 0))) : Nat × va_E) := by rw [e_ws66]; exact gs_ne (by decide) f_68_ws65
                clear f_68_ws65
                have f_68_ws68 : ws68[68]? = some ((q44, Sum.inl (cZ, 4096, Sum.inl (fun _ => 0))) : Nat × va_E) := by rw [e_ws68]; exact gs_ne (by decide) f_68_ws66
                clear f_68_ws66
                have f_68_ws70 : ws70[68]? = some ((q44, Sum.inl (cZ, 4096, Sum.inl (fun _ => 0))) : Nat × va_E) := by rw [e_ws70]; exact gs_app f_68_ws68
                clear f_68_ws68
                have f_68_ws71 : ws71[68]? = some ((q44, Sum.inl (cZ, 4096, Sum.inl (fun _ => 0))) : Nat × va_E) := by rw [e_ws71]; exact gs_ne (by decide) f_68_ws70
                clear f_68_ws70
                have f_68_ws73 : ws73[68]? = some ((q44, Sum.inl (cZ, 4096, Sum.inl (fun _ => 0))) : Nat × va_E) := by rw [e_ws73]; exact gs_app f_68_ws71
                clear f_68_ws71
                have f_68_ws74 : ws74[68]? = some ((q44, Sum.inl (cZ, 4096, Sum.inl (fun _ => 0))) : Nat × va_E) := by rw [e_ws74]; exact gs_ne (by decide) f_68_ws73
                clear f_68_ws73
                have f_68_ws76 : ws76[68]? = some ((q44, Sum.inl (cZ, 4096, Sum.inl (fun _ => 0))) : Nat × va_E) := by rw [e_ws76]; exact gs_app f_68_ws74
                clear f_68_ws74
                have f_68_ws77 : ws77[68]? = some ((q44, Sum.inl (cZ, 4096, Sum.inl (fun _ => 0))) : Nat × va_E) := by rw [e_ws77]; exact gs_ne (by decide) f_68_ws76
                clear f_68_ws76
                have f_68_ws79 : ws79[68]? = some ((q44, Sum.inl (cZ, 4096, Sum.inl (fun _ => 0))) : Nat × va_E) := by rw [e_ws79]; exact gs_app f_68_ws77
                clear f_68_ws77
                have f_68_ws81 : ws81[68]? = some ((q44, Sum.inl (cZ, 4096, Sum.inl (fun _ => 0))) : Nat × va_E) := by rw [e_ws81]; exact gs_app f_68_ws79
                clear f_68_ws79
                have f_68_ws83 : ws83[68]? = some ((q44, Sum.inl (cZ, 4096, Sum.inl (fun _ => 0))) : Nat × va_E) := e_ws83.at (by first | decide | (simp; done) | (simp; omega)) f_68_ws81
                clear f_68_ws81
                have f_68_ws91 : ws91[68]? = some ((q44, Sum.inl (cZ, 4096, Sum.inl (fun _ => 0))) : Nat × va_E) := by rw [e_ws91]; exact gs_ne (by decide) f_68_ws83
                clear f_68_ws83
                have f_68_ws93 : ws93[68]? = some ((q44, Sum.inl (cZ, 4096, Sum.inl (fun _ => 0))) : Nat × va_E) := by rw [e_ws93]; exact gs_app f_68_ws91
                clear f_68_ws91
                have f_68_ws95 : ws95[68]? = some ((q44, Sum.inl (cZ, 4096, Sum.inl (fun _ => 0))) : Nat × va_E) := e_ws95.at (by first | decide | (simp; done) | (simp; omega)) f_68_ws93
                clear f_68_ws93
                have f_68_ws103 : ws103[68]? = some ((q44, Sum.inl (cZ, 4096, Sum.inl (fun _ => 0))) : Nat × va_E) := by rw [e_ws103]; exact gs_ne (by decide) f_68_ws95
                clear f_68_ws95
                have f_68_ws105 : ws105[68]? = some ((q44, Sum.inl (cZ, 4096, Sum.inl (fun _ => 0))) : Nat × va_E) := by rw [e_ws105]; exact gs_app f_68_ws103
                clear f_68_ws103
                have f_68_ws107 : ws107[68]? = some ((q44, Sum.inl (cZ, 4096, Sum.inl (fun _ => 0))) : Nat × va_E) := e_ws107.at (by first | decide | (simp; done) | (simp; omega)) f_68_ws105
                clear f_68_ws105
                have f_68_ws115 : ws115[68]? = some ((q44, Sum.inl (cZ, 4096, Sum.inl (fun _ => 0))) : Nat × va_E) := by rw [e_ws115]; exact gs_ne (by decide) f_68_ws107
                clear f_68_ws107
                have f_68_ws117 : ws117[68]? = some ((q44, Sum.inl (cZ, 4096, Sum.inl (fun _ => 0))) : Nat × va_E) := by rw [e_ws117]; exact gs_app f_68_ws115
                clear f_68_ws115
                have f_68_ws119 : ws119[68]? = some ((q44, Sum.inl (cZ, 4096, Sum.inl (fun _ => 0))) : Nat × va_E) := e_ws119.at (by first | decide | (simp; done) | (simp; omega)) f_68_ws117
                clear f_68_ws117
                have f_68_ws127 : ws127[68]? = some ((q44, Sum.inl (cZ, 4096, Sum.inl (fun _ => 0))) : Nat × va_E) := by rw [e_ws127]; exact gs_ne (by decide) f_68_ws119
                clear f_68_ws119
                have f_68_ws128 : ws128[68]? = some ((q44, Sum.inl (cZ, 4096, Sum.inl (fun _ => 0))) : Nat × va_E) := by rw [e_ws128]; exact gs_ne (by decide) f_68_ws127
                clear f_68_ws127
                have f_69_ws46 : ws46[69]? = some ((q45, Sum.inl (cZ, 4096, Sum.inl (fun _ => 0))) : Nat × va_E) := by rw [e_ws46]; exact gs_ne (by decide) f_69_ws38
                clear f_69_ws38
                have f_69_ws48 : ws48[69]? = some ((q45, Sum.inl (cZ, 4096, Sum.inl (fun _ => 0))) : Nat × va_E) := by rw [e_ws48]; exact gs_app f_69_ws46
                clear f_69_ws46
                have f_69_ws50 : ws50[69]? = some ((q45, Sum.inl (cZ, 4096, Sum.inl (fun _ => 0))) : Nat × va_E) := e_ws50.at (by first | decide | (simp; done) | (simp; omega)) f_69_ws48
                clear f_69_ws48
                have f_69_ws58 : ws58[69]? = some ((q45, Sum.inl (cZ, 4096, Sum.inl (fun _ => 0))) : Nat × va_E) := by rw [e_ws58]; exact gs_ne (by decide) f_69_ws50
                clear f_69_ws50
                have f_69_ws60 : ws60[69]? = some ((q45, Sum.inl (cZ, 4096, Sum.inl (fun _ => 0))) : Nat × va_E) := by rw [e_ws60]; exact gs_app f_69_ws58
                clear f_69_ws58
                have f_69_ws61 : ws61[69]? = some ((q45, Sum.inl (cZ, 4096, Sum.inl (fun _ => 0))) : Nat × va_E) := by rw [e_ws61]; exact gs_ne (by decide) f_69_ws60
                clear f_69_ws60
                have f_69_ws63 : ws63[69]? = some ((q45, Sum.inl (cZ, 4096, Sum.inl (fun _ => 0))) : Nat × va_E) := by rw [e_ws63]; exact gs_app f_69_ws61
                clear f_69_ws61
                have f_69_ws64 : ws64[69]? = some ((q45, Sum.inl (cZ, 4096, Sum.inl (fun _ => 0))) : Nat × va_E) := by rw [e_ws64]; exact gs_ne (by decide) f_69_ws63
                clear f_69_ws63
                have f_69_ws65 : ws65[69]? = some ((q45, Sum.inl (cZ, 4096, Sum.inl (fun _ => 0))) : Nat × va_E) := by rw [e_ws65]; exact gs_ne (by decide) f_69_ws64
                clear f_69_ws64
                have f_69_ws66 : ws66[69]? = some ((q45, Sum.inl (cZ, 4096, Sum.inl (fun _ => 0))) : Nat × va_E) := by rw [e_ws66]; exact gs_ne (by decide) f_69_ws65
                clear f_69_ws65
                have f_69_ws68 : ws68[69]? = some ((q45, Sum.inl (cZ, 4096, Sum.inl (fun _ => 0))) : Nat × va_E) := by rw [e_ws68]; exact gs_ne (by decide) f_69_ws66
                clear f_69_ws66
                have f_69_ws70 : ws70[69]? = some ((q45, Sum.inl (cZ, 4096, Sum.inl (fun _ => 0))) : Nat × va_E) := by rw [e_ws70]; exact gs_app f_69_ws68
                clear f_69_ws68
                have f_69_ws71 : ws71[69]? = some ((q45, Sum.inl (cZ, 4096, Sum.inl (fun _ => 0))) : Nat × va_E) := by rw [e_ws71]; exact gs_ne (by decide) f_69_ws70
                clear f_69_ws70
                have f_69_ws73 : ws73[69]? = some ((q45, Sum.inl (cZ, 4096, Sum.inl (fun _ => 0))) : Nat × va_E) := by rw [e_ws73]; exact gs_app f_69_ws71
                clear f_69_ws71
                have f_69_ws74 : ws74[69]? = some ((q45, Sum.inl (cZ, 4096, Sum.inl (fun _ => 0))) : Nat × va_E) := by rw [e_ws74]; exact gs_ne (by decide) f_69_ws73
                clear f_69_ws73
                have f_69_ws76 : ws76[69]? = some ((q45, Sum.inl (cZ, 4096, Sum.inl (fun _ => 0))) : Nat × va_E) := by rw [e_ws76]; exact gs_app f_69_ws74
                clear f_69_ws74
                have f_69_ws77 : ws77[69]? = some ((q45, Sum.inl (cZ, 4096, Sum.inl (fun _ => 0))) : Nat × va_E) := by rw [e_ws77]; exact gs_ne (by decide) f_69_ws76
                clear f_69_ws76
                have f_69_ws79 : ws79[69]? = some ((q45, Sum.inl (cZ, 4096, Sum.inl (fun _ => 0))) : Nat × va_E) := by rw [e_ws79]; exact gs_app f_69_ws77
                clear f_69_ws77
                have f_69_ws81 : ws81[69]? = some ((q45, Sum.inl (cZ, 4096, Sum.inl (fun _ => 0))) : Nat × va_E) := by rw [e_ws81]; exact gs_app f_69_ws79
                clear f_69_ws79
                have f_69_ws83 : ws83[69]? = some ((q45, Sum.inl (cZ, 4096, Sum.inl (fun _ => 0))) : Nat × va_E) := e_ws83.at (by first | decide | (simp; done) | (simp; omega)) f_69_ws81
                clear f_69_ws81
                have f_69_ws91 : ws91[69]? = some ((q45, Sum.inl (cZ, 4096, Sum.inl (fun _ => 0))) : Nat × va_E) := by rw [e_ws91]; exact gs_ne (by decide) f_69_ws83
                clear f_69_ws83
                have f_69_ws93 : ws93[69]? = some ((q45, Sum.inl (cZ, 4096, Sum.inl (fun _ => 0))) : Nat × va_E) := by rw [e_ws93]; exact gs_app f_69_ws91
                clear f_69_ws91
                have f_69_ws95 : ws95[69]? = some ((q45, Sum.inl (cZ, 4096, Sum.inl (fun _ => 0))) : Nat × va_E) := e_ws95.at (by first | decide | (simp; done) | (simp; omega)) f_69_ws93
                clear f_69_ws93
                have f_69_ws103 : ws103[69]? = some ((q45, Sum.inl (cZ, 4096, Sum.inl (fun _ => 0))) : Nat × va_E) := by rw [e_ws103]; exact gs_ne (by decide) f_69_ws95
                clear f_69_ws95
                have f_69_ws105 : ws105[69]? = some ((q45, Sum.inl (cZ, 4096, Sum.inl (fun _ => 0))) : Nat × va_E) := by rw [e_ws105]; exact gs_app f_69_ws103
                clear f_69_ws103
                have f_69_ws107 : ws107[69]? = some ((q45, Sum.inl (cZ, 4096, Sum.inl (fun _ => 0))) : Nat × va_E) := e_ws107.at (by first | decide | (simp; done) | (simp; omega)) f_69_ws105
                clear f_69_ws105
                have f_69_ws115 : ws115[69]? = some ((q45, Sum.inl (cZ, 4096, Sum.inl (fun _ => 0))) : Nat × va_E) := by rw [e_ws115]; exact gs_ne (by decide) f_69_ws107
                clear f_69_ws107
                have f_69_ws117 : ws117[69]? = some ((q45, Sum.inl (cZ, 4096, Sum.inl (fun _ => 0))) : Nat × va_E) := by rw [e_ws117]; exact gs_app f_69_ws115
                clear f_69_ws115
                have f_69_ws119 : ws119[69]? = some ((q45, Sum.inl (cZ, 4096, Sum.inl (fun _ => 0))) : Nat × va_E) := e_ws119.at (by first | decide | (simp; done) | (simp; omega)) f_69_ws117
                clear f_69_ws117
                have f_69_ws127 : ws127[69]? = some ((q45, Sum.inl (cZ, 4096, Sum.inl (fun _ => 0))) : Nat × va_E) := by rw [e_ws127]; exact gs_ne (by decide) f_69_ws119
                clear f_69_ws119
                have f_69_ws128 : ws128[69]? = some ((q45, Sum.inl (cZ, 4096, Sum.inl (fun _ => 0))) : Nat × va_E) := by rw [e_ws128]; exact gs_ne (by decide) f_69_ws127
                clear f_69_ws127
                have f_70_ws58 : ws58[70]? = some ((q47, Sum.inr (9, [Value.ref q51, Value.ref q52, Value.ref q53, Value.ref q54, Value.ref q55, Value.ref q56, Value.ref q57, Value.int 0, Value.int 0, Value.int 0, Value.int 0])) : Nat × va_E) := by rw [e_ws58]; exact gs_ne (by decide) f_70_ws50
                clear f_70_ws50
                have f_70_ws60 : ws60[70]? = some ((q47, Sum.inr (9, [Value.ref q51, Value.ref q52, Value.ref q53, Value.ref q54, Value.ref q55, Value.ref q56, Value.ref q57, Value.int 0, Value.int 0, Value.int 0, Value.int 0])) : Nat × va_E) := by rw [e_ws60]; exact gs_app f_70_ws58
                clear f_70_ws58
                have f_70_ws61 : ws61[70]? = some ((q47, Sum.inr (9, [Value.ref q51, Value.ref q52, Value.ref q53, Value.ref q54, Value.ref q55, Value.ref q56, Value.ref q57, Value.int 0, Value.int 0, Value.int 0, Value.int 0])) : Nat × va_E) := by rw [e_ws61]; exact gs_ne (by decide) f_70_ws60
                clear f_70_ws60
                have f_70_ws63 : ws63[70]? = some ((q47, Sum.inr (9, [Value.ref q51, Value.ref q52, Value.ref q53, Value.ref q54, Value.ref q55, Value.ref q56, Value.ref q57, Value.int 0, Value.int 0, Value.int 0, Value.int 0])) : Nat × va_E) := by rw [e_ws63]; exact gs_app f_70_ws61
                clear f_70_ws61
                have f_70_ws64 : ws64[70]? = some ((q47, Sum.inr (9, [Value.ref q51, Value.ref q52, Value.ref q53, Value.ref q54, Value.ref q55, Value.ref q56, Value.ref q57, Value.int 0, Value.int 0, Value.int 0, Value.int 0])) : Nat × va_E) := by rw [e_ws64]; exact gs_ne (by decide) f_70_ws63
                clear f_70_ws63
                have f_70_ws65 : ws65[70]? = some ((q47, Sum.inr (9, [Value.ref q51, Value.ref q52, Value.ref q53, Value.ref q54, Value.ref q55, Value.ref q56, Value.ref q57, Value.int 0, Value.int 0, Value.int 0, Value.int 0])) : Nat × va_E) := by rw [e_ws65]; exact gs_ne (by decide) f_70_ws64
                clear f_70_ws64
                have f_70_ws66 : ws66[70]? = some ((q47, Sum.inr (9, [Value.ref q51, Value.ref q52, Value.ref q53, Value.ref q54, Value.ref q55, Value.ref q56, Value.ref q57, Value.int 0, Value.int 0, Value.int 0, Value.int 0])) : Nat × va_E) := by rw [e_ws66]; exact gs_ne (by decide) f_70_ws65
                clear f_70_ws65
                have f_70_ws68 : ws68[70]? = some ((q47, Sum.inr (9, [Value.ref q51, Value.ref q52, Value.ref q53, Value.ref q54, Value.ref q55, Value.ref q56, Value.ref q57, Value.int 0, Value.int 0, Value.int 0, Value.int 0])) : Nat × va_E) := by rw [e_ws68]; exact gs_ne (by decide) f_70_ws66
                clear f_70_ws66
                have f_70_ws70 : ws70[70]? = some ((q47, Sum.inr (9, [Value.ref q51, Value.ref q52, Value.ref q53, Value.ref q54, Value.ref q55, Value.ref q56, Value.ref q57, Value.int 0, Value.int 0, Value.int 0, Value.int 0])) : Nat × va_E) := by rw [e_ws70]; exact gs_app f_70_ws68
                clear f_70_ws68
                have f_70_ws71 : ws71[70]? = some ((q47, Sum.inr (9, [Value.ref q51, Value.ref q52, Value.ref q53, Value.ref q54, Value.ref q55, Value.ref q56, Value.ref q57, Value.int 0, Value.int 0, Value.int 0, Value.int 0])) : Nat × va_E) := by rw [e_ws71]; exact gs_ne (by decide) f_70_ws70
                clear f_70_ws70
                have f_70_ws73 : ws73[70]? = some ((q47, Sum.inr (9, [Value.ref q51, Value.ref q52, Value.ref q53, Value.ref q54, Value.ref q55, Value.ref q56, Value.ref q57, Value.int 0, Value.int 0, Value.int 0, Value.int 0])) : Nat × va_E) := by rw [e_ws73]; exact gs_app f_70_ws71
                clear f_70_ws71
                have f_70_ws74 : ws74[70]? = some ((q47, Sum.inr (9, [Value.ref q51, Value.ref q52, Value.ref q53, Value.ref q54, Value.ref q55, Value.ref q56, Value.ref q57, Value.int 0, Value.int 0, Value.int 0, Value.int 0])) : Nat × va_E) := by rw [e_ws74]; exact gs_ne (by decide) f_70_ws73
                clear f_70_ws73
                have f_70_ws76 : ws76[70]? = some ((q47, Sum.inr (9, [Value.ref q51, Value.ref q52, Value.ref q53, Value.ref q54, Value.ref q55, Value.ref q56, Value.ref q57, Value.int 0, Value.int 0, Value.int 0, Value.int 0])) : Nat × va_E) := by rw [e_ws76]; exact gs_app f_70_ws74
                clear f_70_ws74
                have f_70_ws77 : ws77[70]? = some ((q47, Sum.inr (9, [Value.ref q51, Value.ref q52, Value.ref q53, Value.ref q54, Value.ref q55, Value.ref q56, Value.ref q57, Value.int 0, Value.int 0, Value.int 0, Value.int 0])) : Nat × va_E) := by rw [e_ws77]; exact gs_ne (by decide) f_70_ws76
                clear f_70_ws76
                have f_70_ws79 : ws79[70]? = some ((q47, Sum.inr (9, [Value.ref q51, Value.ref q52, Value.ref q53, Value.ref q54, Value.ref q55, Value.ref q56, Value.ref q57, Value.int 0, Value.int 0, Value.int 0, Value.int 0])) : Nat × va_E) := by rw [e_ws79]; exact gs_app f_70_ws77
                clear f_70_ws77
                have f_70_ws81 : ws81[70]? = some ((q47, Sum.inr (9, [Value.ref q51, Value.ref q52, Value.ref q53, Value.ref q54, Value.ref q55, Value.ref q56, Value.ref q57, Value.int 0, Value.int 0, Value.int 0, Value.int 0])) : Nat × va_E) := by rw [e_ws81]; exact gs_app f_70_ws79
                clear f_70_ws79
                have f_70_ws83 : ws83[70]? = some ((q47, Sum.inr (9, [Value.ref q51, Value.ref q52, Value.ref q53, Value.ref q54, Value.ref q55, Value.ref q56, Value.ref q57, Value.int 0, Value.int 0, Value.int 0, Value.int 0])) : Nat × va_E) := e_ws83.at (by first | decide | (simp; done) | (simp; omega)) f_70_ws81
                clear f_70_ws81
                have f_70_ws91 : ws91[70]? = some ((q47, Sum.inr (9, [Value.ref q51, Value.ref q52, Value.ref q53, Value.ref q54, Value.ref q55, Value.ref q56, Value.ref q57, Value.int 0, Value.int 0, Value.int 0, Value.int 0])) : Nat × va_E) := by rw [e_ws91]; exact gs_ne (by decide) f_70_ws83
                clear f_70_ws83
                have f_70_ws93 : ws93[70]? = some ((q47, Sum.inr (9, [Value.ref q51, Value.ref q52, Value.ref q53, Value.ref q54, Value.ref q55, Value.ref q56, Value.ref q57, Value.int 0, Value.int 0, Value.int 0, Value.int 0])) : Nat × va_E) := by rw [e_ws93]; exact gs_app f_70_ws91
                clear f_70_ws91
                have f_70_ws95 : ws95[70]? = some ((q47, Sum.inr (9, [Value.ref q51, Value.ref q52, Value.ref q53, Value.ref q54, Value.ref q55, Value.ref q56, Value.ref q57, Value.int 0, Value.int 0, Value.int 0, Value.int 0])) : Nat × va_E) := e_ws95.at (by first | decide | (simp; done) | (simp; omega)) f_70_ws93
                clear f_70_ws93
                have f_70_ws103 : ws103[70]? = some ((q47, Sum.inr (9, [Value.ref q51, Value.ref q52, Value.ref q53, Value.ref q54, Value.ref q55, Value.ref q56, Value.ref q57, Value.int 0, Value.int 0, Value.int 0, Value.int 0])) : Nat × va_E) := by rw [e_ws103]; exact gs_ne (by decide) f_70_ws95
                clear f_70_ws95
                have f_70_ws105 : ws105[70]? = some ((q47, Sum.inr (9, [Value.ref q51, Value.ref q52, Value.ref q53, Value.ref q54, Value.ref q55, Value.ref q56, Value.ref q57, Value.int 0, Value.int 0, Value.int 0, Value.int 0])) : Nat × va_E) := by rw [e_ws105]; exact gs_app f_70_ws103
                clear f_70_ws103
                have f_70_ws107 : ws107[70]? = some ((q47, Sum.inr (9, [Value.ref q51, Value.ref q52, Value.ref q53, Value.ref q54, Value.ref q55, Value.ref q56, Value.ref q57, Value.int 0, Value.int 0, Value.int 0, Value.int 0])) : Nat × va_E) := e_ws107.at (by first | decide | (simp; done) | (simp; omega)) f_70_ws105
                clear f_70_ws105
                have f_70_ws115 : ws115[70]? = some ((q47, Sum.inr (9, [Value.ref q51, Value.ref q52, Value.ref q53, Value.ref q54, Value.ref q55, Value.ref q56, Value.ref q57, Value.int 0, Value.int 0, Value.int 0, Value.int 0])) : Nat × va_E) := by rw [e_ws115]; exact gs_ne (by decide) f_70_ws107
                clear f_70_ws107
                have f_70_ws117 : ws117[70]? = some ((q47, Sum.inr (9, [Value.ref q51, Value.ref q52, Value.ref q53, Value.ref q54, Value.ref q55, Value.ref q56, Value.ref q57, Value.int 0, Value.int 0, Value.int 0, Value.int 0])) : Nat × va_E) := by rw [e_ws117]; exact gs_app f_70_ws115
                clear f_70_ws115
                have f_70_ws119 : ws119[70]? = some ((q47, Sum.inr (9, [Value.ref q51, Value.ref q52, Value.ref q53, Value.ref q54, Value.ref q55, Value.ref q56, Value.ref q57, Value.int 0, Value.int 0, Value.int 0, Value.int 0])) : Nat × va_E) := e_ws119.at (by first | decide | (simp; done) | (simp; omega)) f_70_ws117
                clear f_70_ws117
                have f_70_ws127 : ws127[70]? = some ((q47, Sum.inr (9, [Value.ref q51, Value.ref q52, Value.ref q53, Value.ref q54, Value.ref q55, Value.ref q56, Value.ref q57, Value.int 0, Value.int 0, Value.int 0, Value.int 0])) : Nat × va_E) := by rw [e_ws127]; exact gs_ne (by decide) f_70_ws119
                clear f_70_ws119
                have f_70_ws128 : ws128[70]? = some ((q47, Sum.inr (9, [Value.ref q51, Value.ref q52, Value.ref q53, Value.ref q54, Value.ref q55, Value.ref q56, Value.ref q57, Value.int 0, Value.int 0, Value.int 0, Value.int 0])) : Nat × va_E) := by rw [e_ws128]; exact gs_ne (by decide) f_70_ws127
                clear f_70_ws127
                have f_71_ws58 : ws58[71]? = some ((q51, Sum.inl (cI, 4097, Sum.inl (fun _ => 0))) : Nat × va_E) := by rw [e_ws58]; exact gs_ne (by decide) f_71_ws50
                clear f_71_ws50
                have f_71_ws60 : ws60[71]? = some ((q51, Sum.inl (cI, 4097, Sum.inl (fun _ => 0))) : Nat × va_E) := by rw [e_ws60]; exact gs_app f_71_ws58
                clear f_71_ws58
                have f_71_ws61 : ws61[71]? = some ((q51, Sum.inl (cI, 4097, Sum.inl (fun _ => 0))) : Nat × va_E) := by rw [e_ws61]; exact gs_ne (by decide) f_71_ws60
                clear f_71_ws60
                have f_71_ws63 : ws63[71]? = some ((q51, Sum.inl (cI, 4097, Sum.inl (fun _ => 0))) : Nat × va_E) := by rw [e_ws63]; exact gs_app f_71_ws61
                clear f_71_ws61
                have f_71_ws64 : ws64[71]? = some ((q51, Sum.inl (cI, 4097, Sum.inl (fun _ => 0))) : Nat × va_E) := by rw [e_ws64]; exact gs_ne (by decide) f_71_ws63
                clear f_71_ws63
                have f_71_ws65 : ws65[71]? = some ((q51, Sum.inl (cI, 4097, Sum.inl (fun _ => 0))) : Nat × va_E) := by rw [e_ws65]; exact gs_ne (by decide) f_71_ws64
                clear f_71_ws64
                have f_71_ws66 : ws66[71]? = some ((q51, Sum.inl (cI, 4097, Sum.inl (fun _ => 0))) : Nat × va_E) := by rw [e_ws66]; exact gs_ne (by decide) f_71_ws65
                clear f_71_ws65
                have f_71_ws68 : ws68[71]? = some ((q51, Sum.inl (cI, 4097, Sum.inl (fun _ => 0))) : Nat × va_E) := by rw [e_ws68]; exact gs_ne (by decide) f_71_ws66
                clear f_71_ws66
                have f_71_ws70 : ws70[71]? = some ((q51, Sum.inl (cI, 4097, Sum.inl (fun _ => 0))) : Nat × va_E) := by rw [e_ws70]; exact gs_app f_71_ws68
                clear f_71_ws68
                have f_71_ws71 : ws71[71]? = some ((q51, Sum.inl (cI, 4097, Sum.inl (fun _ => 0))) : Nat × va_E) := by rw [e_ws71]; exact gs_ne (by decide) f_71_ws70
                clear f_71_ws70
                have f_71_ws73 : ws73[71]? = some ((q51, Sum.inl (cI, 4097, Sum.inl (fun _ => 0))) : Nat × va_E) := by rw [e_ws73]; exact gs_app f_71_ws71
                clear f_71_ws71
                have f_71_ws74 : ws74[71]? = some ((q51, Sum.inl (cI, 4097, Sum.inl (fun _ => 0))) : Nat × va_E) := by rw [e_ws74]; exact gs_ne (by decide) f_71_ws73
                clear f_71_ws73
                have f_71_ws76 : ws76[71]? = some ((q51, Sum.inl (cI, 4097, Sum.inl (fun _ => 0))) : Nat × va_E) := by rw [e_ws76]; exact gs_app f_71_ws74
                clear f_71_ws74
                have f_71_ws77 : ws77[71]? = some ((q51, Sum.inl (cI, 4097, Sum.inl (fun _ => 0))) : Nat × va_E) := by rw [e_ws77]; exact gs_ne (by decide) f_71_ws76
                clear f_71_ws76
                have f_71_ws79 : ws79[71]? = some ((q51, Sum.inl (cI, 4097, Sum.inl (fun _ => 0))) : Nat × va_E) := by rw [e_ws79]; exact gs_app f_71_ws77
                clear f_71_ws77
                have f_71_ws81 : ws81[71]? = some ((q51, Sum.inl (cI, 4097, Sum.inl (fun _ => 0))) : Nat × va_E) := by rw [e_ws81]; exact gs_app f_71_ws79
                clear f_71_ws79
                have f_71_ws83 : ws83[71]? = some ((q51, Sum.inl (cI, 4097, Sum.inl (fun _ => 0))) : Nat × va_E) := e_ws83.at (by first | decide | (simp; done) | (simp; omega)) f_71_ws81
                clear f_71_ws81
                have f_71_ws91 : ws91[71]? = some ((q51, Sum.inl (cI, 4097, Sum.inl (fun _ => 0))) : Nat × va_E) := by rw [e_ws91]; exact gs_ne (by decide) f_71_ws83
                clear f_71_ws83
                have f_71_ws93 : ws93[71]? = some ((q51, Sum.inl (cI, 4097, Sum.inl (fun _ => 0))) : Nat × va_E) := by rw [e_ws93]; exact gs_app f_71_ws91
                clear f_71_ws91
                have f_71_ws95 : ws95[71]? = some ((q51, Sum.inl (cI, 4097, Sum.inl (fun _ => 0))) : Nat × va_E) := e_ws95.at (by first | decide | (simp; done) | (simp; omega)) f_71_ws93
                clear f_71_ws93
                have f_71_ws103 : ws103[71]? = some ((q51, Sum.inl (cI, 4097, Sum.inl (fun _ => 0))) : Nat × va_E) := by rw [e_ws103]; exact gs_ne (by decide) f_71_ws95
                clear f_71_ws95
                have f_71_ws105 : ws105[71]? = some ((q51, Sum.inl (cI, 4097, Sum.inl (fun _ => 0))) : Nat × va_E) := by rw [e_ws105]; exact gs_app f_71_ws103
                clear f_71_ws103
                have f_71_ws107 : ws107[71]? = some ((q51, Sum.inl (cI, 4097, Sum.inl (fun _ => 0))) : Nat × va_E) := e_ws107.at (by first | decide | (simp; done) | (simp; omega)) f_71_ws105
                clear f_71_ws105
                have f_71_ws115 : ws115[71]? = some ((q51, Sum.inl (cI, 4097, Sum.inl (fun _ => 0))) : Nat × va_E) := by rw [e_ws115]; exact gs_ne (by decide) f_71_ws107
                clear f_71_ws107
                have f_71_ws117 : ws117[71]? = some ((q51, Sum.inl (cI, 4097, Sum.inl (fun _ => 0))) : Nat × va_E) := by rw [e_ws117]; exact gs_app f_71_ws115
                clear f_71_ws115
                have f_71_ws119 : ws119[71]? = some ((q51, Sum.inl (cI, 4097, Sum.inl (fun _ => 0))) : Nat × va_E) := e_ws119.at (by first | decide | (simp; done) | (simp; omega)) f_71_ws117
                clear f_71_ws117
                have f_71_ws127 : ws127[71]? = some ((q51, Sum.inl (cI, 4097, Sum.inl (fun _ => 0))) : Nat × va_E) := by rw [e_ws127]; exact gs_ne (by decide) f_71_ws119
                clear f_71_ws119
                have f_71_ws128 : ws128[71]? = some ((q51, Sum.inl (cI, 4097, Sum.inl (fun _ => 0))) : Nat × va_E) := by rw [e_ws128]; exact gs_ne (by decide) f_71_ws127
                clear f_71_ws127
                have f_72_ws58 : ws58[72]? = some ((q52, Sum.inl (cI, 4097, Sum.inl (fun _ => 0))) : Nat × va_E) := by rw [e_ws58]; exact gs_ne (by decide) f_72_ws50
                clear f_72_ws50
                have f_72_ws60 : ws60[72]? = some ((q52, Sum.inl (cI, 4097, Sum.inl (fun _ => 0))) : Nat × va_E) := by rw [e_ws60]; exact gs_app f_72_ws58
                clear f_72_ws58
                have f_72_ws61 : ws61[72]? = some ((q52, Sum.inl (cI, 4097, Sum.inl (fun _ => 0))) : Nat × va_E) := by rw [e_ws61]; exact gs_ne (by decide) f_72_ws60
                clear f_72_ws60
                have f_72_ws63 : ws63[72]? = some ((q52, Sum.inl (cI, 4097, Sum.inl (fun _ => 0))) : Nat × va_E) := by rw [e_ws63]; exact gs_app f_72_ws61
                clear f_72_ws61
                have f_72_ws64 : ws64[72]? = some ((q52, Sum.inl (cI, 4097, Sum.inl (fun _ => 0))) : Nat × va_E) := by rw [e_ws64]; exact gs_ne (by decide) f_72_ws63
                clear f_72_ws63
                have f_72_ws65 : ws65[72]? = some ((q52, Sum.inl (cI, 4097, Sum.inl (fun _ => 0))) : Nat × va_E) := by rw [e_ws65]; exact gs_ne (by decide) f_72_ws64
                clear f_72_ws64
                have f_72_ws66 : ws66[72]? = some ((q52, Sum.inl (cI, 4097, Sum.inl (fun _ => 0))) : Nat × va_E) := by rw [e_ws66]; exact gs_ne (by decide) f_72_ws65
                clear f_72_ws65
                have f_72_ws68 : ws68[72]? = some ((q52, Sum.inl (cI, 4097, Sum.inl (fun _ => 0))) : Nat × va_E) := by rw [e_ws68]; exact gs_ne (by decide) f_72_ws66
                clear f_72_ws66
                have f_72_ws70 : ws70[72]? = some ((q52, Sum.inl (cI, 4097, Sum.inl (fun _ => 0))) : Nat × va_E) := by rw [e_ws70]; exact gs_app f_72_ws68
                clear f_72_ws68
                have f_72_ws71 : ws71[72]? = some ((q52, Sum.inl (cI, 4097, Sum.inl (fun _ => 0))) : Nat × va_E) := by rw [e_ws71]; exact gs_ne (by decide) f_72_ws70
                clear f_72_ws70
                have f_72_ws73 : ws73[72]? = some ((q52, Sum.inl (cI, 4097, Sum.inl (fun _ => 0))) : Nat × va_E) := by rw [e_ws73]; exact gs_app f_72_ws71
                clear f_72_ws71
                have f_72_ws74 : ws74[72]? = some ((q52, Sum.inl (cI, 4097, Sum.inl (fun _ => 0))) : Nat × va_E) := by rw [e_ws74]; exact gs_ne (by decide) f_72_ws73
                clear f_72_ws73
                have f_72_ws76 : ws76[72]? = some ((q52, Sum.inl (cI, 4097, Sum.inl (fun _ => 0))) : Nat × va_E) := by rw [e_ws76]; exact gs_app f_72_ws74
                clear f_72_ws74
                have f_72_ws77 : ws77[72]? = some ((q52, Sum.inl (cI, 4097, Sum.inl (fun _ => 0))) : Nat × va_E) := by rw [e_ws77]; exact gs_ne (by decide) f_72_ws76
                clear f_72_ws76
                have f_72_ws79 : ws79[72]? = some ((q52, Sum.inl (cI, 4097, Sum.inl (fun _ => 0))) : Nat × va_E) := by rw [e_ws79]; exact gs_app f_72_ws77
                clear f_72_ws77
                have f_72_ws81 : ws81[72]? = some ((q52, Sum.inl (cI, 4097, Sum.inl (fun _ => 0))) : Nat × va_E) := by rw [e_ws81]; exact gs_app f_72_ws79
                clear f_72_ws79
                have f_72_ws83 : ws83[72]? = some ((q52, Sum.inl (cI, 4097, Sum.inl (fun _ => 0))) : Nat × va_E) := e_ws83.at (by first | decide | (simp; done) | (simp; omega)) f_72_ws81
                clear f_72_ws81
                have f_72_ws91 : ws91[72]? = some ((q52, Sum.inl (cI, 4097, Sum.inl (fun _ => 0))) : Nat × va_E) := by rw [e_ws91]; exact gs_ne (by decide) f_72_ws83
                clear f_72_ws83
                have f_72_ws93 : ws93[72]? = some ((q52, Sum.inl (cI, 4097, Sum.inl (fun _ => 0))) : Nat × va_E) := by rw [e_ws93]; exact gs_app f_72_ws91
                clear f_72_ws91
                have f_72_ws95 : ws95[72]? = some ((q52, Sum.inl (cI, 4097, Sum.inl (fun _ => 0))) : Nat × va_E) := e_ws95.at (by first | decide | (simp; done) | (simp; omega)) f_72_ws93
                clear f_72_ws93
                have f_72_ws103 : ws103[72]? = some ((q52, Sum.inl (cI, 4097, Sum.inl (fun _ => 0))) : Nat × va_E) := by rw [e_ws103]; exact gs_ne (by decide) f_72_ws95
                clear f_72_ws95
                have f_72_ws105 : ws105[72]? = some ((q52, Sum.inl (cI, 4097, Sum.inl (fun _ => 0))) : Nat × va_E) := by rw [e_ws105]; exact gs_app f_72_ws103
                clear f_72_ws103
                have f_72_ws107 : ws107[72]? = some ((q52, Sum.inl (cI, 4097, Sum.inl (fun _ => 0))) : Nat × va_E) := e_ws107.at (by first | decide | (simp; done) | (simp; omega)) f_72_ws105
                clear f_72_ws105
                have f_72_ws115 : ws115[72]? = some ((q52, Sum.inl (cI, 4097, Sum.inl (fun _ => 0))) : Nat × va_E) := by rw [e_ws115]; exact gs_ne (by decide) f_72_ws107
                clear f_72_ws107
                have f_72_ws117 : ws117[72]? = some ((q52, Sum.inl (cI, 4097, Sum.inl (fun _ => 0))) : Nat × va_E) := by rw [e_ws117]; exact gs_app f_72_ws115
                clear f_72_ws115
                have f_72_ws119 : ws119[72]? = some ((q52, Sum.inl (cI, 4097, Sum.inl (fun _ => 0))) : Nat × va_E) := e_ws119.at (by first | decide | (simp; done) | (simp; omega)) f_72_ws117
                clear f_72_ws117
                have f_72_ws127 : ws127[72]? = some ((q52, Sum.inl (cI, 4097, Sum.inl (fun _ => 0))) : Nat × va_E) := by rw [e_ws127]; exact gs_ne (by decide) f_72_ws119
                clear f_72_ws119
                have f_72_ws128 : ws128[72]? = some ((q52, Sum.inl (cI, 4097, Sum.inl (fun _ => 0))) : Nat × va_E) := by rw [e_ws128]; exact gs_ne (by decide) f_72_ws127
                clear f_72_ws127
                have f_73_ws58 : ws58[73]? = some ((q53, Sum.inl (cI, 4098, Sum.inl (fun _ => 0))) : Nat × va_E) := by rw [e_ws58]; exact gs_ne (by decide) f_73_ws50
                clear f_73_ws50
                have f_73_ws60 : ws60[73]? = some ((q53, Sum.inl (cI, 4098, Sum.inl (fun _ => 0))) : Nat × va_E) := by rw [e_ws60]; exact gs_app f_73_ws58
                clear f_73_ws58
                have f_73_ws61 : ws61[73]? = some ((q53, Sum.inl (cI, 4098, Sum.inl (fun _ => 0))) : Nat × va_E) := by rw [e_ws61]; exact gs_ne (by decide) f_73_ws60
                clear f_73_ws60
                have f_73_ws63 : ws63[73]? = some ((q53, Sum.inl (cI, 4098, Sum.inl (fun _ => 0))) : Nat × va_E) := by rw [e_ws63]; exact gs_app f_73_ws61
                clear f_73_ws61
                have f_73_ws64 : ws64[73]? = some ((q53, Sum.inl (cI, 4098, Sum.inl (fun _ => 0))) : Nat × va_E) := by rw [e_ws64]; exact gs_ne (by decide) f_73_ws63
                clear f_73_ws63
                have f_73_ws65 : ws65[73]? = some ((q53, Sum.inl (cI, 4098, Sum.inl (fun _ => 0))) : Nat × va_E) := by rw [e_ws65]; exact gs_ne (by decide) f_73_ws64
                clear f_73_ws64
                have f_73_ws66 : ws66[73]? = some ((q53, Sum.inl (cI, 4098, Sum.inl (fun _ => 0))) : Nat × va_E) := by rw [e_ws66]; exact gs_ne (by decide) f_73_ws65
                clear f_73_ws65
                have f_73_ws68 : ws68[73]? = some ((q53, Sum.inl (cI, 4098, Sum.inl (fun _ => 0))) : Nat × va_E) := by rw [e_ws68]; exact gs_ne (by decide) f_73_ws66
                clear f_73_ws66
                have f_73_ws70 : ws70[73]? = some ((q53, Sum.inl (cI, 4098, Sum.inl (fun _ => 0))) : Nat × va_E) := by rw [e_ws70]; exact gs_app f_73_ws68
                clear f_73_ws68
                have f_73_ws71 : ws71[73]? = some ((q53, Sum.inl (cI, 4098, Sum.inl (fun _ => 0))) : Nat × va_E) := by rw [e_ws71]; exact gs_ne (by decide) f_73_ws70
                clear f_73_ws70
                have f_73_ws73 : ws73[73]? = some ((q53, Sum.inl (cI, 4098, Sum.inl (fun _ => 0))) : Nat × va_E) := by rw [e_ws73]; exact gs_app f_73_ws71
                clear f_73_ws71
                have f_73_ws74 : ws74[73]? = some ((q53, Sum.inl (cI, 4098, Sum.inl (fun _ => 0))) : Nat × va_E) := by rw [e_ws74]; exact gs_ne (by decide) f_73_ws73
                clear f_73_ws73
                have f_73_ws76 : ws76[73]? = some ((q53, Sum.inl (cI, 4098, Sum.inl (fun _ => 0))) : Nat × va_E) := by rw [e_ws76]; exact gs_app f_73_ws74
                clear f_73_ws74
                have f_73_ws77 : ws77[73]? = some ((q53, Sum.inl (cI, 4098, Sum.inl (fun _ => 0))) : Nat × va_E) := by rw [e_ws77]; exact gs_ne (by decide) f_73_ws76
                clear f_73_ws76
                have f_73_ws79 : ws79[73]? = some ((q53, Sum.inl (cI, 4098, Sum.inl (fun _ => 0))) : Nat × va_E) := by rw [e_ws79]; exact gs_app f_73_ws77
                clear f_73_ws77
                have f_73_ws81 : ws81[73]? = some ((q53, Sum.inl (cI, 4098, Sum.inl (fun _ => 0))) : Nat × va_E) := by rw [e_ws81]; exact gs_app f_73_ws79
                clear f_73_ws79
                have f_73_ws83 : ws83[73]? = some ((q53, Sum.inl (cI, 4098, Sum.inl (fun _ => 0))) : Nat × va_E) := e_ws83.at (by first | decide | (simp; done) | (simp; omega)) f_73_ws81
                clear f_73_ws81
                have f_73_ws91 : ws91[73]? = some ((q53, Sum.inl (cI, 4098, Sum.inl (fun _ => 0))) : Nat × va_E) := by rw [e_ws91]; exact gs_ne (by decide) f_73_ws83
                clear f_73_ws83
                have f_73_ws93 : ws93[73]? = some ((q53, Sum.inl (cI, 4098, Sum.inl (fun _ => 0))) : Nat × va_E) := by rw [e_ws93]; exact gs_app f_73_ws91
                clear f_73_ws91
                have f_73_ws95 : ws95[73]? = some ((q53, Sum.inl (cI, 4098, Sum.inl (fun _ => 0))) : Nat × va_E) := e_ws95.at (by first | decide | (simp; done) | (simp; omega)) f_73_ws93
                clear f_73_ws93
                have f_73_ws103 : ws103[73]? = some ((q53, Sum.inl (cI, 4098, Sum.inl (fun _ => 0))) : Nat × va_E) := by rw [e_ws103]; exact gs_ne (by decide) f_73_ws95
                clear f_73_ws95
                have f_73_ws105 : ws105[73]? = some ((q53, Sum.inl (cI, 4098, Sum.inl (fun _ => 0))) : Nat × va_E) := by rw [e_ws105]; exact gs_app f_73_ws103
                clear f_73_ws103
                have f_73_ws107 : ws107[73]? = some ((q53, Sum.inl (cI, 4098, Sum.inl (fun _ => 0))) : Nat × va_E) := e_ws107.at (by first | decide | (simp; done) | (simp; omega)) f_73_ws105
                clear f_73_ws105
                have f_73_ws115 : ws115[73]? = some ((q53, Sum.inl (cI, 4098, Sum.inl (fun _ => 0))) : Nat × va_E) := by rw [e_ws115]; exact gs_ne (by decide) f_73_ws107
                clear f_73_ws107
                have f_73_ws117 : ws117[73]? = some ((q53, Sum.inl (cI, 4098, Sum.inl (fun _ => 0))) : Nat × va_E) := by rw [e_ws117]; exact gs_app f_73_ws115
                clear f_73_ws115
                have f_73_ws119 : ws119[73]? = some ((q53, Sum.inl (cI, 4098, Sum.inl (fun _ => 0))) : Nat × va_E) := e_ws119.at (by first | decide | (simp; done) | (simp; omega)) f_73_ws117
                clear f_73_ws117
                have f_73_ws127 : ws127[73]? = some ((q53, Sum.inl (cI, 4098, Sum.inl (fun _ => 0))) : Nat × va_E) := by rw [e_ws127]; exact gs_ne (by decide) f_73_ws119
                clear f_73_ws119
                have f_73_ws128 : ws128[73]? = some ((q53, Sum.inl (cI, 4098, Sum.inl (fun _ => 0))) : Nat × va_E) := by rw [e_ws128]; exact gs_ne (by decide) f_73_ws127
                clear f_73_ws127
                have f_74_ws58 : ws58[74]? = some ((q54, Sum.inl (cI, 4097, Sum.inl (fun _ => 0))) : Nat × va_E) := by rw [e_ws58]; exact gs_ne (by decide) f_74_ws50
                clear f_74_ws50
                have f_74_ws60 : ws60[74]? = some ((q54, Sum.inl (cI, 4097, Sum.inl (fun _ => 0))) : Nat × va_E) := by rw [e_ws60]; exact gs_app f_74_ws58
                clear f_74_ws58
                have f_74_ws61 : ws61[74]? = some ((q54, Sum.inl (cI, 4097, Sum.inl (fun _ => 0))) : Nat × va_E) := by rw [e_ws61]; exact gs_ne (by decide) f_74_ws60
                clear f_74_ws60
                have f_74_ws63 : ws63[74]? = some ((q54, Sum.inl (cI, 4097, Sum.inl (fun _ => 0))) : Nat × va_E) := by rw [e_ws63]; exact gs_app f_74_ws61
                clear f_74_ws61
                have f_74_ws64 : ws64[74]? = some ((q54, Sum.inl (cI, 4097, Sum.inl (fun _ => 0))) : Nat × va_E) := by rw [e_ws64]; exact gs_ne (by decide) f_74_ws63
                clear f_74_ws63
                have f_74_ws65 : ws65[74]? = some ((q54, Sum.inl (cI, 4097, Sum.inl (fun _ => 0))) : Nat × va_E) := by rw [e_ws65]; exact gs_ne (by decide) f_74_ws64
                clear f_74_ws64
                have f_74_ws66 : ws66[74]? = some ((q54, Sum.inl (cI, 4097, Sum.inl (fun _ => 0))) : Nat × va_E) := by rw [e_ws66]; exact gs_ne (by decide) f_74_ws65
                clear f_74_ws65
                have f_74_ws68 : ws68[74]? = some ((q54, Sum.inl (cI, 4097, Sum.inl (fun _ => 0))) : Nat × va_E) := by rw [e_ws68]; exact gs_ne (by decide) f_74_ws66
                clear f_74_ws66
                have f_74_ws70 : ws70[74]? = some ((q54, Sum.inl (cI, 4097, Sum.inl (fun _ => 0))) : Nat × va_E) := by rw [e_ws70]; exact gs_app f_74_ws68
                clear f_74_ws68
                have f_74_ws71 : ws71[74]? = some ((q54, Sum.inl (cI, 4097, Sum.inl (fun _ => 0))) : Nat × va_E) := by rw [e_ws71]; exact gs_ne (by decide) f_74_ws70
                clear f_74_ws70
                have f_74_ws73 : ws73[74]? = some ((q54, Sum.inl (cI, 4097, Sum.inl (fun _ => 0))) : Nat × va_E) := by rw [e_ws73]; exact gs_app f_74_ws71
                clear f_74_ws71
                have f_74_ws74 : ws74[74]? = some ((q54, Sum.inl (cI, 4097, Sum.inl (fun _ => 0))) : Nat × va_E) := by rw [e_ws74]; exact gs_ne (by decide) f_74_ws73
                clear f_74_ws73
                have f_74_ws76 : ws76[74]? = some ((q54, Sum.inl (cI, 4097, Sum.inl (fun _ => 0))) : Nat × va_E) := by rw [e_ws76]; exact gs_app f_74_ws74
                clear f_74_ws74
                have f_74_ws77 : ws77[74]? = some ((q54, Sum.inl (cI, 4097, Sum.inl (fun _ => 0))) : Nat × va_E) := by rw [e_ws77]; exact gs_ne (by decide) f_74_ws76
                clear f_74_ws76
                have f_74_ws79 : ws79[74]? = some ((q54, Sum.inl (cI, 4097, Sum.inl (fun _ => 0))) : Nat × va_E) := by rw [e_ws79]; exact gs_app f_74_ws77
                clear f_74_ws77
                have f_74_ws81 : ws81[74]? = some ((q54, Sum.inl (cI, 4097, Sum.inl (fun _ => 0))) : Nat × va_E) := by rw [e_ws81]; exact gs_app f_74_ws79
                clear f_74_ws79
                have f_74_ws83 : ws83[74]? = some ((q54, Sum.inl (cI, 4097, Sum.inl (fun _ => 0))) : Nat × va_E) := e_ws83.at (by first | decide | (simp; done) | (simp; omega)) f_74_ws81
                clear f_74_ws81
                have f_74_ws91 : ws91[74]? = some ((q54, Sum.inl (cI, 4097, Sum.inl (fun _ => 0))) : Nat × va_E) := by rw [e_ws91]; exact gs_ne (by decide) f_74_ws83
                clear f_74_ws83
                have f_74_ws93 : ws93[74]? = some ((q54, Sum.inl (cI, 4097, Sum.inl (fun _ => 0))) : Nat × va_E) := by rw [e_ws93]; exact gs_app f_74_ws91
                clear f_74_ws91
                have f_74_ws95 : ws95[74]? = some ((q54, Sum.inl (cI, 4097, Sum.inl (fun _ => 0))) : Nat × va_E) := e_ws95.at (by first | decide | (simp; done) | (simp; omega)) f_74_ws93
                clear f_74_ws93
                have f_74_ws103 : ws103[74]? = some ((q54, Sum.inl (cI, 4097, Sum.inl (fun _ => 0))) : Nat × va_E) := by rw [e_ws103]; exact gs_ne (by decide) f_74_ws95
                clear f_74_ws95
                have f_74_ws105 : ws105[74]? = some ((q54, Sum.inl (cI, 4097, Sum.inl (fun _ => 0))) : Nat × va_E) := by rw [e_ws105]; exact gs_app f_74_ws103
                clear f_74_ws103
                have f_74_ws107 : ws107[74]? = some ((q54, Sum.inl (cI, 4097, Sum.inl (fun _ => 0))) : Nat × va_E) := e_ws107.at (by first | decide | (simp; done) | (simp; omega)) f_74_ws105
                clear f_74_ws105
                have f_74_ws115 : ws115[74]? = some ((q54, Sum.inl (cI, 4097, Sum.inl (fun _ => 0))) : Nat × va_E) := by rw [e_ws115]; exact gs_ne (by decide) f_74_ws107
                clear f_74_ws107
                have f_74_ws117 : ws117[74]? = some ((q54, Sum.inl (cI, 4097, Sum.inl (fun _ => 0))) : Nat × va_E) := by rw [e_ws117]; exact gs_app f_74_ws115
                clear f_74_ws115
                have f_74_ws119 : ws119[74]? = some ((q54, Sum.inl (cI, 4097, Sum.inl (fun _ => 0))) : Nat × va_E) := e_ws119.at (by first | decide | (simp; done) | (simp; omega)) f_74_ws117
                clear f_74_ws117
                have f_74_ws127 : ws127[74]? = some ((q54, Sum.inl (cI, 4097, Sum.inl (fun _ => 0))) : Nat × va_E) := by rw [e_ws127]; exact gs_ne (by decide) f_74_ws119
                clear f_74_ws119
                have f_74_ws128 : ws128[74]? = some ((q54, Sum.inl (cI, 4097, Sum.inl (fun _ => 0))) : Nat × va_E) := by rw [e_ws128]; exact gs_ne (by decide) f_74_ws127
                clear f_74_ws127
                have f_75_ws58 : ws58[75]? = some ((q55, Sum.inl (cI, 4096, Sum.inl (fun _ => 0))) : Nat × va_E) := by rw [e_ws58]; exact gs_ne (by decide) f_75_ws50
                clear f_75_ws50
                have f_75_ws60 : ws60[75]? = some ((q55, Sum.inl (cI, 4096, Sum.inl (fun _ => 0))) : Nat × va_E) := by rw [e_ws60]; exact gs_app f_75_ws58
                clear f_75_ws58
                have f_75_ws61 : ws61[75]? = some ((q55, Sum.inl (cI, 4096, Sum.inl (fun _ => 0))) : Nat × va_E) := by rw [e_ws61]; exact gs_ne (by decide) f_75_ws60
                clear f_75_ws60
                have f_75_ws63 : ws63[75]? = some ((q55, Sum.inl (cI, 4096, Sum.inl (fun _ => 0))) : Nat × va_E) := by rw [e_ws63]; exact gs_app f_75_ws61
                clear f_75_ws61
                have f_75_ws64 : ws64[75]? = some ((q55, Sum.inl (cI, 4096, Sum.inl (fun _ => 0))) : Nat × va_E) := by rw [e_ws64]; exact gs_ne (by decide) f_75_ws63
                clear f_75_ws63
                have f_75_ws65 : ws65[75]? = some ((q55, Sum.inl (cI, 4096, Sum.inl (fun _ => 0))) : Nat × va_E) := by rw [e_ws65]; exact gs_ne (by decide) f_75_ws64
                clear f_75_ws64
                have f_75_ws66 : ws66[75]? = some ((q55, Sum.inl (cI, 4096, Sum.inl (fun _ => 0))) : Nat × va_E) := by rw [e_ws66]; exact gs_ne (by decide) f_75_ws65
                clear f_75_ws65
                have f_75_ws68 : ws68[75]? = some ((q55, Sum.inl (cI, 4096, Sum.inl (fun _ => 0))) : Nat × va_E) := by rw [e_ws68]; exact gs_ne (by decide) f_75_ws66
                clear f_75_ws66
                have f_75_ws70 : ws70[75]? = some ((q55, Sum.inl (cI, 4096, Sum.inl (fun _ => 0))) : Nat × va_E) := by rw [e_ws70]; exact gs_app f_75_ws68
                clear f_75_ws68
                have f_75_ws71 : ws71[75]? = some ((q55, Sum.inl (cI, 4096, Sum.inl (fun _ => 0))) : Nat × va_E) := by rw [e_ws71]; exact gs_ne (by decide) f_75_ws70
                clear f_75_ws70
                have f_75_ws73 : ws73[75]? = some ((q55, Sum.inl (cI, 4096, Sum.inl (fun _ => 0))) : Nat × va_E) := by rw [e_ws73]; exact gs_app f_75_ws71
                clear f_75_ws71
                have f_75_ws74 : ws74[75]? = some ((q55, Sum.inl (cI, 4096, Sum.inl (fun _ => 0))) : Nat × va_E) := by rw [e_ws74]; exact gs_ne (by decide) f_75_ws73
                clear f_75_ws73
                have f_75_ws76 : ws76[75]? = some ((q55, Sum.inl (cI, 4096, Sum.inl (fun _ => 0))) : Nat × va_E) := by rw [e_ws76]; exact gs_app f_75_ws74
                clear f_75_ws74
                have f_75_ws77 : ws77[75]? = some ((q55, Sum.inl (cI, 4096, Sum.inl (fun _ => 0))) : Nat × va_E) := by rw [e_ws77]; exact gs_ne (by decide) f_75_ws76
                clear f_75_ws76
                have f_75_ws79 : ws79[75]? = some ((q55, Sum.inl (cI, 4096, Sum.inl (fun _ => 0))) : Nat × va_E) := by rw [e_ws79]; exact gs_app f_75_ws77
                clear f_75_ws77
                have f_75_ws81 : ws81[75]? = some ((q55, Sum.inl (cI, 4096, Sum.inl (fun _ => 0))) : Nat × va_E) := by rw [e_ws81]; exact gs_app f_75_ws79
                clear f_75_ws79
                have f_75_ws83 : ws83[75]? = some ((q55, Sum.inl (cI, 4096, Sum.inl (fun _ => 0))) : Nat × va_E) := e_ws83.at (by first | decide | (simp; done) | (simp; omega)) f_75_ws81
                clear f_75_ws81
                have f_75_ws91 : ws91[75]? = some ((q55, Sum.inl (cI, 4096, Sum.inl (fun _ => 0))) : Nat × va_E) := by rw [e_ws91]; exact gs_ne (by decide) f_75_ws83
                clear f_75_ws83
                have f_75_ws93 : ws93[75]? = some ((q55, Sum.inl (cI, 4096, Sum.inl (fun _ => 0))) : Nat × va_E) := by rw [e_ws93]; exact gs_app f_75_ws91
                clear f_75_ws91
                have f_75_ws95 : ws95[75]? = some ((q55, Sum.inl (cI, 4096, Sum.inl (fun _ => 0))) : Nat × va_E) := e_ws95.at (by first | decide | (simp; done) | (simp; omega)) f_75_ws93
                clear f_75_ws93
                have f_75_ws103 : ws103[75]? = some ((q55, Sum.inl (cI, 4096, Sum.inl (fun _ => 0))) : Nat × va_E) := by rw [e_ws103]; exact gs_ne (by decide) f_75_ws95
                clear f_75_ws95
                have f_75_ws105 : ws105[75]? = some ((q55, Sum.inl (cI, 4096, Sum.inl (fun _ => 0))) : Nat × va_E) := by rw [e_ws105]; exact gs_app f_75_ws103
                clear f_75_ws103
                have f_75_ws107 : ws107[75]? = some ((q55, Sum.inl (cI, 4096, Sum.inl (fun _ => 0))) : Nat × va_E) := e_ws107.at (by first | decide | (simp; done) | (simp; omega)) f_75_ws105
                clear f_75_ws105
                have f_75_ws115 : ws115[75]? = some ((q55, Sum.inl (cI, 4096, Sum.inl (fun _ => 0))) : Nat × va_E) := by rw [e_ws115]; exact gs_ne (by decide) f_75_ws107
                clear f_75_ws107
                have f_75_ws117 : ws117[75]? = some ((q55, Sum.inl (cI, 4096, Sum.inl (fun _ => 0))) : Nat × va_E) := by rw [e_ws117]; exact gs_app f_75_ws115
                clear f_75_ws115
                have f_75_ws119 : ws119[75]? = some ((q55, Sum.inl (cI, 4096, Sum.inl (fun _ => 0))) : Nat × va_E) := e_ws119.at (by first | decide | (simp; done) | (simp; omega)) f_75_ws117
                clear f_75_ws117
                have f_75_ws127 : ws127[75]? = some ((q55, Sum.inl (cI, 4096, Sum.inl (fun _ => 0))) : Nat × va_E) := by rw [e_ws127]; exact gs_ne (by decide) f_75_ws119
                clear f_75_ws119
                have f_75_ws128 : ws128[75]? = some ((q55, Sum.inl (cI, 4096, Sum.inl (fun _ => 0))) : Nat × va_E) := by rw [e_ws128]; exact gs_ne (by decide) f_75_ws127
                clear f_75_ws127
                have f_76_ws58 : ws58[76]? = some ((q56, Sum.inl (cZ, 4096, Sum.inl (fun _ => 0))) : Nat × va_E) := by rw [e_ws58]; exact gs_ne (by decide) f_76_ws50
                clear f_76_ws50
                have f_76_ws60 : ws60[76]? = some ((q56, Sum.inl (cZ, 4096, Sum.inl (fun _ => 0))) : Nat × va_E) := by rw [e_ws60]; exact gs_app f_76_ws58
                clear f_76_ws58
                have f_76_ws61 : ws61[76]? = some ((q56, Sum.inl (cZ, 4096, Sum.inl (fun _ => 0))) : Nat × va_E) := by rw [e_ws61]; exact gs_ne (by decide) f_76_ws60
                clear f_76_ws60
                have f_76_ws63 : ws63[76]? = some ((q56, Sum.inl (cZ, 4096, Sum.inl (fun _ => 0))) : Nat × va_E) := by rw [e_ws63]; exact gs_app f_76_ws61
                clear f_76_ws61
                have f_76_ws64 : ws64[76]? = some ((q56, Sum.inl (cZ, 4096, Sum.inl (fun _ => 0))) : Nat × va_E) := by rw [e_ws64]; exact gs_ne (by decide) f_76_ws63
                clear f_76_ws63
                have f_76_ws65 : ws65[76]? = some ((q56, Sum.inl (cZ, 4096, Sum.inl (fun _ => 0))) : Nat × va_E) := by rw [e_ws65]; exact gs_ne (by decide) f_76_ws64
                clear f_76_ws64
                have f_76_ws66 : ws66[76]? = some ((q56, Sum.inl (cZ, 4096, Sum.inl (fun _ => 0))) : Nat × va_E) := by rw [e_ws66]; exact gs_ne (by decide) f_76_ws65
                clear f_76_ws65
                have f_76_ws68 : ws68[76]? = some ((q56, Sum.inl (cZ, 4096, Sum.inl (fun _ => 0))) : Nat × va_E) := by rw [e_ws68]; exact gs_ne (by decide) f_76_ws66
                clear f_76_ws66
                have f_76_ws70 : ws70[76]? = some ((q56, Sum.inl (cZ, 4096, Sum.inl (fun _ => 0))) : Nat × va_E) := by rw [e_ws70]; exact gs_app f_76_ws68
                clear f_76_ws68
                have f_76_ws71 : ws71[76]? = some ((q56, Sum.inl (cZ, 4096, Sum.inl (fun _ => 0))) : Nat × va_E) := by rw [e_ws71]; exact gs_ne (by decide) f_76_ws70
                clear f_76_ws70
                have f_76_ws73 : ws73[76]? = some ((q56, Sum.inl (cZ, 4096, Sum.inl (fun _ => 0))) : Nat × va_E) := by rw [e_ws73]; exact gs_app f_76_ws71
                clear f_76_ws71
                have f_76_ws74 : ws74[76]? = some ((q56, Sum.inl (cZ, 4096, Sum.inl (fun _ => 0))) : Nat × va_E) := by rw [e_ws74]; exact gs_ne (by decide) f_76_ws73
                clear f_76_ws73
                have f_76_ws76 : ws76[76]? = some ((q56, Sum.inl (cZ, 4096, Sum.inl (fun _ => 0))) : Nat × va_E) := by rw [e_ws76]; exact gs_app f_76_ws74
                clear f_76_ws74
                have f_76_ws77 : ws77[76]? = some ((q56, Sum.inl (cZ, 4096, Sum.inl (fun _ => 0))) : Nat × va_E) := by rw [e_ws77]; exact gs_ne (by decide) f_76_ws76
                clear f_76_ws76
                have f_76_ws79 : ws79[76]? = some ((q56, Sum.inl (cZ, 4096, Sum.inl (fun _ => 0))) : Nat × va_E) := by rw [e_ws79]; exact gs_app f_76_ws77
                clear f_76_ws77
                have f_76_ws81 : ws81[76]? = some ((q56, Sum.inl (cZ, 4096, Sum.inl (fun _ => 0))) : Nat × va_E) := by rw [e_ws81]; exact gs_app f_76_ws79
                clear f_76_ws79
                have f_76_ws83 : ws83[76]? = some ((q56, Sum.inl (cZ, 4096, Sum.inl (fun _ => 0))) : Nat × va_E) := e_ws83.at (by first | decide | (simp; done) | (simp; omega)) f_76_ws81
                clear f_76_ws81
                have f_76_ws91 : ws91[76]? = some ((q56, Sum.inl (cZ, 4096, Sum.inl (fun _ => 0))) : Nat × va_E) := by rw [e_ws91]; exact gs_ne (by decide) f_76_ws83
                clear f_76_ws83
                have f_76_ws93 : ws93[76]? = some ((q56, Sum.inl (cZ, 4096, Sum.inl (fun _ => 0))) : Nat × va_E) := by rw [e_ws93]; exact gs_app f_76_ws91
                clear f_76_ws91
                have f_76_ws95 : ws95[76]? = some ((q56, Sum.inl (cZ, 4096, Sum.inl (fun _ => 0))) : Nat × va_E) := e_ws95.at (by first | decide | (simp; done) | (simp; omega)) f_76_ws93
                clear f_76_ws93
                have f_76_ws103 : ws103[76]? = some ((q56, Sum.inl (cZ, 4096, Sum.inl (fun _ => 0))) : Nat × va_E) := by rw [e_ws103]; exact gs_ne (by decide) f_76_ws95
                clear f_76_ws95
                have f_76_ws105 : ws105[76]? = some ((q56, Sum.inl (cZ, 4096, Sum.inl (fun _ => 0))) : Nat × va_E) := by rw [e_ws105]; exact gs_app f_76_ws103
                clear f_76_ws103
                have f_76_ws107 : ws107[76]? = some ((q56, Sum.inl (cZ, 4096, Sum.inl (fun _ => 0))) : Nat × va_E) := e_ws107.at (by first | decide | (simp; done) | (simp; omega)) f_76_ws105
                clear f_76_ws105
                have f_76_ws115 : ws115[76]? = some ((q56, Sum.inl (cZ, 4096, Sum.inl (fun _ => 0))) : Nat × va_E) := by rw [e_ws115]; exact gs_ne (by decide) f_76_ws107
                clear f_76_ws107
                have f_76_ws117 : ws117[76]? = some ((q56, Sum.inl (cZ, 4096, Sum.inl (fun _ => 0))) : Nat × va_E) := by rw [e_ws117]; exact gs_app f_76_ws115
                clear f_76_ws115
                have f_76_ws119 : ws119[76]? = some ((q56, Sum.inl (cZ, 4096, Sum.inl (fun _ => 0))) : Nat × va_E) := e_ws119.at (by first | decide | (simp; done) | (simp; omega)) f_76_ws117
                clear f_76_ws117
                have f_76_ws127 : ws127[76]? = some ((q56, Sum.inl (cZ, 4096, Sum.inl (fun _ => 0))) : Nat × va_E) := by rw [e_ws127]; exact gs_ne (by decide) f_76_ws119
                clear f_76_ws119
                have f_76_ws128 : ws128[76]? = some ((q56, Sum.inl (cZ, 4096, Sum.inl (fun _ => 0))) : Nat × va_E) := by rw [e_ws128]; exact gs_ne (by decide) f_76_ws127
                clear f_76_ws127
                have f_77_ws58 : ws58[77]? = some ((q57, Sum.inl (cZ, 4096, Sum.inl (fun _ => 0))) : Nat × va_E) := by rw [e_ws58]; exact gs_ne (by decide) f_77_ws50
                clear f_77_ws50
                have f_77_ws60 : ws60[77]? = some ((q57, Sum.inl (cZ, 4096, Sum.inl (fun _ => 0))) : Nat × va_E) := by rw [e_ws60]; exact gs_app f_77_ws58
                clear f_77_ws58
                have f_77_ws61 : ws61[77]? = some ((q57, Sum.inl (cZ, 4096, Sum.inl (fun _ => 0))) : Nat × va_E) := by rw [e_ws61]; exact gs_ne (by decide) f_77_ws60
                clear f_77_ws60
                have f_77_ws63 : ws63[77]? = some ((q57, Sum.inl (cZ, 4096, Sum.inl (fun _ => 0))) : Nat × va_E) := by rw [e_ws63]; exact gs_app f_77_ws61
                clear f_77_ws61
                have f_77_ws64 : ws64[77]? = some ((q57, Sum.inl (cZ, 4096, Sum.inl (fun _ => 0))) : Nat × va_E) := by rw [e_ws64]; exact gs_ne (by decide) f_77_ws63
                clear f_77_ws63
                have f_77_ws65 : ws65[77]? = some ((q57, Sum.inl (cZ, 4096, Sum.inl (fun _ => 0))) : Nat × va_E) := by rw [e_ws65]; exact gs_ne (by decide) f_77_ws64
                clear f_77_ws64
                have f_77_ws66 : ws66[77]? = some ((q57, Sum.inl (cZ, 4096, Sum.inl (fun _ => 0))) : Nat × va_E) := by rw [e_ws66]; exact gs_ne (by decide) f_77_ws65
                clear f_77_ws65
                have f_77_ws68 : ws68[77]? = some ((q57, Sum.inl (cZ, 4096, Sum.inl (fun _ => 0))) : Nat × va_E) := by rw [e_ws68]; exact gs_ne (by decide) f_77_ws66
                clear f_77_ws66
                have f_77_ws70 : ws70[77]? = some ((q57, Sum.inl (cZ, 4096, Sum.inl (fun _ => 0))) : Nat × va_E) := by rw [e_ws70]; exact gs_app f_77_ws68
                clear f_77_ws68
                have f_77_ws71 : ws71[77]? = some ((q57, Sum.inl (cZ, 4096, Sum.inl (fun _ => 0))) : Nat × va_E) := by rw [e_ws71]; exact gs_ne (by decide) f_77_ws70
                clear f_77_ws70
                have f_77_ws73 : ws73[77]? = some ((q57, Sum.inl (cZ, 4096, Sum.inl (fun _ => 0))) : Nat × va_E) := by rw [e_ws73]; exact gs_app f_77_ws71
                clear f_77_ws71
                have f_77_ws74 : ws74[77]? = some ((q57, Sum.inl (cZ, 4096, Sum.inl (fun _ => 0))) : Nat × va_E) := by rw [e_ws74]; exact gs_ne (by decide) f_77_ws73
                clear f_77_ws73
                have f_77_ws76 : ws76[77]? = some ((q57, Sum.inl (cZ, 4096, Sum.inl (fun _ => 0))) : Nat × va_E) := by rw [e_ws76]; exact gs_app f_77_ws74
                clear f_77_ws74
                have f_77_ws77 : ws77[77]? = some ((q57, Sum.inl (cZ, 4096, Sum.inl (fun _ => 0))) : Nat × va_E) := by rw [e_ws77]; exact gs_ne (by decide) f_77_ws76
                clear f_77_ws76
                have f_77_ws79 : ws79[77]? = some ((q57, Sum.inl (cZ, 4096, Sum.inl (fun _ => 0))) : Nat × va_E) := by rw [e_ws79]; exact gs_app f_77_ws77
                clear f_77_ws77
                have f_77_ws81 : ws81[77]? = some ((q57, Sum.inl (cZ, 4096, Sum.inl (fun _ => 0))) : Nat × va_E) := by rw [e_ws81]; exact gs_app f_77_ws79
                clear f_77_ws79
                have f_77_ws83 : ws83[77]? = some ((q57, Sum.inl (cZ, 4096, Sum.inl (fun _ => 0))) : Nat × va_E) := e_ws83.at (by first | decide | (simp; done) | (simp; omega)) f_77_ws81
                clear f_77_ws81
                have f_77_ws91 : ws91[77]? = some ((q57, Sum.inl (cZ, 4096, Sum.inl (fun _ => 0))) : Nat × va_E) := by rw [e_ws91]; exact gs_ne (by decide) f_77_ws83
                clear f_77_ws83
                have f_77_ws93 : ws93[77]? = some ((q57, Sum.inl (cZ, 4096, Sum.inl (fun _ => 0))) : Nat × va_E) := by rw [e_ws93]; exact gs_app f_77_ws91
                clear f_77_ws91
                have f_77_ws95 : ws95[77]? = some ((q57, Sum.inl (cZ, 4096, Sum.inl (fun _ => 0))) : Nat × va_E) := e_ws95.at (by first | decide | (simp; done) | (simp; omega)) f_77_ws93
                clear f_77_ws93
                have f_77_ws103 : ws103[77]? = some ((q57, Sum.inl (cZ, 4096, Sum.inl (fun _ => 0))) : Nat × va_E) := by rw [e_ws103]; exact gs_ne (by decide) f_77_ws95
                clear f_77_ws95
                have f_77_ws105 : ws105[77]? = some ((q57, Sum.inl (cZ, 4096, Sum.inl (fun _ => 0))) : Nat × va_E) := by rw [e_ws105]; exact gs_app f_77_ws103
                clear f_77_ws103
                have f_77_ws107 : ws107[77]? = some ((q57, Sum.inl (cZ, 4096, Sum.inl (fun _ => 0))) : Nat × va_E) := e_ws107.at (by first | decide | (simp; done) | (simp; omega)) f_77_ws105
                clear f_77_ws105
                have f_77_ws115 : ws115[77]? = some ((q57, Sum.inl (cZ, 4096, Sum.inl (fun _ => 0))) : Nat × va_E) := by rw [e_ws115]; exact gs_ne (by decide) f_77_ws107
                clear f_77_ws107
                have f_77_ws117 : ws117[77]? = some ((q57, Sum.inl (cZ, 4096, Sum.inl (fun _ => 0))) : Nat × va_E) := by rw [e_ws117]; exact gs_app f_77_ws115
                clear f_77_ws115
                have f_77_ws119 : ws119[77]? = some ((q57, Sum.inl (cZ, 4096, Sum.inl (fun _ => 0))) : Nat × va_E) := e_ws119.at (by first | decide | (simp; done) | (simp; omega)) f_77_ws117
                clear f_77_ws117
                have f_77_ws127 : ws127[77]? = some ((q57, Sum.inl (cZ, 4096, Sum.inl (fun _ => 0))) : Nat × va_E) := by rw [e_ws127]; exact gs_ne (by decide) f_77_ws119
                clear f_77_ws119
                have f_77_ws128 : ws128[77]? = some ((q57, Sum.inl (cZ, 4096, Sum.inl (fun _ => 0))) : Nat × va_E) := by rw [e_ws128]; exact gs_ne (by decide) f_77_ws127
                clear f_77_ws127
                have f_78_ws61 : ws61[78]? = some ((q59, Sum.inl (cI, 4096, Sum.inl (fun _ => 0))) : Nat × va_E) := by rw [e_ws61]; exact gs_ne (by decide) f_78_ws60
                clear f_78_ws60
                have f_78_ws63 : ws63[78]? = some ((q59, Sum.inl (cI, 4096, Sum.inl (fun _ => 0))) : Nat × va_E) := by rw [e_ws63]; exact gs_app f_78_ws61
                clear f_78_ws61
                have f_78_ws64 : ws64[78]? = some ((q59, Sum.inl (cI, 4096, Sum.inl (fun _ => 0))) : Nat × va_E) := by rw [e_ws64]; exact gs_ne (by decide) f_78_ws63
                clear f_78_ws63
                have f_78_ws65 : ws65[78]? = some ((q59, Sum.inl (cI, 4096, Sum.inl (fun _ => 0))) : Nat × va_E) := by rw [e_ws65]; exact gs_ne (by decide) f_78_ws64
                clear f_78_ws64
                have f_78_ws66 : ws66[78]? = some ((q59, Sum.inl (cI, 4096, Sum.inl (fun _ => 0))) : Nat × va_E) := by rw [e_ws66]; exact gs_ne (by decide) f_78_ws65
                clear f_78_ws65
                have f_78_ws68 : ws68[78]? = some ((q59, Sum.inl (cI, 4096, Sum.inl (fun _ => 0))) : Nat × va_E) := by rw [e_ws68]; exact gs_ne (by decide) f_78_ws66
                clear f_78_ws66
                have f_78_ws70 : ws70[78]? = some ((q59, Sum.inl (cI, 4096, Sum.inl (fun _ => 0))) : Nat × va_E) := by rw [e_ws70]; exact gs_app f_78_ws68
                clear f_78_ws68
                have f_78_ws71 : ws71[78]? = some ((q59, Sum.inl (cI, 4096, Sum.inl (fun _ => 0))) : Nat × va_E) := by rw [e_ws71]; exact gs_ne (by decide) f_78_ws70
                clear f_78_ws70
                have f_78_ws73 : ws73[78]? = some ((q59, Sum.inl (cI, 4096, Sum.inl (fun _ => 0))) : Nat × va_E) := by rw [e_ws73]; exact gs_app f_78_ws71
                clear f_78_ws71
                have f_78_ws74 : ws74[78]? = some ((q59, Sum.inl (cI, 4096, Sum.inl (fun _ => 0))) : Nat × va_E) := by rw [e_ws74]; exact gs_ne (by decide) f_78_ws73
                clear f_78_ws73
                have f_78_ws76 : ws76[78]? = some ((q59, Sum.inl (cI, 4096, Sum.inl (fun _ => 0))) : Nat × va_E) := by rw [e_ws76]; exact gs_app f_78_ws74
                clear f_78_ws74
                have f_78_ws77 : ws77[78]? = some ((q59, Sum.inl (cI, 4096, Sum.inl (fun _ => 0))) : Nat × va_E) := by rw [e_ws77]; exact gs_ne (by decide) f_78_ws76
                clear f_78_ws76
                have f_78_ws79 : ws79[78]? = some ((q59, Sum.inl (cI, 4096, Sum.inl (fun _ => 0))) : Nat × va_E) := by rw [e_ws79]; exact gs_app f_78_ws77
                clear f_78_ws77
                have f_78_ws81 : ws81[78]? = some ((q59, Sum.inl (cI, 4096, Sum.inl (fun _ => 0))) : Nat × va_E) := by rw [e_ws81]; exact gs_app f_78_ws79
                clear f_78_ws79
                have f_78_ws83 : ws83[78]? = some ((q59, Sum.inl (cI, 4096, Sum.inl (fun _ => 0))) : Nat × va_E) := e_ws83.at (by first | decide | (simp; done) | (simp; omega)) f_78_ws81
                clear f_78_ws81
                have f_78_ws91 : ws91[78]? = some ((q59, Sum.inl (cI, 4096, Sum.inl (fun _ => 0))) : Nat × va_E) := by rw [e_ws91]; exact gs_ne (by decide) f_78_ws83
                clear f_78_ws83
                have f_78_ws93 : ws93[78]? = some ((q59, Sum.inl (cI, 4096, Sum.inl (fun _ => 0))) : Nat × va_E) := by rw [e_ws93]; exact gs_app f_78_ws91
                clear f_78_ws91
                have f_78_ws95 : ws95[78]? = some ((q59, Sum.inl (cI, 4096, Sum.inl (fun _ => 0))) : Nat × va_E) := e_ws95.at (by first | decide | (simp; done) | (simp; omega)) f_78_ws93
                clear f_78_ws93
                have f_78_ws103 : ws103[78]? = some ((q59, Sum.inl (cI, 4096, Sum.inl (fun _ => 0))) : Nat × va_E) := by rw [e_ws103]; exact gs_ne (by decide) f_78_ws95
                clear f_78_ws95
                have f_78_ws105 : ws105[78]? = some ((q59, Sum.inl (cI, 4096, Sum.inl (fun _ => 0))) : Nat × va_E) := by rw [e_ws105]; exact gs_app f_78_ws103
                clear f_78_ws103
                have f_78_ws107 : ws107[78]? = some ((q59, Sum.inl (cI, 4096, Sum.inl (fun _ => 0))) : Nat × va_E) := e_ws107.at (by first | decide | (simp; done) | (simp; omega)) f_78_ws105
                clear f_78_ws105
                have f_78_ws115 : ws115[78]? = some ((q59, Sum.inl (cI, 4096, Sum.inl (fun _ => 0))) : Nat × va_E) := by rw [e_ws115]; exact gs_ne (by decide) f_78_ws107
                clear f_78_ws107
                have f_78_ws117 : ws117[78]? = some ((q59, Sum.inl (cI, 4096, Sum.inl (fun _ => 0))) : Nat × va_E) := by rw [e_ws117]; exact gs_app f_78_ws115
                clear f_78_ws115
                have f_78_ws119 : ws119[78]? = some ((q59, Sum.inl (cI, 4096, Sum.inl (fun _ => 0))) : Nat × va_E) := e_ws119.at (by first | decide | (simp; done) | (simp; omega)) f_78_ws117
                clear f_78_ws117
                have f_78_ws127 : ws127[78]? = some ((q59, Sum.inl (cI, 4096, Sum.inl (fun _ => 0))) : Nat × va_E) := by rw [e_ws127]; exact gs_ne (by decide) f_78_ws119
                clear f_78_ws119
                have f_78_ws128 : ws128[78]? = some ((q59, Sum.inl (cI, 4096, Sum.inl (fun _ => 0))) : Nat × va_E) := by rw [e_ws128]; exact gs_ne (by decide) f_78_ws127
                clear f_78_ws127
                have f_79_ws64 : ws64[79]? = some ((q62, Sum.inl (cZ, 4096, Sum.inl (fun _ => 0))) : Nat × va_E) := by rw [e_ws64]; exact gs_ne (by decide) f_79_ws63
                clear f_79_ws63
                have f_79_ws65 : ws65[79]? = some ((q62, Sum.inl (cZ, 4096, Sum.inl (fun _ => 0))) : Nat × va_E) := by rw [e_ws65]; exact gs_ne (by decide) f_79_ws64
                clear f_79_ws64
                have f_79_ws66 : ws66[79]? = some ((q62, Sum.inl (cZ, 4096, Sum.inl (fun _ => 0))) : Nat × va_E) := by rw [e_ws66]; exact gs_ne (by decide) f_79_ws65
                clear f_79_ws65
                have f_79_ws68 : ws68[79]? = some ((q62, Sum.inl (cZ, 4096, Sum.inl (fun _ => 0))) : Nat × va_E) := by rw [e_ws68]; exact gs_ne (by decide) f_79_ws66
                clear f_79_ws66
                have f_79_ws70 : ws70[79]? = some ((q62, Sum.inl (cZ, 4096, Sum.inl (fun _ => 0))) : Nat × va_E) := by rw [e_ws70]; exact gs_app f_79_ws68
                clear f_79_ws68
                have f_79_ws71 : ws71[79]? = some ((q62, Sum.inl (cZ, 4096, Sum.inl (fun _ => 0))) : Nat × va_E) := by rw [e_ws71]; exact gs_ne (by decide) f_79_ws70
                clear f_79_ws70
                have f_79_ws73 : ws73[79]? = some ((q62, Sum.inl (cZ, 4096, Sum.inl (fun _ => 0))) : Nat × va_E) := by rw [e_ws73]; exact gs_app f_79_ws71
                clear f_79_ws71
                have f_79_ws74 : ws74[79]? = some ((q62, Sum.inl (cZ, 4096, Sum.inl (fun _ => 0))) : Nat × va_E) := by rw [e_ws74]; exact gs_ne (by decide) f_79_ws73
                clear f_79_ws73
                have f_79_ws76 : ws76[79]? = some ((q62, Sum.inl (cZ, 4096, Sum.inl (fun _ => 0))) : Nat × va_E) := by rw [e_ws76]; exact gs_app f_79_ws74
                clear f_79_ws74
                have f_79_ws77 : ws77[79]? = some ((q62, Sum.inl (cZ, 4096, Sum.inl (fun _ => 0))) : Nat × va_E) := by rw [e_ws77]; exact gs_ne (by decide) f_79_ws76
                clear f_79_ws76
                have f_79_ws79 : ws79[79]? = some ((q62, Sum.inl (cZ, 4096, Sum.inl (fun _ => 0))) : Nat × va_E) := by rw [e_ws79]; exact gs_app f_79_ws77
                clear f_79_ws77
                have f_79_ws81 : ws81[79]? = some ((q62, Sum.inl (cZ, 4096, Sum.inl (fun _ => 0))) : Nat × va_E) := by rw [e_ws81]; exact gs_app f_79_ws79
                clear f_79_ws79
                have f_79_ws83 : ws83[79]? = some ((q62, Sum.inl (cZ, 4096, Sum.inl (fun _ => 0))) : Nat × va_E) := e_ws83.at (by first | decide | (simp; done) | (simp; omega)) f_79_ws81
                clear f_79_ws81
                have f_79_ws91 : ws91[79]? = some ((q62, Sum.inl (cZ, 4096, Sum.inl (fun _ => 0))) : Nat × va_E) := by rw [e_ws91]; exact gs_ne (by decide) f_79_ws83
                clear f_79_ws83
                have f_79_ws93 : ws93[79]? = some ((q62, Sum.inl (cZ, 4096, Sum.inl (fun _ => 0))) : Nat × va_E) := by rw [e_ws93]; exact gs_app f_79_ws91
                clear f_79_ws91
                have f_79_ws95 : ws95[79]? = some ((q62, Sum.inl (cZ, 4096, Sum.inl (fun _ => 0))) : Nat × va_E) := e_ws95.at (by first | decide | (simp; done) | (simp; omega)) f_79_ws93
                clear f_79_ws93
                have f_79_ws103 : ws103[79]? = some ((q62, Sum.inl (cZ, 4096, Sum.inl (fun _ => 0))) : Nat × va_E) := by rw [e_ws103]; exact gs_ne (by decide) f_79_ws95
                clear f_79_ws95
                have f_79_ws105 : ws105[79]? = some ((q62, Sum.inl (cZ, 4096, Sum.inl (fun _ => 0))) : Nat × va_E) := by rw [e_ws105]; exact gs_app f_79_ws103
                clear f_79_ws103
                have f_79_ws107 : ws107[79]? = some ((q62, Sum.inl (cZ, 4096, Sum.inl (fun _ => 0))) : Nat × va_E) := e_ws107.at (by first | decide | (simp; done) | (simp; omega)) f_79_ws105
                clear f_79_ws105
                have f_79_ws115 : ws115[79]? = some ((q62, Sum.inl (cZ, 4096, Sum.inl (fun _ => 0))) : Nat × va_E) := by rw [e_ws115]; exact gs_ne (by decide) f_79_ws107
                clear f_79_ws107
                have f_79_ws117 : ws117[79]? = some ((q62, Sum.inl (cZ, 4096, Sum.inl (fun _ => 0))) : Nat × va_E) := by rw [e_ws117]; exact gs_app f_79_ws115
                clear f_79_ws115
                have f_79_ws119 : ws119[79]? = some ((q62, Sum.inl (cZ, 4096, Sum.inl (fun _ => 0))) : Nat × va_E) := e_ws119.at (by first | decide | (simp; done) | (simp; omega)) f_79_ws117
                clear f_79_ws117
                have f_79_ws127 : ws127[79]? = some ((q62, Sum.inl (cZ, 4096, Sum.inl (fun _ => 0))) : Nat × va_E) := by rw [e_ws127]; exact gs_ne (by decide) f_79_ws119
                clear f_79_ws119
                have f_79_ws128 : ws128[79]? = some ((q62, Sum.inl (cZ, 4096, Sum.inl (fun _ => 0))) : Nat × va_E) := by rw [e_ws128]; exact gs_ne (by decide) f_79_ws127
                clear f_79_ws127
                have f_80_ws71 : ws71[80]? = some ((q69, Sum.inl (cI, 4, Sum.inl (fun _ => 0))) : Nat × va_E) := by rw [e_ws71]; exact gs_ne (by decide) f_80_ws70
                clear f_80_ws70
                have f_80_ws73 : ws73[80]? = some ((q69, Sum.inl (cI, 4, Sum.inl (fun _ => 0))) : Nat × va_E) := by rw [e_ws73]; exact gs_app f_80_ws71
                clear f_80_ws71
                have f_80_ws74 : ws74[80]? = some ((q69, Sum.inl (cI, 4, Sum.inl (fun _ => 0))) : Nat × va_E) := by rw [e_ws74]; exact gs_ne (by decide) f_80_ws73
                clear f_80_ws73
                have f_80_ws76 : ws76[80]? = some ((q69, Sum.inl (cI, 4, Sum.inl (fun _ => 0))) : Nat × va_E) := by rw [e_ws76]; exact gs_app f_80_ws74
                clear f_80_ws74
                have f_80_ws77 : ws77[80]? = some ((q69, Sum.inl (cI, 4, Sum.inl (fun _ => 0))) : Nat × va_E) := by rw [e_ws77]; exact gs_ne (by decide) f_80_ws76
                clear f_80_ws76
                have f_80_ws79 : ws79[80]? = some ((q69, Sum.inl (cI, 4, Sum.inl (fun _ => 0))) : Nat × va_E) := by rw [e_ws79]; exact gs_app f_80_ws77
                clear f_80_ws77
                have f_80_ws81 : ws81[80]? = some ((q69, Sum.inl (cI, 4, Sum.inl (fun _ => 0))) : Nat × va_E) := by rw [e_ws81]; exact gs_app f_80_ws79
                clear f_80_ws79
                have f_80_ws83 : ws83[80]? = some ((q69, Sum.inl (cI, 4, Sum.inl (fun _ => 0))) : Nat × va_E) := e_ws83.at (by first | decide | (simp; done) | (simp; omega)) f_80_ws81
                clear f_80_ws81
                have f_80_ws91 : ws91[80]? = some ((q69, Sum.inl (cI, 4, Sum.inl (fun _ => 0))) : Nat × va_E) := by rw [e_ws91]; exact gs_ne (by decide) f_80_ws83
                clear f_80_ws83
                have f_80_ws93 : ws93[80]? = some ((q69, Sum.inl (cI, 4, Sum.inl (fun _ => 0))) : Nat × va_E) := by rw [e_ws93]; exact gs_app f_80_ws91
                clear f_80_ws91
                have f_80_ws95 : ws95[80]? = some ((q69, Sum.inl (cI, 4, Sum.inl (fun _ => 0))) : Nat × va_E) := e_ws95.at (by first | decide | (simp; done) | (simp; omega)) f_80_ws93
                clear f_80_ws93
                have f_80_ws103 : ws103[80]? = some ((q69, Sum.inl (cI, 4, Sum.inl (fun _ => 0))) : Nat × va_E) := by rw [e_ws103]; exact gs_ne (by decide) f_80_ws95
                clear f_80_ws95
                have f_80_ws105 : ws105[80]? = some ((q69, Sum.inl (cI, 4, Sum.inl (fun _ => 0))) : Nat × va_E) := by rw [e_ws105]; exact gs_app f_80_ws103
                clear f_80_ws103
                have f_80_ws107 : ws107[80]? = some ((q69, Sum.inl (cI, 4, Sum.inl (fun _ => 0))) : Nat × va_E) := e_ws107.at (by first | decide | (simp; done) | (simp; omega)) f_80_ws105
                clear f_80_ws105
                have f_80_ws115 : ws115[80]? = some ((q69, Sum.inl (cI, 4, Sum.inl (fun _ => 0))) : Nat × va_E) := by rw [e_ws115]; exact gs_ne (by decide) f_80_ws107
                clear f_80_ws107
                have f_80_ws117 : ws117[80]? = some ((q69, Sum.inl (cI, 4, Sum.inl (fun _ => 0))) : Nat × va_E) := by rw [e_ws117]; exact gs_app f_80_ws115
                clear f_80_ws115
                have f_80_ws119 : ws119[80]? = some ((q69, Sum.inl (cI, 4, Sum.inl (fun _ => 0))) : Nat × va_E) := e_ws119.at (by first | decide | (simp; done) | (simp; omega)) f_80_ws117
                clear f_80_ws117
                have f_80_ws127 : ws127[80]? = some ((q69, Sum.inl (cI, 4, Sum.inl (fun _ => 0))) : Nat × va_E) := by rw [e_ws127]; exact gs_ne (by decide) f_80_ws119
                clear f_80_ws119
                have f_80_ws128 : ws128[80]? = some ((q69, Sum.inl (cI, 4, Sum.inl (fun _ => 0))) : Nat × va_E) := by rw [e_ws128]; exact gs_ne (by decide) f_80_ws127
                clear f_80_ws127
                have f_81_ws74 : ws74[81]? = some ((q72, Sum.inl (cI, 4, Sum.inl (fun _ => 0))) : Nat × va_E) := by rw [e_ws74]; exact gs_ne (by decide) f_81_ws73
                clear f_81_ws73
                have f_81_ws76 : ws76[81]? = some ((q72, Sum.inl (cI, 4, Sum.inl (fun _ => 0))) : Nat × va_E) := by rw [e_ws76]; exact gs_app f_81_ws74
                clear f_81_ws74
                have f_81_ws77 : ws77[81]? = some ((q72, Sum.inl (cI, 4, Sum.inl (fun _ => 0))) : Nat × va_E) := by rw [e_ws77]; exact gs_ne (by decide) f_81_ws76
                clear f_81_ws76
                have f_81_ws79 : ws79[81]? = some ((q72, Sum.inl (cI, 4, Sum.inl (fun _ => 0))) : Nat × va_E) := by rw [e_ws79]; exact gs_app f_81_ws77
                clear f_81_ws77
                have f_81_ws81 : ws81[81]? = some ((q72, Sum.inl (cI, 4, Sum.inl (fun _ => 0))) : Nat × va_E) := by rw [e_ws81]; exact gs_app f_81_ws79
                clear f_81_ws79
                have f_81_ws83 : ws83[81]? = some ((q72, Sum.inl (cI, 4, Sum.inl (fun _ => 0))) : Nat × va_E) := e_ws83.at (by first | decide | (simp; done) | (simp; omega)) f_81_ws81
                clear f_81_ws81
                have f_81_ws91 : ws91[81]? = some ((q72, Sum.inl (cI, 4, Sum.inl (fun _ => 0))) : Nat × va_E) := by rw [e_ws91]; exact gs_ne (by decide) f_81_ws83
                clear f_81_ws83
                have f_81_ws93 : ws93[81]? = some ((q72, Sum.inl (cI, 4, Sum.inl (fun _ => 0))) : Nat × va_E) := by rw [e_ws93]; exact gs_app f_81_ws91
                clear f_81_ws91
                have f_81_ws95 : ws95[81]? = some ((q72, Sum.inl (cI, 4, Sum.inl (fun _ => 0))) : Nat × va_E) := e_ws95.at (by first | decide | (simp; done) | (simp; omega)) f_81_ws93
                clear f_81_ws93
                have f_81_ws103 : ws103[81]? = some ((q72, Sum.inl (cI, 4, Sum.inl (fun _ => 0))) : Nat × va_E) := by rw [e_ws103]; exact gs_ne (by decide) f_81_ws95
                clear f_81_ws95
                have f_81_ws105 : ws105[81]? = some ((q72, Sum.inl (cI, 4, Sum.inl (fun _ => 0))) : Nat × va_E) := by rw [e_ws105]; exact gs_app f_81_ws103
                clear f_81_ws103
                have f_81_ws107 : ws107[81]? = some ((q72, Sum.inl (cI, 4, Sum.inl (fun _ => 0))) : Nat × va_E) := e_ws107.at (by first | decide | (simp; done) | (simp; omega)) f_81_ws105
                clear f_81_ws105
                have f_81_ws115 : ws115[81]? = some ((q72, Sum.inl (cI, 4, Sum.inl (fun _ => 0))) : Nat × va_E) := by rw [e_ws115]; exact gs_ne (by decide) f_81_ws107
                clear f_81_ws107
                have f_81_ws117 : ws117[81]? = some ((q72, Sum.inl (cI, 4, Sum.inl (fun _ => 0))) : Nat × va_E) := by rw [e_ws117]; exact gs_app f_81_ws115
                clear f_81_ws115
                have f_81_ws119 : ws119[81]? = some ((q72, Sum.inl (cI, 4, Sum.inl (fun _ => 0))) : Nat × va_E) := e_ws119.at (by first | decide | (simp; done) | (simp; omega)) f_81_ws117
                clear f_81_ws117
                have f_81_ws127 : ws127[81]? = some ((q72, Sum.inl (cI, 4, Sum.inl (fun _ => 0))) : Nat × va_E) := by rw [e_ws127]; exact gs_ne (by decide) f_81_ws119
                clear f_81_ws119
                have f_81_ws128 : ws128[81]? = some ((q72, Sum.inl (cI, 4, Sum.inl (fun _ => 0))) : Nat × va_E) := by rw [e_ws128]; exact gs_ne (by decide) f_81_ws127
                clear f_81_ws127
                have f_82_ws77 : ws77[82]? = some ((q75, Sum.inl (cI, 4, Sum.inl (fun _ => 0))) : Nat × va_E) := by rw [e_ws77]; exact gs_ne (by decide) f_82_ws76
                clear f_82_ws76
                have f_82_ws79 : ws79[82]? = some ((q75, Sum.inl (cI, 4, Sum.inl (fun _ => 0))) : Nat × va_E) := by rw [e_ws79]; exact gs_app f_82_ws77
                clear f_82_ws77
                have f_82_ws81 : ws81[82]? = some ((q75, Sum.inl (cI, 4, Sum.inl (fun _ => 0))) : Nat × va_E) := by rw [e_ws81]; exact gs_app f_82_ws79
                clear f_82_ws79
                have f_82_ws83 : ws83[82]? = some ((q75, Sum.inl (cI, 4, Sum.inl (fun _ => 0))) : Nat × va_E) := e_ws83.at (by first | decide | (simp; done) | (simp; omega)) f_82_ws81
                clear f_82_ws81
                have f_82_ws91 : ws91[82]? = some ((q75, Sum.inl (cI, 4, Sum.inl (fun _ => 0))) : Nat × va_E) := by rw [e_ws91]; exact gs_ne (by decide) f_82_ws83
                clear f_82_ws83
                have f_82_ws93 : ws93[82]? = some ((q75, Sum.inl (cI, 4, Sum.inl (fun _ => 0))) : Nat × va_E) := by rw [e_ws93]; exact gs_app f_82_ws91
                clear f_82_ws91
                have f_82_ws95 : ws95[82]? = some ((q75, Sum.inl (cI, 4, Sum.inl (fun _ => 0))) : Nat × va_E) := e_ws95.at (by first | decide | (simp; done) | (simp; omega)) f_82_ws93
                clear f_82_ws93
                have f_82_ws103 : ws103[82]? = some ((q75, Sum.inl (cI, 4, Sum.inl (fun _ => 0))) : Nat × va_E) := by rw [e_ws103]; exact gs_ne (by decide) f_82_ws95
                clear f_82_ws95
                have f_82_ws105 : ws105[82]? = some ((q75, Sum.inl (cI, 4, Sum.inl (fun _ => 0))) : Nat × va_E) := by rw [e_ws105]; exact gs_app f_82_ws103
                clear f_82_ws103
                have f_82_ws107 : ws107[82]? = some ((q75, Sum.inl (cI, 4, Sum.inl (fun _ => 0))) : Nat × va_E) := e_ws107.at (by first | decide | (simp; done) | (simp; omega)) f_82_ws105
                clear f_82_ws105
                have f_82_ws115 : ws115[82]? = some ((q75, Sum.inl (cI, 4, Sum.inl (fun _ => 0))) : Nat × va_E) := by rw [e_ws115]; exact gs_ne (by decide) f_82_ws107
                clear f_82_ws107
                have f_82_ws117 : ws117[82]? = some ((q75, Sum.inl (cI, 4, Sum.inl (fun _ => 0))) : Nat × va_E) := by rw [e_ws117]; exact gs_app f_82_ws115
                clear f_82_ws115
                have f_82_ws119 : ws119[82]? = some ((q75, Sum.inl (cI, 4, Sum.inl (fun _ => 0))) : Nat × va_E) := e_ws119.at (by first | decide | (simp; done) | (simp; omega)) f_82_ws117
                clear f_82_ws117
                have f_82_ws127 : ws127[82]? = some ((q75, Sum.inl (cI, 4, Sum.inl (fun _ => 0))) : Nat × va_E) := by rw [e_ws127]; exact gs_ne (by decide) f_82_ws119
                clear f_82_ws119
                have f_82_ws128 : ws128[82]? = some ((q75, Sum.inl (cI, 4, Sum.inl (fun _ => 0))) : Nat × va_E) := by rw [e_ws128]; exact gs_ne (by decide) f_82_ws127
                clear f_82_ws127
                have f_83_ws128 : ws128[83]? = some ((q78, Sum.inl (cV, 4, Sum.inr (Sum.inr (Sum.inr (Sum.inr (va_up (va_up (va_up (va_up (fun _ => none) 0 (some q80)) 1 (some q92)) 2 (some q104)) 3 (some q116))))))) : Nat × va_E) := by rw [e_ws128]; exact gs_ne (by decide) f_83_ws127
                clear f_83_ws127
                have f_84_ws91 : ws91[84]? = some ((q80, Sum.inr (9, [Value.ref q84, Value.ref q85, Value.ref q86, Value.ref q87, Value.ref q88, Value.ref q89, Value.ref q90, Value.int 0, Value.int 0, Value.int 0, Value.int 0])) : Nat × va_E) := by rw [e_ws91]; exact gs_ne (by decide) f_84_ws83
                clear f_84_ws83
                have f_84_ws93 : ws93[84]? = some ((q80, Sum.inr (9, [Value.ref q84, Value.ref q85, Value.ref q86, Value.ref q87, Value.ref q88, Value.ref q89, Value.ref q90, Value.int 0, Value.int 0, Value.int 0, Value.int 0])) : Nat × va_E) := by rw [e_ws93]; exact gs_app f_84_ws91
                clear f_84_ws91
                have f_84_ws95 : ws95[84]? = some ((q80, Sum.inr (9, [Value.ref q84, Value.ref q85, Value.ref q86, Value.ref q87, Value.ref q88, Value.ref q89, Value.ref q90, Value.int 0, Value.int 0, Value.int 0, Value.int 0])) : Nat × va_E) := e_ws95.at (by first | decide | (simp; done) | (simp; omega)) f_84_ws93
                clear f_84_ws93
                have f_84_ws103 : ws103[84]? = some ((q80, Sum.inr (9, [Value.ref q84, Value.ref q85, Value.ref q86, Value.ref q87, Value.ref q88, Value.ref q89, Value.ref q90, Value.int 0, Value.int 0, Value.int 0, Value.int 0])) : Nat × va_E) := by rw [e_ws103]; exact gs_ne (by decide) f_84_ws95
                clear f_84_ws95
                have f_84_ws105 : ws105[84]? = some ((q80, Sum.inr (9, [Value.ref q84, Value.ref q85, Value.ref q86, Value.ref q87, Value.ref q88, Value.ref q89, Value.ref q90, Value.int 0, Value.int 0, Value.int 0, Value.int 0])) : Nat × va_E) := by rw [e_ws105]; exact gs_app f_84_ws103
                clear f_84_ws103
                have f_84_ws107 : ws107[84]? = some ((q80, Sum.inr (9, [Value.ref q84, Value.ref q85, Value.ref q86, Value.ref q87, Value.ref q88, Value.ref q89, Value.ref q90, Value.int 0, Value.int 0, Value.int 0, Value.int 0])) : Nat × va_E) := e_ws107.at (by first | decide | (simp; done) | (simp; omega)) f_84_ws105
                clear f_84_ws105
                have f_84_ws115 : ws115[84]? = some ((q80, Sum.inr (9, [Value.ref q84, Value.ref q85, Value.ref q86, Value.ref q87, Value.ref q88, Value.ref q89, Value.ref q90, Value.int 0, Value.int 0, Value.int 0, Value.int 0])) : Nat × va_E) := by rw [e_ws115]; exact gs_ne (by decide) f_84_ws107
                clear f_84_ws107
                have f_84_ws117 : ws117[84]? = some ((q80, Sum.inr (9, [Value.ref q84, Value.ref q85, Value.ref q86, Value.ref q87, Value.ref q88, Value.ref q89, Value.ref q90, Value.int 0, Value.int 0, Value.int 0, Value.int 0])) : Nat × va_E) := by rw [e_ws117]; exact gs_app f_84_ws115
                clear f_84_ws115
                have f_84_ws119 : ws119[84]? = some ((q80, Sum.inr (9, [Value.ref q84, Value.ref q85, Value.ref q86, Value.ref q87, Value.ref q88, Value.ref q89, Value.ref q90, Value.int 0, Value.int 0, Value.int 0, Value.int 0])) : Nat × va_E) := e_ws119.at (by first | decide | (simp; done) | (simp; omega)) f_84_ws117
                clear f_84_ws117
                have f_84_ws127 : ws127[84]? = some ((q80, Sum.inr (9, [Value.ref q84, Value.ref q85, Value.ref q86, Value.ref q87, Value.ref q88, Value.ref q89, Value.ref q90, Value.int 0, Value.int 0, Value.int 0, Value.int 0])) : Nat × va_E) := by rw [e_ws127]; exact gs_ne (by decide) f_84_ws119
                clear f_84_ws119
                have f_84_ws128 : ws128[84]? = some ((q80, Sum.inr (9, [Value.ref q84, Value.ref q85, Value.ref q86, Value.ref q87, Value.ref q88, Value.ref q89, Value.ref q90, Value.int 0, Value.int 0, Value.int 0, Value.int 0])) : Nat × va_E) := by rw [e_ws128]; exact gs_ne (by decide) f_84_ws127
                clear f_84_ws127
                have f_85_ws91 : ws91[85]? = some ((q84, Sum.inl (cI, 4097, Sum.inl (fun _ => 0))) : Nat × va_E) := by rw [e_ws91]; exact gs_ne (by decide) f_85_ws83
                clear f_85_ws83
                have f_85_ws93 : ws93[85]? = some ((q84, Sum.inl (cI, 4097, Sum.inl (fun _ => 0))) : Nat × va_E) := by rw [e_ws93]; exact gs_app f_85_ws91
                clear f_85_ws91
                have f_85_ws95 : ws95[85]? = some ((q84, Sum.inl (cI, 4097, Sum.inl (fun _ => 0))) : Nat × va_E) := e_ws95.at (by first | decide | (simp; done) | (simp; omega)) f_85_ws93
                clear f_85_ws93
                have f_85_ws103 : ws103[85]? = some ((q84, Sum.inl (cI, 4097, Sum.inl (fun _ => 0))) : Nat × va_E) := by rw [e_ws103]; exact gs_ne (by decide) f_85_ws95
                clear f_85_ws95
                have f_85_ws105 : ws105[85]? = some ((q84, Sum.inl (cI, 4097, Sum.inl (fun _ => 0))) : Nat × va_E) := by rw [e_ws105]; exact gs_app f_85_ws103
                clear f_85_ws103
                have f_85_ws107 : ws107[85]? = some ((q84, Sum.inl (cI, 4097, Sum.inl (fun _ => 0))) : Nat × va_E) := e_ws107.at (by first | decide | (simp; done) | (simp; omega)) f_85_ws105
                clear f_85_ws105
                have f_85_ws115 : ws115[85]? = some ((q84, Sum.inl (cI, 4097, Sum.inl (fun _ => 0))) : Nat × va_E) := by rw [e_ws115]; exact gs_ne (by decide) f_85_ws107
                clear f_85_ws107
                have f_85_ws117 : ws117[85]? = some ((q84, Sum.inl (cI, 4097, Sum.inl (fun _ => 0))) : Nat × va_E) := by rw [e_ws117]; exact gs_app f_85_ws115
                clear f_85_ws115
                have f_85_ws119 : ws119[85]? = some ((q84, Sum.inl (cI, 4097, Sum.inl (fun _ => 0))) : Nat × va_E) := e_ws119.at (by first | decide | (simp; done) | (simp; omega)) f_85_ws117
                clear f_85_ws117
                have f_85_ws127 : ws127[85]? = some ((q84, Sum.inl (cI, 4097, Sum.inl (fun _ => 0))) : Nat × va_E) := by rw [e_ws127]; exact gs_ne (by decide) f_85_ws119
                clear f_85_ws119
                have f_85_ws128 : ws128[85]? = some ((q84, Sum.inl (cI, 4097, Sum.inl (fun _ => 0))) : Nat × va_E) := by rw [e_ws128]; exact gs_ne (by decide) f_85_ws127
                clear f_85_ws127
                have f_86_ws91 : ws91[86]? = some ((q85, Sum.inl (cI, 4097, Sum.inl (fun _ => 0))) : Nat × va_E) := by rw [e_ws91]; exact gs_ne (by decide) f_86_ws83
                clear f_86_ws83
                have f_86_ws93 : ws93[86]? = some ((q85, Sum.inl (cI, 4097, Sum.inl (fun _ => 0))) : Nat × va_E) := by rw [e_ws93]; exact gs_app f_86_ws91
                clear f_86_ws91
                have f_86_ws95 : ws95[86]? = some ((q85, Sum.inl (cI, 4097, Sum.inl (fun _ => 0))) : Nat × va_E) := e_ws95.at (by first | decide | (simp; done) | (simp; omega)) f_86_ws93
                clear f_86_ws93
                have f_86_ws103 : ws103[86]? = some ((q85, Sum.inl (cI, 4097, Sum.inl (fun _ => 0))) : Nat × va_E) := by rw [e_ws103]; exact gs_ne (by decide) f_86_ws95
                clear f_86_ws95
                have f_86_ws105 : ws105[86]? = some ((q85, Sum.inl (cI, 4097, Sum.inl (fun _ => 0))) : Nat × va_E) := by rw [e_ws105]; exact gs_app f_86_ws103
                clear f_86_ws103
                have f_86_ws107 : ws107[86]? = some ((q85, Sum.inl (cI, 4097, Sum.inl (fun _ => 0))) : Nat × va_E) := e_ws107.at (by first | decide | (simp; done) | (simp; omega)) f_86_ws105
                clear f_86_ws105
                have f_86_ws115 : ws115[86]? = some ((q85, Sum.inl (cI, 4097, Sum.inl (fun _ => 0))) : Nat × va_E) := by rw [e_ws115]; exact gs_ne (by decide) f_86_ws107
                clear f_86_ws107
                have f_86_ws117 : ws117[86]? = some ((q85, Sum.inl (cI, 4097, Sum.inl (fun _ => 0))) : Nat × va_E) := by rw [e_ws117]; exact gs_app f_86_ws115
                clear f_86_ws115
                have f_86_ws119 : ws119[86]? = some ((q85, Sum.inl (cI, 4097, Sum.inl (fun _ => 0))) : Nat × va_E) := e_ws119.at (by first | decide | (simp; done) | (simp; omega)) f_86_ws117
                clear f_86_ws117
                have f_86_ws127 : ws127[86]? = some ((q85, Sum.inl (cI, 4097, Sum.inl (fun _ => 0))) : Nat × va_E) := by rw [e_ws127]; exact gs_ne (by decide) f_86_ws119
                clear f_86_ws119
                have f_86_ws128 : ws128[86]? = some ((q85, Sum.inl (cI, 4097, Sum.inl (fun _ => 0))) : Nat × va_E) := by rw [e_ws128]; exact gs_ne (by decide) f_86_ws127
                clear f_86_ws127
                have f_87_ws91 : ws91[87]? = some ((q86, Sum.inl (cI, 4098, Sum.inl (fun _ => 0))) : Nat × va_E) := by rw [e_ws91]; exact gs_ne (by decide) f_87_ws83
                clear f_87_ws83
                have f_87_ws93 : ws93[87]? = some ((q86, Sum.inl (cI, 4098, Sum.inl (fun _ => 0))) : Nat × va_E) := by rw [e_ws93]; exact gs_app f_87_ws91
                clear f_87_ws91
                have f_87_ws95 : ws95[87]? = some ((q86, Sum.inl (cI, 4098, Sum.inl (fun _ => 0))) : Nat × va_E) := e_ws95.at (by first | decide | (simp; done) | (simp; omega)) f_87_ws93
                clear f_87_ws93
                have f_87_ws103 : ws103[87]? = some ((q86, Sum.inl (cI, 4098, Sum.inl (fun _ => 0))) : Nat × va_E) := by rw [e_ws103]; exact gs_ne (by decide) f_87_ws95
                clear f_87_ws95
                have f_87_ws105 : ws105[87]? = some ((q86, Sum.inl (cI, 4098, Sum.inl (fun _ => 0))) : Nat × va_E) := by rw [e_ws105]; exact gs_app f_87_ws103
                clear f_87_ws103
                have f_87_ws107 : ws107[87]? = some ((q86, Sum.inl (cI, 4098, Sum.inl (fun _ => 0))) : Nat × va_E) := e_ws107.at (by first | decide | (simp; done) | (simp; omega)) f_87_ws105
                clear f_87_ws105
                have f_87_ws115 : ws115[87]? = some ((q86, Sum.inl (cI, 4098, Sum.inl (fun _ => 0))) : Nat × va_E) := by rw [e_ws115]; exact gs_ne (by decide) f_87_ws107
                clear f_87_ws107
                have f_87_ws117 : ws117[87]? = some ((q86, Sum.inl (cI, 4098, Sum.inl (fun _ => 0))) : Nat × va_E) := by rw [e_ws117]; exact gs_app f_87_ws115
                clear f_87_ws115
                have f_87_ws119 : ws119[87]? = some ((q86, Sum.inl (cI, 4098, Sum.inl (fun _ => 0))) : Nat × va_E) := e_ws119.at (by first | decide | (simp; done) | (simp; omega)) f_87_ws117
                clear f_87_ws117
                have f_87_ws127 : ws127[87]? = some ((q86, Sum.inl (cI, 4098, Sum.inl (fun _ => 0))) : Nat × va_E) := by rw [e_ws127]; exact gs_ne (by decide) f_87_ws119
                clear f_87_ws119
                have f_87_ws128 : ws128[87]? = some ((q86, Sum.inl (cI, 4098, Sum.inl (fun _ => 0))) : Nat × va_E) := by rw [e_ws128]; exact gs_ne (by decide) f_87_ws127
                clear f_87_ws127
                have f_88_ws91 : ws91[88]? = some ((q87, Sum.inl (cI, 4097, Sum.inl (fun _ => 0))) : Nat × va_E) := by rw [e_ws91]; exact gs_ne (by decide) f_88_ws83
                clear f_88_ws83
                have f_88_ws93 : ws93[88]? = some ((q87, Sum.inl (cI, 4097, Sum.inl (fun _ => 0))) : Nat × va_E) := by rw [e_ws93]; exact gs_app f_88_ws91
                clear f_88_ws91
                have f_88_ws95 : ws95[88]? = some ((q87, Sum.inl (cI, 4097, Sum.inl (fun _ => 0))) : Nat × va_E) := e_ws95.at (by first | decide | (simp; done) | (simp; omega)) f_88_ws93
                clear f_88_ws93
                have f_88_ws103 : ws103[88]? = some ((q87, Sum.inl (cI, 4097, Sum.inl (fun _ => 0))) : Nat × va_E) := by rw [e_ws103]; exact gs_ne (by decide) f_88_ws95
                clear f_88_ws95
                have f_88_ws105 : ws105[88]? = some ((q87, Sum.inl (cI, 4097, Sum.inl (fun _ => 0))) : Nat × va_E) := by rw [e_ws105]; exact gs_app f_88_ws103
                clear f_88_ws103
                have f_88_ws107 : ws107[88]? = some ((q87, Sum.inl (cI, 4097, Sum.inl (fun _ => 0))) : Nat × va_E) := e_ws107.at (by first | decide | (simp; done) | (simp; omega)) f_88_ws105
                clear f_88_ws105
                have f_88_ws115 : ws115[88]? = some ((q87, Sum.inl (cI, 4097, Sum.inl (fun _ => 0))) : Nat × va_E) := by rw [e_ws115]; exact gs_ne (by decide) f_88_ws107
                clear f_88_ws107
                have f_88_ws117 : ws117[88]? = some ((q87, Sum.inl (cI, 4097, Sum.inl (fun _ => 0))) : Nat × va_E) := by rw [e_ws117]; exact gs_app f_88_ws115
                clear f_88_ws115
                have f_88_ws119 : ws119[88]? = some ((q87, Sum.inl (cI, 4097, Sum.inl (fun _ => 0))) : Nat × va_E) := e_ws119.at (by first | decide | (simp; done) | (simp; omega)) f_88_ws117
                clear f_88_ws117
                have f_88_ws127 : ws127[88]? = some ((q87, Sum.inl (cI, 4097, Sum.inl (fun _ => 0))) : Nat × va_E) := by rw [e_ws127]; exact gs_ne (by decide) f_88_ws119
                clear f_88_ws119
                have f_88_ws128 : ws128[88]? = some ((q87, Sum.inl (cI, 4097, Sum.inl (fun _ => 0))) : Nat × va_E) := by rw [e_ws128]; exact gs_ne (by decide) f_88_ws127
                clear f_88_ws127
                have f_89_ws91 : ws91[89]? = some ((q88, Sum.inl (cI, 4096, Sum.inl (fun _ => 0))) : Nat × va_E) := by rw [e_ws91]; exact gs_ne (by decide) f_89_ws83
                clear f_89_ws83
                have f_89_ws93 : ws93[89]? = some ((q88, Sum.inl (cI, 4096, Sum.inl (fun _ => 0))) : Nat × va_E) := by rw [e_ws93]; exact gs_app f_89_ws91
                clear f_89_ws91
                have f_89_ws95 : ws95[89]? = some ((q88, Sum.inl (cI, 4096, Sum.inl (fun _ => 0))) : Nat × va_E) := e_ws95.at (by first | decide | (simp; done) | (simp; omega)) f_89_ws93
                clear f_89_ws93
                have f_89_ws103 : ws103[89]? = some ((q88, Sum.inl (cI, 4096, Sum.inl (fun _ => 0))) : Nat × va_E) := by rw [e_ws103]; exact gs_ne (by decide) f_89_ws95
                clear f_89_ws95
                have f_89_ws105 : ws105[89]? = some ((q88, Sum.inl (cI, 4096, Sum.inl (fun _ => 0))) : Nat × va_E) := by rw [e_ws105]; exact gs_app f_89_ws103
                clear f_89_ws103
                have f_89_ws107 : ws107[89]? = some ((q88, Sum.inl (cI, 4096, Sum.inl (fun _ => 0))) : Nat × va_E) := e_ws107.at (by first | decide | (simp; done) | (simp; omega)) f_89_ws105
                clear f_89_ws105
                have f_89_ws115 : ws115[89]? = some ((q88, Sum.inl (cI, 4096, Sum.inl (fun _ => 0))) : Nat × va_E) := by rw [e_ws115]; exact gs_ne (by decide) f_89_ws107
                clear f_89_ws107
                have f_89_ws117 : ws117[89]? = some ((q88, Sum.inl (cI, 4096, Sum.inl (fun _ => 0))) : Nat × va_E) := by rw [e_ws117]; exact gs_app f_89_ws115
                clear f_89_ws115
                have f_89_ws119 : ws119[89]? = some ((q88, Sum.inl (cI, 4096, Sum.inl (fun _ => 0))) : Nat × va_E) := e_ws119.at (by first | decide | (simp; done) | (simp; omega)) f_89_ws117
                clear f_89_ws117
                have f_89_ws127 : ws127[89]? = some ((q88, Sum.inl (cI, 4096, Sum.inl (fun _ => 0))) : Nat × va_E) := by rw [e_ws127]; exact gs_ne (by decide) f_89_ws119
                clear f_89_ws119
                have f_89_ws128 : ws128[89]? = some ((q88, Sum.inl (cI, 4096, Sum.inl (fun _ => 0))) : Nat × va_E) := by rw [e_ws128]; exact gs_ne (by decide) f_89_ws127
                clear f_89_ws127
                have f_90_ws91 : ws91[90]? = some ((q89, Sum.inl (cZ, 4096, Sum.inl (fun _ => 0))) : Nat × va_E) := by rw [e_ws91]; exact gs_ne (by decide) f_90_ws83
                clear f_90_ws83
                have f_90_ws93 : ws93[90]? = some ((q89, Sum.inl (cZ, 4096, Sum.inl (fun _ => 0))) : Nat × va_E) := by rw [e_ws93]; exact gs_app f_90_ws91
                clear f_90_ws91
                have f_90_ws95 : ws95[90]? = some ((q89, Sum.inl (cZ, 4096, Sum.inl (fun _ => 0))) : Nat × va_E) := e_ws95.at (by first | decide | (simp; done) | (simp; omega)) f_90_ws93
                clear f_90_ws93
                have f_90_ws103 : ws103[90]? = some ((q89, Sum.inl (cZ, 4096, Sum.inl (fun _ => 0))) : Nat × va_E) := by rw [e_ws103]; exact gs_ne (by decide) f_90_ws95
                clear f_90_ws95
                have f_90_ws105 : ws105[90]? = some ((q89, Sum.inl (cZ, 4096, Sum.inl (fun _ => 0))) : Nat × va_E) := by rw [e_ws105]; exact gs_app f_90_ws103
                clear f_90_ws103
                have f_90_ws107 : ws107[90]? = some ((q89, Sum.inl (cZ, 4096, Sum.inl (fun _ => 0))) : Nat × va_E) := e_ws107.at (by first | decide | (simp; done) | (simp; omega)) f_90_ws105
                clear f_90_ws105
                have f_90_ws115 : ws115[90]? = some ((q89, Sum.inl (cZ, 4096, Sum.inl (fun _ => 0))) : Nat × va_E) := by rw [e_ws115]; exact gs_ne (by decide) f_90_ws107
                clear f_90_ws107
                have f_90_ws117 : ws117[90]? = some ((q89, Sum.inl (cZ, 4096, Sum.inl (fun _ => 0))) : Nat × va_E) := by rw [e_ws117]; exact gs_app f_90_ws115
                clear f_90_ws115
                have f_90_ws119 : ws119[90]? = some ((q89, Sum.inl (cZ, 4096, Sum.inl (fun _ => 0))) : Nat × va_E) := e_ws119.at (by first | decide | (simp; done) | (simp; omega)) f_90_ws117
                clear f_90_ws117
                have f_90_ws127 : ws127[90]? = some ((q89, Sum.inl (cZ, 4096, Sum.inl (fun _ => 0))) : Nat × va_E) := by rw [e_ws127]; exact gs_ne (by decide) f_90_ws119
                clear f_90_ws119
                have f_90_ws128 : ws128[90]? = some ((q89, Sum.inl (cZ, 4096, Sum.inl (fun _ => 0))) : Nat × va_E) := by rw [e_ws128]; exact gs_ne (by decide) f_90_ws127
                clear f_90_ws127
                have f_91_ws91 : ws91[91]? = some ((q90, Sum.inl (cZ, 4096, Sum.inl (fun _ => 0))) : Nat × va_E) := by rw [e_ws91]; exact gs_ne (by decide) f_91_ws83
                clear f_91_ws83
                have f_91_ws93 : ws93[91]? = some ((q90, Sum.inl (cZ, 4096, Sum.inl (fun _ => 0))) : Nat × va_E) := by rw [e_ws93]; exact gs_app f_91_ws91
                clear f_91_ws91
                have f_91_ws95 : ws95[91]? = some ((q90, Sum.inl (cZ, 4096, Sum.inl (fun _ => 0))) : Nat × va_E) := e_ws95.at (by first | decide | (simp; done) | (simp; omega)) f_91_ws93
                clear f_91_ws93
                have f_91_ws103 : ws103[91]? = some ((q90, Sum.inl (cZ, 4096, Sum.inl (fun _ => 0))) : Nat × va_E) := by rw [e_ws103]; exact gs_ne (by decide) f_91_ws95
                clear f_91_ws95
                have f_91_ws105 : ws105[91]? = some ((q90, Sum.inl (cZ, 4096, Sum.inl (fun _ => 0))) : Nat × va_E) := by rw [e_ws105]; exact gs_app f_91_ws103
                clear f_91_ws103
                have f_91_ws107 : ws107[91]? = some ((q90, Sum.inl (cZ, 4096, Sum.inl (fun _ => 0))) : Nat × va_E) := e_ws107.at (by first | decide | (simp; done) | (simp; omega)) f_91_ws105
                clear f_91_ws105
                have f_91_ws115 : ws115[91]? = some ((q90, Sum.inl (cZ, 4096, Sum.inl (fun _ => 0))) : Nat × va_E) := by rw [e_ws115]; exact gs_ne (by decide) f_91_ws107
                clear f_91_ws107
                have f_91_ws117 : ws117[91]? = some ((q90, Sum.inl (cZ, 4096, Sum.inl (fun _ => 0))) : Nat × va_E) := by rw [e_ws117]; exact gs_app f_91_ws115
                clear f_91_ws115
                have f_91_ws119 : ws119[91]? = some ((q90, Sum.inl (cZ, 4096, Sum.inl (fun _ => 0))) : Nat × va_E) := e_ws119.at (by first | decide | (simp; done) | (simp; omega)) f_91_ws117
                clear f_91_ws117
                have f_91_ws127 : ws127[91]? = some ((q90, Sum.inl (cZ, 4096, Sum.inl (fun _ => 0))) : Nat × va_E) := by rw [e_ws127]; exact gs_ne (by decide) f_91_ws119
                clear f_91_ws119
                have f_91_ws128 : ws128[91]? = some ((q90, Sum.inl (cZ, 4096, Sum.inl (fun _ => 0))) : Nat × va_E) := by rw [e_ws128]; exact gs_ne (by decide) f_91_ws127
                clear f_91_ws127
                have f_92_ws103 : ws103[92]? = some ((q92, Sum.inr (9, [Value.ref q96, Value.ref q97, Value.ref q98, Value.ref q99, Value.ref q100, Value.ref q101, Value.ref q102, Value.int 0, Value.int 0, Value.int 0, Value.int 0])) : Nat × va_E) := by rw [e_ws103]; exact gs_ne (by decide) f_92_ws95
                clear f_92_ws95
                have f_92_ws105 : ws105[92]? = some ((q92, Sum.inr (9, [Value.ref q96, Value.ref q97, Value.ref q98, Value.ref q99, Value.ref q100, Value.ref q101, Value.ref q102, Value.int 0, Value.int 0, Value.int 0, Value.int 0])) : Nat × va_E) := by rw [e_ws105]; exact gs_app f_92_ws103
                clear f_92_ws103
                have f_92_ws107 : ws107[92]? = some ((q92, Sum.inr (9, [Value.ref q96, Value.ref q97, Value.ref q98, Value.ref q99, Value.ref q100, Value.ref q101, Value.ref q102, Value.int 0, Value.int 0, Value.int 0, Value.int 0])) : Nat × va_E) := e_ws107.at (by first | decide | (simp; done) | (simp; omega)) f_92_ws105
                clear f_92_ws105
                have f_92_ws115 : ws115[92]? = some ((q92, Sum.inr (9, [Value.ref q96, Value.ref q97, Value.ref q98, Value.ref q99, Value.ref q100, Value.ref q101, Value.ref q102, Value.int 0, Value.int 0, Value.int 0, Value.int 0])) : Nat × va_E) := by rw [e_ws115]; exact gs_ne (by decide) f_92_ws107
                clear f_92_ws107
                have f_92_ws117 : ws117[92]? = some ((q92, Sum.inr (9, [Value.ref q96, Value.ref q97, Value.ref q98, Value.ref q99, Value.ref q100, Value.ref q101, Value.ref q102, Value.int 0, Value.int 0, Value.int 0, Value.int 0])) : Nat × va_E) := by rw [e_ws117]; exact gs_app f_92_ws115
                clear f_92_ws115
                have f_92_ws119 : ws119[92]? = some ((q92, Sum.inr (9, [Value.ref q96, Value.ref q97, Value.ref q98, Value.ref q99, Value.ref q100, Value.ref q101, Value.ref q102, Value.int 0, Value.int 0, Value.int 0, Value.int 0])) : Nat × va_E) := e_ws119.at (by first | decide | (simp; done) | (simp; omega)) f_92_ws117
                clear f_92_ws117
                have f_92_ws127 : ws127[92]? = some ((q92, Sum.inr (9, [Value.ref q96, Value.ref q97, Value.ref q98, Value.ref q99, Value.ref q100, Value.ref q101, Value.ref q102, Value.int 0, Value.int 0, Value.int 0, Value.int 0])) : Nat × va_E) := by rw [e_ws127]; exact gs_ne (by decide) f_92_ws119
                clear f_92_ws119
                have f_92_ws128 : ws128[92]? = some ((q92, Sum.inr (9, [Value.ref q96, Value.ref q97, Value.ref q98, Value.ref q99, Value.ref q100, Value.ref q101, Value.ref q102, Value.int 0, Value.int 0, Value.int 0, Value.int 0])) : Nat × va_E) := by rw [e_ws128]; exact gs_ne (by decide) f_92_ws127
                clear f_92_ws127
                have f_93_ws103 : ws103[93]? = some ((q96, Sum.inl (cI, 4097, Sum.inl (fun _ => 0))) : Nat × va_E) := by rw [e_ws103]; exact gs_ne (by decide) f_93_ws95
                clear f_93_ws95
                have f_93_ws105 : ws105[93]? = some ((q96, Sum.inl (cI, 4097, Sum.inl (fun _ => 0))) : Nat × va_E) := by rw [e_ws105]; exact gs_app f_93_ws103
                clear f_93_ws103
                have f_93_ws107 : ws107[93]? = some ((q96, Sum.inl (cI, 4097, Sum.inl (fun _ => 0))) : Nat × va_E) := e_ws107.at (by first | decide | (simp; done) | (simp; omega)) f_93_ws105
                clear f_93_ws105
                have f_93_ws115 : ws115[93]? = some ((q96, Sum.inl (cI, 4097, Sum.inl (fun _ => 0))) : Nat × va_E) := by rw [e_ws115]; exact gs_ne (by decide) f_93_ws107
                clear f_93_ws107
                have f_93_ws117 : ws117[93]? = some ((q96, Sum.inl (cI, 4097, Sum.inl (fun _ => 0))) : Nat × va_E) := by rw [e_ws117]; exact gs_app f_93_ws115
                clear f_93_ws115
                have f_93_ws119 : ws119[93]? = some ((q96, Sum.inl (cI, 4097, Sum.inl (fun _ => 0))) : Nat × va_E) := e_ws119.at (by first | decide | (simp; done) | (simp; omega)) f_93_ws117
                clear f_93_ws117
                have f_93_ws127 : ws127[93]? = some ((q96, Sum.inl (cI, 4097, Sum.inl (fun _ => 0))) : Nat × va_E) := by rw [e_ws127]; exact gs_ne (by decide) f_93_ws119
                clear f_93_ws119
                have f_93_ws128 : ws128[93]? = some ((q96, Sum.inl (cI, 4097, Sum.inl (fun _ => 0))) : Nat × va_E) := by rw [e_ws128]; exact gs_ne (by decide) f_93_ws127
                clear f_93_ws127
                have f_94_ws103 : ws103[94]? = some ((q97, Sum.inl (cI, 4097, Sum.inl (fun _ => 0))) : Nat × va_E) := by rw [e_ws103]; exact gs_ne (by decide) f_94_ws95
                clear f_94_ws95
                have f_94_ws105 : ws105[94]? = some ((q97, Sum.inl (cI, 4097, Sum.inl (fun _ => 0))) : Nat × va_E) := by rw [e_ws105]; exact gs_app f_94_ws103
                clear f_94_ws103
                have f_94_ws107 : ws107[94]? = some ((q97, Sum.inl (cI, 4097, Sum.inl (fun _ => 0))) : Nat × va_E) := e_ws107.at (by first | decide | (simp; done) | (simp; omega)) f_94_ws105
                clear f_94_ws105
                have f_94_ws115 : ws115[94]? = some ((q97, Sum.inl (cI, 4097, Sum.inl (fun _ => 0))) : Nat × va_E) := by rw [e_ws115]; exact gs_ne (by decide) f_94_ws107
                clear f_94_ws107
                have f_94_ws117 : ws117[94]? = some ((q97, Sum.inl (cI, 4097, Sum.inl (fun _ => 0))) : Nat × va_E) := by rw [e_ws117]; exact gs_app f_94_ws115
                clear f_94_ws115
                have f_94_ws119 : ws119[94]? = some ((q97, Sum.inl (cI, 4097, Sum.inl (fun _ => 0))) : Nat × va_E) := e_ws119.at (by first | decide | (simp; done) | (simp; omega)) f_94_ws117
                clear f_94_ws117
                have f_94_ws127 : ws127[94]? = some ((q97, Sum.inl (cI, 4097, Sum.inl (fun _ => 0))) : Nat × va_E) := by rw [e_ws127]; exact gs_ne (by decide) f_94_ws119
                clear f_94_ws119
                have f_94_ws128 : ws128[94]? = some ((q97, Sum.inl (cI, 4097, Sum.inl (fun _ => 0))) : Nat × va_E) := by rw [e_ws128]; exact gs_ne (by decide) f_94_ws127
                clear f_94_ws127
                have f_95_ws103 : ws103[95]? = some ((q98, Sum.inl (cI, 4098, Sum.inl (fun _ => 0))) : Nat × va_E) := by rw [e_ws103]; exact gs_ne (by decide) f_95_ws95
                clear f_95_ws95
                have f_95_ws105 : ws105[95]? = some ((q98, Sum.inl (cI, 4098, Sum.inl (fun _ => 0))) : Nat × va_E) := by rw [e_ws105]; exact gs_app f_95_ws103
                clear f_95_ws103
                have f_95_ws107 : ws107[95]? = some ((q98, Sum.inl (cI, 4098, Sum.inl (fun _ => 0))) : Nat × va_E) := e_ws107.at (by first | decide | (simp; done) | (simp; omega)) f_95_ws105
                clear f_95_ws105
                have f_95_ws115 : ws115[95]? = some ((q98, Sum.inl (cI, 4098, Sum.inl (fun _ => 0))) : Nat × va_E) := by rw [e_ws115]; exact gs_ne (by decide) f_95_ws107
                clear f_95_ws107
                have f_95_ws117 : ws117[95]? = some ((q98, Sum.inl (cI, 4098, Sum.inl (fun _ => 0))) : Nat × va_E) := by rw [e_ws117]; exact gs_app f_95_ws115
                clear f_95_ws115
                have f_95_ws119 : ws119[95]? = some ((q98, Sum.inl (cI, 4098, Sum.inl (fun _ => 0))) : Nat × va_E) := e_ws119.at (by first | decide | (simp; done) | (simp; omega)) f_95_ws117
                clear f_95_ws117
                have f_95_ws127 : ws127[95]? = some ((q98, Sum.inl (cI, 4098, Sum.inl (fun _ => 0))) : Nat × va_E) := by rw [e_ws127]; exact gs_ne (by decide) f_95_ws119
                clear f_95_ws119
                have f_95_ws128 : ws128[95]? = some ((q98, Sum.inl (cI, 4098, Sum.inl (fun _ => 0))) : Nat × va_E) := by rw [e_ws128]; exact gs_ne (by decide) f_95_ws127
                clear f_95_ws127
                have f_96_ws103 : ws103[96]? = some ((q99, Sum.inl (cI, 4097, Sum.inl (fun _ => 0))) : Nat × va_E) := by rw [e_ws103]; exact gs_ne (by decide) f_96_ws95
                clear f_96_ws95
                have f_96_ws105 : ws105[96]? = some ((q99, Sum.inl (cI, 4097, Sum.inl (fun _ => 0))) : Nat × va_E) := by rw [e_ws105]; exact gs_app f_96_ws103
                clear f_96_ws103
                have f_96_ws107 : ws107[96]? = some ((q99, Sum.inl (cI, 4097, Sum.inl (fun _ => 0))) : Nat × va_E) := e_ws107.at (by first | decide | (simp; done) | (simp; omega)) f_96_ws105
                clear f_96_ws105
                have f_96_ws115 : ws115[96]? = some ((q99, Sum.inl (cI, 4097, Sum.inl (fun _ => 0))) : Nat × va_E) := by rw [e_ws115]; exact gs_ne (by decide) f_96_ws107
                clear f_96_ws107
                have f_96_ws117 : ws117[96]? = some ((q99, Sum.inl (cI, 4097, Sum.inl (fun _ => 0))) : Nat × va_E) := by rw [e_ws117]; exact gs_app f_96_ws115
                clear f_96_ws115
                have f_96_ws119 : ws119[96]? = some ((q99, Sum.inl (cI, 4097, Sum.inl (fun _ => 0))) : Nat × va_E) := e_ws119.at (by first | decide | (simp; done) | (simp; omega)) f_96_ws117
                clear f_96_ws117
                have f_96_ws127 : ws127[96]? = some ((q99, Sum.inl (cI, 4097, Sum.inl (fun _ => 0))) : Nat × va_E) := by rw [e_ws127]; exact gs_ne (by decide) f_96_ws119
                clear f_96_ws119
                have f_96_ws128 : ws128[96]? = some ((q99, Sum.inl (cI, 4097, Sum.inl (fun _ => 0))) : Nat × va_E) := by rw [e_ws128]; exact gs_ne (by decide) f_96_ws127
                clear f_96_ws127
                have f_97_ws103 : ws103[97]? = some ((q100, Sum.inl (cI, 4096, Sum.inl (fun _ => 0))) : Nat × va_E) := by rw [e_ws103]; exact gs_ne (by decide) f_97_ws95
                clear f_97_ws95
                have f_97_ws105 : ws105[97]? = some ((q100, Sum.inl (cI, 4096, Sum.inl (fun _ => 0))) : Nat × va_E) := by rw [e_ws105]; exact gs_app f_97_ws103
                clear f_97_ws103
                have f_97_ws107 : ws107[97]? = some ((q100, Sum.inl (cI, 4096, Sum.inl (fun _ => 0))) : Nat × va_E) := e_ws107.at (by first | decide | (simp; done) | (simp; omega)) f_97_ws105
                clear f_97_ws105
                have f_97_ws115 : ws115[97]? = some ((q100, Sum.inl (cI, 4096, Sum.inl (fun _ => 0))) : Nat × va_E) := by rw [e_ws115]; exact gs_ne (by decide) f_97_ws107
                clear f_97_ws107
                have f_97_ws117 : ws117[97]? = some ((q100, Sum.inl (cI, 4096, Sum.inl (fun _ => 0))) : Nat × va_E) := by rw [e_ws117]; exact gs_app f_97_ws115
                clear f_97_ws115
                have f_97_ws119 : ws119[97]? = some ((q100, Sum.inl (cI, 4096, Sum.inl (fun _ => 0))) : Nat × va_E) := e_ws119.at (by first | decide | (simp; done) | (simp; omega)) f_97_ws117
                clear f_97_ws117
                have f_97_ws127 : ws127[97]? = some ((q100, Sum.inl (cI, 4096, Sum.inl (fun _ => 0))) : Nat × va_E) := by rw [e_ws127]; exact gs_ne (by decide) f_97_ws119
                clear f_97_ws119
                have f_97_ws128 : ws128[97]? = some ((q100, Sum.inl (cI, 4096, Sum.inl (fun _ => 0))) : Nat × va_E) := by rw [e_ws128]; exact gs_ne (by decide) f_97_ws127
                clear f_97_ws127
                have f_98_ws103 : ws103[98]? = some ((q101, Sum.inl (cZ, 4096, Sum.inl (fun _ => 0))) : Nat × va_E) := by rw [e_ws103]; exact gs_ne (by decide) f_98_ws95
                clear f_98_ws95
                have f_98_ws105 : ws105[98]? = some ((q101, Sum.inl (cZ, 4096, Sum.inl (fun _ => 0))) : Nat × va_E) := by rw [e_ws105]; exact gs_app f_98_ws103
                clear f_98_ws103
                have f_98_ws107 : ws107[98]? = some ((q101, Sum.inl (cZ, 4096, Sum.inl (fun _ => 0))) : Nat × va_E) := e_ws107.at (by first | decide | (simp; done) | (simp; omega)) f_98_ws105
                clear f_98_ws105
                have f_98_ws115 : ws115[98]? = some ((q101, Sum.inl (cZ, 4096, Sum.inl (fun _ => 0))) : Nat × va_E) := by rw [e_ws115]; exact gs_ne (by decide) f_98_ws107
                clear f_98_ws107
                have f_98_ws117 : ws117[98]? = some ((q101, Sum.inl (cZ, 4096, Sum.inl (fun _ => 0))) : Nat × va_E) := by rw [e_ws117]; exact gs_app f_98_ws115
                clear f_98_ws115
                have f_98_ws119 : ws119[98]? = some ((q101, Sum.inl (cZ, 4096, Sum.inl (fun _ => 0))) : Nat × va_E) := e_ws119.at (by first | decide | (simp; done) | (simp; omega)) f_98_ws117
                clear f_98_ws117
                have f_98_ws127 : ws127[98]? = some ((q101, Sum.inl (cZ, 4096, Sum.inl (fun _ => 0))) : Nat × va_E) := by rw [e_ws127]; exact gs_ne (by decide) f_98_ws119
                clear f_98_ws119
                have f_98_ws128 : ws128[98]? = some ((q101, Sum.inl (cZ, 4096, Sum.inl (fun _ => 0))) : Nat × va_E) := by rw [e_ws128]; exact gs_ne (by decide) f_98_ws127
                clear f_98_ws127
                have f_99_ws103 : ws103[99]? = some ((q102, Sum.inl (cZ, 4096, Sum.inl (fun _ => 0))) : Nat × va_E) := by rw [e_ws103]; exact gs_ne (by decide) f_99_ws95
                clear f_99_ws95
                have f_99_ws105 : ws105[99]? = some ((q102, Sum.inl (cZ, 4096, Sum.inl (fun _ => 0))) : Nat × va_E) := by rw [e_ws105]; exact gs_app f_99_ws103
                clear f_99_ws103
                have f_99_ws107 : ws107[99]? = some ((q102, Sum.inl (cZ, 4096, Sum.inl (fun _ => 0))) : Nat × va_E) := e_ws107.at (by first | decide | (simp; done) | (simp; omega)) f_99_ws105
                clear f_99_ws105
                have f_99_ws115 : ws115[99]? = some ((q102, Sum.inl (cZ, 4096, Sum.inl (fun _ => 0))) : Nat × va_E) := by rw [e_ws115]; exact gs_ne (by decide) f_99_ws107
                clear f_99_ws107
                have f_99_ws117 : ws117[99]? = some ((q102, Sum.inl (cZ, 4096, Sum.inl (fun _ => 0))) : Nat × va_E) := by rw [e_ws117]; exact gs_app f_99_ws115
                clear f_99_ws115
                have f_99_ws119 : ws119[99]? = some ((q102, Sum.inl (cZ, 4096, Sum.inl (fun _ => 0))) : Nat × va_E) := e_ws119.at (by first | decide | (simp; done) | (simp; omega)) f_99_ws117
                clear f_99_ws117
                have f_99_ws127 : ws127[99]? = some ((q102, Sum.inl (cZ, 4096, Sum.inl (fun _ => 0))) : Nat × va_E) := by rw [e_ws127]; exact gs_ne (by decide) f_99_ws119
                clear f_99_ws119
                have f_99_ws128 : ws128[99]? = some ((q102, Sum.inl (cZ, 4096, Sum.inl (fun _ => 0))) : Nat × va_E) := by rw [e_ws128]; exact gs_ne (by decide) f_99_ws127
                clear f_99_ws127
                have f_100_ws115 : ws115[100]? = some ((q104, Sum.inr (9, [Value.ref q108, Value.ref q109, Value.ref q110, Value.ref q111, Value.ref q112, Value.ref q113, Value.ref q114, Value.int 0, Value.int 0, Value.int 0, Value.int 0])) : Nat × va_E) := by rw [e_ws115]; exact gs_ne (by decide) f_100_ws107
                clear f_100_ws107
                have f_100_ws117 : ws117[100]? = some ((q104, Sum.inr (9, [Value.ref q108, Value.ref q109, Value.ref q110, Value.ref q111, Value.ref q112, Value.ref q113, Value.ref q114, Value.int 0, Value.int 0, Value.int 0, Value.int 0])) : Nat × va_E) := by rw [e_ws117]; exact gs_app f_100_ws115
                clear f_100_ws115
                have f_100_ws119 : ws119[100]? = some ((q104, Sum.inr (9, [Value.ref q108, Value.ref q109, Value.ref q110, Value.ref q111, Value.ref q112, Value.ref q113, Value.ref q114, Value.int 0, Value.int 0, Value.int 0, Value.int 0])) : Nat × va_E) := e_ws119.at (by first | decide | (simp; done) | (simp; omega)) f_100_ws117
                clear f_100_ws117
                have f_100_ws127 : ws127[100]? = some ((q104, Sum.inr (9, [Value.ref q108, Value.ref q109, Value.ref q110, Value.ref q111, Value.ref q112, Value.ref q113, Value.ref q114, Value.int 0, Value.int 0, Value.int 0, Value.int 0])) : Nat × va_E) := by rw [e_ws127]; exact gs_ne (by decide) f_100_ws119
                clear f_100_ws119
                have f_100_ws128 : ws128[100]? = some ((q104, Sum.inr (9, [Value.ref q108, Value.ref q109, Value.ref q110, Value.ref q111, Value.ref q112, Value.ref q113, Value.ref q114, Value.int 0, Value.int 0, Value.int 0, Value.int 0])) : Nat × va_E) := by rw [e_ws128]; exact gs_ne (by decide) f_100_ws127
                clear f_100_ws127
                have f_101_ws115 : ws115[101]? = some ((q108, Sum.inl (cI, 4097, Sum.inl (fun _ => 0))) : Nat × va_E) := by rw [e_ws115]; exact gs_ne (by decide) f_101_ws107
                clear f_101_ws107
                have f_101_ws117 : ws117[101]? = some ((q108, Sum.inl (cI, 4097, Sum.inl (fun _ => 0))) : Nat × va_E) := by rw [e_ws117]; exact gs_app f_101_ws115
                clear f_101_ws115
                have f_101_ws119 : ws119[101]? = some ((q108, Sum.inl (cI, 4097, Sum.inl (fun _ => 0))) : Nat × va_E) := e_ws119.at (by first | decide | (simp; done) | (simp; omega)) f_101_ws117
                clear f_101_ws117
                have f_101_ws127 : ws127[101]? = some ((q108, Sum.inl (cI, 4097, Sum.inl (fun _ => 0))) : Nat × va_E) := by rw [e_ws127]; exact gs_ne (by decide) f_101_ws119
                clear f_101_ws119
                have f_101_ws128 : ws128[101]? = some ((q108, Sum.inl (cI, 4097, Sum.inl (fun _ => 0))) : Nat × va_E) := by rw [e_ws128]; exact gs_ne (by decide) f_101_ws127
                clear f_101_ws127
                have f_102_ws115 : ws115[102]? = some ((q109, Sum.inl (cI, 4097, Sum.inl (fun _ => 0))) : Nat × va_E) := by rw [e_ws115]; exact gs_ne (by decide) f_102_ws107
                clear f_102_ws107
                have f_102_ws117 : ws117[102]? = some ((q109, Sum.inl (cI, 4097, Sum.inl (fun _ => 0))) : Nat × va_E) := by rw [e_ws117]; exact gs_app f_102_ws115
                clear f_102_ws115
                have f_102_ws119 : ws119[102]? = some ((q109, Sum.inl (cI, 4097, Sum.inl (fun _ => 0))) : Nat × va_E) := e_ws119.at (by first | decide | (simp; done) | (simp; omega)) f_102_ws117
                clear f_102_ws117
                have f_102_ws127 : ws127[102]? = some ((q109, Sum.inl (cI, 4097, Sum.inl (fun _ => 0))) : Nat × va_E) := by rw [e_ws127]; exact gs_ne (by decide) f_102_ws119
                clear f_102_ws119
                have f_102_ws128 : ws128[102]? = some ((q109, Sum.inl (cI, 4097, Sum.inl (fun _ => 0))) : Nat × va_E) := by rw [e_ws128]; exact gs_ne (by decide) f_102_ws127
                clear f_102_ws127
                have f_103_ws115 : ws115[103]? = some ((q110, Sum.inl (cI, 4098, Sum.inl (fun _ => 0))) : Nat × va_E) := by rw [e_ws115]; exact gs_ne (by decide) f_103_ws107
                clear f_103_ws107
                have f_103_ws117 : ws117[103]? = some ((q110, Sum.inl (cI, 4098, Sum.inl (fun _ => 0))) : Nat × va_E) := by rw [e_ws117]; exact gs_app f_103_ws115
                clear f_103_ws115
                have f_103_ws119 : ws119[103]? = some ((q110, Sum.inl (cI, 4098, Sum.inl (fun _ => 0))) : Nat × va_E) := e_ws119.at (by first | decide | (simp; done) | (simp; omega)) f_103_ws117
                clear f_103_ws117
                have f_103_ws127 : ws127[103]? = some ((q110, Sum.inl (cI, 4098, Sum.inl (fun _ => 0))) : Nat × va_E) := by rw [e_ws127]; exact gs_ne (by decide) f_103_ws119
                clear f_103_ws119
                have f_103_ws128 : ws128[103]? = some ((q110, Sum.inl (cI, 4098, Sum.inl (fun _ => 0))) : Nat × va_E) := by rw [e_ws128]; exact gs_ne (by decide) f_103_ws127
                clear f_103_ws127
                have f_104_ws115 : ws115[104]? = some ((q111, Sum.inl (cI, 4097, Sum.inl (fun _ => 0))) : Nat × va_E) := by rw [e_ws115]; exact gs_ne (by decide) f_104_ws107
                clear f_104_ws107
                have f_104_ws117 : ws117[104]? = some ((q111, Sum.inl (cI, 4097, Sum.inl (fun _ => 0))) : Nat × va_E) := by rw [e_ws117]; exact gs_app f_104_ws115
                clear f_104_ws115
                have f_104_ws119 : ws119[104]? = some ((q111, Sum.inl (cI, 4097, Sum.inl (fun _ => 0))) : Nat × va_E) := e_ws119.at (by first | decide | (simp; done) | (simp; omega)) f_104_ws117
                clear f_104_ws117
                have f_104_ws127 : ws127[104]? = some ((q111, Sum.inl (cI, 4097, Sum.inl (fun _ => 0))) : Nat × va_E) := by rw [e_ws127]; exact gs_ne (by decide) f_104_ws119
                clear f_104_ws119
                have f_104_ws128 : ws128[104]? = some ((q111, Sum.inl (cI, 4097, Sum.inl (fun _ => 0))) : Nat × va_E) := by rw [e_ws128]; exact gs_ne (by decide) f_104_ws127
                clear f_104_ws127
                have f_105_ws115 : ws115[105]? = some ((q112, Sum.inl (cI, 4096, Sum.inl (fun _ => 0))) : Nat × va_E) := by rw [e_ws115]; exact gs_ne (by decide) f_105_ws107
                clear f_105_ws107
                have f_105_ws117 : ws117[105]? = some ((q112, Sum.inl (cI, 4096, Sum.inl (fun _ => 0))) : Nat × va_E) := by rw [e_ws117]; exact gs_app f_105_ws115
                clear f_105_ws115
                have f_105_ws119 : ws119[105]? = some ((q112, Sum.inl (cI, 4096, Sum.inl (fun _ => 0))) : Nat × va_E) := e_ws119.at (by first | decide | (simp; done) | (simp; omega)) f_105_ws117
                clear f_105_ws117
                have f_105_ws127 : ws127[105]? = some ((q112, Sum.inl (cI, 4096, Sum.inl (fun _ => 0))) : Nat × va_E) := by rw [e_ws127]; exact gs_ne (by decide) f_105_ws119
                clear f_105_ws119
                have f_105_ws128 : ws128[105]? = some ((q112, Sum.inl (cI, 4096, Sum.inl (fun _ => 0))) : Nat × va_E) := by rw [e_ws128]; exact gs_ne (by decide) f_105_ws127
                clear f_105_ws127
                have f_106_ws115 : ws115[106]? = some ((q113, Sum.inl (cZ, 4096, Sum.inl (fun _ => 0))) : Nat × va_E) := by rw [e_ws115]; exact gs_ne (by decide) f_106_ws107
                clear f_106_ws107
                have f_106_ws117 : ws117[106]? = some ((q113, Sum.inl (cZ, 4096, Sum.inl (fun _ => 0))) : Nat × va_E) := by rw [e_ws117]; exact gs_app f_106_ws115
                clear f_106_ws115
                have f_106_ws119 : ws119[106]? = some ((q113, Sum.inl (cZ, 4096, Sum.inl (fun _ => 0))) : Nat × va_E) := e_ws119.at (by first | decide | (simp; done) | (simp; omega)) f_106_ws117
                clear f_106_ws117
                have f_106_ws127 : ws127[106]? = some ((q113, Sum.inl (cZ, 4096, Sum.inl (fun _ => 0))) : Nat × va_E) := by rw [e_ws127]; exact gs_ne (by decide) f_106_ws119
                clear f_106_ws119
                have f_106_ws128 : ws128[106]? = some ((q113, Sum.inl (cZ, 4096, Sum.inl (fun _ => 0))) : Nat × va_E) := by rw [e_ws128]; exact gs_ne (by decide) f_106_ws127
                clear f_106_ws127
                have f_107_ws115 : ws115[107]? = some ((q114, Sum.inl (cZ, 4096, Sum.inl (fun _ => 0))) : Nat × va_E) := by rw [e_ws115]; exact gs_ne (by decide) f_107_ws107
                clear f_107_ws107
                have f_107_ws117 : ws117[107]? = some ((q114, Sum.inl (cZ, 4096, Sum.inl (fun _ => 0))) : Nat × va_E) := by rw [e_ws117]; exact gs_app f_107_ws115
                clear f_107_ws115
                have f_107_ws119 : ws119[107]? = some ((q114, Sum.inl (cZ, 4096, Sum.inl (fun _ => 0))) : Nat × va_E) := e_ws119.at (by first | decide | (simp; done) | (simp; omega)) f_107_ws117
                clear f_107_ws117
                have f_107_ws127 : ws127[107]? = some ((q114, Sum.inl (cZ, 4096, Sum.inl (fun _ => 0))) : Nat × va_E) := by rw [e_ws127]; exact gs_ne (by decide) f_107_ws119
                clear f_107_ws119
                have f_107_ws128 : ws128[107]? = some ((q114, Sum.inl (cZ, 4096, Sum.inl (fun _ => 0))) : Nat × va_E) := by rw [e_ws128]; exact gs_ne (by decide) f_107_ws127
                clear f_107_ws127
                have f_108_ws127 : ws127[108]? = some ((q116, Sum.inr (9, [Value.ref q120, Value.ref q121, Value.ref q122, Value.ref q123, Value.ref q124, Value.ref q125, Value.ref q126, Value.int 0, Value.int 0, Value.int 0, Value.int 0])) : Nat × va_E) := by rw [e_ws127]; exact gs_ne (by decide) f_108_ws119
                clear f_108_ws119
                have f_108_ws128 : ws128[108]? = some ((q116, Sum.inr (9, [Value.ref q120, Value.ref q121, Value.ref q122, Value.ref q123, Value.ref q124, Value.ref q125, Value.ref q126, Value.int 0, Value.int 0, Value.int 0, Value.int 0])) : Nat × va_E) := by rw [e_ws128]; exact gs_ne (by decide) f_108_ws127
                clear f_108_ws127
                have f_109_ws127 : ws127[109]? = some ((q120, Sum.inl (cI, 4097, Sum.inl (fun _ => 0))) : Nat × va_E) := by rw [e_ws127]; exact gs_ne (by decide) f_109_ws119
                clear f_109_ws119
                have f_109_ws128 : ws128[109]? = some ((q120, Sum.inl (cI, 4097, Sum.inl (fun _ => 0))) : Nat × va_E) := by rw [e_ws128]; exact gs_ne (by decide) f_109_ws127
                clear f_109_ws127
                have f_110_ws127 : ws127[110]? = some ((q121, Sum.inl (cI, 4097, Sum.inl (fun _ => 0))) : Nat × va_E) := by rw [e_ws127]; exact gs_ne (by decide) f_110_ws119
                clear f_110_ws119
                have f_110_ws128 : ws128[110]? = some ((q121, Sum.inl (cI, 4097, Sum.inl (fun _ => 0))) : Nat × va_E) := by rw [e_ws128]; exact gs_ne (by decide) f_110_ws127
                clear f_110_ws127
                have f_111_ws127 : ws127[111]? = some ((q122, Sum.inl (cI, 4098, Sum.inl (fun _ => 0))) : Nat × va_E) := by rw [e_ws127]; exact gs_ne (by decide) f_111_ws119
                clear f_111_ws119
                have f_111_ws128 : ws128[111]? = some ((q122, Sum.inl (cI, 4098, Sum.inl (fun _ => 0))) : Nat × va_E) := by rw [e_ws128]; exact gs_ne (by decide) f_111_ws127
                clear f_111_ws127
                have f_112_ws127 : ws127[112]? = some ((q123, Sum.inl (cI, 4097, Sum.inl (fun _ => 0))) : Nat × va_E) := by rw [e_ws127]; exact gs_ne (by decide) f_112_ws119
                clear f_112_ws119
                have f_112_ws128 : ws128[112]? = some ((q123, Sum.inl (cI, 4097, Sum.inl (fun _ => 0))) : Nat × va_E) := by rw [e_ws128]; exact gs_ne (by decide) f_112_ws127
                clear f_112_ws127
                have f_113_ws127 : ws127[113]? = some ((q124, Sum.inl (cI, 4096, Sum.inl (fun _ => 0))) : Nat × va_E) := by rw [e_ws127]; exact gs_ne (by decide) f_113_ws119
                clear f_113_ws119
                have f_113_ws128 : ws128[113]? = some ((q124, Sum.inl (cI, 4096, Sum.inl (fun _ => 0))) : Nat × va_E) := by rw [e_ws128]; exact gs_ne (by decide) f_113_ws127
                clear f_113_ws127
                have f_114_ws127 : ws127[114]? = some ((q125, Sum.inl (cZ, 4096, Sum.inl (fun _ => 0))) : Nat × va_E) := by rw [e_ws127]; exact gs_ne (by decide) f_114_ws119
                clear f_114_ws119
                have f_114_ws128 : ws128[114]? = some ((q125, Sum.inl (cZ, 4096, Sum.inl (fun _ => 0))) : Nat × va_E) := by rw [e_ws128]; exact gs_ne (by decide) f_114_ws127
                clear f_114_ws127
                have f_115_ws127 : ws127[115]? = some ((q126, Sum.inl (cZ, 4096, Sum.inl (fun _ => 0))) : Nat × va_E) := by rw [e_ws127]; exact gs_ne (by decide) f_115_ws119
                clear f_115_ws119
                have f_115_ws128 : ws128[115]? = some ((q126, Sum.inl (cZ, 4096, Sum.inl (fun _ => 0))) : Nat × va_E) := by rw [e_ws128]; exact gs_ne (by decide) f_115_ws127
                clear f_115_ws127
                obtain ⟨q, hq⟩ : ∃ q : Nat → Nat, q = fun k => ([a, q1, q4, q7, q10, q13, q16, q19, q23, q27, q28, q29, q30, q31, q32, q33, q35, q39, q40, q41, q42, q43, q44, q45, q47, q51, q52, q53, q54, q55, q56, q57, q59, q62, q69, q72, q75, q78, q80, q84, q85, q86, q87, q88, q89, q90, q92, q96, q97, q98, q99, q100, q101, q102, q104, q108, q109, q110, q111, q112, q113, q114, q116, q120, q121, q122, q123, q124, q125, q126] : List Nat).getD (k - 46) 0 := ⟨_, rfl⟩
                have e_q46 : a = q 46 := by rw [hq]; rfl
                have e_q47 : q1 = q 47 := by rw [hq]; rfl
                have e_q48 : q4 = q 48 := by rw [hq]; rfl
                have e_q49 : q7 = q 49 := by rw [hq]; rfl
                have e_q50 : q10 = q 50 := by rw [hq]; rfl
                have e_q51 : q13 = q 51 := by rw [hq]; rfl
                have e_q52 : q16 = q 52 := by rw [hq]; rfl
                have e_q53 : q19 = q 53 := by rw [hq]; rfl
                have e_q54 : q23 = q 54 := by rw [hq]; rfl
                have e_q55 : q27 = q 55 := by rw [hq]; rfl
                have e_q56 : q28 = q 56 := by rw [hq]; rfl
                have e_q57 : q29 = q 57 := by rw [hq]; rfl
                have e_q58 : q30 = q 58 := by rw [hq]; rfl
                have e_q59 : q31 = q 59 := by rw [hq]; rfl
                have e_q60 : q32 = q 60 := by rw [hq]; rfl
                have e_q61 : q33 = q 61 := by rw [hq]; rfl
                have e_q62 : q35 = q 62 := by rw [hq]; rfl
                have e_q63 : q39 = q 63 := by rw [hq]; rfl
                have e_q64 : q40 = q 64 := by rw [hq]; rfl
                have e_q65 : q41 = q 65 := by rw [hq]; rfl
                have e_q66 : q42 = q 66 := by rw [hq]; rfl
                have e_q67 : q43 = q 67 := by rw [hq]; rfl
                have e_q68 : q44 = q 68 := by rw [hq]; rfl
                have e_q69 : q45 = q 69 := by rw [hq]; rfl
                have e_q70 : q47 = q 70 := by rw [hq]; rfl
                have e_q71 : q51 = q 71 := by rw [hq]; rfl
                have e_q72 : q52 = q 72 := by rw [hq]; rfl
                have e_q73 : q53 = q 73 := by rw [hq]; rfl
                have e_q74 : q54 = q 74 := by rw [hq]; rfl
                have e_q75 : q55 = q 75 := by rw [hq]; rfl
                have e_q76 : q56 = q 76 := by rw [hq]; rfl
                have e_q77 : q57 = q 77 := by rw [hq]; rfl
                have e_q78 : q59 = q 78 := by rw [hq]; rfl
                have e_q79 : q62 = q 79 := by rw [hq]; rfl
                have e_q80 : q69 = q 80 := by rw [hq]; rfl
                have e_q81 : q72 = q 81 := by rw [hq]; rfl
                have e_q82 : q75 = q 82 := by rw [hq]; rfl
                have e_q83 : q78 = q 83 := by rw [hq]; rfl
                have e_q84 : q80 = q 84 := by rw [hq]; rfl
                have e_q85 : q84 = q 85 := by rw [hq]; rfl
                have e_q86 : q85 = q 86 := by rw [hq]; rfl
                have e_q87 : q86 = q 87 := by rw [hq]; rfl
                have e_q88 : q87 = q 88 := by rw [hq]; rfl
                have e_q89 : q88 = q 89 := by rw [hq]; rfl
                have e_q90 : q89 = q 90 := by rw [hq]; rfl
                have e_q91 : q90 = q 91 := by rw [hq]; rfl
                have e_q92 : q92 = q 92 := by rw [hq]; rfl
                have e_q93 : q96 = q 93 := by rw [hq]; rfl
                have e_q94 : q97 = q 94 := by rw [hq]; rfl
                have e_q95 : q98 = q 95 := by rw [hq]; rfl
                have e_q96 : q99 = q 96 := by rw [hq]; rfl
                have e_q97 : q100 = q 97 := by rw [hq]; rfl
                have e_q98 : q101 = q 98 := by rw [hq]; rfl
                have e_q99 : q102 = q 99 := by rw [hq]; rfl
                have e_q100 : q104 = q 100 := by rw [hq]; rfl
                have e_q101 : q108 = q 101 := by rw [hq]; rfl
                have e_q102 : q109 = q 102 := by rw [hq]; rfl
                have e_q103 : q110 = q 103 := by rw [hq]; rfl
                have e_q104 : q111 = q 104 := by rw [hq]; rfl
                have e_q105 : q112 = q 105 := by rw [hq]; rfl
                have e_q106 : q113 = q 106 := by rw [hq]; rfl
                have e_q107 : q114 = q 107 := by rw [hq]; rfl
                have e_q108 : q116 = q 108 := by rw [hq]; rfl
                have e_q109 : q120 = q 109 := by rw [hq]; rfl
                have e_q110 : q121 = q 110 := by rw [hq]; rfl
                have e_q111 : q122 = q 111 := by rw [hq]; rfl
                have e_q112 : q123 = q 112 := by rw [hq]; rfl
                have e_q113 : q124 = q 113 := by rw [hq]; rfl
                have e_q114 : q125 = q 114 := by rw [hq]; rfl
                have e_q115 : q126 = q 115 := by rw [hq]; rfl
                clear hq
                have g0 : mo_G0 cI cZ cV q (Value.ref q67) ws128 := by
                  unfold mo_G0
                  rw [← e_q46, ← e_q47, ← e_q48, ← e_q49, ← e_q50, ← e_q51, ← e_q52, ← e_q53, ← e_q54, ← e_q55, ← e_q56, ← e_q57, ← e_q58, ← e_q59, ← e_q60, ← e_q61, ← e_q62, ← e_q70, ← e_q78, ← e_q79, ← e_q80, ← e_q81, ← e_q82, ← e_q83]
                  exact ⟨f_46_ws128, f_47_ws128, f_48_ws128, f_49_ws128, f_50_ws128, f_51_ws128, f_52_ws128, f_53_ws128, f_54_ws128, f_55_ws128, f_56_ws128, f_57_ws128, f_58_ws128, f_59_ws128, f_60_ws128, f_61_ws128⟩
                have g1 : mo_G1 cI cZ cV q (Value.ref q67) ws128 := by
                  unfold mo_G1
                  rw [← e_q62, ← e_q63, ← e_q64, ← e_q65, ← e_q66, ← e_q67, ← e_q68, ← e_q69, ← e_q70, ← e_q71, ← e_q72, ← e_q73, ← e_q74, ← e_q75, ← e_q76, ← e_q77]
                  exact ⟨f_62_ws128, f_63_ws128, f_64_ws128, f_65_ws128, f_66_ws128, f_67_ws128, f_68_ws128, f_69_ws128, f_70_ws128, f_71_ws128, f_72_ws128, f_73_ws128, f_74_ws128, f_75_ws128, f_76_ws128, f_77_ws128⟩
                have g2 : mo_G2 cI cZ cV q (Value.ref q67) ws128 := by
                  unfold mo_G2
                  rw [← e_q78, ← e_q79, ← e_q80, ← e_q81, ← e_q82, ← e_q83, ← e_q84, ← e_q85, ← e_q86, ← e_q87, ← e_q88, ← e_q89, ← e_q90, ← e_q91, ← e_q92, ← e_q93, ← e_q94, ← e_q95, ← e_q96, ← e_q97, ← e_q98, ← e_q99, ← e_q100, ← e_q108]
                  exact ⟨f_78_ws128, f_79_ws128, f_80_ws128, f_81_ws128, f_82_ws128, f_83_ws128, f_84_ws128, f_85_ws128, f_86_ws128, f_87_ws128, f_88_ws128, f_89_ws128, f_90_ws128, f_91_ws128, f_92_ws128, f_93_ws128⟩
                have g3 : mo_G3 cI cZ cV q (Value.ref q67) ws128 := by
                  unfold mo_G3
                  rw [← e_q94, ← e_q95, ← e_q96, ← e_q97, ← e_q98, ← e_q99, ← e_q100, ← e_q101, ← e_q102, ← e_q103, ← e_q104, ← e_q105, ← e_q106, ← e_q107, ← e_q108, ← e_q109, ← e_q110, ← e_q111, ← e_q112, ← e_q113, ← e_q114, ← e_q115]
                  exact ⟨f_94_ws128, f_95_ws128, f_96_ws128, f_97_ws128, f_98_ws128, f_99_ws128, f_100_ws128, f_101_ws128, f_102_ws128, f_103_ws128, f_104_ws128, f_105_ws128, f_106_ws128, f_107_ws128, f_108_ws128, f_109_ws128⟩
                have g4 : mo_G4 cI cZ cV q (Value.ref q67) ws128 := by
                  unfold mo_G4
                  rw [← e_q110, ← e_q111, ← e_q112, ← e_q113, ← e_q114, ← e_q115]
                  exact ⟨f_110_ws128, f_111_ws128, f_112_ws128, f_113_ws128, f_114_ws128, f_115_ws128⟩
                exact gx_ret (W.vret hx hb hr (gx_post hP hK hD hS (by rw [← hPQ]; exact ⟨rfl, hU, q, (Value.ref q67), e_q46.symm, g0, g1, g2, g3, g4⟩)) hS.2.2 d_Mo_init_211)
              · obtain ⟨E9, ws129, ce, hp, hce, hP9, -, hD9, hS9⟩ := gx_backT h0_118 hW_118 hQ_118 hL_118 hD hS hA
                clear hQ_118 h0_118 hL_118 hW_118 hP hD hS
                have hP := hP9
                have hD := hD9
                have hS := hS9
                clear hP9 hD9 hS9
                rcases hp with ⟨q130, q131, q132, q133, q134, q135, q136, hv9, e_ws129, f_108_ws129, f_109_ws129, f_110_ws129, f_111_ws129, f_112_ws129, f_113_ws129, f_114_ws129, f_115_ws129⟩
                cases hv9
            · obtain ⟨E9, ws137, ce, hp, hce, hP9, -, hD9, hS9⟩ := gx_backT h0_106 hW_106 hQ_106 hL_106 hD hS hA
              clear hQ_106 h0_106 hL_106 hW_106 hP hD hS
              have hP := hP9
              have hD := hD9
              have hS := hS9
              clear hP9 hD9 hS9
              rcases hp with ⟨q138, q139, q140, q141, q142, q143, q144, hv9, e_ws137, f_100_ws137, f_101_ws137, f_102_ws137, f_103_ws137, f_104_ws137, f_105_ws137, f_106_ws137, f_107_ws137⟩
              cases hv9
          · obtain ⟨E9, ws145, ce, hp, hce, hP9, -, hD9, hS9⟩ := gx_backT h0_94 hW_94 hQ_94 hL_94 hD hS hA
            clear hQ_94 h0_94 hL_94 hW_94 hP hD hS
            have hP := hP9
            have hD := hD9
            have hS := hS9
            clear hP9 hD9 hS9
            rcases hp with ⟨q146, q147, q148, q149, q150, q151, q152, hv9, e_ws145, f_92_ws145, f_93_ws145, f_94_ws145, f_95_ws145, f_96_ws145, f_97_ws145, f_98_ws145, f_99_ws145⟩
            cases hv9
        · obtain ⟨E9, ws153, ce, hp, hce, hP9, -, hD9, hS9⟩ := gx_backT h0_82 hW_82 hQ_82 hL_82 hD hS hA
          clear hQ_82 h0_82 hL_82 hW_82 hP hD hS
          have hP := hP9
          have hD := hD9
          have hS := hS9
          clear hP9 hD9 hS9
          rcases hp with ⟨q154, q155, q156, q157, q158, q159, q160, hv9, e_ws153, f_84_ws153, f_85_ws153, f_86_ws153, f_87_ws153, f_88_ws153, f_89_ws153, f_90_ws153, f_91_ws153⟩
          cases hv9
      · obtain ⟨E9, ws161, ce, hp, hce, hP9, -, hD9, hS9⟩ := gx_backT h0_49 hW_49 hQ_49 hL_49 hD hS hA
        clear hQ_49 h0_49 hL_49 hW_49 hP hD hS
        have hP := hP9
        have hD := hD9
        have hS := hS9
        clear hP9 hD9 hS9
        rcases hp with ⟨q162, q163, q164, q165, q166, q167, q168, hv9, e_ws161, f_70_ws161, f_71_ws161, f_72_ws161, f_73_ws161, f_74_ws161, f_75_ws161, f_76_ws161, f_77_ws161⟩
        cases hv9
    · obtain ⟨E9, ws169, ce, hp, hce, hP9, -, hD9, hS9⟩ := gx_backT h0_37 hW_37 hQ_37 hL_37 hD hS hA
      clear hQ_37 h0_37 hL_37 hW_37 hP hD hS
      have hP := hP9
      have hD := hD9
      have hS := hS9
      clear hP9 hD9 hS9
      rcases hp with ⟨q170, q171, q172, q173, q174, q175, q176, hv9, e_ws169, f_62_ws169, f_63_ws169, f_64_ws169, f_65_ws169, f_66_ws169, f_67_ws169, f_68_ws169, f_69_ws169⟩
      cases hv9
  · obtain ⟨E9, ws177, ce, hp, hce, hP9, -, hD9, hS9⟩ := gx_backT h0_25 hW_25 hQ_25 hL_25 hD hS hA
    clear hQ_25 h0_25 hL_25 hW_25 hP hD hS
    have hP := hP9
    have hD := hD9
    have hS := hS9
    clear hP9 hD9 hS9
    rcases hp with ⟨q178, q179, q180, q181, q182, q183, q184, hv9, e_ws177, f_54_ws177, f_55_ws177, f_56_ws177, f_57_ws177, f_58_ws177, f_59_ws177, f_60_ws177, f_61_ws177⟩
    cases hv9
