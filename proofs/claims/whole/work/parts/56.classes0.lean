/-! THE LAW'S ENTRY: the classes and the array types as the tables have them. -/
theorem gx_arrP {args : Array Value} {s : State} {ty : FieldType} (h : (Cond.arrayClass ty).before args s = true) : ∃ cA : ClassId, ArrOfT s cA ty ∧ s.vm.findClass ("[" ++ ty.toString) = some cA := by
  obtain ⟨cA, kA, comp, h1, h2, h3⟩ := Cond.arrayClass_spec h
  exact ⟨cA, fun n z => ⟨fun k h => (by cases h), kA, h2, comp, h3⟩, h1⟩
theorem gx_arrO {args : Array Value} {s : State} {n : String} (h : (Cond.arrayOver (.object n)).before args s = true) : ∃ cA : ClassId, ArrOfT s cA (.object n) ∧ va_RA s cA (.object n) := by
  obtain ⟨comp, c, k, h1, -, h2, h3, h4⟩ := Cond.arrayOver_spec h
  exact ⟨c, fun n z => ⟨fun k h => (by cases h), k, h2, comp, h3⟩, ⟨k, comp, h2, h3, h1, h4⟩⟩
theorem gx_K0 {args : Array Value} {s : State} (hts : ∀ w ∈ gx_all, w.before args s = true) : ∃ (D : va_G) (cI cZ cF cM cR cV cJ cO : ClassId), va_K D classes [(cI, .int), (cZ, .boolean), (cF, .object "CommitLedger$LedgerFile"), (cM, .object "CommitLedger$Merge"), (cR, .object "CommitLedger$Reader"), (cV, .object "CommitLedgerModel$Version"), (cJ, .long), (cO, .object "java/lang/Object")] s ∧ gx_sT.eval args s none [] s = some (.ref (gx_av D)) ∧ gx_av D < s.heap.size := by
  obtain ⟨c0, i0, hk0⟩ := u_known (C := "CommitLedger") (T := F_Le) (N := 18) (n := 18) hts i_Le (hts _ kX_Le)
  obtain ⟨c1, i1, hk1⟩ := u_known (C := "CommitLedger$Entries") (T := F_En) (N := 4) (n := 4) hts i_En (hts _ kX_En)
  obtain ⟨c2, i2, hk2⟩ := u_known (C := "CommitLedger$Directory") (T := F_Di) (N := 4) (n := 4) hts i_Di (hts _ kX_Di)
  obtain ⟨c3, i3, hk3⟩ := u_known (C := "java/util/ArrayList") (T := F_Al) (N := 3) (n := 3) hts i_Al (hts _ kX_Al)
  obtain ⟨c4, i4, hk4⟩ := u_known (C := "CommitLedger$View") (T := F_Vi) (N := 6) (n := 6) hts i_Vi (hts _ kX_Vi)
  obtain ⟨c5, i5, hk5⟩ := u_known (C := "CommitLedger$Merge") (T := F_Me) (N := 4) (n := 4) hts i_Me (hts _ kX_Me)
  obtain ⟨c6, i6, hk6⟩ := u_known (C := "CommitLedger$Reader") (T := F_Re) (N := 3) (n := 3) hts i_Re (hts _ kX_Re)
  obtain ⟨c7, i7, hk7⟩ := u_known (C := "CommitLedger$LedgerFile") (T := F_Fi) (N := 7) (n := 7) hts i_Fi (hts _ kX_Fi)
  obtain ⟨c8, i8, hk8⟩ := u_known (C := "CommitLedgerModel") (T := F_Mo) (N := 35) (n := 35) hts i_Mo (hts _ kX_Mo)
  obtain ⟨c9, i9, hk9⟩ := u_known (C := "CommitLedgerModel$Version") (T := F_Ve) (N := 11) (n := 11) hts i_Ve (hts _ kX_Ve)
  obtain ⟨cI, a_cI, b_cI⟩ := gx_arrP (hts _ kA_int)
  obtain ⟨cZ, a_cZ, b_cZ⟩ := gx_arrP (hts _ kA_boolean)
  obtain ⟨cF, a_cF, b_cF⟩ := gx_arrO (hts _ kO_Fi)
  obtain ⟨cM, a_cM, b_cM⟩ := gx_arrO (hts _ kO_Me)
  obtain ⟨cR, a_cR, b_cR⟩ := gx_arrO (hts _ kO_Re)
  obtain ⟨cV, a_cV, b_cV⟩ := gx_arrO (hts _ kO_Ve)
  obtain ⟨cJ, a_cJ, b_cJ⟩ := gx_arrP (hts _ kA_long)
  obtain ⟨cO, a_cO, b_cO⟩ := gx_arrO (hts _ kO_Object)
  obtain ⟨av, hav, hal⟩ := gx_av0 hts
  refine ⟨(fun k => if k = 0 then c0 else if k = 1 then c1 else if k = 2 then c2 else if k = 3 then c3 else if k = 4 then c4 else if k = 5 then c5 else if k = 6 then c6 else if k = 7 then c7 else if k = 8 then c8 else c9, fun k => if k = 0 then i0 else if k = 1 then i1 else if k = 2 then i2 else if k = 3 then i3 else if k = 4 then i4 else if k = 5 then i5 else if k = 6 then i6 else if k = 7 then i7 else if k = 8 then i8 else if k = 9 then i9 else fun _ => av), cI, cZ, cF, cM, cR, cV, cJ, cO, ⟨?_, ?_⟩, hav, hal⟩
  · intro k q hq
    match k, hq with
    | 0, hq => cases hq; exact hk0
    | 1, hq => cases hq; exact hk1
    | 2, hq => cases hq; exact hk2
    | 3, hq => cases hq; exact hk3
    | 4, hq => cases hq; exact hk4
    | 5, hq => cases hq; exact hk5
    | 6, hq => cases hq; exact hk6
    | 7, hq => cases hq; exact hk7
    | 8, hq => cases hq; exact hk8
    | 9, hq => cases hq; exact hk9
    | k + 10, hq => simp [classes] at hq
  · intro k q hq
    match k, hq with
    | 0, hq => cases hq; exact ⟨a_cI, b_cI⟩
    | 1, hq => cases hq; exact ⟨a_cZ, b_cZ⟩
    | 2, hq => cases hq; exact ⟨a_cF, b_cF⟩
    | 3, hq => cases hq; exact ⟨a_cM, b_cM⟩
    | 4, hq => cases hq; exact ⟨a_cR, b_cR⟩
    | 5, hq => cases hq; exact ⟨a_cV, b_cV⟩
    | 6, hq => cases hq; exact ⟨a_cJ, b_cJ⟩
    | 7, hq => cases hq; exact ⟨a_cO, b_cO⟩
    | k + 8, hq => simp at hq
