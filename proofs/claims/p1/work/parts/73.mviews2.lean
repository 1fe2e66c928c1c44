/-! VIEWS over maps, further methods; rows printed by an own text program -/
theorem gv_more {Q : Nat → Prop} {a k : Nat} (h : ∀ i, a ≤ i → i < a + k → Q i) (hk : Q (a + k)) : ∀ i, a ≤ i → i < a + (k + 1) → Q i := fun i h1 h2 => by
  by_cases e9 : i = a + k
  · rw [e9]
    exact hk
  · exact h i h1 (by omega)
theorem gv_more0 {Q : Nat → Prop} {k : Nat} (h : ∀ i, i < k → Q i) (hk : Q k) : ∀ i, i < k + 1 → Q i := fun i h1 => by
  by_cases e9 : i = k
  · rw [e9]
    exact hk
  · exact h i (by omega)
set_option maxHeartbeats 4000000 in
set_option maxRecDepth 100000 in
theorem k_Vi_firstLive (l : Launch) (htr : l.stackTraces = false) (D : va_G) (tys : List (ClassId × FieldType)) (z sz : Nat) (ws : va_W) (h : gm_M) (hM : gm_S h ws) (cZ : ClassId) (cF : ClassId) (n : Nat) (a : Nat) (a1 : Nat) (a2 : Nat) (a3 : Nat) (u : Nat) (e0 : Value) (x5 : Int32) (g1 : Nat → Option Nat) (g2 : Nat → Option Nat) (f : Nat → Int32) (a0 : Nat) (b0 : Nat) (f_n : h n = some ((a, Sum.inr (4, [Value.ref a1, Value.ref a2, Value.ref a3, e0, Value.int (nI u), Value.int x5])) : Nat × va_E)) (f_n_1 : h (n + 1) = some ((a1, Sum.inl (cF, 4096, Sum.inr (Sum.inr (Sum.inr (Sum.inr g1))))) : Nat × va_E)) (f_n_2 : h (n + 2) = some ((a2, Sum.inl (cF, 4096, Sum.inr (Sum.inr (Sum.inr (Sum.inr g2))))) : Nat × va_E)) (f_n_3 : h (n + 3) = some ((a3, Sum.inl (cZ, 4096, Sum.inl f)) : Nat × va_E)) (ht1 : tys[1]? = some ((cZ, FieldType.boolean) : ClassId × FieldType)) (ht2 : tys[2]? = some ((cF, FieldType.object "CommitLedger$LedgerFile") : ClassId × FieldType)) (ha0 : a0 ≤ 4096) (hb0 : b0 ≤ 4096) : gx_Met l y_Vi_firstLive [Cond.code y_Vi_firstLive b_Vi_firstLive 4 (some .int)] { frames := 1, cells := 0, slots := 0, locals := 12 } (gx_P z sz D classes tys ws [Value.ref a, Value.int (nI a0), Value.int (nI b0)]) (gx_Q D classes tys (va_A ws sz) (gm_p (fun r h' => (∃ j1 : Nat, r = Sum.inl (some (Value.int (nI j1))) ∧ h' = h ∧ (a0 ≤ j1) ∧ (j1 < b0) ∧ (¬ f j1 = 0) ∧ (∀ i, a0 ≤ i → i < j1 → f i = 0)) ∨ (r = Sum.inl (some (Value.int (nI a0))) ∧ h' = h ∧ (∀ i, a0 ≤ i → i < b0 → f i = 0))))) 0 0 (va_A ws sz) := by
  refine gx_ofW (cc := b_Vi_firstLive) (maxL := 4) (ret := (some .int)) (by decide) rfl ?_
  intro p e s m args below meth c s₁ B hml hv
  obtain ⟨rfl, hsz, hz, hP, hK, hD0, hY⟩ := hv
  have hx := B.exec
  have hb := B.bytes
  have hr := B.returns
  have hts := hY.hts (#[Value.ref a, Value.int (nI a0), Value.int (nI b0)] : Array Value)
  have hown : s.vm.findClass "CommitLedger$View" = some m.cls := findClass_of_methodNamed B.named
  have hlocks := B.notSynchronized
  have hne : c.exceptionTable.isEmpty = true := B.noHandlers (atoms_spec (ws := [Cond.code y_Vi_firstLive b_Vi_firstLive 4 (some .int)]) B.pre _ List.mem_cons_self)
  subst hsz
  have hAz := gx_az hD0 hz
  have hD := hD0.self (sz := s.heap.size)
  have hN := gx_ns hP
  have hA : ∀ q : Nat, s.heap.size ≤ q → va_A ws s.heap.size q := fun q h => Or.inr h
  generalize va_A ws s.heap.size = A at hD hN hA hAz ⊢
  generalize hPQ : (fun (r : Option Value ⊕ String) (h' : gm_M) => (∃ j1 : Nat, r = Sum.inl (some (Value.int (nI j1))) ∧ h' = h ∧ (a0 ≤ j1) ∧ (j1 < b0) ∧ (¬ f j1 = 0) ∧ (∀ i, a0 ≤ i → i < j1 → f i = 0)) ∨ (r = Sum.inl (some (Value.int (nI a0))) ∧ h' = h ∧ (∀ i, a0 ≤ i → i < b0 → f i = 0))) = PQ
  have Z : gz D A s.heap h s.heap [] := ⟨ws, hM, hP, hD, va_S.rf⟩
  clear hP hD hM hD0
  have hU : gm_g h h [] := gm_g.rf
  have hl := lv_entry ([Value.ref a, Value.int (nI a0), Value.int (nI b0)]) (n := 4) (Nat.le_of_ble_eq_true rfl)
  rw [lg_entry_eq]
  generalize (lg_sl ([Value.ref a, Value.int (nI a0), Value.int (nI b0)]) ++ List.replicate (4 - (lg_sl ([Value.ref a, Value.int (nI a0), Value.int (nI b0)])).length) Slot.unset).toArray = ls at hl ⊢
  have hl : lv_has ls 4 [(0, Value.ref a), (1, Value.int (nI a0)), (2, Value.int (nI b0))] := hl
  refine lv_iload_n hx hb d_Vi_firstLive_0 rfl (lv_at hl 1 rfl) ?_
  refine lv_istore_n (lv' := [(3, Value.int (nI a0)), (0, Value.ref a), (1, Value.int (nI a0)), (2, Value.int (nI b0))]) hx hb d_Vi_firstLive_1 rfl hl (by decide) rfl (fun ls hl => ?_)
  have hl : lv_has ls 4 [(3, Value.int (nI (a0 + 0))), (0, Value.ref a), (1, Value.int (nI a0)), (2, Value.int (nI b0))] := hl
  refine gz_loop (N := (b0 - a0)) (pc := 2) (fun _ => 0) (fun _ => 0) (fun k h9 ls => h9 = h ∧ (∀ i, a0 ≤ i → i < a0 + k → f i = 0) ∧ lv_has ls 4 [(3, Value.int (nI (a0 + k))), (0, Value.ref a), (1, Value.int (nI a0)), (2, Value.int (nI b0))]) (fun k w1 H locs ls hk hI Z ih => ?_) (fun w1 H locs ls hI Z => ?_) ((b0 - a0)) 0 _ _ _ _ (Nat.zero_add _) ⟨rfl, fun i h1 h2 => absurd h1 (by omega), lv_sub hl [0, 1, 2, 3] rfl⟩ Z
  · obtain ⟨hU, hz, hl⟩ := hI
    rw [hU] at Z
    have hU : gm_g h h [] := gm_g.rf
    refine lv_iload_n hx hb d_Vi_firstLive_2 rfl (lv_at hl 0 rfl) ?_
    refine lv_iload_n hx hb d_Vi_firstLive_3 rfl (lv_at hl 3 rfl) ?_
    refine lv_icmp_ge (tgt := 24) hx hb d_Vi_firstLive_4 (by decide) (fun c9 => absurd c9 (nI_ge (by omega) (by omega))) (fun _ => ?_)
    refine lv_aload_n hx hb d_Vi_firstLive_7 rfl (lv_at hl 1 rfl) ?_
    refine gz_get (ci := 4) (v := Value.ref a3) (C := "CommitLedger$View") (T := F_Vi) (N := 6) hx hb hts i_Vi hown hK Z f_n rfl 2 (by decide) kf_Vi_20 rfl d_Vi_firstLive_8 ?_
    refine lv_iload_n hx hb d_Vi_firstLive_11 rfl (lv_at hl 0 rfl) ?_
    refine gz_zald (j := a0 + k) hx hb hK Z 1 f_n_3 ht1 ((by omega)) (rfl) (by decide) d_Vi_firstLive_12 ?_
    refine lv_if_eq (tgt := 18) hx hb d_Vi_firstLive_13 (by decide) (fun c13_3 => ?_) (fun c13_3 => ?_)
    · refine lv_iinc (v := nI ((a0 + k) + 1)) (lv' := [(3, Value.int (nI ((a0 + k) + 1))), (0, Value.ref a), (1, Value.int (nI a0)), (2, Value.int (nI b0))]) hx hb d_Vi_firstLive_18 hl (k := 0) rfl (show nI (a0 + k) + 1 = nI ((a0 + k) + 1) from nI_1 _) (by decide) rfl (fun ls hl => ?_)
      refine lv_goto (tgt := 2) hx hb d_Vi_firstLive_21 (by decide) ?_
      exact ih _ _ _ _ ⟨rfl, gv_more hz c13_3, lv_sub hl [0, 1, 2, 3] rfl⟩ Z
    · refine lv_iload_n hx hb d_Vi_firstLive_16 rfl (lv_at hl 0 rfl) ?_
      exact gz_iret (v := nI (a0 + k)) hx hb hr hlocks hK Z (by decide) (by decide) (by rw [← hPQ]; exact Or.inl ⟨(a0 + k), rfl, rfl, (by omega), (by omega), c13_3, hz⟩) d_Vi_firstLive_17
  · obtain ⟨hU, hz, hl⟩ := hI
    rw [hU] at Z
    have hU : gm_g h h [] := gm_g.rf
    refine lv_iload_n hx hb d_Vi_firstLive_2 rfl (lv_at hl 0 rfl) ?_
    refine lv_iload_n hx hb d_Vi_firstLive_3 rfl (lv_at hl 3 rfl) ?_
    refine lv_icmp_ge (tgt := 24) hx hb d_Vi_firstLive_4 (by decide) (fun _ => ?_) (fun c9 => absurd (nI_le (by omega) (by omega)) c9)
    refine lv_iload_n hx hb d_Vi_firstLive_24 rfl (lv_at hl 2 rfl) ?_
    exact gz_iret (v := nI a0) hx hb hr hlocks hK Z (by decide) (by decide) (by rw [← hPQ]; exact Or.inr (⟨rfl, rfl, (fun i h1 h2 => hz i h1 (by omega))⟩)) d_Vi_firstLive_25

set_option maxHeartbeats 4000000 in
set_option maxRecDepth 100000 in
theorem k_Vi_entriesInSegments (l : Launch) (htr : l.stackTraces = false) (D : va_G) (tys : List (ClassId × FieldType)) (z sz : Nat) (ws : va_W) (h : gm_M) (hM : gm_S h ws) (cZ : ClassId) (cF : ClassId) (n : Nat) (a : Nat) (a1 : Nat) (a2 : Nat) (a3 : Nat) (u : Nat) (e0 : Value) (x5 : Int32) (g1 : Nat → Option Nat) (g2 : Nat → Option Nat) (f : Nat → Int32) (sj : Nat → Nat) (P : Nat → Prop) (F : Nat → Nat → Nat) (f_n : h n = some ((a, Sum.inr (4, [Value.ref a1, Value.ref a2, Value.ref a3, e0, Value.int (nI u), Value.int x5])) : Nat × va_E)) (f_n_1 : h (n + 1) = some ((a1, Sum.inl (cF, 4096, Sum.inr (Sum.inr (Sum.inr (Sum.inr g1))))) : Nat × va_E)) (f_n_2 : h (n + 2) = some ((a2, Sum.inl (cF, 4096, Sum.inr (Sum.inr (Sum.inr (Sum.inr g2))))) : Nat × va_E)) (f_n_3 : h (n + 3) = some ((a3, Sum.inl (cZ, 4096, Sum.inl f)) : Nat × va_E)) (ht1 : tys[1]? = some ((cZ, FieldType.boolean) : ClassId × FieldType)) (ht2 : tys[2]? = some ((cF, FieldType.object "CommitLedger$LedgerFile") : ClassId × FieldType)) (fam : gf_F P F h) (hu : u ≤ 4096) (hsg : ∀ i, i < u → g1 i = some (sj i) ∧ P (sj i)) : gx_Met l y_Vi_entriesInSegments [Cond.code y_Vi_entriesInSegments b_Vi_entriesInSegments 3 (some .int)] { frames := 1, cells := 0, slots := 0, locals := 12 } (gx_P z sz D classes tys ws [Value.ref a]) (gx_Q D classes tys (va_A ws sz) (gm_p (fun r h' => (r = Sum.inl (some (Value.int (nI (gs_sum (fun i => F (sj i) 4) u)))) ∧ h' = h)))) 0 0 (va_A ws sz) := by
  refine gx_ofW (cc := b_Vi_entriesInSegments) (maxL := 3) (ret := (some .int)) (by decide) rfl ?_
  intro p e s m args below meth c s₁ B hml hv
  obtain ⟨rfl, hsz, hz, hP, hK, hD0, hY⟩ := hv
  have hx := B.exec
  have hb := B.bytes
  have hr := B.returns
  have hts := hY.hts (#[Value.ref a] : Array Value)
  have hown : s.vm.findClass "CommitLedger$View" = some m.cls := findClass_of_methodNamed B.named
  have hlocks := B.notSynchronized
  have hne : c.exceptionTable.isEmpty = true := B.noHandlers (atoms_spec (ws := [Cond.code y_Vi_entriesInSegments b_Vi_entriesInSegments 3 (some .int)]) B.pre _ List.mem_cons_self)
  subst hsz
  have hAz := gx_az hD0 hz
  have hD := hD0.self (sz := s.heap.size)
  have hN := gx_ns hP
  have hA : ∀ q : Nat, s.heap.size ≤ q → va_A ws s.heap.size q := fun q h => Or.inr h
  generalize va_A ws s.heap.size = A at hD hN hA hAz ⊢
  generalize hPQ : (fun (r : Option Value ⊕ String) (h' : gm_M) => (r = Sum.inl (some (Value.int (nI (gs_sum (fun i => F (sj i) 4) u)))) ∧ h' = h)) = PQ
  have Z : gz D A s.heap h s.heap [] := ⟨ws, hM, hP, hD, va_S.rf⟩
  clear hP hD hM hD0
  have hU : gm_g h h [] := gm_g.rf
  have hl := lv_entry ([Value.ref a]) (n := 3) (Nat.le_of_ble_eq_true rfl)
  rw [lg_entry_eq]
  generalize (lg_sl ([Value.ref a]) ++ List.replicate (3 - (lg_sl ([Value.ref a])).length) Slot.unset).toArray = ls at hl ⊢
  have hl : lv_has ls 3 [(0, Value.ref a)] := hl
  refine lv_iconst (v := 0) hx hb d_Vi_entriesInSegments_0 (by decide) ?_
  refine lv_istore_n (lv' := [(1, Value.int 0), (0, Value.ref a)]) hx hb d_Vi_entriesInSegments_1 rfl hl (by decide) rfl (fun ls hl => ?_)
  refine lv_iconst (v := 0) hx hb d_Vi_entriesInSegments_2 (by decide) ?_
  refine lv_istore_n (lv' := [(2, Value.int 0), (1, Value.int 0), (0, Value.ref a)]) hx hb d_Vi_entriesInSegments_3 rfl hl (by decide) rfl (fun ls hl => ?_)
  have hl : lv_has ls 3 [(2, Value.int (nI 0)), (1, Value.int (nI (gs_sum (fun i => F (sj i) 4) 0))), (0, Value.ref a)] := hl
  refine gz_loop (N := u) (pc := 4) (fun _ => 0) (fun _ => 0) (fun k h9 ls => h9 = h ∧ lv_has ls 3 [(2, Value.int (nI k)), (1, Value.int (nI (gs_sum (fun i => F (sj i) 4) k))), (0, Value.ref a)]) (fun k w1 H locs ls hk hI Z ih => ?_) (fun w1 H locs ls hI Z => ?_) (u) 0 _ _ _ _ (Nat.zero_add _) ⟨rfl, lv_sub hl [0, 1, 2] rfl⟩ Z
  · obtain ⟨hU, hl⟩ := hI
    rw [hU] at Z
    have hU : gm_g h h [] := gm_g.rf
    refine lv_iload_n hx hb d_Vi_entriesInSegments_4 rfl (lv_at hl 0 rfl) ?_
    refine lv_aload_n hx hb d_Vi_entriesInSegments_5 rfl (lv_at hl 2 rfl) ?_
    refine gz_get (ci := 4) (v := Value.int (nI u)) (C := "CommitLedger$View") (T := F_Vi) (N := 6) hx hb hts i_Vi hown hK Z f_n rfl 4 (by decide) kf_Vi_24 rfl d_Vi_entriesInSegments_6 ?_
    refine lv_icmp_ge (tgt := 30) hx hb d_Vi_entriesInSegments_9 (by decide) (fun c9 => absurd c9 (nI_ge hk (by omega))) (fun _ => ?_)
    refine lv_iload_n hx hb d_Vi_entriesInSegments_12 rfl (lv_at hl 1 rfl) ?_
    refine lv_aload_n hx hb d_Vi_entriesInSegments_13 rfl (lv_at hl 2 rfl) ?_
    refine gz_get (ci := 4) (v := Value.ref a1) (C := "CommitLedger$View") (T := F_Vi) (N := 6) hx hb hts i_Vi hown hK Z f_n rfl 0 (by decide) kf_Vi_11 rfl d_Vi_entriesInSegments_14 ?_
    refine lv_iload_n hx hb d_Vi_entriesInSegments_17 rfl (lv_at hl 0 rfl) ?_
    refine gz_aald (v := Value.ref (sj k)) (j := k) hx hb hK Z 2 f_n_1 ht2 (by omega) (rfl) (by decide) (by rw [(hsg k (hk)).1]; rfl) d_Vi_entriesInSegments_18 ?_
    refine gz_get (ci := 7) (v := Value.int (nI (F (sj k) 4))) (C := "CommitLedger$LedgerFile") (T := F_Fi) (N := 7) hx hb hts i_Fi hown hK Z (fam (sj k) (hsg k (hk)).2) rfl 4 (by decide) kf_Vi_55 rfl d_Vi_entriesInSegments_19 ?_
    refine lv_iadd hx hb d_Vi_entriesInSegments_22 ?_
    refine gx_topi (y := nI ((gs_sum (fun i => F (sj i) 4) k) + (F (sj k) 4))) (nI_add _ _) ?_
    refine lv_istore_n (lv' := [(1, Value.int (nI ((gs_sum (fun i => F (sj i) 4) k) + (F (sj k) 4)))), (2, Value.int (nI k)), (0, Value.ref a)]) hx hb d_Vi_entriesInSegments_23 rfl hl (by decide) rfl (fun ls hl => ?_)
    refine lv_iinc (v := nI (k + 1)) (lv' := [(2, Value.int (nI (k + 1))), (1, Value.int (nI ((gs_sum (fun i => F (sj i) 4) k) + (F (sj k) 4)))), (0, Value.ref a)]) hx hb d_Vi_entriesInSegments_24 hl (k := 1) rfl (show nI k + 1 = nI (k + 1) from nI_1 _) (by decide) rfl (fun ls hl => ?_)
    refine lv_goto (tgt := 4) hx hb d_Vi_entriesInSegments_27 (by decide) ?_
    exact ih _ _ _ _ ⟨rfl, lv_sub hl [0, 1, 2] rfl⟩ Z
  · obtain ⟨hU, hl⟩ := hI
    rw [hU] at Z
    have hU : gm_g h h [] := gm_g.rf
    refine lv_iload_n hx hb d_Vi_entriesInSegments_4 rfl (lv_at hl 0 rfl) ?_
    refine lv_aload_n hx hb d_Vi_entriesInSegments_5 rfl (lv_at hl 2 rfl) ?_
    refine gz_get (ci := 4) (v := Value.int (nI u)) (C := "CommitLedger$View") (T := F_Vi) (N := 6) hx hb hts i_Vi hown hK Z f_n rfl 4 (by decide) kf_Vi_24 rfl d_Vi_entriesInSegments_6 ?_
    refine lv_icmp_ge (tgt := 30) hx hb d_Vi_entriesInSegments_9 (by decide) (fun _ => ?_) (fun c9 => absurd (nI_le (Nat.le_refl _) (by omega)) c9)
    refine lv_iload_n hx hb d_Vi_entriesInSegments_30 rfl (lv_at hl 1 rfl) ?_
    exact gz_iret (v := nI (gs_sum (fun i => F (sj i) 4) u)) hx hb hr hlocks hK Z (by decide) (by decide) (by rw [← hPQ]; exact ⟨rfl, rfl⟩) d_Vi_entriesInSegments_31

set_option maxHeartbeats 4000000 in
set_option maxRecDepth 100000 in
theorem k_Vi_needSegments (l : Launch) (htr : l.stackTraces = false) (D : va_G) (tys : List (ClassId × FieldType)) (z sz : Nat) (ws : va_W) (h : gm_M) (hM : gm_S h ws) (cZ : ClassId) (cF : ClassId) (n : Nat) (a : Nat) (a1 : Nat) (a2 : Nat) (a3 : Nat) (u : Nat) (e0 : Value) (x5 : Int32) (g1 : Nat → Option Nat) (g2 : Nat → Option Nat) (f : Nat → Int32) (sj : Nat → Nat) (P : Nat → Prop) (F : Nat → Nat → Nat) (f_n : h n = some ((a, Sum.inr (4, [Value.ref a1, Value.ref a2, Value.ref a3, e0, Value.int (nI u), Value.int x5])) : Nat × va_E)) (f_n_1 : h (n + 1) = some ((a1, Sum.inl (cF, 4096, Sum.inr (Sum.inr (Sum.inr (Sum.inr g1))))) : Nat × va_E)) (f_n_2 : h (n + 2) = some ((a2, Sum.inl (cF, 4096, Sum.inr (Sum.inr (Sum.inr (Sum.inr g2))))) : Nat × va_E)) (f_n_3 : h (n + 3) = some ((a3, Sum.inl (cZ, 4096, Sum.inl f)) : Nat × va_E)) (ht1 : tys[1]? = some ((cZ, FieldType.boolean) : ClassId × FieldType)) (ht2 : tys[2]? = some ((cF, FieldType.object "CommitLedger$LedgerFile") : ClassId × FieldType)) (fam : gf_F P F h) (hu : u ≤ 4096) (hn : n + 3 < 1000) (hsg : ∀ i, i < u → g1 i = some (sj i) ∧ P (sj i)) : gx_Met l y_Vi_needSegments [Cond.code y_Vi_needSegments b_Vi_needSegments 2 none] { frames := 2, cells := 0, slots := 0, locals := 32 } (gx_P z sz D classes tys ws [Value.ref a]) (gx_Q D classes tys (va_A ws sz) (gm_p (fun r h' => (r = Sum.inl none ∧ gm_f h h' [] ∧ gf_F P (gn_seg F sj u) h')))) 0 0 (va_A ws sz) := by
  refine gx_ofW (cc := b_Vi_needSegments) (maxL := 2) (ret := none) (by decide) rfl ?_
  intro p e s m args below meth c s₁ B hml hv
  obtain ⟨rfl, hsz, hz, hP, hK, hD0, hY⟩ := hv
  have hx := B.exec
  have hb := B.bytes
  have hr := B.returns
  have hts := hY.hts (#[Value.ref a] : Array Value)
  have hown : s.vm.findClass "CommitLedger$View" = some m.cls := findClass_of_methodNamed B.named
  have hlocks := B.notSynchronized
  have hne : c.exceptionTable.isEmpty = true := B.noHandlers (atoms_spec (ws := [Cond.code y_Vi_needSegments b_Vi_needSegments 2 none]) B.pre _ List.mem_cons_self)
  subst hsz
  have hAz := gx_az hD0 hz
  have hD := hD0.self (sz := s.heap.size)
  have hN := gx_ns hP
  have hA : ∀ q : Nat, s.heap.size ≤ q → va_A ws s.heap.size q := fun q h => Or.inr h
  generalize va_A ws s.heap.size = A at hD hN hA hAz ⊢
  generalize hPQ : (fun (r : Option Value ⊕ String) (h' : gm_M) => (r = Sum.inl none ∧ gm_f h h' [] ∧ gf_F P (gn_seg F sj u) h')) = PQ
  have Z : gz D A s.heap h s.heap [] := ⟨ws, hM, hP, hD, va_S.rf⟩
  clear hP hD hM hD0
  have hU : gm_f h h [] := gm_f.rf
  have hl := lv_entry ([Value.ref a]) (n := 2) (Nat.le_of_ble_eq_true rfl)
  rw [lg_entry_eq]
  generalize (lg_sl ([Value.ref a]) ++ List.replicate (2 - (lg_sl ([Value.ref a])).length) Slot.unset).toArray = ls at hl ⊢
  have hl : lv_has ls 2 [(0, Value.ref a)] := hl
  refine lv_iconst (v := 0) hx hb d_Vi_needSegments_0 (by decide) ?_
  refine lv_istore_n (lv' := [(1, Value.int 0), (0, Value.ref a)]) hx hb d_Vi_needSegments_1 rfl hl (by decide) rfl (fun ls hl => ?_)
  have fam_n : gf_F P (gn_seg F sj 0) h := by skip; exact fam
  refine gz_loop (N := u) (pc := 2) (fun _ => 0) (fun _ => 0) (fun k h9 ls => gm_f h h9 [] ∧ gf_F P (gn_seg F sj k) h9 ∧ lv_has ls 2 [(1, Value.int (nI k)), (0, Value.ref a)]) (fun k w1 H locs ls hk hI Z ih => ?_) (fun w1 H locs ls hI Z => ?_) (u) 0 _ _ _ _ (Nat.zero_add _) ⟨hU, fam_n, lv_sub hl [0, 1] rfl⟩ Z
  · obtain ⟨hU, fam_w1, hl⟩ := hI
    have e_w1 := hU
    refine lv_iload_n hx hb d_Vi_needSegments_2 rfl (lv_at hl 0 rfl) ?_
    refine lv_aload_n hx hb d_Vi_needSegments_3 rfl (lv_at hl 1 rfl) ?_
    have f_n_w1 : w1 n = some ((a, Sum.inr (4, [Value.ref a1, Value.ref a2, Value.ref a3, e0, Value.int (nI u), Value.int x5])) : Nat × va_E) := e_w1.at f_n (by first | decide | (simp; done) | (simp; omega))
    refine gz_get (ci := 4) (v := Value.int (nI u)) (C := "CommitLedger$View") (T := F_Vi) (N := 6) hx hb hts i_Vi hown hK Z f_n_w1 rfl 4 (by decide) kf_Vi_24 rfl d_Vi_needSegments_4 ?_
    refine lv_icmp_ge (tgt := 25) hx hb d_Vi_needSegments_7 (by decide) (fun c9 => absurd c9 (nI_ge hk (by omega))) (fun _ => ?_)
    refine lv_aload_n hx hb d_Vi_needSegments_10 rfl (lv_at hl 1 rfl) ?_
    refine gz_get (ci := 4) (v := Value.ref a1) (C := "CommitLedger$View") (T := F_Vi) (N := 6) hx hb hts i_Vi hown hK Z f_n_w1 rfl 0 (by decide) kf_Vi_11 rfl d_Vi_needSegments_11 ?_
    refine lv_iload_n hx hb d_Vi_needSegments_14 rfl (lv_at hl 0 rfl) ?_
    have f_n_1_w1 : w1 (n + 1) = some ((a1, Sum.inl (cF, 4096, Sum.inr (Sum.inr (Sum.inr (Sum.inr g1))))) : Nat × va_E) := e_w1.at f_n_1 (by first | decide | (simp; done) | (simp; omega))
    refine gz_aald (v := Value.ref (sj k)) (j := k) hx hb hK Z 2 f_n_1_w1 ht2 (by omega) (rfl) (by decide) (by rw [(hsg k (hk)).1]; rfl) d_Vi_needSegments_15 ?_
    refine gz_call (ig := .invokestatic 69) (av := [Value.ref (sj k)]) Z (fun ws hM => k_Le_need l htr D tys z _ ws w1 hM (sj k) P (gn_seg F sj k) fam_w1 (hsg k (hk)).2) (gx_invSN (As := [Value.ref (sj k)]) (rest := []) hx hb hown hts km_Vi_69 kS_Le_need kN_Le kc_Le_need (by decide) (show (parseMethodDescriptor y_Le_need.desc).map (fun d => d.parameters.length) = some 1 by decide +kernel) rfl rfl d_Vi_needSegments_16) (gx_cw (z := 0) hts kc_Le_need kN_Le rfl rfl ⟨Nat.le_of_ble_eq_true rfl, Nat.le_of_ble_eq_true rfl⟩) hb hml hz hK hY hAz hA hl.1 (lv_room (Nat.le_of_ble_eq_true rfl)) d_Vi_needSegments_16 ⟨Nat.le_of_ble_eq_true rfl, Nat.le_of_ble_eq_true rfl⟩ (fun v3 h4 H locs hp Z => ?_) (fun x3 E9 ce h4 H locs hp hce Z => ?_)
    · rcases hp with ⟨hv9, e_h4, fam_h4⟩
      cases hv9
      replace hU : gm_f h h4 [] := hU.call e_h4 (by first | decide | (simp; done) | (simp; omega))
      refine W.eq (g2 := F0 m 19 ls []) rfl ?_
      refine lv_iinc (v := nI (k + 1)) (lv' := [(1, Value.int (nI (k + 1))), (0, Value.ref a)]) hx hb d_Vi_needSegments_19 hl (k := 0) rfl (show nI k + 1 = nI (k + 1) from nI_1 _) (by decide) rfl (fun ls hl => ?_)
      refine lv_goto (tgt := 2) hx hb d_Vi_needSegments_22 (by decide) ?_
      have fam_n : gf_F P (gn_seg F sj (k + 1)) h4 := by skip; exact fam_h4
      exact ih _ _ _ _ ⟨hU, fam_n, lv_sub hl [0, 1] rfl⟩ Z
    · rcases hp with ⟨hv9, e_h4, fam_h4⟩
      cases hv9
  · obtain ⟨hU, fam_w1, hl⟩ := hI
    have e_w1 := hU
    refine lv_iload_n hx hb d_Vi_needSegments_2 rfl (lv_at hl 0 rfl) ?_
    refine lv_aload_n hx hb d_Vi_needSegments_3 rfl (lv_at hl 1 rfl) ?_
    have f_n_w1 : w1 n = some ((a, Sum.inr (4, [Value.ref a1, Value.ref a2, Value.ref a3, e0, Value.int (nI u), Value.int x5])) : Nat × va_E) := e_w1.at f_n (by first | decide | (simp; done) | (simp; omega))
    refine gz_get (ci := 4) (v := Value.int (nI u)) (C := "CommitLedger$View") (T := F_Vi) (N := 6) hx hb hts i_Vi hown hK Z f_n_w1 rfl 4 (by decide) kf_Vi_24 rfl d_Vi_needSegments_4 ?_
    refine lv_icmp_ge (tgt := 25) hx hb d_Vi_needSegments_7 (by decide) (fun _ => ?_) (fun c9 => absurd (nI_le (Nat.le_refl _) (by omega)) c9)
    exact gz_vret hx hb hr hlocks hK Z (by decide) (by decide) (by rw [← hPQ]; exact ⟨rfl, hU, fam_w1⟩) d_Vi_needSegments_25

set_option maxHeartbeats 4000000 in
set_option maxRecDepth 100000 in
theorem k_Vi_needListsAndOwn_n (l : Launch) (htr : l.stackTraces = false) (D : va_G) (tys : List (ClassId × FieldType)) (z sz : Nat) (ws : va_W) (h : gm_M) (hM : gm_S h ws) (cZ : ClassId) (cF : ClassId) (n : Nat) (a : Nat) (a1 : Nat) (a2 : Nat) (a3 : Nat) (u : Nat) (x5 : Int32) (g1 : Nat → Option Nat) (g2 : Nat → Option Nat) (f : Nat → Int32) (P : Nat → Prop) (F : Nat → Nat → Nat) (f_n : h n = some ((a, Sum.inr (4, [Value.ref a1, Value.ref a2, Value.ref a3, Value.null, Value.int (nI u), Value.int x5])) : Nat × va_E)) (f_n_1 : h (n + 1) = some ((a1, Sum.inl (cF, 4096, Sum.inr (Sum.inr (Sum.inr (Sum.inr g1))))) : Nat × va_E)) (f_n_2 : h (n + 2) = some ((a2, Sum.inl (cF, 4096, Sum.inr (Sum.inr (Sum.inr (Sum.inr g2))))) : Nat × va_E)) (f_n_3 : h (n + 3) = some ((a3, Sum.inl (cZ, 4096, Sum.inl f)) : Nat × va_E)) (ht1 : tys[1]? = some ((cZ, FieldType.boolean) : ClassId × FieldType)) (ht2 : tys[2]? = some ((cF, FieldType.object "CommitLedger$LedgerFile") : ClassId × FieldType)) (fam : gf_F P F h) (hu : u ≤ 4096) (hn : n + 3 < 1000) (hli : ∀ i, i < u → g2 i = none ∨ ∃ x, g2 i = some x ∧ P x) : gx_Met l y_Vi_needListsAndOwn [Cond.code y_Vi_needListsAndOwn b_Vi_needListsAndOwn 2 none] { frames := 2, cells := 0, slots := 0, locals := 32 } (gx_P z sz D classes tys ws [Value.ref a]) (gx_Q D classes tys (va_A ws sz) (gm_p (fun r h' => (r = Sum.inl none ∧ gm_f h h' [] ∧ gf_F P (gn_li F g2 u) h')))) 0 0 (va_A ws sz) := by
  refine gx_ofW (cc := b_Vi_needListsAndOwn) (maxL := 2) (ret := none) (by decide) rfl ?_
  intro p e s m args below meth c s₁ B hml hv
  obtain ⟨rfl, hsz, hz, hP, hK, hD0, hY⟩ := hv
  have hx := B.exec
  have hb := B.bytes
  have hr := B.returns
  have hts := hY.hts (#[Value.ref a] : Array Value)
  have hown : s.vm.findClass "CommitLedger$View" = some m.cls := findClass_of_methodNamed B.named
  have hlocks := B.notSynchronized
  have hne : c.exceptionTable.isEmpty = true := B.noHandlers (atoms_spec (ws := [Cond.code y_Vi_needListsAndOwn b_Vi_needListsAndOwn 2 none]) B.pre _ List.mem_cons_self)
  subst hsz
  have hAz := gx_az hD0 hz
  have hD := hD0.self (sz := s.heap.size)
  have hN := gx_ns hP
  have hA : ∀ q : Nat, s.heap.size ≤ q → va_A ws s.heap.size q := fun q h => Or.inr h
  generalize va_A ws s.heap.size = A at hD hN hA hAz ⊢
  generalize hPQ : (fun (r : Option Value ⊕ String) (h' : gm_M) => (r = Sum.inl none ∧ gm_f h h' [] ∧ gf_F P (gn_li F g2 u) h')) = PQ
  have Z : gz D A s.heap h s.heap [] := ⟨ws, hM, hP, hD, va_S.rf⟩
  clear hP hD hM hD0
  have hU : gm_f h h [] := gm_f.rf
  have hl := lv_entry ([Value.ref a]) (n := 2) (Nat.le_of_ble_eq_true rfl)
  rw [lg_entry_eq]
  generalize (lg_sl ([Value.ref a]) ++ List.replicate (2 - (lg_sl ([Value.ref a])).length) Slot.unset).toArray = ls at hl ⊢
  have hl : lv_has ls 2 [(0, Value.ref a)] := hl
  refine lv_iconst (v := 0) hx hb d_Vi_needListsAndOwn_0 (by decide) ?_
  refine lv_istore_n (lv' := [(1, Value.int 0), (0, Value.ref a)]) hx hb d_Vi_needListsAndOwn_1 rfl hl (by decide) rfl (fun ls hl => ?_)
  have fam_n : gf_F P (gn_li F g2 0) h := by skip; exact fam
  refine gz_loop (N := u) (pc := 2) (fun _ => 0) (fun _ => 0) (fun k h9 ls => gm_f h h9 [] ∧ gf_F P (gn_li F g2 k) h9 ∧ lv_has ls 2 [(1, Value.int (nI k)), (0, Value.ref a)]) (fun k w1 H locs ls hk hI Z ih => ?_) (fun w1 H locs ls hI Z => ?_) (u) 0 _ _ _ _ (Nat.zero_add _) ⟨hU, fam_n, lv_sub hl [0, 1] rfl⟩ Z
  · obtain ⟨hU, fam_w1, hl⟩ := hI
    have e_w1 := hU
    refine lv_iload_n hx hb d_Vi_needListsAndOwn_2 rfl (lv_at hl 0 rfl) ?_
    refine lv_aload_n hx hb d_Vi_needListsAndOwn_3 rfl (lv_at hl 1 rfl) ?_
    have f_n_w1 : w1 n = some ((a, Sum.inr (4, [Value.ref a1, Value.ref a2, Value.ref a3, Value.null, Value.int (nI u), Value.int x5])) : Nat × va_E) := e_w1.at f_n (by first | decide | (simp; done) | (simp; omega))
    refine gz_get (ci := 4) (v := Value.int (nI u)) (C := "CommitLedger$View") (T := F_Vi) (N := 6) hx hb hts i_Vi hown hK Z f_n_w1 rfl 4 (by decide) kf_Vi_24 rfl d_Vi_needListsAndOwn_4 ?_
    refine lv_icmp_ge (tgt := 25) hx hb d_Vi_needListsAndOwn_7 (by decide) (fun c9 => absurd c9 (nI_ge hk (by omega))) (fun _ => ?_)
    refine lv_aload_n hx hb d_Vi_needListsAndOwn_10 rfl (lv_at hl 1 rfl) ?_
    refine gz_get (ci := 4) (v := Value.ref a2) (C := "CommitLedger$View") (T := F_Vi) (N := 6) hx hb hts i_Vi hown hK Z f_n_w1 rfl 1 (by decide) kf_Vi_17 rfl d_Vi_needListsAndOwn_11 ?_
    refine lv_iload_n hx hb d_Vi_needListsAndOwn_14 rfl (lv_at hl 0 rfl) ?_
    have f_n_2_w1 : w1 (n + 2) = some ((a2, Sum.inl (cF, 4096, Sum.inr (Sum.inr (Sum.inr (Sum.inr g2))))) : Nat × va_E) := e_w1.at f_n_2 (by first | decide | (simp; done) | (simp; omega))
    rcases hli k (hk) with q9_3 | ⟨x3, q9_3, q8_3⟩
    · refine gz_aald (v := Value.null) (j := k) hx hb hK Z 2 f_n_2_w1 ht2 (by omega) (rfl) (by decide) (by rw [q9_3]; rfl) d_Vi_needListsAndOwn_15 ?_
      refine gz_call (ig := .invokestatic 69) (av := [Value.null]) Z (fun ws hM => k_Le_need_null l htr D tys z _ ws w1 hM) (gx_invSN (As := [Value.null]) (rest := []) hx hb hown hts km_Vi_69 kS_Le_need kN_Le kc_Le_need (by decide) (show (parseMethodDescriptor y_Le_need.desc).map (fun d => d.parameters.length) = some 1 by decide +kernel) rfl rfl d_Vi_needListsAndOwn_16) (gx_cw (z := 0) hts kc_Le_need kN_Le rfl rfl ⟨Nat.le_of_ble_eq_true rfl, Nat.le_of_ble_eq_true rfl⟩) hb hml hz hK hY hAz hA hl.1 (lv_room (Nat.le_of_ble_eq_true rfl)) d_Vi_needListsAndOwn_16 ⟨Nat.le_of_ble_eq_true rfl, Nat.le_of_ble_eq_true rfl⟩ (fun v4 h5 H locs hp Z => ?_) (fun x4 E9 ce h5 H locs hp hce Z => ?_)
      · rcases hp with ⟨hv9, e_h5⟩
        cases hv9
        rw [e_h5] at Z
        refine W.eq (g2 := F0 m 19 ls []) rfl ?_
        refine lv_iinc (v := nI (k + 1)) (lv' := [(1, Value.int (nI (k + 1))), (0, Value.ref a)]) hx hb d_Vi_needListsAndOwn_19 hl (k := 0) rfl (show nI k + 1 = nI (k + 1) from nI_1 _) (by decide) rfl (fun ls hl => ?_)
        refine lv_goto (tgt := 2) hx hb d_Vi_needListsAndOwn_22 (by decide) ?_
        have fam_n : gf_F P (gn_li F g2 (k + 1)) w1 := by show gf_F P (gn_opt (gn_li F g2 k) (g2 k)) w1; rw [q9_3]; exact fam_w1
        exact ih _ _ _ _ ⟨hU, fam_n, lv_sub hl [0, 1] rfl⟩ Z
      · rcases hp with ⟨hv9, e_h5⟩
        cases hv9
    · refine gz_aald (v := Value.ref x3) (j := k) hx hb hK Z 2 f_n_2_w1 ht2 (by omega) (rfl) (by decide) (by rw [q9_3]; rfl) d_Vi_needListsAndOwn_15 ?_
      refine gz_call (ig := .invokestatic 69) (av := [Value.ref x3]) Z (fun ws hM => k_Le_need l htr D tys z _ ws w1 hM x3 P (gn_li F g2 k) fam_w1 q8_3) (gx_invSN (As := [Value.ref x3]) (rest := []) hx hb hown hts km_Vi_69 kS_Le_need kN_Le kc_Le_need (by decide) (show (parseMethodDescriptor y_Le_need.desc).map (fun d => d.parameters.length) = some 1 by decide +kernel) rfl rfl d_Vi_needListsAndOwn_16) (gx_cw (z := 0) hts kc_Le_need kN_Le rfl rfl ⟨Nat.le_of_ble_eq_true rfl, Nat.le_of_ble_eq_true rfl⟩) hb hml hz hK hY hAz hA hl.1 (lv_room (Nat.le_of_ble_eq_true rfl)) d_Vi_needListsAndOwn_16 ⟨Nat.le_of_ble_eq_true rfl, Nat.le_of_ble_eq_true rfl⟩ (fun v6 h7 H locs hp Z => ?_) (fun x6 E9 ce h7 H locs hp hce Z => ?_)
      · rcases hp with ⟨hv9, e_h7, fam_h7⟩
        cases hv9
        replace hU : gm_f h h7 [] := hU.call e_h7 (by first | decide | (simp; done) | (simp; omega))
        refine W.eq (g2 := F0 m 19 ls []) rfl ?_
        refine lv_iinc (v := nI (k + 1)) (lv' := [(1, Value.int (nI (k + 1))), (0, Value.ref a)]) hx hb d_Vi_needListsAndOwn_19 hl (k := 0) rfl (show nI k + 1 = nI (k + 1) from nI_1 _) (by decide) rfl (fun ls hl => ?_)
        refine lv_goto (tgt := 2) hx hb d_Vi_needListsAndOwn_22 (by decide) ?_
        have fam_n : gf_F P (gn_li F g2 (k + 1)) h7 := by show gf_F P (gn_opt (gn_li F g2 k) (g2 k)) h7; rw [q9_3]; exact fam_h7
        exact ih _ _ _ _ ⟨hU, fam_n, lv_sub hl [0, 1] rfl⟩ Z
      · rcases hp with ⟨hv9, e_h7, fam_h7⟩
        cases hv9
  · obtain ⟨hU, fam_w1, hl⟩ := hI
    have e_w1 := hU
    refine lv_iload_n hx hb d_Vi_needListsAndOwn_2 rfl (lv_at hl 0 rfl) ?_
    refine lv_aload_n hx hb d_Vi_needListsAndOwn_3 rfl (lv_at hl 1 rfl) ?_
    have f_n_w1 : w1 n = some ((a, Sum.inr (4, [Value.ref a1, Value.ref a2, Value.ref a3, Value.null, Value.int (nI u), Value.int x5])) : Nat × va_E) := e_w1.at f_n (by first | decide | (simp; done) | (simp; omega))
    refine gz_get (ci := 4) (v := Value.int (nI u)) (C := "CommitLedger$View") (T := F_Vi) (N := 6) hx hb hts i_Vi hown hK Z f_n_w1 rfl 4 (by decide) kf_Vi_24 rfl d_Vi_needListsAndOwn_4 ?_
    refine lv_icmp_ge (tgt := 25) hx hb d_Vi_needListsAndOwn_7 (by decide) (fun _ => ?_) (fun c9 => absurd (nI_le (Nat.le_refl _) (by omega)) c9)
    refine lv_aload_n hx hb d_Vi_needListsAndOwn_25 rfl (lv_at hl 1 rfl) ?_
    refine gz_get (ci := 4) (v := Value.null) (C := "CommitLedger$View") (T := F_Vi) (N := 6) hx hb hts i_Vi hown hK Z f_n_w1 rfl 3 (by decide) kf_Vi_66 rfl d_Vi_needListsAndOwn_26 ?_
    refine gz_call (ig := .invokestatic 69) (av := [Value.null]) Z (fun ws hM => k_Le_need_null l htr D tys z _ ws w1 hM) (gx_invSN (As := [Value.null]) (rest := []) hx hb hown hts km_Vi_69 kS_Le_need kN_Le kc_Le_need (by decide) (show (parseMethodDescriptor y_Le_need.desc).map (fun d => d.parameters.length) = some 1 by decide +kernel) rfl rfl d_Vi_needListsAndOwn_29) (gx_cw (z := 0) hts kc_Le_need kN_Le rfl rfl ⟨Nat.le_of_ble_eq_true rfl, Nat.le_of_ble_eq_true rfl⟩) hb hml hz hK hY hAz hA hl.1 (lv_room (Nat.le_of_ble_eq_true rfl)) d_Vi_needListsAndOwn_29 ⟨Nat.le_of_ble_eq_true rfl, Nat.le_of_ble_eq_true rfl⟩ (fun v9 h10 H locs hp Z => ?_) (fun x9 E9 ce h10 H locs hp hce Z => ?_)
    · rcases hp with ⟨hv9, e_h10⟩
      cases hv9
      rw [e_h10] at Z
      refine W.eq (g2 := F0 m 32 ls []) rfl ?_
      exact gz_vret hx hb hr hlocks hK Z (by decide) (by decide) (by rw [← hPQ]; exact ⟨rfl, hU, fam_w1⟩) d_Vi_needListsAndOwn_32
    · rcases hp with ⟨hv9, e_h10⟩
      cases hv9

set_option maxHeartbeats 4000000 in
set_option maxRecDepth 100000 in
theorem k_Vi_needListsAndOwn_o (l : Launch) (htr : l.stackTraces = false) (D : va_G) (tys : List (ClassId × FieldType)) (z sz : Nat) (ws : va_W) (h : gm_M) (hM : gm_S h ws) (cZ : ClassId) (cF : ClassId) (n : Nat) (a : Nat) (a1 : Nat) (a2 : Nat) (a3 : Nat) (u : Nat) (x5 : Int32) (g1 : Nat → Option Nat) (g2 : Nat → Option Nat) (f : Nat → Int32) (ow : Nat) (P : Nat → Prop) (F : Nat → Nat → Nat) (f_n : h n = some ((a, Sum.inr (4, [Value.ref a1, Value.ref a2, Value.ref a3, Value.ref ow, Value.int (nI u), Value.int x5])) : Nat × va_E)) (f_n_1 : h (n + 1) = some ((a1, Sum.inl (cF, 4096, Sum.inr (Sum.inr (Sum.inr (Sum.inr g1))))) : Nat × va_E)) (f_n_2 : h (n + 2) = some ((a2, Sum.inl (cF, 4096, Sum.inr (Sum.inr (Sum.inr (Sum.inr g2))))) : Nat × va_E)) (f_n_3 : h (n + 3) = some ((a3, Sum.inl (cZ, 4096, Sum.inl f)) : Nat × va_E)) (ht1 : tys[1]? = some ((cZ, FieldType.boolean) : ClassId × FieldType)) (ht2 : tys[2]? = some ((cF, FieldType.object "CommitLedger$LedgerFile") : ClassId × FieldType)) (fam : gf_F P F h) (hu : u ≤ 4096) (hn : n + 3 < 1000) (hli : ∀ i, i < u → g2 i = none ∨ ∃ x, g2 i = some x ∧ P x) (how : P ow) : gx_Met l y_Vi_needListsAndOwn [Cond.code y_Vi_needListsAndOwn b_Vi_needListsAndOwn 2 none] { frames := 2, cells := 0, slots := 0, locals := 32 } (gx_P z sz D classes tys ws [Value.ref a]) (gx_Q D classes tys (va_A ws sz) (gm_p (fun r h' => (r = Sum.inl none ∧ gm_f h h' [] ∧ gf_F P (gf_up (gn_li F g2 u) ow 3 1) h')))) 0 0 (va_A ws sz) := by
  refine gx_ofW (cc := b_Vi_needListsAndOwn) (maxL := 2) (ret := none) (by decide) rfl ?_
  intro p e s m args below meth c s₁ B hml hv
  obtain ⟨rfl, hsz, hz, hP, hK, hD0, hY⟩ := hv
  have hx := B.exec
  have hb := B.bytes
  have hr := B.returns
  have hts := hY.hts (#[Value.ref a] : Array Value)
  have hown : s.vm.findClass "CommitLedger$View" = some m.cls := findClass_of_methodNamed B.named
  have hlocks := B.notSynchronized
  have hne : c.exceptionTable.isEmpty = true := B.noHandlers (atoms_spec (ws := [Cond.code y_Vi_needListsAndOwn b_Vi_needListsAndOwn 2 none]) B.pre _ List.mem_cons_self)
  subst hsz
  have hAz := gx_az hD0 hz
  have hD := hD0.self (sz := s.heap.size)
  have hN := gx_ns hP
  have hA : ∀ q : Nat, s.heap.size ≤ q → va_A ws s.heap.size q := fun q h => Or.inr h
  generalize va_A ws s.heap.size = A at hD hN hA hAz ⊢
  generalize hPQ : (fun (r : Option Value ⊕ String) (h' : gm_M) => (r = Sum.inl none ∧ gm_f h h' [] ∧ gf_F P (gf_up (gn_li F g2 u) ow 3 1) h')) = PQ
  have Z : gz D A s.heap h s.heap [] := ⟨ws, hM, hP, hD, va_S.rf⟩
  clear hP hD hM hD0
  have hU : gm_f h h [] := gm_f.rf
  have hl := lv_entry ([Value.ref a]) (n := 2) (Nat.le_of_ble_eq_true rfl)
  rw [lg_entry_eq]
  generalize (lg_sl ([Value.ref a]) ++ List.replicate (2 - (lg_sl ([Value.ref a])).length) Slot.unset).toArray = ls at hl ⊢
  have hl : lv_has ls 2 [(0, Value.ref a)] := hl
  refine lv_iconst (v := 0) hx hb d_Vi_needListsAndOwn_0 (by decide) ?_
  refine lv_istore_n (lv' := [(1, Value.int 0), (0, Value.ref a)]) hx hb d_Vi_needListsAndOwn_1 rfl hl (by decide) rfl (fun ls hl => ?_)
  have fam_n : gf_F P (gn_li F g2 0) h := by skip; exact fam
  refine gz_loop (N := u) (pc := 2) (fun _ => 0) (fun _ => 0) (fun k h9 ls => gm_f h h9 [] ∧ gf_F P (gn_li F g2 k) h9 ∧ lv_has ls 2 [(1, Value.int (nI k)), (0, Value.ref a)]) (fun k w1 H locs ls hk hI Z ih => ?_) (fun w1 H locs ls hI Z => ?_) (u) 0 _ _ _ _ (Nat.zero_add _) ⟨hU, fam_n, lv_sub hl [0, 1] rfl⟩ Z
  · obtain ⟨hU, fam_w1, hl⟩ := hI
    have e_w1 := hU
    refine lv_iload_n hx hb d_Vi_needListsAndOwn_2 rfl (lv_at hl 0 rfl) ?_
    refine lv_aload_n hx hb d_Vi_needListsAndOwn_3 rfl (lv_at hl 1 rfl) ?_
    have f_n_w1 : w1 n = some ((a, Sum.inr (4, [Value.ref a1, Value.ref a2, Value.ref a3, Value.ref ow, Value.int (nI u), Value.int x5])) : Nat × va_E) := e_w1.at f_n (by first | decide | (simp; done) | (simp; omega))
    refine gz_get (ci := 4) (v := Value.int (nI u)) (C := "CommitLedger$View") (T := F_Vi) (N := 6) hx hb hts i_Vi hown hK Z f_n_w1 rfl 4 (by decide) kf_Vi_24 rfl d_Vi_needListsAndOwn_4 ?_
    refine lv_icmp_ge (tgt := 25) hx hb d_Vi_needListsAndOwn_7 (by decide) (fun c9 => absurd c9 (nI_ge hk (by omega))) (fun _ => ?_)
    refine lv_aload_n hx hb d_Vi_needListsAndOwn_10 rfl (lv_at hl 1 rfl) ?_
    refine gz_get (ci := 4) (v := Value.ref a2) (C := "CommitLedger$View") (T := F_Vi) (N := 6) hx hb hts i_Vi hown hK Z f_n_w1 rfl 1 (by decide) kf_Vi_17 rfl d_Vi_needListsAndOwn_11 ?_
    refine lv_iload_n hx hb d_Vi_needListsAndOwn_14 rfl (lv_at hl 0 rfl) ?_
    have f_n_2_w1 : w1 (n + 2) = some ((a2, Sum.inl (cF, 4096, Sum.inr (Sum.inr (Sum.inr (Sum.inr g2))))) : Nat × va_E) := e_w1.at f_n_2 (by first | decide | (simp; done) | (simp; omega))
    rcases hli k (hk) with q9_3 | ⟨x3, q9_3, q8_3⟩
    · refine gz_aald (v := Value.null) (j := k) hx hb hK Z 2 f_n_2_w1 ht2 (by omega) (rfl) (by decide) (by rw [q9_3]; rfl) d_Vi_needListsAndOwn_15 ?_
      refine gz_call (ig := .invokestatic 69) (av := [Value.null]) Z (fun ws hM => k_Le_need_null l htr D tys z _ ws w1 hM) (gx_invSN (As := [Value.null]) (rest := []) hx hb hown hts km_Vi_69 kS_Le_need kN_Le kc_Le_need (by decide) (show (parseMethodDescriptor y_Le_need.desc).map (fun d => d.parameters.length) = some 1 by decide +kernel) rfl rfl d_Vi_needListsAndOwn_16) (gx_cw (z := 0) hts kc_Le_need kN_Le rfl rfl ⟨Nat.le_of_ble_eq_true rfl, Nat.le_of_ble_eq_true rfl⟩) hb hml hz hK hY hAz hA hl.1 (lv_room (Nat.le_of_ble_eq_true rfl)) d_Vi_needListsAndOwn_16 ⟨Nat.le_of_ble_eq_true rfl, Nat.le_of_ble_eq_true rfl⟩ (fun v4 h5 H locs hp Z => ?_) (fun x4 E9 ce h5 H locs hp hce Z => ?_)
      · rcases hp with ⟨hv9, e_h5⟩
        cases hv9
        rw [e_h5] at Z
        refine W.eq (g2 := F0 m 19 ls []) rfl ?_
        refine lv_iinc (v := nI (k + 1)) (lv' := [(1, Value.int (nI (k + 1))), (0, Value.ref a)]) hx hb d_Vi_needListsAndOwn_19 hl (k := 0) rfl (show nI k + 1 = nI (k + 1) from nI_1 _) (by decide) rfl (fun ls hl => ?_)
        refine lv_goto (tgt := 2) hx hb d_Vi_needListsAndOwn_22 (by decide) ?_
        have fam_n : gf_F P (gn_li F g2 (k + 1)) w1 := by show gf_F P (gn_opt (gn_li F g2 k) (g2 k)) w1; rw [q9_3]; exact fam_w1
        exact ih _ _ _ _ ⟨hU, fam_n, lv_sub hl [0, 1] rfl⟩ Z
      · rcases hp with ⟨hv9, e_h5⟩
        cases hv9
    · refine gz_aald (v := Value.ref x3) (j := k) hx hb hK Z 2 f_n_2_w1 ht2 (by omega) (rfl) (by decide) (by rw [q9_3]; rfl) d_Vi_needListsAndOwn_15 ?_
      refine gz_call (ig := .invokestatic 69) (av := [Value.ref x3]) Z (fun ws hM => k_Le_need l htr D tys z _ ws w1 hM x3 P (gn_li F g2 k) fam_w1 q8_3) (gx_invSN (As := [Value.ref x3]) (rest := []) hx hb hown hts km_Vi_69 kS_Le_need kN_Le kc_Le_need (by decide) (show (parseMethodDescriptor y_Le_need.desc).map (fun d => d.parameters.length) = some 1 by decide +kernel) rfl rfl d_Vi_needListsAndOwn_16) (gx_cw (z := 0) hts kc_Le_need kN_Le rfl rfl ⟨Nat.le_of_ble_eq_true rfl, Nat.le_of_ble_eq_true rfl⟩) hb hml hz hK hY hAz hA hl.1 (lv_room (Nat.le_of_ble_eq_true rfl)) d_Vi_needListsAndOwn_16 ⟨Nat.le_of_ble_eq_true rfl, Nat.le_of_ble_eq_true rfl⟩ (fun v6 h7 H locs hp Z => ?_) (fun x6 E9 ce h7 H locs hp hce Z => ?_)
      · rcases hp with ⟨hv9, e_h7, fam_h7⟩
        cases hv9
        replace hU : gm_f h h7 [] := hU.call e_h7 (by first | decide | (simp; done) | (simp; omega))
        refine W.eq (g2 := F0 m 19 ls []) rfl ?_
        refine lv_iinc (v := nI (k + 1)) (lv' := [(1, Value.int (nI (k + 1))), (0, Value.ref a)]) hx hb d_Vi_needListsAndOwn_19 hl (k := 0) rfl (show nI k + 1 = nI (k + 1) from nI_1 _) (by decide) rfl (fun ls hl => ?_)
        refine lv_goto (tgt := 2) hx hb d_Vi_needListsAndOwn_22 (by decide) ?_
        have fam_n : gf_F P (gn_li F g2 (k + 1)) h7 := by show gf_F P (gn_opt (gn_li F g2 k) (g2 k)) h7; rw [q9_3]; exact fam_h7
        exact ih _ _ _ _ ⟨hU, fam_n, lv_sub hl [0, 1] rfl⟩ Z
      · rcases hp with ⟨hv9, e_h7, fam_h7⟩
        cases hv9
  · obtain ⟨hU, fam_w1, hl⟩ := hI
    have e_w1 := hU
    refine lv_iload_n hx hb d_Vi_needListsAndOwn_2 rfl (lv_at hl 0 rfl) ?_
    refine lv_aload_n hx hb d_Vi_needListsAndOwn_3 rfl (lv_at hl 1 rfl) ?_
    have f_n_w1 : w1 n = some ((a, Sum.inr (4, [Value.ref a1, Value.ref a2, Value.ref a3, Value.ref ow, Value.int (nI u), Value.int x5])) : Nat × va_E) := e_w1.at f_n (by first | decide | (simp; done) | (simp; omega))
    refine gz_get (ci := 4) (v := Value.int (nI u)) (C := "CommitLedger$View") (T := F_Vi) (N := 6) hx hb hts i_Vi hown hK Z f_n_w1 rfl 4 (by decide) kf_Vi_24 rfl d_Vi_needListsAndOwn_4 ?_
    refine lv_icmp_ge (tgt := 25) hx hb d_Vi_needListsAndOwn_7 (by decide) (fun _ => ?_) (fun c9 => absurd (nI_le (Nat.le_refl _) (by omega)) c9)
    refine lv_aload_n hx hb d_Vi_needListsAndOwn_25 rfl (lv_at hl 1 rfl) ?_
    refine gz_get (ci := 4) (v := Value.ref ow) (C := "CommitLedger$View") (T := F_Vi) (N := 6) hx hb hts i_Vi hown hK Z f_n_w1 rfl 3 (by decide) kf_Vi_66 rfl d_Vi_needListsAndOwn_26 ?_
    refine gz_call (ig := .invokestatic 69) (av := [Value.ref ow]) Z (fun ws hM => k_Le_need l htr D tys z _ ws w1 hM ow P (gn_li F g2 u) fam_w1 how) (gx_invSN (As := [Value.ref ow]) (rest := []) hx hb hown hts km_Vi_69 kS_Le_need kN_Le kc_Le_need (by decide) (show (parseMethodDescriptor y_Le_need.desc).map (fun d => d.parameters.length) = some 1 by decide +kernel) rfl rfl d_Vi_needListsAndOwn_29) (gx_cw (z := 0) hts kc_Le_need kN_Le rfl rfl ⟨Nat.le_of_ble_eq_true rfl, Nat.le_of_ble_eq_true rfl⟩) hb hml hz hK hY hAz hA hl.1 (lv_room (Nat.le_of_ble_eq_true rfl)) d_Vi_needListsAndOwn_29 ⟨Nat.le_of_ble_eq_true rfl, Nat.le_of_ble_eq_true rfl⟩ (fun v9 h10 H locs hp Z => ?_) (fun x9 E9 ce h10 H locs hp hce Z => ?_)
    · rcases hp with ⟨hv9, e_h10, fam_h10⟩
      cases hv9
      replace hU : gm_f h h10 [] := hU.call e_h10 (by first | decide | (simp; done) | (simp; omega))
      refine W.eq (g2 := F0 m 32 ls []) rfl ?_
      exact gz_vret hx hb hr hlocks hK Z (by decide) (by decide) (by rw [← hPQ]; exact ⟨rfl, hU, fam_h10⟩) d_Vi_needListsAndOwn_32
    · rcases hp with ⟨hv9, e_h10, fam_h10⟩
      cases hv9

set_option maxHeartbeats 4000000 in
set_option maxRecDepth 100000 in
theorem k_Vi_put_n (l : Launch) (htr : l.stackTraces = false) (D : va_G) (tys : List (ClassId × FieldType)) (z sz : Nat) (ws : va_W) (h : gm_M) (hM : gm_S h ws) (cZ : ClassId) (cF : ClassId) (n : Nat) (a : Nat) (a1 : Nat) (a2 : Nat) (a3 : Nat) (u : Nat) (e0 : Value) (x5 : Int32) (g1 : Nat → Option Nat) (g2 : Nat → Option Nat) (f : Nat → Int32) (k : Nat) (x : Nat) (P : Nat → Prop) (F : Nat → Nat → Nat) (f_n : h n = some ((a, Sum.inr (4, [Value.ref a1, Value.ref a2, Value.ref a3, e0, Value.int (nI u), Value.int x5])) : Nat × va_E)) (f_n_1 : h (n + 1) = some ((a1, Sum.inl (cF, 4096, Sum.inr (Sum.inr (Sum.inr (Sum.inr g1))))) : Nat × va_E)) (f_n_2 : h (n + 2) = some ((a2, Sum.inl (cF, 4096, Sum.inr (Sum.inr (Sum.inr (Sum.inr g2))))) : Nat × va_E)) (f_n_3 : h (n + 3) = some ((a3, Sum.inl (cZ, 4096, Sum.inl f)) : Nat × va_E)) (ht1 : tys[1]? = some ((cZ, FieldType.boolean) : ClassId × FieldType)) (ht2 : tys[2]? = some ((cF, FieldType.object "CommitLedger$LedgerFile") : ClassId × FieldType)) (fam : gf_F P F h) (hk : k < 4096) (hn : n + 3 < 1000) (hx9 : P x) : gx_Met l y_Vi_put [Cond.code y_Vi_put b_Vi_put 4 none] { frames := 1, cells := 0, slots := 0, locals := 12 } (gx_P z sz D classes tys ws [Value.ref a, Value.int (nI k), Value.ref x, Value.null]) (gx_Q D classes tys (va_A ws sz) (gm_p (fun r h' => (r = Sum.inl none ∧ gm_g h h' [n + 1, n + 2] ∧ h' (n + 1) = some ((a1, Sum.inl (cF, 4096, Sum.inr (Sum.inr (Sum.inr (Sum.inr (va_up g1 k (some x))))))) : Nat × va_E) ∧ h' (n + 2) = some ((a2, Sum.inl (cF, 4096, Sum.inr (Sum.inr (Sum.inr (Sum.inr (va_up g2 k none)))))) : Nat × va_E))))) 0 0 (va_A ws sz) := by
  refine gx_ofW (cc := b_Vi_put) (maxL := 4) (ret := none) (by decide) rfl ?_
  intro p e s m args below meth c s₁ B hml hv
  obtain ⟨rfl, hsz, hz, hP, hK, hD0, hY⟩ := hv
  have hx := B.exec
  have hb := B.bytes
  have hr := B.returns
  have hts := hY.hts (#[Value.ref a, Value.int (nI k), Value.ref x, Value.null] : Array Value)
  have hown : s.vm.findClass "CommitLedger$View" = some m.cls := findClass_of_methodNamed B.named
  have hlocks := B.notSynchronized
  have hne : c.exceptionTable.isEmpty = true := B.noHandlers (atoms_spec (ws := [Cond.code y_Vi_put b_Vi_put 4 none]) B.pre _ List.mem_cons_self)
  subst hsz
  have hAz := gx_az hD0 hz
  have hD := hD0.self (sz := s.heap.size)
  have hN := gx_ns hP
  have hA : ∀ q : Nat, s.heap.size ≤ q → va_A ws s.heap.size q := fun q h => Or.inr h
  generalize va_A ws s.heap.size = A at hD hN hA hAz ⊢
  generalize hPQ : (fun (r : Option Value ⊕ String) (h' : gm_M) => (r = Sum.inl none ∧ gm_g h h' [n + 1, n + 2] ∧ h' (n + 1) = some ((a1, Sum.inl (cF, 4096, Sum.inr (Sum.inr (Sum.inr (Sum.inr (va_up g1 k (some x))))))) : Nat × va_E) ∧ h' (n + 2) = some ((a2, Sum.inl (cF, 4096, Sum.inr (Sum.inr (Sum.inr (Sum.inr (va_up g2 k none)))))) : Nat × va_E))) = PQ
  have Z : gz D A s.heap h s.heap [] := ⟨ws, hM, hP, hD, va_S.rf⟩
  clear hP hD hM hD0
  have hU : gm_g h h [n + 1, n + 2] := gm_g.rf
  have hl := lv_entry ([Value.ref a, Value.int (nI k), Value.ref x, Value.null]) (n := 4) (Nat.le_of_ble_eq_true rfl)
  rw [lg_entry_eq]
  generalize (lg_sl ([Value.ref a, Value.int (nI k), Value.ref x, Value.null]) ++ List.replicate (4 - (lg_sl ([Value.ref a, Value.int (nI k), Value.ref x, Value.null])).length) Slot.unset).toArray = ls at hl ⊢
  have hl : lv_has ls 4 [(0, Value.ref a), (1, Value.int (nI k)), (2, Value.ref x), (3, Value.null)] := hl
  refine lv_aload_n hx hb d_Vi_put_0 rfl (lv_at hl 0 rfl) ?_
  refine gz_get (ci := 4) (v := Value.ref a1) (C := "CommitLedger$View") (T := F_Vi) (N := 6) hx hb hts i_Vi hown hK Z f_n rfl 0 (by decide) kf_Vi_11 rfl d_Vi_put_1 ?_
  refine lv_iload_n hx hb d_Vi_put_4 rfl (lv_at hl 1 rfl) ?_
  refine lv_aload_n hx hb d_Vi_put_5 rfl (lv_at hl 2 rfl) ?_
  refine gz_aast (j := k) hx hb hK Z 2 7 f_n_1 ht2 (fam x hx9) rfl (hk) (rfl) (by decide) d_Vi_put_6 (fun H locs Z => ?_)
  obtain ⟨h1, e_h1⟩ : ∃ z9 : gm_M, z9 = gm_up h (n + 1) ((a1, Sum.inl (cF, 4096, Sum.inr (Sum.inr (Sum.inr (Sum.inr (va_up g1 k (some x))))))) : Nat × va_E) := ⟨_, rfl⟩
  replace Z : gz D A s.heap h1 H locs := by rw [e_h1]; exact Z
  have f_n_1_h1 : h1 (n + 1) = some ((a1, Sum.inl (cF, 4096, Sum.inr (Sum.inr (Sum.inr (Sum.inr (va_up g1 k (some x))))))) : Nat × va_E) := by rw [e_h1]; exact gm_self
  replace hU : gm_g h h1 [n + 1, n + 2] := by rw [e_h1]; exact hU.put (by simp)
  refine lv_aload_n hx hb d_Vi_put_7 rfl (lv_at hl 0 rfl) ?_
  have f_n_h1 : h1 n = some ((a, Sum.inr (4, [Value.ref a1, Value.ref a2, Value.ref a3, e0, Value.int (nI u), Value.int x5])) : Nat × va_E) := by rw [e_h1]; exact gm_at f_n (by omega)
  refine gz_get (ci := 4) (v := Value.ref a2) (C := "CommitLedger$View") (T := F_Vi) (N := 6) hx hb hts i_Vi hown hK Z f_n_h1 rfl 1 (by decide) kf_Vi_17 rfl d_Vi_put_8 ?_
  refine lv_iload_n hx hb d_Vi_put_11 rfl (lv_at hl 1 rfl) ?_
  refine lv_aload_nN hx hb d_Vi_put_12 rfl (lv_at hl 3 rfl) ?_
  have f_n_2_h1 : h1 (n + 2) = some ((a2, Sum.inl (cF, 4096, Sum.inr (Sum.inr (Sum.inr (Sum.inr g2))))) : Nat × va_E) := by rw [e_h1]; exact gm_at f_n_2 (by omega)
  refine gz_aastO (j := k) (x := none) hx hb hK Z 2 7 f_n_2_h1 ht2 (fun v e9 => by cases e9) rfl (hk) (rfl) (by decide) d_Vi_put_13 (fun H locs Z => ?_)
  obtain ⟨h2, e_h2⟩ : ∃ z9 : gm_M, z9 = gm_up h1 (n + 2) ((a2, Sum.inl (cF, 4096, Sum.inr (Sum.inr (Sum.inr (Sum.inr (va_up g2 k none)))))) : Nat × va_E) := ⟨_, rfl⟩
  replace Z : gz D A s.heap h2 H locs := by rw [e_h2]; exact Z
  have f_n_2_h2 : h2 (n + 2) = some ((a2, Sum.inl (cF, 4096, Sum.inr (Sum.inr (Sum.inr (Sum.inr (va_up g2 k none)))))) : Nat × va_E) := by rw [e_h2]; exact gm_self
  replace hU : gm_g h h2 [n + 1, n + 2] := by rw [e_h2]; exact hU.put (by simp)
  have f_n_1_h2 : h2 (n + 1) = some ((a1, Sum.inl (cF, 4096, Sum.inr (Sum.inr (Sum.inr (Sum.inr (va_up g1 k (some x))))))) : Nat × va_E) := by rw [e_h2]; exact gm_at f_n_1_h1 (by omega)
  exact gz_vret hx hb hr hlocks hK Z (by decide) (by decide) (by rw [← hPQ]; exact ⟨rfl, hU, f_n_1_h2, f_n_2_h2⟩) d_Vi_put_14

set_option maxHeartbeats 4000000 in
set_option maxRecDepth 100000 in
theorem k_Vi_put_f (l : Launch) (htr : l.stackTraces = false) (D : va_G) (tys : List (ClassId × FieldType)) (z sz : Nat) (ws : va_W) (h : gm_M) (hM : gm_S h ws) (cZ : ClassId) (cF : ClassId) (n : Nat) (a : Nat) (a1 : Nat) (a2 : Nat) (a3 : Nat) (u : Nat) (e0 : Value) (x5 : Int32) (g1 : Nat → Option Nat) (g2 : Nat → Option Nat) (f : Nat → Int32) (k : Nat) (x : Nat) (y : Nat) (P : Nat → Prop) (F : Nat → Nat → Nat) (f_n : h n = some ((a, Sum.inr (4, [Value.ref a1, Value.ref a2, Value.ref a3, e0, Value.int (nI u), Value.int x5])) : Nat × va_E)) (f_n_1 : h (n + 1) = some ((a1, Sum.inl (cF, 4096, Sum.inr (Sum.inr (Sum.inr (Sum.inr g1))))) : Nat × va_E)) (f_n_2 : h (n + 2) = some ((a2, Sum.inl (cF, 4096, Sum.inr (Sum.inr (Sum.inr (Sum.inr g2))))) : Nat × va_E)) (f_n_3 : h (n + 3) = some ((a3, Sum.inl (cZ, 4096, Sum.inl f)) : Nat × va_E)) (ht1 : tys[1]? = some ((cZ, FieldType.boolean) : ClassId × FieldType)) (ht2 : tys[2]? = some ((cF, FieldType.object "CommitLedger$LedgerFile") : ClassId × FieldType)) (fam : gf_F P F h) (hk : k < 4096) (hn : n + 3 < 1000) (hx9 : P x) (hy9 : P y) : gx_Met l y_Vi_put [Cond.code y_Vi_put b_Vi_put 4 none] { frames := 1, cells := 0, slots := 0, locals := 12 } (gx_P z sz D classes tys ws [Value.ref a, Value.int (nI k), Value.ref x, Value.ref y]) (gx_Q D classes tys (va_A ws sz) (gm_p (fun r h' => (r = Sum.inl none ∧ gm_g h h' [n + 1, n + 2] ∧ h' (n + 1) = some ((a1, Sum.inl (cF, 4096, Sum.inr (Sum.inr (Sum.inr (Sum.inr (va_up g1 k (some x))))))) : Nat × va_E) ∧ h' (n + 2) = some ((a2, Sum.inl (cF, 4096, Sum.inr (Sum.inr (Sum.inr (Sum.inr (va_up g2 k (some y))))))) : Nat × va_E))))) 0 0 (va_A ws sz) := by
  refine gx_ofW (cc := b_Vi_put) (maxL := 4) (ret := none) (by decide) rfl ?_
  intro p e s m args below meth c s₁ B hml hv
  obtain ⟨rfl, hsz, hz, hP, hK, hD0, hY⟩ := hv
  have hx := B.exec
  have hb := B.bytes
  have hr := B.returns
  have hts := hY.hts (#[Value.ref a, Value.int (nI k), Value.ref x, Value.ref y] : Array Value)
  have hown : s.vm.findClass "CommitLedger$View" = some m.cls := findClass_of_methodNamed B.named
  have hlocks := B.notSynchronized
  have hne : c.exceptionTable.isEmpty = true := B.noHandlers (atoms_spec (ws := [Cond.code y_Vi_put b_Vi_put 4 none]) B.pre _ List.mem_cons_self)
  subst hsz
  have hAz := gx_az hD0 hz
  have hD := hD0.self (sz := s.heap.size)
  have hN := gx_ns hP
  have hA : ∀ q : Nat, s.heap.size ≤ q → va_A ws s.heap.size q := fun q h => Or.inr h
  generalize va_A ws s.heap.size = A at hD hN hA hAz ⊢
  generalize hPQ : (fun (r : Option Value ⊕ String) (h' : gm_M) => (r = Sum.inl none ∧ gm_g h h' [n + 1, n + 2] ∧ h' (n + 1) = some ((a1, Sum.inl (cF, 4096, Sum.inr (Sum.inr (Sum.inr (Sum.inr (va_up g1 k (some x))))))) : Nat × va_E) ∧ h' (n + 2) = some ((a2, Sum.inl (cF, 4096, Sum.inr (Sum.inr (Sum.inr (Sum.inr (va_up g2 k (some y))))))) : Nat × va_E))) = PQ
  have Z : gz D A s.heap h s.heap [] := ⟨ws, hM, hP, hD, va_S.rf⟩
  clear hP hD hM hD0
  have hU : gm_g h h [n + 1, n + 2] := gm_g.rf
  have hl := lv_entry ([Value.ref a, Value.int (nI k), Value.ref x, Value.ref y]) (n := 4) (Nat.le_of_ble_eq_true rfl)
  rw [lg_entry_eq]
  generalize (lg_sl ([Value.ref a, Value.int (nI k), Value.ref x, Value.ref y]) ++ List.replicate (4 - (lg_sl ([Value.ref a, Value.int (nI k), Value.ref x, Value.ref y])).length) Slot.unset).toArray = ls at hl ⊢
  have hl : lv_has ls 4 [(0, Value.ref a), (1, Value.int (nI k)), (2, Value.ref x), (3, Value.ref y)] := hl
  refine lv_aload_n hx hb d_Vi_put_0 rfl (lv_at hl 0 rfl) ?_
  refine gz_get (ci := 4) (v := Value.ref a1) (C := "CommitLedger$View") (T := F_Vi) (N := 6) hx hb hts i_Vi hown hK Z f_n rfl 0 (by decide) kf_Vi_11 rfl d_Vi_put_1 ?_
  refine lv_iload_n hx hb d_Vi_put_4 rfl (lv_at hl 1 rfl) ?_
  refine lv_aload_n hx hb d_Vi_put_5 rfl (lv_at hl 2 rfl) ?_
  refine gz_aast (j := k) hx hb hK Z 2 7 f_n_1 ht2 (fam x hx9) rfl (hk) (rfl) (by decide) d_Vi_put_6 (fun H locs Z => ?_)
  obtain ⟨h1, e_h1⟩ : ∃ z9 : gm_M, z9 = gm_up h (n + 1) ((a1, Sum.inl (cF, 4096, Sum.inr (Sum.inr (Sum.inr (Sum.inr (va_up g1 k (some x))))))) : Nat × va_E) := ⟨_, rfl⟩
  replace Z : gz D A s.heap h1 H locs := by rw [e_h1]; exact Z
  have f_n_1_h1 : h1 (n + 1) = some ((a1, Sum.inl (cF, 4096, Sum.inr (Sum.inr (Sum.inr (Sum.inr (va_up g1 k (some x))))))) : Nat × va_E) := by rw [e_h1]; exact gm_self
  replace hU : gm_g h h1 [n + 1, n + 2] := by rw [e_h1]; exact hU.put (by simp)
  refine lv_aload_n hx hb d_Vi_put_7 rfl (lv_at hl 0 rfl) ?_
  have f_n_h1 : h1 n = some ((a, Sum.inr (4, [Value.ref a1, Value.ref a2, Value.ref a3, e0, Value.int (nI u), Value.int x5])) : Nat × va_E) := by rw [e_h1]; exact gm_at f_n (by omega)
  refine gz_get (ci := 4) (v := Value.ref a2) (C := "CommitLedger$View") (T := F_Vi) (N := 6) hx hb hts i_Vi hown hK Z f_n_h1 rfl 1 (by decide) kf_Vi_17 rfl d_Vi_put_8 ?_
  refine lv_iload_n hx hb d_Vi_put_11 rfl (lv_at hl 1 rfl) ?_
  refine lv_aload_n hx hb d_Vi_put_12 rfl (lv_at hl 3 rfl) ?_
  have f_n_2_h1 : h1 (n + 2) = some ((a2, Sum.inl (cF, 4096, Sum.inr (Sum.inr (Sum.inr (Sum.inr g2))))) : Nat × va_E) := by rw [e_h1]; exact gm_at f_n_2 (by omega)
  have fam_h1 : gf_F P F h1 := by rw [e_h1]; exact gf_off fam (by omega)
  refine gz_aast (j := k) hx hb hK Z 2 7 f_n_2_h1 ht2 (fam_h1 y hy9) rfl (hk) (rfl) (by decide) d_Vi_put_13 (fun H locs Z => ?_)
  obtain ⟨h2, e_h2⟩ : ∃ z9 : gm_M, z9 = gm_up h1 (n + 2) ((a2, Sum.inl (cF, 4096, Sum.inr (Sum.inr (Sum.inr (Sum.inr (va_up g2 k (some y))))))) : Nat × va_E) := ⟨_, rfl⟩
  replace Z : gz D A s.heap h2 H locs := by rw [e_h2]; exact Z
  have f_n_2_h2 : h2 (n + 2) = some ((a2, Sum.inl (cF, 4096, Sum.inr (Sum.inr (Sum.inr (Sum.inr (va_up g2 k (some y))))))) : Nat × va_E) := by rw [e_h2]; exact gm_self
  replace hU : gm_g h h2 [n + 1, n + 2] := by rw [e_h2]; exact hU.put (by simp)
  have f_n_1_h2 : h2 (n + 1) = some ((a1, Sum.inl (cF, 4096, Sum.inr (Sum.inr (Sum.inr (Sum.inr (va_up g1 k (some x))))))) : Nat × va_E) := by rw [e_h2]; exact gm_at f_n_1_h1 (by omega)
  exact gz_vret hx hb hr hlocks hK Z (by decide) (by decide) (by rw [← hPQ]; exact ⟨rfl, hU, f_n_1_h2, f_n_2_h2⟩) d_Vi_put_14
