/-! CONTRACTS over maps: Entries, View; rows printed by an own text program, but for the first. -/
/-- the first k places of f, the others of g -/
def gv_cp {α : Type} (k : Nat) (f g : Nat → α) : Nat → α := fun i => if i < k then f i else g i
theorem gv_cp_0 {α : Type} {f g : Nat → α} : gv_cp 0 f g = g := by
  funext i
  exact if_neg (Nat.not_lt_zero i)
theorem gv_cp_s {α : Type} {k : Nat} {f g : Nat → α} : va_up (gv_cp k f g) k (f k) = gv_cp (k + 1) f g := by
  funext i
  unfold va_up gv_cp
  by_cases e1 : i = k
  · rw [if_pos e1, if_pos (by omega), e1]
  · rw [if_neg e1]
    by_cases e2 : i < k
    · rw [if_pos e2, if_pos (by omega)]
    · rw [if_neg e2, if_neg (by omega)]
theorem gv_cp_su {k : Nat} {f g : Nat → Int32} : upd (gv_cp k f g) k (f k) = gv_cp (k + 1) f g := by
  funext i
  by_cases e1 : i = k
  · rw [e1, pk_us]
    exact (if_pos (by omega)).symm
  · rw [pk_un e1]
    unfold gv_cp
    by_cases e2 : i < k
    · rw [if_pos e2, if_pos (by omega)]
    · rw [if_neg e2, if_neg (by omega)]
theorem gx_nz {v : Int32} (h : gx_b v) : vp_nar .boolean v = v := by rcases h with rfl | rfl <;> rfl
theorem gv_cp_sz {k : Nat} {f g : Nat → Int32} (hb : gx_b (f k)) : upd (gv_cp k f g) k (vp_nar .boolean (f k)) = gv_cp (k + 1) f g := by rw [gx_nz hb]; exact gv_cp_su
set_option maxHeartbeats 4000000 in
set_option maxRecDepth 100000 in
theorem k_En_append (l : Launch) (htr : l.stackTraces = false) (D : va_G) (tys : List (ClassId × FieldType)) (z sz : Nat) (ws : va_W) (h : gm_M) (hM : gm_S h ws) (cI : ClassId) (b1 : Nat) (b2 : Nat) (b3 : Nat) (b4 : Nat) (k : Nat) (f2 : Nat → Int32) (f3 : Nat → Int32) (f4 : Nat → Int32) (p1 : Int32) (p2 : Int32) (p3 : Int32) (f_1 : h 1 = some ((b1, Sum.inr (1, [Value.ref b2, Value.ref b3, Value.ref b4, Value.int (nI k)])) : Nat × va_E)) (f_2 : h 2 = some ((b2, Sum.inl (cI, 4096, Sum.inl f2)) : Nat × va_E)) (f_3 : h 3 = some ((b3, Sum.inl (cI, 4096, Sum.inl f3)) : Nat × va_E)) (f_4 : h 4 = some ((b4, Sum.inl (cI, 4096, Sum.inl f4)) : Nat × va_E)) (ht0 : tys[0]? = some ((cI, FieldType.int) : ClassId × FieldType)) (hk : k < 4096) : gx_Met l y_En_append [Cond.code y_En_append b_En_append 4 none] { frames := 1, cells := 0, slots := 0, locals := 12 } (gx_P z sz D classes tys ws [Value.ref b1, Value.int p1, Value.int p2, Value.int p3]) (gx_Q D classes tys (va_A ws sz) (gm_p (fun r h' => (r = Sum.inl none ∧ gm_g h h' [1, 2, 3, 4] ∧ h' 1 = some ((b1, Sum.inr (1, [Value.ref b2, Value.ref b3, Value.ref b4, Value.int (nI (k + 1))])) : Nat × va_E) ∧ h' 2 = some ((b2, Sum.inl (cI, 4096, Sum.inl (upd f2 k p1))) : Nat × va_E) ∧ h' 3 = some ((b3, Sum.inl (cI, 4096, Sum.inl (upd f3 k p2))) : Nat × va_E) ∧ h' 4 = some ((b4, Sum.inl (cI, 4096, Sum.inl (upd f4 k p3))) : Nat × va_E))))) 0 0 (va_A ws sz) := by
  refine gx_ofW (cc := b_En_append) (maxL := 4) (ret := none) (by decide) rfl ?_
  intro p e s m args below meth c s₁ B hml hv
  obtain ⟨rfl, hsz, hz, hP, hK, hD0, hY⟩ := hv
  have hx := B.exec
  have hb := B.bytes
  have hr := B.returns
  have hts := hY.hts (#[Value.ref b1, Value.int p1, Value.int p2, Value.int p3] : Array Value)
  have hown : s.vm.findClass "CommitLedger$Entries" = some m.cls := findClass_of_methodNamed B.named
  have hlocks := B.notSynchronized
  have hne : c.exceptionTable.isEmpty = true := B.noHandlers (atoms_spec (ws := [Cond.code y_En_append b_En_append 4 none]) B.pre _ List.mem_cons_self)
  subst hsz
  have hAz := gx_az hD0 hz
  have hD := hD0.self (sz := s.heap.size)
  have hN := gx_ns hP
  have hA : ∀ q : Nat, s.heap.size ≤ q → va_A ws s.heap.size q := fun q h => Or.inr h
  generalize va_A ws s.heap.size = A at hD hN hA hAz ⊢
  generalize hPQ : (fun (r : Option Value ⊕ String) (h' : gm_M) => (r = Sum.inl none ∧ gm_g h h' [1, 2, 3, 4] ∧ h' 1 = some ((b1, Sum.inr (1, [Value.ref b2, Value.ref b3, Value.ref b4, Value.int (nI (k + 1))])) : Nat × va_E) ∧ h' 2 = some ((b2, Sum.inl (cI, 4096, Sum.inl (upd f2 k p1))) : Nat × va_E) ∧ h' 3 = some ((b3, Sum.inl (cI, 4096, Sum.inl (upd f3 k p2))) : Nat × va_E) ∧ h' 4 = some ((b4, Sum.inl (cI, 4096, Sum.inl (upd f4 k p3))) : Nat × va_E))) = PQ
  have Z : gz D A s.heap h s.heap [] := ⟨ws, hM, hP, hD, va_S.rf⟩
  clear hP hD hM hD0
  have hU : gm_g h h [1, 2, 3, 4] := gm_g.rf
  have hl := lv_entry ([Value.ref b1, Value.int p1, Value.int p2, Value.int p3]) (n := 4) (Nat.le_of_ble_eq_true rfl)
  rw [lg_entry_eq]
  generalize (lg_sl ([Value.ref b1, Value.int p1, Value.int p2, Value.int p3]) ++ List.replicate (4 - (lg_sl ([Value.ref b1, Value.int p1, Value.int p2, Value.int p3])).length) Slot.unset).toArray = ls at hl ⊢
  have hl : lv_has ls 4 [(0, Value.ref b1), (1, Value.int p1), (2, Value.int p2), (3, Value.int p3)] := hl
  refine lv_aload_n hx hb d_En_append_0 rfl (lv_at hl 0 rfl) ?_
  refine gz_get (ci := 1) (v := Value.ref b2) (C := "CommitLedger$Entries") (T := F_En) (N := 4) hx hb hts i_En hown hK Z f_1 rfl 0 (by decide) kf_En_9 rfl d_En_append_1 ?_
  refine lv_aload_n hx hb d_En_append_4 rfl (lv_at hl 0 rfl) ?_
  refine gz_get (ci := 1) (v := Value.int (nI k)) (C := "CommitLedger$Entries") (T := F_En) (N := 4) hx hb hts i_En hown hK Z f_1 rfl 3 (by decide) kf_En_21 rfl d_En_append_5 ?_
  refine lv_iload_n hx hb d_En_append_8 rfl (lv_at hl 1 rfl) ?_
  refine gz_iast (j := k) hx hb hK Z 0 f_2 ht0 (hk) (rfl) (by decide) d_En_append_9 (fun H locs Z => ?_)
  obtain ⟨h1, e_h1⟩ : ∃ x : gm_M, x = gm_up h 2 ((b2, Sum.inl (cI, 4096, Sum.inl (upd f2 k p1))) : Nat × va_E) := ⟨_, rfl⟩
  replace Z : gz D A s.heap h1 H locs := by rw [e_h1]; exact Z
  have f_2_h1 : h1 2 = some ((b2, Sum.inl (cI, 4096, Sum.inl (upd f2 k p1))) : Nat × va_E) := by rw [e_h1]; exact gm_self
  replace hU : gm_g h h1 [1, 2, 3, 4] := by rw [e_h1]; exact hU.put (by simp)
  refine lv_aload_n hx hb d_En_append_10 rfl (lv_at hl 0 rfl) ?_
  have f_1_h1 : h1 1 = some ((b1, Sum.inr (1, [Value.ref b2, Value.ref b3, Value.ref b4, Value.int (nI k)])) : Nat × va_E) := by rw [e_h1]; exact gm_at f_1 (by decide)
  refine gz_get (ci := 1) (v := Value.ref b3) (C := "CommitLedger$Entries") (T := F_En) (N := 4) hx hb hts i_En hown hK Z f_1_h1 rfl 1 (by decide) kf_En_15 rfl d_En_append_11 ?_
  refine lv_aload_n hx hb d_En_append_14 rfl (lv_at hl 0 rfl) ?_
  refine gz_get (ci := 1) (v := Value.int (nI k)) (C := "CommitLedger$Entries") (T := F_En) (N := 4) hx hb hts i_En hown hK Z f_1_h1 rfl 3 (by decide) kf_En_21 rfl d_En_append_15 ?_
  refine lv_iload_n hx hb d_En_append_18 rfl (lv_at hl 2 rfl) ?_
  have f_3_h1 : h1 3 = some ((b3, Sum.inl (cI, 4096, Sum.inl f3)) : Nat × va_E) := by rw [e_h1]; exact gm_at f_3 (by decide)
  refine gz_iast (j := k) hx hb hK Z 0 f_3_h1 ht0 (hk) (rfl) (by decide) d_En_append_19 (fun H locs Z => ?_)
  obtain ⟨h2, e_h2⟩ : ∃ x : gm_M, x = gm_up h1 3 ((b3, Sum.inl (cI, 4096, Sum.inl (upd f3 k p2))) : Nat × va_E) := ⟨_, rfl⟩
  replace Z : gz D A s.heap h2 H locs := by rw [e_h2]; exact Z
  have f_3_h2 : h2 3 = some ((b3, Sum.inl (cI, 4096, Sum.inl (upd f3 k p2))) : Nat × va_E) := by rw [e_h2]; exact gm_self
  replace hU : gm_g h h2 [1, 2, 3, 4] := by rw [e_h2]; exact hU.put (by simp)
  refine lv_aload_n hx hb d_En_append_20 rfl (lv_at hl 0 rfl) ?_
  have f_1_h2 : h2 1 = some ((b1, Sum.inr (1, [Value.ref b2, Value.ref b3, Value.ref b4, Value.int (nI k)])) : Nat × va_E) := by rw [e_h2]; exact gm_at f_1_h1 (by decide)
  refine gz_get (ci := 1) (v := Value.ref b4) (C := "CommitLedger$Entries") (T := F_En) (N := 4) hx hb hts i_En hown hK Z f_1_h2 rfl 2 (by decide) kf_En_18 rfl d_En_append_21 ?_
  refine lv_aload_n hx hb d_En_append_24 rfl (lv_at hl 0 rfl) ?_
  refine gz_get (ci := 1) (v := Value.int (nI k)) (C := "CommitLedger$Entries") (T := F_En) (N := 4) hx hb hts i_En hown hK Z f_1_h2 rfl 3 (by decide) kf_En_21 rfl d_En_append_25 ?_
  refine lv_iload_n hx hb d_En_append_28 rfl (lv_at hl 3 rfl) ?_
  have f_4_h1 : h1 4 = some ((b4, Sum.inl (cI, 4096, Sum.inl f4)) : Nat × va_E) := by rw [e_h1]; exact gm_at f_4 (by decide)
  have f_4_h2 : h2 4 = some ((b4, Sum.inl (cI, 4096, Sum.inl f4)) : Nat × va_E) := by rw [e_h2]; exact gm_at f_4_h1 (by decide)
  refine gz_iast (j := k) hx hb hK Z 0 f_4_h2 ht0 (hk) (rfl) (by decide) d_En_append_29 (fun H locs Z => ?_)
  obtain ⟨h3, e_h3⟩ : ∃ x : gm_M, x = gm_up h2 4 ((b4, Sum.inl (cI, 4096, Sum.inl (upd f4 k p3))) : Nat × va_E) := ⟨_, rfl⟩
  replace Z : gz D A s.heap h3 H locs := by rw [e_h3]; exact Z
  have f_4_h3 : h3 4 = some ((b4, Sum.inl (cI, 4096, Sum.inl (upd f4 k p3))) : Nat × va_E) := by rw [e_h3]; exact gm_self
  replace hU : gm_g h h3 [1, 2, 3, 4] := by rw [e_h3]; exact hU.put (by simp)
  refine lv_aload_n hx hb d_En_append_30 rfl (lv_at hl 0 rfl) ?_
  refine lv_dup hx hb d_En_append_31 rfl ?_
  have f_1_h3 : h3 1 = some ((b1, Sum.inr (1, [Value.ref b2, Value.ref b3, Value.ref b4, Value.int (nI k)])) : Nat × va_E) := by rw [e_h3]; exact gm_at f_1_h2 (by decide)
  refine gz_get (ci := 1) (v := Value.int (nI k)) (C := "CommitLedger$Entries") (T := F_En) (N := 4) hx hb hts i_En hown hK Z f_1_h3 rfl 3 (by decide) kf_En_21 rfl d_En_append_32 ?_
  refine lv_iconst (v := 1) hx hb d_En_append_35 (by decide) ?_
  refine lv_iadd hx hb d_En_append_36 ?_
  refine gx_topi (y := nI (k + 1)) (nI_1 _) ?_
  refine gz_put (ci := 1) (v := Value.int (nI (k + 1))) (ty := .int) (C := "CommitLedger$Entries") (T := F_En) (N := 4) hx hb hts i_En t_En_ok n_En hown hK Z f_1_h3 rfl 3 (by decide) kf_En_21 rfl (by decide +kernel) rfl rfl (Nat.le_of_ble_eq_true rfl) d_En_append_37 (fun H locs Z => ?_)
  obtain ⟨h4, e_h4⟩ : ∃ x : gm_M, x = gm_up h3 1 ((b1, Sum.inr (1, [Value.ref b2, Value.ref b3, Value.ref b4, Value.int (nI (k + 1))])) : Nat × va_E) := ⟨_, rfl⟩
  replace Z : gz D A s.heap h4 H locs := by rw [e_h4]; exact Z
  have f_1_h4 : h4 1 = some ((b1, Sum.inr (1, [Value.ref b2, Value.ref b3, Value.ref b4, Value.int (nI (k + 1))])) : Nat × va_E) := by rw [e_h4]; exact gm_self
  replace hU : gm_g h h4 [1, 2, 3, 4] := by rw [e_h4]; exact hU.put (by simp)
  have f_2_h2 : h2 2 = some ((b2, Sum.inl (cI, 4096, Sum.inl (upd f2 k p1))) : Nat × va_E) := by rw [e_h2]; exact gm_at f_2_h1 (by decide)
  have f_2_h3 : h3 2 = some ((b2, Sum.inl (cI, 4096, Sum.inl (upd f2 k p1))) : Nat × va_E) := by rw [e_h3]; exact gm_at f_2_h2 (by decide)
  have f_2_h4 : h4 2 = some ((b2, Sum.inl (cI, 4096, Sum.inl (upd f2 k p1))) : Nat × va_E) := by rw [e_h4]; exact gm_at f_2_h3 (by decide)
  have f_3_h3 : h3 3 = some ((b3, Sum.inl (cI, 4096, Sum.inl (upd f3 k p2))) : Nat × va_E) := by rw [e_h3]; exact gm_at f_3_h2 (by decide)
  have f_3_h4 : h4 3 = some ((b3, Sum.inl (cI, 4096, Sum.inl (upd f3 k p2))) : Nat × va_E) := by rw [e_h4]; exact gm_at f_3_h3 (by decide)
  have f_4_h4 : h4 4 = some ((b4, Sum.inl (cI, 4096, Sum.inl (upd f4 k p3))) : Nat × va_E) := by rw [e_h4]; exact gm_at f_4_h3 (by decide)
  exact gz_vret hx hb hr hlocks hK Z (by decide) (by decide) (by rw [← hPQ]; exact ⟨rfl, hU, f_1_h4, f_2_h4, f_3_h4, f_4_h4⟩) d_En_append_40
set_option maxHeartbeats 4000000 in
set_option maxRecDepth 100000 in
theorem k_Vi_copyFrom (l : Launch) (htr : l.stackTraces = false) (D : va_G) (tys : List (ClassId × FieldType)) (z sz : Nat) (ws : va_W) (h : gm_M) (hM : gm_S h ws) (cZ : ClassId) (cF : ClassId) (n : Nat) (a : Nat) (a1 : Nat) (a2 : Nat) (a3 : Nat) (o : Nat) (b : Nat) (b1 : Nat) (b2 : Nat) (b3 : Nat) (u : Nat) (e0 : Value) (e1 : Value) (x4 : Int32) (x5 : Int32) (y5 : Int32) (g1 : Nat → Option Nat) (g2 : Nat → Option Nat) (k1 : Nat → Option Nat) (k2 : Nat → Option Nat) (f : Nat → Int32) (f2 : Nat → Int32) (f_n : h n = some ((a, Sum.inr (4, [Value.ref a1, Value.ref a2, Value.ref a3, e0, Value.int x4, Value.int x5])) : Nat × va_E)) (f_n_1 : h (n + 1) = some ((a1, Sum.inl (cF, 4096, Sum.inr (Sum.inr (Sum.inr (Sum.inr g1))))) : Nat × va_E)) (f_n_2 : h (n + 2) = some ((a2, Sum.inl (cF, 4096, Sum.inr (Sum.inr (Sum.inr (Sum.inr g2))))) : Nat × va_E)) (f_n_3 : h (n + 3) = some ((a3, Sum.inl (cZ, 4096, Sum.inl f)) : Nat × va_E)) (f_o : h o = some ((b, Sum.inr (4, [Value.ref b1, Value.ref b2, Value.ref b3, e1, Value.int (nI u), Value.int y5])) : Nat × va_E)) (f_o_1 : h (o + 1) = some ((b1, Sum.inl (cF, 4096, Sum.inr (Sum.inr (Sum.inr (Sum.inr k1))))) : Nat × va_E)) (f_o_2 : h (o + 2) = some ((b2, Sum.inl (cF, 4096, Sum.inr (Sum.inr (Sum.inr (Sum.inr k2))))) : Nat × va_E)) (f_o_3 : h (o + 3) = some ((b3, Sum.inl (cZ, 4096, Sum.inl f2)) : Nat × va_E)) (ht1 : tys[1]? = some ((cZ, FieldType.boolean) : ClassId × FieldType)) (ht2 : tys[2]? = some ((cF, FieldType.object "CommitLedger$LedgerFile") : ClassId × FieldType)) (hu : u ≤ 4096) (hap : n + 3 < o ∨ o + 3 < n) (hk1 : ∀ i v, i < u → k1 i = some v → ∃ (n1 : Nat) (vs : List Value), h n1 = some (v, Sum.inr (7, vs)) ∧ n1 ∉ [n, n + 1, n + 2, n + 3]) (hk2 : ∀ i v, i < u → k2 i = some v → ∃ (n1 : Nat) (vs : List Value), h n1 = some (v, Sum.inr (7, vs)) ∧ n1 ∉ [n, n + 1, n + 2, n + 3]) (hbo : ∀ i, i < 4096 → gx_b (f2 i)) : gx_Met l y_Vi_copyFrom [Cond.code y_Vi_copyFrom b_Vi_copyFrom 3 none] { frames := 1, cells := 0, slots := 0, locals := 12 } (gx_P z sz D classes tys ws [Value.ref a, Value.ref b]) (gx_Q D classes tys (va_A ws sz) (gm_p (fun r h' => (r = Sum.inl none ∧ gm_g h h' [n, n + 1, n + 2, n + 3] ∧ h' n = some ((a, Sum.inr (4, [Value.ref a1, Value.ref a2, Value.ref a3, e0, Value.int (nI u), Value.int y5])) : Nat × va_E) ∧ h' (n + 1) = some ((a1, Sum.inl (cF, 4096, Sum.inr (Sum.inr (Sum.inr (Sum.inr (gv_cp u k1 g1)))))) : Nat × va_E) ∧ h' (n + 2) = some ((a2, Sum.inl (cF, 4096, Sum.inr (Sum.inr (Sum.inr (Sum.inr (gv_cp u k2 g2)))))) : Nat × va_E) ∧ h' (n + 3) = some ((a3, Sum.inl (cZ, 4096, Sum.inl (gv_cp 4096 f2 f))) : Nat × va_E))))) 0 0 (va_A ws sz) := by
  refine gx_ofW (cc := b_Vi_copyFrom) (maxL := 3) (ret := none) (by decide) rfl ?_
  intro p e s m args below meth c s₁ B hml hv
  obtain ⟨rfl, hsz, hz, hP, hK, hD0, hY⟩ := hv
  have hx := B.exec
  have hb := B.bytes
  have hr := B.returns
  have hts := hY.hts (#[Value.ref a, Value.ref b] : Array Value)
  have hown : s.vm.findClass "CommitLedger$View" = some m.cls := findClass_of_methodNamed B.named
  have hlocks := B.notSynchronized
  have hne : c.exceptionTable.isEmpty = true := B.noHandlers (atoms_spec (ws := [Cond.code y_Vi_copyFrom b_Vi_copyFrom 3 none]) B.pre _ List.mem_cons_self)
  subst hsz
  have hAz := gx_az hD0 hz
  have hD := hD0.self (sz := s.heap.size)
  have hN := gx_ns hP
  have hA : ∀ q : Nat, s.heap.size ≤ q → va_A ws s.heap.size q := fun q h => Or.inr h
  generalize va_A ws s.heap.size = A at hD hN hA hAz ⊢
  generalize hPQ : (fun (r : Option Value ⊕ String) (h' : gm_M) => (r = Sum.inl none ∧ gm_g h h' [n, n + 1, n + 2, n + 3] ∧ h' n = some ((a, Sum.inr (4, [Value.ref a1, Value.ref a2, Value.ref a3, e0, Value.int (nI u), Value.int y5])) : Nat × va_E) ∧ h' (n + 1) = some ((a1, Sum.inl (cF, 4096, Sum.inr (Sum.inr (Sum.inr (Sum.inr (gv_cp u k1 g1)))))) : Nat × va_E) ∧ h' (n + 2) = some ((a2, Sum.inl (cF, 4096, Sum.inr (Sum.inr (Sum.inr (Sum.inr (gv_cp u k2 g2)))))) : Nat × va_E) ∧ h' (n + 3) = some ((a3, Sum.inl (cZ, 4096, Sum.inl (gv_cp 4096 f2 f))) : Nat × va_E))) = PQ
  have Z : gz D A s.heap h s.heap [] := ⟨ws, hM, hP, hD, va_S.rf⟩
  clear hP hD hM hD0
  have hU : gm_g h h [n, n + 1, n + 2, n + 3] := gm_g.rf
  have hl := lv_entry ([Value.ref a, Value.ref b]) (n := 3) (Nat.le_of_ble_eq_true rfl)
  rw [lg_entry_eq]
  generalize (lg_sl ([Value.ref a, Value.ref b]) ++ List.replicate (3 - (lg_sl ([Value.ref a, Value.ref b])).length) Slot.unset).toArray = ls at hl ⊢
  have hl : lv_has ls 3 [(0, Value.ref a), (1, Value.ref b)] := hl
  refine lv_aload_n hx hb d_Vi_copyFrom_0 rfl (lv_at hl 0 rfl) ?_
  refine lv_aload_n hx hb d_Vi_copyFrom_1 rfl (lv_at hl 1 rfl) ?_
  refine gz_get (ci := 4) (v := Value.int (nI u)) (C := "CommitLedger$View") (T := F_Vi) (N := 6) hx hb hts i_Vi hown hK Z f_o rfl 4 (by decide) kf_Vi_24 rfl d_Vi_copyFrom_2 ?_
  refine gz_put (ci := 4) (v := Value.int (nI u)) (ty := .int) (C := "CommitLedger$View") (T := F_Vi) (N := 6) hx hb hts i_Vi t_Vi_ok n_Vi hown hK Z f_n rfl 4 (by decide) kf_Vi_24 rfl (by decide +kernel) rfl rfl (Nat.le_of_ble_eq_true rfl) d_Vi_copyFrom_5 (fun H locs Z => ?_)
  obtain ⟨h1, e_h1⟩ : ∃ x : gm_M, x = gm_up h n ((a, Sum.inr (4, [Value.ref a1, Value.ref a2, Value.ref a3, e0, Value.int (nI u), Value.int x5])) : Nat × va_E) := ⟨_, rfl⟩
  replace Z : gz D A s.heap h1 H locs := by rw [e_h1]; exact Z
  have f_n_h1 : h1 n = some ((a, Sum.inr (4, [Value.ref a1, Value.ref a2, Value.ref a3, e0, Value.int (nI u), Value.int x5])) : Nat × va_E) := by rw [e_h1]; exact gm_self
  replace hU : gm_g h h1 [n, n + 1, n + 2, n + 3] := by rw [e_h1]; exact hU.put (by simp)
  refine lv_aload_n hx hb d_Vi_copyFrom_8 rfl (lv_at hl 0 rfl) ?_
  refine lv_aload_n hx hb d_Vi_copyFrom_9 rfl (lv_at hl 1 rfl) ?_
  have f_o_h1 : h1 o = some ((b, Sum.inr (4, [Value.ref b1, Value.ref b2, Value.ref b3, e1, Value.int (nI u), Value.int y5])) : Nat × va_E) := by rw [e_h1]; exact gm_at f_o (by omega)
  refine gz_get (ci := 4) (v := Value.int y5) (C := "CommitLedger$View") (T := F_Vi) (N := 6) hx hb hts i_Vi hown hK Z f_o_h1 rfl 5 (by decide) kf_Vi_28 rfl d_Vi_copyFrom_10 ?_
  refine gz_put (ci := 4) (v := Value.int y5) (ty := .int) (C := "CommitLedger$View") (T := F_Vi) (N := 6) hx hb hts i_Vi t_Vi_ok n_Vi hown hK Z f_n_h1 rfl 5 (by decide) kf_Vi_28 rfl (by decide +kernel) rfl rfl (Nat.le_of_ble_eq_true rfl) d_Vi_copyFrom_13 (fun H locs Z => ?_)
  obtain ⟨h2, e_h2⟩ : ∃ x : gm_M, x = gm_up h1 n ((a, Sum.inr (4, [Value.ref a1, Value.ref a2, Value.ref a3, e0, Value.int (nI u), Value.int y5])) : Nat × va_E) := ⟨_, rfl⟩
  replace Z : gz D A s.heap h2 H locs := by rw [e_h2]; exact Z
  have f_n_h2 : h2 n = some ((a, Sum.inr (4, [Value.ref a1, Value.ref a2, Value.ref a3, e0, Value.int (nI u), Value.int y5])) : Nat × va_E) := by rw [e_h2]; exact gm_self
  replace hU : gm_g h h2 [n, n + 1, n + 2, n + 3] := by rw [e_h2]; exact hU.put (by simp)
  refine lv_iconst (v := 0) hx hb d_Vi_copyFrom_16 (by decide) ?_
  refine lv_istore_n (lv' := [(2, Value.int 0), (0, Value.ref a), (1, Value.ref b)]) hx hb d_Vi_copyFrom_17 rfl hl (by decide) rfl (fun ls hl => ?_)
  have f_n_1_h1 : h1 (n + 1) = some ((a1, Sum.inl (cF, 4096, Sum.inr (Sum.inr (Sum.inr (Sum.inr g1))))) : Nat × va_E) := by rw [e_h1]; exact gm_at f_n_1 (by omega)
  have f_n_1_h2 : h2 (n + 1) = some ((a1, Sum.inl (cF, 4096, Sum.inr (Sum.inr (Sum.inr (Sum.inr g1))))) : Nat × va_E) := by rw [e_h2]; exact gm_at f_n_1_h1 (by omega)
  have f_n_1_n : h2 (n + 1) = some ((a1, Sum.inl (cF, 4096, Sum.inr (Sum.inr (Sum.inr (Sum.inr (gv_cp 0 k1 g1)))))) : Nat × va_E) := by rw [gv_cp_0]; exact f_n_1_h2
  have f_n_2_h1 : h1 (n + 2) = some ((a2, Sum.inl (cF, 4096, Sum.inr (Sum.inr (Sum.inr (Sum.inr g2))))) : Nat × va_E) := by rw [e_h1]; exact gm_at f_n_2 (by omega)
  have f_n_2_h2 : h2 (n + 2) = some ((a2, Sum.inl (cF, 4096, Sum.inr (Sum.inr (Sum.inr (Sum.inr g2))))) : Nat × va_E) := by rw [e_h2]; exact gm_at f_n_2_h1 (by omega)
  have f_n_2_n : h2 (n + 2) = some ((a2, Sum.inl (cF, 4096, Sum.inr (Sum.inr (Sum.inr (Sum.inr (gv_cp 0 k2 g2)))))) : Nat × va_E) := by rw [gv_cp_0]; exact f_n_2_h2
  have f_n_3_h1 : h1 (n + 3) = some ((a3, Sum.inl (cZ, 4096, Sum.inl f)) : Nat × va_E) := by rw [e_h1]; exact gm_at f_n_3 (by omega)
  have f_n_3_h2 : h2 (n + 3) = some ((a3, Sum.inl (cZ, 4096, Sum.inl f)) : Nat × va_E) := by rw [e_h2]; exact gm_at f_n_3_h1 (by omega)
  refine gz_loop (N := u) (pc := 18) (fun _ => 0) (fun _ => 0) (fun k h9 ls => gm_g h h9 [n, n + 1, n + 2, n + 3] ∧ h9 n = some ((a, Sum.inr (4, [Value.ref a1, Value.ref a2, Value.ref a3, e0, Value.int (nI u), Value.int y5])) : Nat × va_E) ∧ h9 (n + 1) = some ((a1, Sum.inl (cF, 4096, Sum.inr (Sum.inr (Sum.inr (Sum.inr (gv_cp k k1 g1)))))) : Nat × va_E) ∧ h9 (n + 2) = some ((a2, Sum.inl (cF, 4096, Sum.inr (Sum.inr (Sum.inr (Sum.inr (gv_cp k k2 g2)))))) : Nat × va_E) ∧ h9 (n + 3) = some ((a3, Sum.inl (cZ, 4096, Sum.inl f)) : Nat × va_E) ∧ lv_has ls 3 [(2, Value.int (nI k)), (0, Value.ref a), (1, Value.ref b)]) (fun k w3 H locs ls hk hI Z ih => ?_) (fun w3 H locs ls hI Z => ?_) (u) 0 _ _ _ _ (Nat.zero_add _) ⟨hU, f_n_h2, f_n_1_n, f_n_2_n, f_n_3_h2, lv_sub hl [0, 1, 2] rfl⟩ Z
  · obtain ⟨hU, f_n_w3, f_n_1_w3, f_n_2_w3, f_n_3_w3, hl⟩ := hI
    have e_w3 := hU
    refine lv_iload_n hx hb d_Vi_copyFrom_18 rfl (lv_at hl 0 rfl) ?_
    refine lv_aload_n hx hb d_Vi_copyFrom_19 rfl (lv_at hl 1 rfl) ?_
    refine gz_get (ci := 4) (v := Value.int (nI u)) (C := "CommitLedger$View") (T := F_Vi) (N := 6) hx hb hts i_Vi hown hK Z f_n_w3 rfl 4 (by decide) kf_Vi_24 rfl d_Vi_copyFrom_20 ?_
    refine lv_icmp_ge (tgt := 56) hx hb d_Vi_copyFrom_23 (by decide) (fun c9 => absurd c9 (nI_ge hk (by omega))) (fun _ => ?_)
    refine lv_aload_n hx hb d_Vi_copyFrom_26 rfl (lv_at hl 1 rfl) ?_
    refine gz_get (ci := 4) (v := Value.ref a1) (C := "CommitLedger$View") (T := F_Vi) (N := 6) hx hb hts i_Vi hown hK Z f_n_w3 rfl 0 (by decide) kf_Vi_11 rfl d_Vi_copyFrom_27 ?_
    refine lv_iload_n hx hb d_Vi_copyFrom_30 rfl (lv_at hl 0 rfl) ?_
    refine lv_aload_n hx hb d_Vi_copyFrom_31 rfl (lv_at hl 2 rfl) ?_
    have f_o_w3 : w3 o = some ((b, Sum.inr (4, [Value.ref b1, Value.ref b2, Value.ref b3, e1, Value.int (nI u), Value.int y5])) : Nat × va_E) := e_w3.at f_o (by first | decide | (simp; done) | (simp; omega))
    refine gz_get (ci := 4) (v := Value.ref b1) (C := "CommitLedger$View") (T := F_Vi) (N := 6) hx hb hts i_Vi hown hK Z f_o_w3 rfl 0 (by decide) kf_Vi_11 rfl d_Vi_copyFrom_32 ?_
    refine lv_iload_n hx hb d_Vi_copyFrom_35 rfl (lv_at hl 0 rfl) ?_
    have f_o_1_w3 : w3 (o + 1) = some ((b1, Sum.inl (cF, 4096, Sum.inr (Sum.inr (Sum.inr (Sum.inr k1))))) : Nat × va_E) := e_w3.at f_o_1 (by first | decide | (simp; done) | (simp; omega))
    refine gz_aald (v := va_rf (k1 k)) (j := k) hx hb hK Z 2 f_o_1_w3 ht2 (by omega) (rfl) (by decide) (rfl) d_Vi_copyFrom_36 ?_
    refine gz_aastO (j := k) (x := (k1 k)) hx hb hK Z 2 7 f_n_1_w3 ht2 (fun v e9 => by obtain ⟨n1, vs, q1, q2⟩ := hk1 k v hk e9; exact ⟨n1, vs, hU.at q1 q2⟩) rfl (by omega) (rfl) (by decide) d_Vi_copyFrom_37 (fun H locs Z => ?_)
    obtain ⟨h5, e_h5⟩ : ∃ x : gm_M, x = gm_up w3 (n + 1) ((a1, Sum.inl (cF, 4096, Sum.inr (Sum.inr (Sum.inr (Sum.inr (va_up (gv_cp k k1 g1) k (k1 k))))))) : Nat × va_E) := ⟨_, rfl⟩
    replace Z : gz D A s.heap h5 H locs := by rw [e_h5]; exact Z
    have f_n_1_h5 : h5 (n + 1) = some ((a1, Sum.inl (cF, 4096, Sum.inr (Sum.inr (Sum.inr (Sum.inr (va_up (gv_cp k k1 g1) k (k1 k))))))) : Nat × va_E) := by rw [e_h5]; exact gm_self
    replace hU : gm_g h h5 [n, n + 1, n + 2, n + 3] := by rw [e_h5]; exact hU.put (by simp)
    refine lv_aload_n hx hb d_Vi_copyFrom_38 rfl (lv_at hl 1 rfl) ?_
    have f_n_h5 : h5 n = some ((a, Sum.inr (4, [Value.ref a1, Value.ref a2, Value.ref a3, e0, Value.int (nI u), Value.int y5])) : Nat × va_E) := by rw [e_h5]; exact gm_at f_n_w3 (by omega)
    refine gz_get (ci := 4) (v := Value.ref a2) (C := "CommitLedger$View") (T := F_Vi) (N := 6) hx hb hts i_Vi hown hK Z f_n_h5 rfl 1 (by decide) kf_Vi_17 rfl d_Vi_copyFrom_39 ?_
    refine lv_iload_n hx hb d_Vi_copyFrom_42 rfl (lv_at hl 0 rfl) ?_
    refine lv_aload_n hx hb d_Vi_copyFrom_43 rfl (lv_at hl 2 rfl) ?_
    have f_o_h5 : h5 o = some ((b, Sum.inr (4, [Value.ref b1, Value.ref b2, Value.ref b3, e1, Value.int (nI u), Value.int y5])) : Nat × va_E) := by rw [e_h5]; exact gm_at f_o_w3 (by omega)
    refine gz_get (ci := 4) (v := Value.ref b2) (C := "CommitLedger$View") (T := F_Vi) (N := 6) hx hb hts i_Vi hown hK Z f_o_h5 rfl 1 (by decide) kf_Vi_17 rfl d_Vi_copyFrom_44 ?_
    refine lv_iload_n hx hb d_Vi_copyFrom_47 rfl (lv_at hl 0 rfl) ?_
    have f_o_2_w3 : w3 (o + 2) = some ((b2, Sum.inl (cF, 4096, Sum.inr (Sum.inr (Sum.inr (Sum.inr k2))))) : Nat × va_E) := e_w3.at f_o_2 (by first | decide | (simp; done) | (simp; omega))
    have f_o_2_h5 : h5 (o + 2) = some ((b2, Sum.inl (cF, 4096, Sum.inr (Sum.inr (Sum.inr (Sum.inr k2))))) : Nat × va_E) := by rw [e_h5]; exact gm_at f_o_2_w3 (by omega)
    refine gz_aald (v := va_rf (k2 k)) (j := k) hx hb hK Z 2 f_o_2_h5 ht2 (by omega) (rfl) (by decide) (rfl) d_Vi_copyFrom_48 ?_
    have f_n_2_h5 : h5 (n + 2) = some ((a2, Sum.inl (cF, 4096, Sum.inr (Sum.inr (Sum.inr (Sum.inr (gv_cp k k2 g2)))))) : Nat × va_E) := by rw [e_h5]; exact gm_at f_n_2_w3 (by omega)
    refine gz_aastO (j := k) (x := (k2 k)) hx hb hK Z 2 7 f_n_2_h5 ht2 (fun v e9 => by obtain ⟨n1, vs, q1, q2⟩ := hk2 k v hk e9; exact ⟨n1, vs, hU.at q1 q2⟩) rfl (by omega) (rfl) (by decide) d_Vi_copyFrom_49 (fun H locs Z => ?_)
    obtain ⟨h6, e_h6⟩ : ∃ x : gm_M, x = gm_up h5 (n + 2) ((a2, Sum.inl (cF, 4096, Sum.inr (Sum.inr (Sum.inr (Sum.inr (va_up (gv_cp k k2 g2) k (k2 k))))))) : Nat × va_E) := ⟨_, rfl⟩
    replace Z : gz D A s.heap h6 H locs := by rw [e_h6]; exact Z
    have f_n_2_h6 : h6 (n + 2) = some ((a2, Sum.inl (cF, 4096, Sum.inr (Sum.inr (Sum.inr (Sum.inr (va_up (gv_cp k k2 g2) k (k2 k))))))) : Nat × va_E) := by rw [e_h6]; exact gm_self
    replace hU : gm_g h h6 [n, n + 1, n + 2, n + 3] := by rw [e_h6]; exact hU.put (by simp)
    refine lv_iinc (v := nI (k + 1)) (lv' := [(2, Value.int (nI (k + 1))), (0, Value.ref a), (1, Value.ref b)]) hx hb d_Vi_copyFrom_50 hl (k := 0) rfl (show nI k + 1 = nI (k + 1) from nI_1 _) (by decide) rfl (fun ls hl => ?_)
    refine lv_goto (tgt := 18) hx hb d_Vi_copyFrom_53 (by decide) ?_
    have f_n_h6 : h6 n = some ((a, Sum.inr (4, [Value.ref a1, Value.ref a2, Value.ref a3, e0, Value.int (nI u), Value.int y5])) : Nat × va_E) := by rw [e_h6]; exact gm_at f_n_h5 (by omega)
    have f_n_1_h6 : h6 (n + 1) = some ((a1, Sum.inl (cF, 4096, Sum.inr (Sum.inr (Sum.inr (Sum.inr (va_up (gv_cp k k1 g1) k (k1 k))))))) : Nat × va_E) := by rw [e_h6]; exact gm_at f_n_1_h5 (by omega)
    have f_n_1_n : h6 (n + 1) = some ((a1, Sum.inl (cF, 4096, Sum.inr (Sum.inr (Sum.inr (Sum.inr (gv_cp (k + 1) k1 g1)))))) : Nat × va_E) := by rw [← gv_cp_s]; exact f_n_1_h6
    have f_n_2_n : h6 (n + 2) = some ((a2, Sum.inl (cF, 4096, Sum.inr (Sum.inr (Sum.inr (Sum.inr (gv_cp (k + 1) k2 g2)))))) : Nat × va_E) := by rw [← gv_cp_s]; exact f_n_2_h6
    have f_n_3_h5 : h5 (n + 3) = some ((a3, Sum.inl (cZ, 4096, Sum.inl f)) : Nat × va_E) := by rw [e_h5]; exact gm_at f_n_3_w3 (by omega)
    have f_n_3_h6 : h6 (n + 3) = some ((a3, Sum.inl (cZ, 4096, Sum.inl f)) : Nat × va_E) := by rw [e_h6]; exact gm_at f_n_3_h5 (by omega)
    exact ih _ _ _ _ ⟨hU, f_n_h6, f_n_1_n, f_n_2_n, f_n_3_h6, lv_sub hl [0, 1, 2] rfl⟩ Z
  · obtain ⟨hU, f_n_w3, f_n_1_w3, f_n_2_w3, f_n_3_w3, hl⟩ := hI
    have e_w3 := hU
    refine lv_iload_n hx hb d_Vi_copyFrom_18 rfl (lv_at hl 0 rfl) ?_
    refine lv_aload_n hx hb d_Vi_copyFrom_19 rfl (lv_at hl 1 rfl) ?_
    refine gz_get (ci := 4) (v := Value.int (nI u)) (C := "CommitLedger$View") (T := F_Vi) (N := 6) hx hb hts i_Vi hown hK Z f_n_w3 rfl 4 (by decide) kf_Vi_24 rfl d_Vi_copyFrom_20 ?_
    refine lv_icmp_ge (tgt := 56) hx hb d_Vi_copyFrom_23 (by decide) (fun _ => ?_) (fun c9 => absurd (nI_le (Nat.le_refl _) (by omega)) c9)
    refine lv_iconst (v := 0) hx hb d_Vi_copyFrom_56 (by decide) ?_
    refine lv_istore_n (lv' := [(2, Value.int 0), (0, Value.ref a), (1, Value.ref b)]) hx hb d_Vi_copyFrom_57 rfl hl (by decide) rfl (fun ls hl => ?_)
    have f_n_3_n : w3 (n + 3) = some ((a3, Sum.inl (cZ, 4096, Sum.inl (gv_cp 0 f2 f))) : Nat × va_E) := by rw [gv_cp_0]; exact f_n_3_w3
    refine gz_loop (N := 4096) (pc := 58) (fun _ => 0) (fun _ => 0) (fun k h9 ls => gm_g h h9 [n, n + 1, n + 2, n + 3] ∧ h9 n = some ((a, Sum.inr (4, [Value.ref a1, Value.ref a2, Value.ref a3, e0, Value.int (nI u), Value.int y5])) : Nat × va_E) ∧ h9 (n + 1) = some ((a1, Sum.inl (cF, 4096, Sum.inr (Sum.inr (Sum.inr (Sum.inr (gv_cp u k1 g1)))))) : Nat × va_E) ∧ h9 (n + 2) = some ((a2, Sum.inl (cF, 4096, Sum.inr (Sum.inr (Sum.inr (Sum.inr (gv_cp u k2 g2)))))) : Nat × va_E) ∧ h9 (n + 3) = some ((a3, Sum.inl (cZ, 4096, Sum.inl (gv_cp k f2 f))) : Nat × va_E) ∧ lv_has ls 3 [(2, Value.int (nI k)), (0, Value.ref a), (1, Value.ref b)]) (fun k w8 H locs ls hk hI Z ih => ?_) (fun w8 H locs ls hI Z => ?_) (4096) 0 _ _ _ _ (Nat.zero_add _) ⟨hU, f_n_w3, f_n_1_w3, f_n_2_w3, f_n_3_n, lv_sub hl [0, 1, 2] rfl⟩ Z
    · obtain ⟨hU, f_n_w8, f_n_1_w8, f_n_2_w8, f_n_3_w8, hl⟩ := hI
      have e_w8 := hU
      refine lv_iload_n hx hb d_Vi_copyFrom_58 rfl (lv_at hl 0 rfl) ?_
      refine lv_sipush (v := 4096) hx hb d_Vi_copyFrom_59 (by decide) ?_
      refine lv_icmp_ge (tgt := 83) hx hb d_Vi_copyFrom_62 (by decide) (fun c9 => absurd c9 (show ¬ nI 4096 ≤ nI k from nI_ge hk (by decide))) (fun _ => ?_)
      refine lv_aload_n hx hb d_Vi_copyFrom_65 rfl (lv_at hl 1 rfl) ?_
      refine gz_get (ci := 4) (v := Value.ref a3) (C := "CommitLedger$View") (T := F_Vi) (N := 6) hx hb hts i_Vi hown hK Z f_n_w8 rfl 2 (by decide) kf_Vi_20 rfl d_Vi_copyFrom_66 ?_
      refine lv_iload_n hx hb d_Vi_copyFrom_69 rfl (lv_at hl 0 rfl) ?_
      refine lv_aload_n hx hb d_Vi_copyFrom_70 rfl (lv_at hl 2 rfl) ?_
      have f_o_w8 : w8 o = some ((b, Sum.inr (4, [Value.ref b1, Value.ref b2, Value.ref b3, e1, Value.int (nI u), Value.int y5])) : Nat × va_E) := e_w8.at f_o (by first | decide | (simp; done) | (simp; omega))
      refine gz_get (ci := 4) (v := Value.ref b3) (C := "CommitLedger$View") (T := F_Vi) (N := 6) hx hb hts i_Vi hown hK Z f_o_w8 rfl 2 (by decide) kf_Vi_20 rfl d_Vi_copyFrom_71 ?_
      refine lv_iload_n hx hb d_Vi_copyFrom_74 rfl (lv_at hl 0 rfl) ?_
      have f_o_3_w8 : w8 (o + 3) = some ((b3, Sum.inl (cZ, 4096, Sum.inl f2)) : Nat × va_E) := e_w8.at f_o_3 (by first | decide | (simp; done) | (simp; omega))
      refine gz_zald (j := k) hx hb hK Z 1 f_o_3_w8 ht1 (hk) (rfl) (by decide) d_Vi_copyFrom_75 ?_
      refine gz_zast (j := k) hx hb hK Z 1 f_n_3_w8 ht1 (hk) (rfl) (by decide) d_Vi_copyFrom_76 (fun H locs Z => ?_)
      obtain ⟨h10, e_h10⟩ : ∃ x : gm_M, x = gm_up w8 (n + 3) ((a3, Sum.inl (cZ, 4096, Sum.inl (upd (gv_cp k f2 f) k (vp_nar .boolean (f2 k))))) : Nat × va_E) := ⟨_, rfl⟩
      replace Z : gz D A s.heap h10 H locs := by rw [e_h10]; exact Z
      have f_n_3_h10 : h10 (n + 3) = some ((a3, Sum.inl (cZ, 4096, Sum.inl (upd (gv_cp k f2 f) k (vp_nar .boolean (f2 k))))) : Nat × va_E) := by rw [e_h10]; exact gm_self
      replace hU : gm_g h h10 [n, n + 1, n + 2, n + 3] := by rw [e_h10]; exact hU.put (by simp)
      refine lv_iinc (v := nI (k + 1)) (lv' := [(2, Value.int (nI (k + 1))), (0, Value.ref a), (1, Value.ref b)]) hx hb d_Vi_copyFrom_77 hl (k := 0) rfl (show nI k + 1 = nI (k + 1) from nI_1 _) (by decide) rfl (fun ls hl => ?_)
      refine lv_goto (tgt := 58) hx hb d_Vi_copyFrom_80 (by decide) ?_
      have f_n_h10 : h10 n = some ((a, Sum.inr (4, [Value.ref a1, Value.ref a2, Value.ref a3, e0, Value.int (nI u), Value.int y5])) : Nat × va_E) := by rw [e_h10]; exact gm_at f_n_w8 (by omega)
      have f_n_1_h10 : h10 (n + 1) = some ((a1, Sum.inl (cF, 4096, Sum.inr (Sum.inr (Sum.inr (Sum.inr (gv_cp u k1 g1)))))) : Nat × va_E) := by rw [e_h10]; exact gm_at f_n_1_w8 (by omega)
      have f_n_2_h10 : h10 (n + 2) = some ((a2, Sum.inl (cF, 4096, Sum.inr (Sum.inr (Sum.inr (Sum.inr (gv_cp u k2 g2)))))) : Nat × va_E) := by rw [e_h10]; exact gm_at f_n_2_w8 (by omega)
      have f_n_3_n : h10 (n + 3) = some ((a3, Sum.inl (cZ, 4096, Sum.inl (gv_cp (k + 1) f2 f))) : Nat × va_E) := by rw [← gv_cp_sz (hbo k hk)]; exact f_n_3_h10
      exact ih _ _ _ _ ⟨hU, f_n_h10, f_n_1_h10, f_n_2_h10, f_n_3_n, lv_sub hl [0, 1, 2] rfl⟩ Z
    · obtain ⟨hU, f_n_w8, f_n_1_w8, f_n_2_w8, f_n_3_w8, hl⟩ := hI
      have e_w8 := hU
      refine lv_iload_n hx hb d_Vi_copyFrom_58 rfl (lv_at hl 0 rfl) ?_
      refine lv_sipush (v := 4096) hx hb d_Vi_copyFrom_59 (by decide) ?_
      refine lv_icmp_ge (tgt := 83) hx hb d_Vi_copyFrom_62 (by decide) (fun _ => ?_) (fun c9 => absurd (by decide) c9)
      exact gz_vret hx hb hr hlocks hK Z (by decide) (by decide) (by rw [← hPQ]; exact ⟨rfl, hU, f_n_w8, f_n_1_w8, f_n_2_w8, f_n_3_w8⟩) d_Vi_copyFrom_83
