/-! copyFrom with files, openReader, commitIsCorrupt over maps; rows printed by own text programs -/
set_option maxHeartbeats 4000000 in
set_option maxRecDepth 100000 in
theorem k_Vi_copyFrom_f (l : Launch) (htr : l.stackTraces = false) (D : va_G) (tys : List (ClassId × FieldType)) (z sz : Nat) (ws : va_W) (h : gm_M) (hM : gm_S h ws) (cZ : ClassId) (cF : ClassId) (n : Nat) (a : Nat) (a1 : Nat) (a2 : Nat) (a3 : Nat) (o : Nat) (b : Nat) (b1 : Nat) (b2 : Nat) (b3 : Nat) (u : Nat) (e0 : Value) (e1 : Value) (x4 : Int32) (x5 : Int32) (y5 : Int32) (g1 : Nat → Option Nat) (g2 : Nat → Option Nat) (k1 : Nat → Option Nat) (k2 : Nat → Option Nat) (f : Nat → Int32) (f2 : Nat → Int32) (P : Nat → Prop) (F : Nat → Nat → Nat) (f_n : h n = some ((a, Sum.inr (4, [Value.ref a1, Value.ref a2, Value.ref a3, e0, Value.int x4, Value.int x5])) : Nat × va_E)) (f_n_1 : h (n + 1) = some ((a1, Sum.inl (cF, 4096, Sum.inr (Sum.inr (Sum.inr (Sum.inr g1))))) : Nat × va_E)) (f_n_2 : h (n + 2) = some ((a2, Sum.inl (cF, 4096, Sum.inr (Sum.inr (Sum.inr (Sum.inr g2))))) : Nat × va_E)) (f_n_3 : h (n + 3) = some ((a3, Sum.inl (cZ, 4096, Sum.inl f)) : Nat × va_E)) (f_o : h o = some ((b, Sum.inr (4, [Value.ref b1, Value.ref b2, Value.ref b3, e1, Value.int (nI u), Value.int y5])) : Nat × va_E)) (f_o_1 : h (o + 1) = some ((b1, Sum.inl (cF, 4096, Sum.inr (Sum.inr (Sum.inr (Sum.inr k1))))) : Nat × va_E)) (f_o_2 : h (o + 2) = some ((b2, Sum.inl (cF, 4096, Sum.inr (Sum.inr (Sum.inr (Sum.inr k2))))) : Nat × va_E)) (f_o_3 : h (o + 3) = some ((b3, Sum.inl (cZ, 4096, Sum.inl f2)) : Nat × va_E)) (ht1 : tys[1]? = some ((cZ, FieldType.boolean) : ClassId × FieldType)) (ht2 : tys[2]? = some ((cF, FieldType.object "CommitLedger$LedgerFile") : ClassId × FieldType)) (fam : gf_F P F h) (hu : u ≤ 4096) (hap : n + 3 < o ∨ o + 3 < n) (hn : n + 3 < 1000) (hk1 : ∀ i v, i < u → k1 i = some v → P v) (hk2 : ∀ i v, i < u → k2 i = some v → P v) (hbo : ∀ i, i < 4096 → gx_b (f2 i)) : gx_Met l y_Vi_copyFrom [Cond.code y_Vi_copyFrom b_Vi_copyFrom 3 none] { frames := 1, cells := 0, slots := 0, locals := 12 } (gx_P z sz D classes tys ws [Value.ref a, Value.ref b]) (gx_Q D classes tys (va_A ws sz) (gm_p (fun r h' => (r = Sum.inl none ∧ gm_g h h' [n, n + 1, n + 2, n + 3] ∧ h' n = some ((a, Sum.inr (4, [Value.ref a1, Value.ref a2, Value.ref a3, e0, Value.int (nI u), Value.int y5])) : Nat × va_E) ∧ h' (n + 1) = some ((a1, Sum.inl (cF, 4096, Sum.inr (Sum.inr (Sum.inr (Sum.inr (gv_cp u k1 g1)))))) : Nat × va_E) ∧ h' (n + 2) = some ((a2, Sum.inl (cF, 4096, Sum.inr (Sum.inr (Sum.inr (Sum.inr (gv_cp u k2 g2)))))) : Nat × va_E) ∧ h' (n + 3) = some ((a3, Sum.inl (cZ, 4096, Sum.inl (gv_cp 4096 f2 f))) : Nat × va_E))))) 0 0 (va_A ws sz) := by
  refine gx_ofW (cc := b_Vi_copyFrom) (maxL := 3) (ret := none) (by decide) rfl ?_
  intro p e s m args below meth c s₁ B hml hv
  obtain ⟨rfl, hsz, hz, hP, hK, hD0, hY⟩ := hv
  have hx := B.exec
  have hb := B.bytes
  have hr := B.returns
  have hts := hY.hts (#[Value.ref a, Value.ref b] : Array Value)
  have hown : s.vm.findClass "CommitLedger$View" = some m.cls := findClass_of_methodNamed B.named
  have hlocks := B.notSynchronized
  have hne : c.exceptionTable.isEmpty = true := B.noHandlers (atoms_spec (ws := [Cond.code y_Vi_copyFrom b_Vi_copyFrom 3 none]) B.pre _ List.mem_cons_self)
  subst hsz
  have hAz := gx_az hD0 hz
  have hD := hD0.self (sz := s.heap.size)
  have hN := gx_ns hP
  have hA : ∀ q : Nat, s.heap.size ≤ q → va_A ws s.heap.size q := fun q h => Or.inr h
  generalize va_A ws s.heap.size = A at hD hN hA hAz ⊢
  generalize hPQ : (fun (r : Option Value ⊕ String) (h' : gm_M) => (r = Sum.inl none ∧ gm_g h h' [n, n + 1, n + 2, n + 3] ∧ h' n = some ((a, Sum.inr (4, [Value.ref a1, Value.ref a2, Value.ref a3, e0, Value.int (nI u), Value.int y5])) : Nat × va_E) ∧ h' (n + 1) = some ((a1, Sum.inl (cF, 4096, Sum.inr (Sum.inr (Sum.inr (Sum.inr (gv_cp u k1 g1)))))) : Nat × va_E) ∧ h' (n + 2) = some ((a2, Sum.inl (cF, 4096, Sum.inr (Sum.inr (Sum.inr (Sum.inr (gv_cp u k2 g2)))))) : Nat × va_E) ∧ h' (n + 3) = some ((a3, Sum.inl (cZ, 4096, Sum.inl (gv_cp 4096 f2 f))) : Nat × va_E))) = PQ
  have Z : gz D A s.heap h s.heap [] := ⟨ws, hM, hP, hD, va_S.rf⟩
  clear hP hD hM hD0
  have hU : gm_g h h [n, n + 1, n + 2, n + 3] := gm_g.rf
  have hl := lv_entry ([Value.ref a, Value.ref b]) (n := 3) (Nat.le_of_ble_eq_true rfl)
  rw [lg_entry_eq]
  generalize (lg_sl ([Value.ref a, Value.ref b]) ++ List.replicate (3 - (lg_sl ([Value.ref a, Value.ref b])).length) Slot.unset).toArray = ls at hl ⊢
  have hl : lv_has ls 3 [(0, Value.ref a), (1, Value.ref b)] := hl
  refine lv_aload_n hx hb d_Vi_copyFrom_0 rfl (lv_at hl 0 rfl) ?_
  refine lv_aload_n hx hb d_Vi_copyFrom_1 rfl (lv_at hl 1 rfl) ?_
  refine gz_get (ci := 4) (v := Value.int (nI u)) (C := "CommitLedger$View") (T := F_Vi) (N := 6) hx hb hts i_Vi hown hK Z f_o rfl 4 (by decide) kf_Vi_24 rfl d_Vi_copyFrom_2 ?_
  refine gz_put (ci := 4) (v := Value.int (nI u)) (ty := .int) (C := "CommitLedger$View") (T := F_Vi) (N := 6) hx hb hts i_Vi t_Vi_ok n_Vi hown hK Z f_n rfl 4 (by decide) kf_Vi_24 rfl (by decide +kernel) rfl rfl (Nat.le_of_ble_eq_true rfl) d_Vi_copyFrom_5 (fun H locs Z => ?_)
  obtain ⟨h1, e_h1⟩ : ∃ z9 : gm_M, z9 = gm_up h n ((a, Sum.inr (4, [Value.ref a1, Value.ref a2, Value.ref a3, e0, Value.int (nI u), Value.int x5])) : Nat × va_E) := ⟨_, rfl⟩
  replace Z : gz D A s.heap h1 H locs := by rw [e_h1]; exact Z
  have f_n_h1 : h1 n = some ((a, Sum.inr (4, [Value.ref a1, Value.ref a2, Value.ref a3, e0, Value.int (nI u), Value.int x5])) : Nat × va_E) := by rw [e_h1]; exact gm_self
  replace hU : gm_g h h1 [n, n + 1, n + 2, n + 3] := by rw [e_h1]; exact hU.put (by simp)
  refine lv_aload_n hx hb d_Vi_copyFrom_8 rfl (lv_at hl 0 rfl) ?_
  refine lv_aload_n hx hb d_Vi_copyFrom_9 rfl (lv_at hl 1 rfl) ?_
  have f_o_h1 : h1 o = some ((b, Sum.inr (4, [Value.ref b1, Value.ref b2, Value.ref b3, e1, Value.int (nI u), Value.int y5])) : Nat × va_E) := by rw [e_h1]; exact gm_at f_o (by omega)
  refine gz_get (ci := 4) (v := Value.int y5) (C := "CommitLedger$View") (T := F_Vi) (N := 6) hx hb hts i_Vi hown hK Z f_o_h1 rfl 5 (by decide) kf_Vi_28 rfl d_Vi_copyFrom_10 ?_
  refine gz_put (ci := 4) (v := Value.int y5) (ty := .int) (C := "CommitLedger$View") (T := F_Vi) (N := 6) hx hb hts i_Vi t_Vi_ok n_Vi hown hK Z f_n_h1 rfl 5 (by decide) kf_Vi_28 rfl (by decide +kernel) rfl rfl (Nat.le_of_ble_eq_true rfl) d_Vi_copyFrom_13 (fun H locs Z => ?_)
  obtain ⟨h2, e_h2⟩ : ∃ z9 : gm_M, z9 = gm_up h1 n ((a, Sum.inr (4, [Value.ref a1, Value.ref a2, Value.ref a3, e0, Value.int (nI u), Value.int y5])) : Nat × va_E) := ⟨_, rfl⟩
  replace Z : gz D A s.heap h2 H locs := by rw [e_h2]; exact Z
  have f_n_h2 : h2 n = some ((a, Sum.inr (4, [Value.ref a1, Value.ref a2, Value.ref a3, e0, Value.int (nI u), Value.int y5])) : Nat × va_E) := by rw [e_h2]; exact gm_self
  replace hU : gm_g h h2 [n, n + 1, n + 2, n + 3] := by rw [e_h2]; exact hU.put (by simp)
  refine lv_iconst (v := 0) hx hb d_Vi_copyFrom_16 (by decide) ?_
  refine lv_istore_n (lv' := [(2, Value.int 0), (0, Value.ref a), (1, Value.ref b)]) hx hb d_Vi_copyFrom_17 rfl hl (by decide) rfl (fun ls hl => ?_)
  have f_n_1_h1 : h1 (n + 1) = some ((a1, Sum.inl (cF, 4096, Sum.inr (Sum.inr (Sum.inr (Sum.inr g1))))) : Nat × va_E) := by rw [e_h1]; exact gm_at f_n_1 (by omega)
  have f_n_1_h2 : h2 (n + 1) = some ((a1, Sum.inl (cF, 4096, Sum.inr (Sum.inr (Sum.inr (Sum.inr g1))))) : Nat × va_E) := by rw [e_h2]; exact gm_at f_n_1_h1 (by omega)
  have f_n_1_n : h2 (n + 1) = some ((a1, Sum.inl (cF, 4096, Sum.inr (Sum.inr (Sum.inr (Sum.inr (gv_cp 0 k1 g1)))))) : Nat × va_E) := by rw [gv_cp_0]; exact f_n_1_h2
  have f_n_2_h1 : h1 (n + 2) = some ((a2, Sum.inl (cF, 4096, Sum.inr (Sum.inr (Sum.inr (Sum.inr g2))))) : Nat × va_E) := by rw [e_h1]; exact gm_at f_n_2 (by omega)
  have f_n_2_h2 : h2 (n + 2) = some ((a2, Sum.inl (cF, 4096, Sum.inr (Sum.inr (Sum.inr (Sum.inr g2))))) : Nat × va_E) := by rw [e_h2]; exact gm_at f_n_2_h1 (by omega)
  have f_n_2_n : h2 (n + 2) = some ((a2, Sum.inl (cF, 4096, Sum.inr (Sum.inr (Sum.inr (Sum.inr (gv_cp 0 k2 g2)))))) : Nat × va_E) := by rw [gv_cp_0]; exact f_n_2_h2
  have f_n_3_h1 : h1 (n + 3) = some ((a3, Sum.inl (cZ, 4096, Sum.inl f)) : Nat × va_E) := by rw [e_h1]; exact gm_at f_n_3 (by omega)
  have f_n_3_h2 : h2 (n + 3) = some ((a3, Sum.inl (cZ, 4096, Sum.inl f)) : Nat × va_E) := by rw [e_h2]; exact gm_at f_n_3_h1 (by omega)
  refine gz_loop (N := u) (pc := 18) (fun _ => 0) (fun _ => 0) (fun k h9 ls => gm_g h h9 [n, n + 1, n + 2, n + 3] ∧ h9 n = some ((a, Sum.inr (4, [Value.ref a1, Value.ref a2, Value.ref a3, e0, Value.int (nI u), Value.int y5])) : Nat × va_E) ∧ h9 (n + 1) = some ((a1, Sum.inl (cF, 4096, Sum.inr (Sum.inr (Sum.inr (Sum.inr (gv_cp k k1 g1)))))) : Nat × va_E) ∧ h9 (n + 2) = some ((a2, Sum.inl (cF, 4096, Sum.inr (Sum.inr (Sum.inr (Sum.inr (gv_cp k k2 g2)))))) : Nat × va_E) ∧ h9 (n + 3) = some ((a3, Sum.inl (cZ, 4096, Sum.inl f)) : Nat × va_E) ∧ lv_has ls 3 [(2, Value.int (nI k)), (0, Value.ref a), (1, Value.ref b)]) (fun k w3 H locs ls hk hI Z ihk => ?_) (fun w3 H locs ls hI Z => ?_) (u) 0 _ _ _ _ (Nat.zero_add _) ⟨hU, f_n_h2, f_n_1_n, f_n_2_n, f_n_3_h2, lv_sub hl [0, 1, 2] rfl⟩ Z
  · obtain ⟨hU, f_n_w3, f_n_1_w3, f_n_2_w3, f_n_3_w3, hl⟩ := hI
    have e_w3 := hU
    refine lv_iload_n hx hb d_Vi_copyFrom_18 rfl (lv_at hl 0 rfl) ?_
    refine lv_aload_n hx hb d_Vi_copyFrom_19 rfl (lv_at hl 1 rfl) ?_
    refine gz_get (ci := 4) (v := Value.int (nI u)) (C := "CommitLedger$View") (T := F_Vi) (N := 6) hx hb hts i_Vi hown hK Z f_n_w3 rfl 4 (by decide) kf_Vi_24 rfl d_Vi_copyFrom_20 ?_
    refine lv_icmp_ge (tgt := 56) hx hb d_Vi_copyFrom_23 (by decide) (fun c9 => absurd c9 (nI_ge hk (by omega))) (fun _ => ?_)
    refine lv_aload_n hx hb d_Vi_copyFrom_26 rfl (lv_at hl 1 rfl) ?_
    refine gz_get (ci := 4) (v := Value.ref a1) (C := "CommitLedger$View") (T := F_Vi) (N := 6) hx hb hts i_Vi hown hK Z f_n_w3 rfl 0 (by decide) kf_Vi_11 rfl d_Vi_copyFrom_27 ?_
    refine lv_iload_n hx hb d_Vi_copyFrom_30 rfl (lv_at hl 0 rfl) ?_
    refine lv_aload_n hx hb d_Vi_copyFrom_31 rfl (lv_at hl 2 rfl) ?_
    have f_o_w3 : w3 o = some ((b, Sum.inr (4, [Value.ref b1, Value.ref b2, Value.ref b3, e1, Value.int (nI u), Value.int y5])) : Nat × va_E) := e_w3.at f_o (by first | decide | (simp; done) | (simp; omega))
    refine gz_get (ci := 4) (v := Value.ref b1) (C := "CommitLedger$View") (T := F_Vi) (N := 6) hx hb hts i_Vi hown hK Z f_o_w3 rfl 0 (by decide) kf_Vi_11 rfl d_Vi_copyFrom_32 ?_
    refine lv_iload_n hx hb d_Vi_copyFrom_35 rfl (lv_at hl 0 rfl) ?_
    have f_o_1_w3 : w3 (o + 1) = some ((b1, Sum.inl (cF, 4096, Sum.inr (Sum.inr (Sum.inr (Sum.inr k1))))) : Nat × va_E) := e_w3.at f_o_1 (by first | decide | (simp; done) | (simp; omega))
    refine gz_aald (v := va_rf (k1 k)) (j := k) hx hb hK Z 2 f_o_1_w3 ht2 (by omega) (rfl) (by decide) (rfl) d_Vi_copyFrom_36 ?_
    have fam_w3 : gf_F P F w3 := gf_call fam e_w3 (by first | decide | (simp; done) | (simp; omega))
    refine gz_aastO (j := k) (x := (k1 k)) hx hb hK Z 2 7 f_n_1_w3 ht2 (fun v e9 => ⟨1000 + v, _, fam_w3 v (hk1 k v hk e9)⟩) rfl (by omega) (rfl) (by decide) d_Vi_copyFrom_37 (fun H locs Z => ?_)
    obtain ⟨h5, e_h5⟩ : ∃ z9 : gm_M, z9 = gm_up w3 (n + 1) ((a1, Sum.inl (cF, 4096, Sum.inr (Sum.inr (Sum.inr (Sum.inr (va_up (gv_cp k k1 g1) k (k1 k))))))) : Nat × va_E) := ⟨_, rfl⟩
    replace Z : gz D A s.heap h5 H locs := by rw [e_h5]; exact Z
    have f_n_1_h5 : h5 (n + 1) = some ((a1, Sum.inl (cF, 4096, Sum.inr (Sum.inr (Sum.inr (Sum.inr (va_up (gv_cp k k1 g1) k (k1 k))))))) : Nat × va_E) := by rw [e_h5]; exact gm_self
    replace hU : gm_g h h5 [n, n + 1, n + 2, n + 3] := by rw [e_h5]; exact hU.put (by simp)
    refine lv_aload_n hx hb d_Vi_copyFrom_38 rfl (lv_at hl 1 rfl) ?_
    have f_n_h5 : h5 n = some ((a, Sum.inr (4, [Value.ref a1, Value.ref a2, Value.ref a3, e0, Value.int (nI u), Value.int y5])) : Nat × va_E) := by rw [e_h5]; exact gm_at f_n_w3 (by omega)
    refine gz_get (ci := 4) (v := Value.ref a2) (C := "CommitLedger$View") (T := F_Vi) (N := 6) hx hb hts i_Vi hown hK Z f_n_h5 rfl 1 (by decide) kf_Vi_17 rfl d_Vi_copyFrom_39 ?_
    refine lv_iload_n hx hb d_Vi_copyFrom_42 rfl (lv_at hl 0 rfl) ?_
    refine lv_aload_n hx hb d_Vi_copyFrom_43 rfl (lv_at hl 2 rfl) ?_
    have f_o_h5 : h5 o = some ((b, Sum.inr (4, [Value.ref b1, Value.ref b2, Value.ref b3, e1, Value.int (nI u), Value.int y5])) : Nat × va_E) := by rw [e_h5]; exact gm_at f_o_w3 (by omega)
    refine gz_get (ci := 4) (v := Value.ref b2) (C := "CommitLedger$View") (T := F_Vi) (N := 6) hx hb hts i_Vi hown hK Z f_o_h5 rfl 1 (by decide) kf_Vi_17 rfl d_Vi_copyFrom_44 ?_
    refine lv_iload_n hx hb d_Vi_copyFrom_47 rfl (lv_at hl 0 rfl) ?_
    have f_o_2_w3 : w3 (o + 2) = some ((b2, Sum.inl (cF, 4096, Sum.inr (Sum.inr (Sum.inr (Sum.inr k2))))) : Nat × va_E) := e_w3.at f_o_2 (by first | decide | (simp; done) | (simp; omega))
    have f_o_2_h5 : h5 (o + 2) = some ((b2, Sum.inl (cF, 4096, Sum.inr (Sum.inr (Sum.inr (Sum.inr k2))))) : Nat × va_E) := by rw [e_h5]; exact gm_at f_o_2_w3 (by omega)
    refine gz_aald (v := va_rf (k2 k)) (j := k) hx hb hK Z 2 f_o_2_h5 ht2 (by omega) (rfl) (by decide) (rfl) d_Vi_copyFrom_48 ?_
    have f_n_2_h5 : h5 (n + 2) = some ((a2, Sum.inl (cF, 4096, Sum.inr (Sum.inr (Sum.inr (Sum.inr (gv_cp k k2 g2)))))) : Nat × va_E) := by rw [e_h5]; exact gm_at f_n_2_w3 (by omega)
    have fam_h5 : gf_F P F h5 := by rw [e_h5]; exact gf_off fam_w3 (by omega)
    refine gz_aastO (j := k) (x := (k2 k)) hx hb hK Z 2 7 f_n_2_h5 ht2 (fun v e9 => ⟨1000 + v, _, fam_h5 v (hk2 k v hk e9)⟩) rfl (by omega) (rfl) (by decide) d_Vi_copyFrom_49 (fun H locs Z => ?_)
    obtain ⟨h6, e_h6⟩ : ∃ z9 : gm_M, z9 = gm_up h5 (n + 2) ((a2, Sum.inl (cF, 4096, Sum.inr (Sum.inr (Sum.inr (Sum.inr (va_up (gv_cp k k2 g2) k (k2 k))))))) : Nat × va_E) := ⟨_, rfl⟩
    replace Z : gz D A s.heap h6 H locs := by rw [e_h6]; exact Z
    have f_n_2_h6 : h6 (n + 2) = some ((a2, Sum.inl (cF, 4096, Sum.inr (Sum.inr (Sum.inr (Sum.inr (va_up (gv_cp k k2 g2) k (k2 k))))))) : Nat × va_E) := by rw [e_h6]; exact gm_self
    replace hU : gm_g h h6 [n, n + 1, n + 2, n + 3] := by rw [e_h6]; exact hU.put (by simp)
    refine lv_iinc (v := nI (k + 1)) (lv' := [(2, Value.int (nI (k + 1))), (0, Value.ref a), (1, Value.ref b)]) hx hb d_Vi_copyFrom_50 hl (k := 0) rfl (show nI k + 1 = nI (k + 1) from nI_1 _) (by decide) rfl (fun ls hl => ?_)
    refine lv_goto (tgt := 18) hx hb d_Vi_copyFrom_53 (by decide) ?_
    have f_n_h6 : h6 n = some ((a, Sum.inr (4, [Value.ref a1, Value.ref a2, Value.ref a3, e0, Value.int (nI u), Value.int y5])) : Nat × va_E) := by rw [e_h6]; exact gm_at f_n_h5 (by omega)
    have f_n_1_h6 : h6 (n + 1) = some ((a1, Sum.inl (cF, 4096, Sum.inr (Sum.inr (Sum.inr (Sum.inr (va_up (gv_cp k k1 g1) k (k1 k))))))) : Nat × va_E) := by rw [e_h6]; exact gm_at f_n_1_h5 (by omega)
    have f_n_1_n : h6 (n + 1) = some ((a1, Sum.inl (cF, 4096, Sum.inr (Sum.inr (Sum.inr (Sum.inr (gv_cp (k + 1) k1 g1)))))) : Nat × va_E) := by rw [← gv_cp_s]; exact f_n_1_h6
    have f_n_2_n : h6 (n + 2) = some ((a2, Sum.inl (cF, 4096, Sum.inr (Sum.inr (Sum.inr (Sum.inr (gv_cp (k + 1) k2 g2)))))) : Nat × va_E) := by rw [← gv_cp_s]; exact f_n_2_h6
    have f_n_3_h5 : h5 (n + 3) = some ((a3, Sum.inl (cZ, 4096, Sum.inl f)) : Nat × va_E) := by rw [e_h5]; exact gm_at f_n_3_w3 (by omega)
    have f_n_3_h6 : h6 (n + 3) = some ((a3, Sum.inl (cZ, 4096, Sum.inl f)) : Nat × va_E) := by rw [e_h6]; exact gm_at f_n_3_h5 (by omega)
    exact ihk _ _ _ _ ⟨hU, f_n_h6, f_n_1_n, f_n_2_n, f_n_3_h6, lv_sub hl [0, 1, 2] rfl⟩ Z
  · obtain ⟨hU, f_n_w3, f_n_1_w3, f_n_2_w3, f_n_3_w3, hl⟩ := hI
    have e_w3 := hU
    refine lv_iload_n hx hb d_Vi_copyFrom_18 rfl (lv_at hl 0 rfl) ?_
    refine lv_aload_n hx hb d_Vi_copyFrom_19 rfl (lv_at hl 1 rfl) ?_
    refine gz_get (ci := 4) (v := Value.int (nI u)) (C := "CommitLedger$View") (T := F_Vi) (N := 6) hx hb hts i_Vi hown hK Z f_n_w3 rfl 4 (by decide) kf_Vi_24 rfl d_Vi_copyFrom_20 ?_
    refine lv_icmp_ge (tgt := 56) hx hb d_Vi_copyFrom_23 (by decide) (fun _ => ?_) (fun c9 => absurd (nI_le (Nat.le_refl _) (by omega)) c9)
    refine lv_iconst (v := 0) hx hb d_Vi_copyFrom_56 (by decide) ?_
    refine lv_istore_n (lv' := [(2, Value.int 0), (0, Value.ref a), (1, Value.ref b)]) hx hb d_Vi_copyFrom_57 rfl hl (by decide) rfl (fun ls hl => ?_)
    have f_n_3_n : w3 (n + 3) = some ((a3, Sum.inl (cZ, 4096, Sum.inl (gv_cp 0 f2 f))) : Nat × va_E) := by rw [gv_cp_0]; exact f_n_3_w3
    refine gz_loop (N := 4096) (pc := 58) (fun _ => 0) (fun _ => 0) (fun k h9 ls => gm_g h h9 [n, n + 1, n + 2, n + 3] ∧ h9 n = some ((a, Sum.inr (4, [Value.ref a1, Value.ref a2, Value.ref a3, e0, Value.int (nI u), Value.int y5])) : Nat × va_E) ∧ h9 (n + 1) = some ((a1, Sum.inl (cF, 4096, Sum.inr (Sum.inr (Sum.inr (Sum.inr (gv_cp u k1 g1)))))) : Nat × va_E) ∧ h9 (n + 2) = some ((a2, Sum.inl (cF, 4096, Sum.inr (Sum.inr (Sum.inr (Sum.inr (gv_cp u k2 g2)))))) : Nat × va_E) ∧ h9 (n + 3) = some ((a3, Sum.inl (cZ, 4096, Sum.inl (gv_cp k f2 f))) : Nat × va_E) ∧ lv_has ls 3 [(2, Value.int (nI k)), (0, Value.ref a), (1, Value.ref b)]) (fun k w8 H locs ls hk hI Z ihk => ?_) (fun w8 H locs ls hI Z => ?_) (4096) 0 _ _ _ _ (Nat.zero_add _) ⟨hU, f_n_w3, f_n_1_w3, f_n_2_w3, f_n_3_n, lv_sub hl [0, 1, 2] rfl⟩ Z
    · obtain ⟨hU, f_n_w8, f_n_1_w8, f_n_2_w8, f_n_3_w8, hl⟩ := hI
      have e_w8 := hU
      refine lv_iload_n hx hb d_Vi_copyFrom_58 rfl (lv_at hl 0 rfl) ?_
      refine lv_sipush (v := 4096) hx hb d_Vi_copyFrom_59 (by decide) ?_
      refine lv_icmp_ge (tgt := 83) hx hb d_Vi_copyFrom_62 (by decide) (fun c9 => absurd c9 (show ¬ nI 4096 ≤ nI k from nI_ge hk (by decide))) (fun _ => ?_)
      refine lv_aload_n hx hb d_Vi_copyFrom_65 rfl (lv_at hl 1 rfl) ?_
      refine gz_get (ci := 4) (v := Value.ref a3) (C := "CommitLedger$View") (T := F_Vi) (N := 6) hx hb hts i_Vi hown hK Z f_n_w8 rfl 2 (by decide) kf_Vi_20 rfl d_Vi_copyFrom_66 ?_
      refine lv_iload_n hx hb d_Vi_copyFrom_69 rfl (lv_at hl 0 rfl) ?_
      refine lv_aload_n hx hb d_Vi_copyFrom_70 rfl (lv_at hl 2 rfl) ?_
      have f_o_w8 : w8 o = some ((b, Sum.inr (4, [Value.ref b1, Value.ref b2, Value.ref b3, e1, Value.int (nI u), Value.int y5])) : Nat × va_E) := e_w8.at f_o (by first | decide | (simp; done) | (simp; omega))
      refine gz_get (ci := 4) (v := Value.ref b3) (C := "CommitLedger$View") (T := F_Vi) (N := 6) hx hb hts i_Vi hown hK Z f_o_w8 rfl 2 (by decide) kf_Vi_20 rfl d_Vi_copyFrom_71 ?_
      refine lv_iload_n hx hb d_Vi_copyFrom_74 rfl (lv_at hl 0 rfl) ?_
      have f_o_3_w8 : w8 (o + 3) = some ((b3, Sum.inl (cZ, 4096, Sum.inl f2)) : Nat × va_E) := e_w8.at f_o_3 (by first | decide | (simp; done) | (simp; omega))
      refine gz_zald (j := k) hx hb hK Z 1 f_o_3_w8 ht1 (hk) (rfl) (by decide) d_Vi_copyFrom_75 ?_
      refine gz_zast (j := k) hx hb hK Z 1 f_n_3_w8 ht1 (hk) (rfl) (by decide) d_Vi_copyFrom_76 (fun H locs Z => ?_)
      obtain ⟨h10, e_h10⟩ : ∃ z9 : gm_M, z9 = gm_up w8 (n + 3) ((a3, Sum.inl (cZ, 4096, Sum.inl (upd (gv_cp k f2 f) k (vp_nar .boolean (f2 k))))) : Nat × va_E) := ⟨_, rfl⟩
      replace Z : gz D A s.heap h10 H locs := by rw [e_h10]; exact Z
      have f_n_3_h10 : h10 (n + 3) = some ((a3, Sum.inl (cZ, 4096, Sum.inl (upd (gv_cp k f2 f) k (vp_nar .boolean (f2 k))))) : Nat × va_E) := by rw [e_h10]; exact gm_self
      replace hU : gm_g h h10 [n, n + 1, n + 2, n + 3] := by rw [e_h10]; exact hU.put (by simp)
      refine lv_iinc (v := nI (k + 1)) (lv' := [(2, Value.int (nI (k + 1))), (0, Value.ref a), (1, Value.ref b)]) hx hb d_Vi_copyFrom_77 hl (k := 0) rfl (show nI k + 1 = nI (k + 1) from nI_1 _) (by decide) rfl (fun ls hl => ?_)
      refine lv_goto (tgt := 58) hx hb d_Vi_copyFrom_80 (by decide) ?_
      have f_n_h10 : h10 n = some ((a, Sum.inr (4, [Value.ref a1, Value.ref a2, Value.ref a3, e0, Value.int (nI u), Value.int y5])) : Nat × va_E) := by rw [e_h10]; exact gm_at f_n_w8 (by omega)
      have f_n_1_h10 : h10 (n + 1) = some ((a1, Sum.inl (cF, 4096, Sum.inr (Sum.inr (Sum.inr (Sum.inr (gv_cp u k1 g1)))))) : Nat × va_E) := by rw [e_h10]; exact gm_at f_n_1_w8 (by omega)
      have f_n_2_h10 : h10 (n + 2) = some ((a2, Sum.inl (cF, 4096, Sum.inr (Sum.inr (Sum.inr (Sum.inr (gv_cp u k2 g2)))))) : Nat × va_E) := by rw [e_h10]; exact gm_at f_n_2_w8 (by omega)
      have f_n_3_n : h10 (n + 3) = some ((a3, Sum.inl (cZ, 4096, Sum.inl (gv_cp (k + 1) f2 f))) : Nat × va_E) := by rw [← gv_cp_sz (hbo k hk)]; exact f_n_3_h10
      exact ihk _ _ _ _ ⟨hU, f_n_h10, f_n_1_h10, f_n_2_h10, f_n_3_n, lv_sub hl [0, 1, 2] rfl⟩ Z
    · obtain ⟨hU, f_n_w8, f_n_1_w8, f_n_2_w8, f_n_3_w8, hl⟩ := hI
      have e_w8 := hU
      refine lv_iload_n hx hb d_Vi_copyFrom_58 rfl (lv_at hl 0 rfl) ?_
      refine lv_sipush (v := 4096) hx hb d_Vi_copyFrom_59 (by decide) ?_
      refine lv_icmp_ge (tgt := 83) hx hb d_Vi_copyFrom_62 (by decide) (fun _ => ?_) (fun c9 => absurd (by decide) c9)
      exact gz_vret hx hb hr hlocks hK Z (by decide) (by decide) (by rw [← hPQ]; exact ⟨rfl, hU, f_n_w8, f_n_1_w8, f_n_2_w8, f_n_3_w8⟩) d_Vi_copyFrom_83

set_option maxHeartbeats 4000000 in
set_option maxRecDepth 100000 in
theorem k_Le_openReader (l : Launch) (htr : l.stackTraces = false) (D : va_G) (tys : List (ClassId × FieldType)) (z sz : Nat) (ws : va_W) (h : gm_M) (hM : gm_S h ws) (cZ : ClassId) (cF : ClassId) (q0 : Nat) (q1 : Nat) (q5 : Nat) (q8 : Nat) (q20 : Nat) (q25 : Nat) (ec : Value) (ep : Value) (l7 : Int32) (l8 : Int32) (l9 : Int32) (l10 : Int32) (l11 : Int32) (l12 : Int32) (l13 : Int32) (l14 : Int32) (l15 : Int32) (l16 : Int32) (l17 : Int32) (a : Nat) (a1 : Nat) (a2 : Nat) (a3 : Nat) (o : Nat) (b : Nat) (b1 : Nat) (b2 : Nat) (b3 : Nat) (u : Nat) (e0 : Value) (e1 : Value) (x4 : Int32) (x5 : Int32) (y5 : Int32) (g1 : Nat → Option Nat) (g2 : Nat → Option Nat) (k1 : Nat → Option Nat) (k2 : Nat → Option Nat) (f : Nat → Int32) (f2 : Nat → Int32) (rn : Nat) (ar : Nat) (num : Int32) (opn : Int32) (P : Nat → Prop) (F : Nat → Nat → Nat) (f_0 : h 0 = some ((q0, Sum.inr (0, [Value.ref q1, Value.ref q5, Value.ref q8, Value.ref q20, Value.ref q25, ec, ep, Value.int l7, Value.int l8, Value.int l9, Value.int l10, Value.int l11, Value.int l12, Value.int l13, Value.int l14, Value.int l15, Value.int l16, Value.int l17])) : Nat × va_E)) (f_rn : h rn = some ((ar, Sum.inr (6, [Value.ref a, Value.int num, Value.int opn])) : Nat × va_E)) (f_rn_1 : h (rn + 1) = some ((a, Sum.inr (4, [Value.ref a1, Value.ref a2, Value.ref a3, e0, Value.int x4, Value.int x5])) : Nat × va_E)) (f_rn_2 : h (rn + 2) = some ((a1, Sum.inl (cF, 4096, Sum.inr (Sum.inr (Sum.inr (Sum.inr g1))))) : Nat × va_E)) (f_rn_3 : h (rn + 3) = some ((a2, Sum.inl (cF, 4096, Sum.inr (Sum.inr (Sum.inr (Sum.inr g2))))) : Nat × va_E)) (f_rn_4 : h (rn + 4) = some ((a3, Sum.inl (cZ, 4096, Sum.inl f)) : Nat × va_E)) (f_o : h o = some ((b, Sum.inr (4, [Value.ref b1, Value.ref b2, Value.ref b3, e1, Value.int (nI u), Value.int y5])) : Nat × va_E)) (f_o_1 : h (o + 1) = some ((b1, Sum.inl (cF, 4096, Sum.inr (Sum.inr (Sum.inr (Sum.inr k1))))) : Nat × va_E)) (f_o_2 : h (o + 2) = some ((b2, Sum.inl (cF, 4096, Sum.inr (Sum.inr (Sum.inr (Sum.inr k2))))) : Nat × va_E)) (f_o_3 : h (o + 3) = some ((b3, Sum.inl (cZ, 4096, Sum.inl f2)) : Nat × va_E)) (ht1 : tys[1]? = some ((cZ, FieldType.boolean) : ClassId × FieldType)) (ht2 : tys[2]? = some ((cF, FieldType.object "CommitLedger$LedgerFile") : ClassId × FieldType)) (fam : gf_F P F h) (hu : u ≤ 4096) (hrn : 0 < rn ∧ rn + 4 < 1000) (hap : rn + 4 < o ∨ o + 3 < rn) (ho0 : 0 < o) (hk1 : ∀ i v, i < u → k1 i = some v → P v) (hk2 : ∀ i v, i < u → k2 i = some v → P v) (hbo : ∀ i, i < 4096 → gx_b (f2 i)) : gx_Met l y_Le_openReader [Cond.code y_Le_openReader b_Le_openReader 3 (some .int)] { frames := 2, cells := 0, slots := 0, locals := 34 } (gx_P z sz D classes tys ws [Value.ref q0, Value.ref ar, Value.ref b]) (gx_Q D classes tys (va_A ws sz) (gm_p (fun r h' => (r = Sum.inl (some (Value.int (l14 + 1))) ∧ gm_g h h' [0, rn, rn + 1, rn + 2, rn + 3, rn + 4] ∧ h' 0 = some ((q0, Sum.inr (0, [Value.ref q1, Value.ref q5, Value.ref q8, Value.ref q20, Value.ref q25, ec, ep, Value.int l7, Value.int l8, Value.int l9, Value.int l10, Value.int l11, Value.int l12, Value.int l13, Value.int (l14 + 1), Value.int l15, Value.int l16, Value.int l17])) : Nat × va_E) ∧ h' rn = some ((ar, Sum.inr (6, [Value.ref a, Value.int (l14 + 1), Value.int 1])) : Nat × va_E) ∧ h' (rn + 1) = some ((a, Sum.inr (4, [Value.ref a1, Value.ref a2, Value.ref a3, e0, Value.int (nI u), Value.int y5])) : Nat × va_E) ∧ h' (rn + 2) = some ((a1, Sum.inl (cF, 4096, Sum.inr (Sum.inr (Sum.inr (Sum.inr (gv_cp u k1 g1)))))) : Nat × va_E) ∧ h' (rn + 3) = some ((a2, Sum.inl (cF, 4096, Sum.inr (Sum.inr (Sum.inr (Sum.inr (gv_cp u k2 g2)))))) : Nat × va_E) ∧ h' (rn + 4) = some ((a3, Sum.inl (cZ, 4096, Sum.inl (gv_cp 4096 f2 f))) : Nat × va_E))))) 0 0 (va_A ws sz) := by
  refine gx_ofW (cc := b_Le_openReader) (maxL := 3) (ret := (some .int)) (by decide) rfl ?_
  intro p e s m args below meth c s₁ B hml hv
  obtain ⟨rfl, hsz, hz, hP, hK, hD0, hY⟩ := hv
  have hx := B.exec
  have hb := B.bytes
  have hr := B.returns
  have hts := hY.hts (#[Value.ref q0, Value.ref ar, Value.ref b] : Array Value)
  have hown : s.vm.findClass "CommitLedger" = some m.cls := findClass_of_methodNamed B.named
  have hlocks := B.notSynchronized
  have hne : c.exceptionTable.isEmpty = true := B.noHandlers (atoms_spec (ws := [Cond.code y_Le_openReader b_Le_openReader 3 (some .int)]) B.pre _ List.mem_cons_self)
  subst hsz
  have hAz := gx_az hD0 hz
  have hD := hD0.self (sz := s.heap.size)
  have hN := gx_ns hP
  have hA : ∀ q : Nat, s.heap.size ≤ q → va_A ws s.heap.size q := fun q h => Or.inr h
  generalize va_A ws s.heap.size = A at hD hN hA hAz ⊢
  generalize hPQ : (fun (r : Option Value ⊕ String) (h' : gm_M) => (r = Sum.inl (some (Value.int (l14 + 1))) ∧ gm_g h h' [0, rn, rn + 1, rn + 2, rn + 3, rn + 4] ∧ h' 0 = some ((q0, Sum.inr (0, [Value.ref q1, Value.ref q5, Value.ref q8, Value.ref q20, Value.ref q25, ec, ep, Value.int l7, Value.int l8, Value.int l9, Value.int l10, Value.int l11, Value.int l12, Value.int l13, Value.int (l14 + 1), Value.int l15, Value.int l16, Value.int l17])) : Nat × va_E) ∧ h' rn = some ((ar, Sum.inr (6, [Value.ref a, Value.int (l14 + 1), Value.int 1])) : Nat × va_E) ∧ h' (rn + 1) = some ((a, Sum.inr (4, [Value.ref a1, Value.ref a2, Value.ref a3, e0, Value.int (nI u), Value.int y5])) : Nat × va_E) ∧ h' (rn + 2) = some ((a1, Sum.inl (cF, 4096, Sum.inr (Sum.inr (Sum.inr (Sum.inr (gv_cp u k1 g1)))))) : Nat × va_E) ∧ h' (rn + 3) = some ((a2, Sum.inl (cF, 4096, Sum.inr (Sum.inr (Sum.inr (Sum.inr (gv_cp u k2 g2)))))) : Nat × va_E) ∧ h' (rn + 4) = some ((a3, Sum.inl (cZ, 4096, Sum.inl (gv_cp 4096 f2 f))) : Nat × va_E))) = PQ
  have Z : gz D A s.heap h s.heap [] := ⟨ws, hM, hP, hD, va_S.rf⟩
  clear hP hD hM hD0
  have hU : gm_g h h [0, rn, rn + 1, rn + 2, rn + 3, rn + 4] := gm_g.rf
  have hl := lv_entry ([Value.ref q0, Value.ref ar, Value.ref b]) (n := 3) (Nat.le_of_ble_eq_true rfl)
  rw [lg_entry_eq]
  generalize (lg_sl ([Value.ref q0, Value.ref ar, Value.ref b]) ++ List.replicate (3 - (lg_sl ([Value.ref q0, Value.ref ar, Value.ref b])).length) Slot.unset).toArray = ls at hl ⊢
  have hl : lv_has ls 3 [(0, Value.ref q0), (1, Value.ref ar), (2, Value.ref b)] := hl
  refine lv_aload_n hx hb d_Le_openReader_0 rfl (lv_at hl 0 rfl) ?_
  refine lv_dup hx hb d_Le_openReader_1 rfl ?_
  refine gz_get (ci := 0) (v := Value.int l14) (C := "CommitLedger") (T := F_Le) (N := 18) hx hb hts i_Le hown hK Z f_0 rfl 14 (by decide) kf_Le_376 rfl d_Le_openReader_2 ?_
  refine lv_iconst (v := 1) hx hb d_Le_openReader_5 (by decide) ?_
  refine lv_iadd hx hb d_Le_openReader_6 ?_
  refine gz_put (ci := 0) (v := Value.int (l14 + 1)) (ty := .int) (C := "CommitLedger") (T := F_Le) (N := 18) hx hb hts i_Le t_Le_ok n_Le hown hK Z f_0 rfl 14 (by decide) kf_Le_376 rfl (by decide +kernel) rfl rfl (Nat.le_of_ble_eq_true rfl) d_Le_openReader_7 (fun H locs Z => ?_)
  obtain ⟨h1, e_h1⟩ : ∃ z9 : gm_M, z9 = gm_up h 0 ((q0, Sum.inr (0, [Value.ref q1, Value.ref q5, Value.ref q8, Value.ref q20, Value.ref q25, ec, ep, Value.int l7, Value.int l8, Value.int l9, Value.int l10, Value.int l11, Value.int l12, Value.int l13, Value.int (l14 + 1), Value.int l15, Value.int l16, Value.int l17])) : Nat × va_E) := ⟨_, rfl⟩
  replace Z : gz D A s.heap h1 H locs := by rw [e_h1]; exact Z
  have f_0_h1 : h1 0 = some ((q0, Sum.inr (0, [Value.ref q1, Value.ref q5, Value.ref q8, Value.ref q20, Value.ref q25, ec, ep, Value.int l7, Value.int l8, Value.int l9, Value.int l10, Value.int l11, Value.int l12, Value.int l13, Value.int (l14 + 1), Value.int l15, Value.int l16, Value.int l17])) : Nat × va_E) := by rw [e_h1]; exact gm_self
  replace hU : gm_g h h1 [0, rn, rn + 1, rn + 2, rn + 3, rn + 4] := by rw [e_h1]; exact hU.put (by simp)
  refine lv_aload_n hx hb d_Le_openReader_10 rfl (lv_at hl 1 rfl) ?_
  refine lv_aload_n hx hb d_Le_openReader_11 rfl (lv_at hl 0 rfl) ?_
  refine gz_get (ci := 0) (v := Value.int (l14 + 1)) (C := "CommitLedger") (T := F_Le) (N := 18) hx hb hts i_Le hown hK Z f_0_h1 rfl 14 (by decide) kf_Le_376 rfl d_Le_openReader_12 ?_
  have f_rn_h1 : h1 rn = some ((ar, Sum.inr (6, [Value.ref a, Value.int num, Value.int opn])) : Nat × va_E) := by rw [e_h1]; exact gm_at f_rn (by omega)
  refine gz_put (ci := 6) (v := Value.int (l14 + 1)) (ty := .int) (C := "CommitLedger$Reader") (T := F_Re) (N := 3) hx hb hts i_Re t_Re_ok n_Re hown hK Z f_rn_h1 rfl 1 (by decide) kf_Le_292 rfl (by decide +kernel) rfl rfl (Nat.le_of_ble_eq_true rfl) d_Le_openReader_15 (fun H locs Z => ?_)
  obtain ⟨h2, e_h2⟩ : ∃ z9 : gm_M, z9 = gm_up h1 rn ((ar, Sum.inr (6, [Value.ref a, Value.int (l14 + 1), Value.int opn])) : Nat × va_E) := ⟨_, rfl⟩
  replace Z : gz D A s.heap h2 H locs := by rw [e_h2]; exact Z
  have f_rn_h2 : h2 rn = some ((ar, Sum.inr (6, [Value.ref a, Value.int (l14 + 1), Value.int opn])) : Nat × va_E) := by rw [e_h2]; exact gm_self
  replace hU : gm_g h h2 [0, rn, rn + 1, rn + 2, rn + 3, rn + 4] := by rw [e_h2]; exact hU.put (by simp)
  refine lv_aload_n hx hb d_Le_openReader_18 rfl (lv_at hl 1 rfl) ?_
  refine lv_iconst (v := 1) hx hb d_Le_openReader_19 (by decide) ?_
  refine gz_put (ci := 6) (v := Value.int 1) (ty := .boolean) (C := "CommitLedger$Reader") (T := F_Re) (N := 3) hx hb hts i_Re t_Re_ok n_Re hown hK Z f_rn_h2 rfl 2 (by decide) kf_Le_230 rfl (by decide +kernel) rfl rfl (Nat.le_of_ble_eq_true rfl) d_Le_openReader_20 (fun H locs Z => ?_)
  obtain ⟨h3, e_h3⟩ : ∃ z9 : gm_M, z9 = gm_up h2 rn ((ar, Sum.inr (6, [Value.ref a, Value.int (l14 + 1), Value.int 1])) : Nat × va_E) := ⟨_, rfl⟩
  replace Z : gz D A s.heap h3 H locs := by rw [e_h3]; exact Z
  have f_rn_h3 : h3 rn = some ((ar, Sum.inr (6, [Value.ref a, Value.int (l14 + 1), Value.int 1])) : Nat × va_E) := by rw [e_h3]; exact gm_self
  replace hU : gm_g h h3 [0, rn, rn + 1, rn + 2, rn + 3, rn + 4] := by rw [e_h3]; exact hU.put (by simp)
  refine lv_aload_n hx hb d_Le_openReader_23 rfl (lv_at hl 1 rfl) ?_
  refine gz_get (ci := 6) (v := Value.ref a) (C := "CommitLedger$Reader") (T := F_Re) (N := 3) hx hb hts i_Re hown hK Z f_rn_h3 rfl 0 (by decide) kf_Le_233 rfl d_Le_openReader_24 ?_
  refine lv_aload_n hx hb d_Le_openReader_27 rfl (lv_at hl 2 rfl) ?_
  have f_rn_1_h1 : h1 (rn + 1) = some ((a, Sum.inr (4, [Value.ref a1, Value.ref a2, Value.ref a3, e0, Value.int x4, Value.int x5])) : Nat × va_E) := by rw [e_h1]; exact gm_at f_rn_1 (by omega)
  have f_rn_1_h2 : h2 (rn + 1) = some ((a, Sum.inr (4, [Value.ref a1, Value.ref a2, Value.ref a3, e0, Value.int x4, Value.int x5])) : Nat × va_E) := by rw [e_h2]; exact gm_at f_rn_1_h1 (by omega)
  have f_rn_1_h3 : h3 (rn + 1) = some ((a, Sum.inr (4, [Value.ref a1, Value.ref a2, Value.ref a3, e0, Value.int x4, Value.int x5])) : Nat × va_E) := by rw [e_h3]; exact gm_at f_rn_1_h2 (by omega)
  have f_rn_2_h1 : h1 (rn + 2) = some ((a1, Sum.inl (cF, 4096, Sum.inr (Sum.inr (Sum.inr (Sum.inr g1))))) : Nat × va_E) := by rw [e_h1]; exact gm_at f_rn_2 (by omega)
  have f_rn_2_h2 : h2 (rn + 2) = some ((a1, Sum.inl (cF, 4096, Sum.inr (Sum.inr (Sum.inr (Sum.inr g1))))) : Nat × va_E) := by rw [e_h2]; exact gm_at f_rn_2_h1 (by omega)
  have f_rn_2_h3 : h3 (rn + 2) = some ((a1, Sum.inl (cF, 4096, Sum.inr (Sum.inr (Sum.inr (Sum.inr g1))))) : Nat × va_E) := by rw [e_h3]; exact gm_at f_rn_2_h2 (by omega)
  have f_rn_3_h1 : h1 (rn + 3) = some ((a2, Sum.inl (cF, 4096, Sum.inr (Sum.inr (Sum.inr (Sum.inr g2))))) : Nat × va_E) := by rw [e_h1]; exact gm_at f_rn_3 (by omega)
  have f_rn_3_h2 : h2 (rn + 3) = some ((a2, Sum.inl (cF, 4096, Sum.inr (Sum.inr (Sum.inr (Sum.inr g2))))) : Nat × va_E) := by rw [e_h2]; exact gm_at f_rn_3_h1 (by omega)
  have f_rn_3_h3 : h3 (rn + 3) = some ((a2, Sum.inl (cF, 4096, Sum.inr (Sum.inr (Sum.inr (Sum.inr g2))))) : Nat × va_E) := by rw [e_h3]; exact gm_at f_rn_3_h2 (by omega)
  have f_rn_4_h1 : h1 (rn + 4) = some ((a3, Sum.inl (cZ, 4096, Sum.inl f)) : Nat × va_E) := by rw [e_h1]; exact gm_at f_rn_4 (by omega)
  have f_rn_4_h2 : h2 (rn + 4) = some ((a3, Sum.inl (cZ, 4096, Sum.inl f)) : Nat × va_E) := by rw [e_h2]; exact gm_at f_rn_4_h1 (by omega)
  have f_rn_4_h3 : h3 (rn + 4) = some ((a3, Sum.inl (cZ, 4096, Sum.inl f)) : Nat × va_E) := by rw [e_h3]; exact gm_at f_rn_4_h2 (by omega)
  have f_o_h1 : h1 o = some ((b, Sum.inr (4, [Value.ref b1, Value.ref b2, Value.ref b3, e1, Value.int (nI u), Value.int y5])) : Nat × va_E) := by rw [e_h1]; exact gm_at f_o (by omega)
  have f_o_h2 : h2 o = some ((b, Sum.inr (4, [Value.ref b1, Value.ref b2, Value.ref b3, e1, Value.int (nI u), Value.int y5])) : Nat × va_E) := by rw [e_h2]; exact gm_at f_o_h1 (by omega)
  have f_o_h3 : h3 o = some ((b, Sum.inr (4, [Value.ref b1, Value.ref b2, Value.ref b3, e1, Value.int (nI u), Value.int y5])) : Nat × va_E) := by rw [e_h3]; exact gm_at f_o_h2 (by omega)
  have f_o_1_h1 : h1 (o + 1) = some ((b1, Sum.inl (cF, 4096, Sum.inr (Sum.inr (Sum.inr (Sum.inr k1))))) : Nat × va_E) := by rw [e_h1]; exact gm_at f_o_1 (by omega)
  have f_o_1_h2 : h2 (o + 1) = some ((b1, Sum.inl (cF, 4096, Sum.inr (Sum.inr (Sum.inr (Sum.inr k1))))) : Nat × va_E) := by rw [e_h2]; exact gm_at f_o_1_h1 (by omega)
  have f_o_1_h3 : h3 (o + 1) = some ((b1, Sum.inl (cF, 4096, Sum.inr (Sum.inr (Sum.inr (Sum.inr k1))))) : Nat × va_E) := by rw [e_h3]; exact gm_at f_o_1_h2 (by omega)
  have f_o_2_h1 : h1 (o + 2) = some ((b2, Sum.inl (cF, 4096, Sum.inr (Sum.inr (Sum.inr (Sum.inr k2))))) : Nat × va_E) := by rw [e_h1]; exact gm_at f_o_2 (by omega)
  have f_o_2_h2 : h2 (o + 2) = some ((b2, Sum.inl (cF, 4096, Sum.inr (Sum.inr (Sum.inr (Sum.inr k2))))) : Nat × va_E) := by rw [e_h2]; exact gm_at f_o_2_h1 (by omega)
  have f_o_2_h3 : h3 (o + 2) = some ((b2, Sum.inl (cF, 4096, Sum.inr (Sum.inr (Sum.inr (Sum.inr k2))))) : Nat × va_E) := by rw [e_h3]; exact gm_at f_o_2_h2 (by omega)
  have f_o_3_h1 : h1 (o + 3) = some ((b3, Sum.inl (cZ, 4096, Sum.inl f2)) : Nat × va_E) := by rw [e_h1]; exact gm_at f_o_3 (by omega)
  have f_o_3_h2 : h2 (o + 3) = some ((b3, Sum.inl (cZ, 4096, Sum.inl f2)) : Nat × va_E) := by rw [e_h2]; exact gm_at f_o_3_h1 (by omega)
  have f_o_3_h3 : h3 (o + 3) = some ((b3, Sum.inl (cZ, 4096, Sum.inl f2)) : Nat × va_E) := by rw [e_h3]; exact gm_at f_o_3_h2 (by omega)
  have fam_h1 : gf_F P F h1 := by rw [e_h1]; exact gf_off fam (by decide)
  have fam_h2 : gf_F P F h2 := by rw [e_h2]; exact gf_off fam_h1 (by omega)
  have fam_h3 : gf_F P F h3 := by rw [e_h3]; exact gf_off fam_h2 (by omega)
  refine gz_call (ig := .invokevirtual 87) (av := [Value.ref a, Value.ref b]) Z (fun ws hM => k_Vi_copyFrom_f l htr D tys z _ ws h3 hM cZ cF (rn + 1) a a1 a2 a3 o b b1 b2 b3 u (e0) (e1) x4 x5 y5 g1 g2 k1 k2 f f2 P F f_rn_1_h3 f_rn_2_h3 f_rn_3_h3 f_rn_4_h3 f_o_h3 f_o_1_h3 f_o_2_h3 f_o_3_h3 ht1 ht2 fam_h3 hu (by first | assumption | decide | omega) (by first | assumption | decide | omega) hk1 hk2 hbo) (gx_invV (As := [Value.ref b]) (rest := []) hx hb hown hts km_Le_87 kI_Vi_copyFrom kV_Vi_copyFrom kc_Vi_copyFrom (by decide) (show (parseMethodDescriptor y_Vi_copyFrom.desc).map (fun d => d.parameters.length) = some 1 by decide +kernel) (gz_recv (ci := 4) hK Z rfl f_rn_1_h3) rfl rfl d_Le_openReader_28) (gx_cw (z := 0) hts kc_Vi_copyFrom kN_Vi rfl rfl ⟨Nat.le_of_ble_eq_true rfl, Nat.le_of_ble_eq_true rfl⟩) hb hml hz hK hY hAz hA hl.1 (lv_room (Nat.le_of_ble_eq_true rfl)) d_Le_openReader_28 ⟨Nat.le_of_ble_eq_true rfl, Nat.le_of_ble_eq_true rfl⟩ (fun v4 h5 H locs hp Z => ?_) (fun x4 E9 ce h5 H locs hp hce Z => ?_)
  · rcases hp with ⟨hv9, e_h5, f_rn_1_h5, f_rn_2_h5, f_rn_3_h5, f_rn_4_h5⟩
    cases hv9
    have f_rn_1_h5 : h5 (rn + 1) = some ((a, Sum.inr (4, [Value.ref a1, Value.ref a2, Value.ref a3, e0, Value.int (nI u), Value.int y5])) : Nat × va_E) := f_rn_1_h5
    have f_rn_2_h5 : h5 (rn + 2) = some ((a1, Sum.inl (cF, 4096, Sum.inr (Sum.inr (Sum.inr (Sum.inr (gv_cp u k1 g1)))))) : Nat × va_E) := f_rn_2_h5
    have f_rn_3_h5 : h5 (rn + 3) = some ((a2, Sum.inl (cF, 4096, Sum.inr (Sum.inr (Sum.inr (Sum.inr (gv_cp u k2 g2)))))) : Nat × va_E) := f_rn_3_h5
    have f_rn_4_h5 : h5 (rn + 4) = some ((a3, Sum.inl (cZ, 4096, Sum.inl (gv_cp 4096 f2 f))) : Nat × va_E) := f_rn_4_h5
    replace hU : gm_g h h5 [0, rn, rn + 1, rn + 2, rn + 3, rn + 4] := hU.call e_h5 (by first | decide | (simp; done) | (simp; omega))
    refine W.eq (g2 := F0 m 31 ls []) rfl ?_
    refine lv_aload_n hx hb d_Le_openReader_31 rfl (lv_at hl 0 rfl) ?_
    have f_0_h2 : h2 0 = some ((q0, Sum.inr (0, [Value.ref q1, Value.ref q5, Value.ref q8, Value.ref q20, Value.ref q25, ec, ep, Value.int l7, Value.int l8, Value.int l9, Value.int l10, Value.int l11, Value.int l12, Value.int l13, Value.int (l14 + 1), Value.int l15, Value.int l16, Value.int l17])) : Nat × va_E) := by rw [e_h2]; exact gm_at f_0_h1 (by omega)
    have f_0_h3 : h3 0 = some ((q0, Sum.inr (0, [Value.ref q1, Value.ref q5, Value.ref q8, Value.ref q20, Value.ref q25, ec, ep, Value.int l7, Value.int l8, Value.int l9, Value.int l10, Value.int l11, Value.int l12, Value.int l13, Value.int (l14 + 1), Value.int l15, Value.int l16, Value.int l17])) : Nat × va_E) := by rw [e_h3]; exact gm_at f_0_h2 (by omega)
    have f_0_h5 : h5 0 = some ((q0, Sum.inr (0, [Value.ref q1, Value.ref q5, Value.ref q8, Value.ref q20, Value.ref q25, ec, ep, Value.int l7, Value.int l8, Value.int l9, Value.int l10, Value.int l11, Value.int l12, Value.int l13, Value.int (l14 + 1), Value.int l15, Value.int l16, Value.int l17])) : Nat × va_E) := e_h5.at f_0_h3 (by first | decide | (simp; done) | (simp; omega))
    refine gz_get (ci := 0) (v := Value.int (l14 + 1)) (C := "CommitLedger") (T := F_Le) (N := 18) hx hb hts i_Le hown hK Z f_0_h5 rfl 14 (by decide) kf_Le_376 rfl d_Le_openReader_32 ?_
    have f_rn_h5 : h5 rn = some ((ar, Sum.inr (6, [Value.ref a, Value.int (l14 + 1), Value.int 1])) : Nat × va_E) := e_h5.at f_rn_h3 (by first | decide | (simp; done) | (simp; omega))
    exact gz_iret (v := l14 + 1) hx hb hr hlocks hK Z (by decide) (by decide) (by rw [← hPQ]; exact ⟨rfl, hU, f_0_h5, f_rn_h5, f_rn_1_h5, f_rn_2_h5, f_rn_3_h5, f_rn_4_h5⟩) d_Le_openReader_35
  · rcases hp with ⟨hv9, e_h5, f_rn_1_h5, f_rn_2_h5, f_rn_3_h5, f_rn_4_h5⟩
    cases hv9

set_option maxHeartbeats 4000000 in
set_option maxRecDepth 100000 in
theorem k_Le_commitIsCorrupt (l : Launch) (htr : l.stackTraces = false) (D : va_G) (tys : List (ClassId × FieldType)) (z sz : Nat) (ws : va_W) (h : gm_M) (hM : gm_S h ws) (cZ : ClassId) (cF : ClassId) (q0 : Nat) (q1 : Nat) (q5 : Nat) (q8 : Nat) (q20 : Nat) (q25 : Nat) (ep : Value) (l7 : Int32) (l8 : Int32) (l9 : Int32) (l10 : Int32) (l11 : Int32) (l12 : Int32) (l13 : Int32) (l14 : Int32) (l16 : Int32) (l17 : Int32) (nc : Nat) (qc : Nat) (qc1 : Nat) (qc2 : Nat) (qc3 : Nat) (u : Nat) (ow : Nat) (ge : Nat) (x5 : Int32) (g1 : Nat → Option Nat) (g2 : Nat → Option Nat) (f : Nat → Int32) (sj : Nat → Nat) (P : Nat → Prop) (F : Nat → Nat → Nat) (f_0 : h 0 = some ((q0, Sum.inr (0, [Value.ref q1, Value.ref q5, Value.ref q8, Value.ref q20, Value.ref q25, Value.ref qc, ep, Value.int l7, Value.int l8, Value.int l9, Value.int l10, Value.int l11, Value.int l12, Value.int l13, Value.int l14, Value.int (nI ge), Value.int l16, Value.int l17])) : Nat × va_E)) (f_nc : h nc = some ((qc, Sum.inr (4, [Value.ref qc1, Value.ref qc2, Value.ref qc3, Value.ref ow, Value.int (nI u), Value.int x5])) : Nat × va_E)) (f_nc_1 : h (nc + 1) = some ((qc1, Sum.inl (cF, 4096, Sum.inr (Sum.inr (Sum.inr (Sum.inr g1))))) : Nat × va_E)) (f_nc_2 : h (nc + 2) = some ((qc2, Sum.inl (cF, 4096, Sum.inr (Sum.inr (Sum.inr (Sum.inr g2))))) : Nat × va_E)) (f_nc_3 : h (nc + 3) = some ((qc3, Sum.inl (cZ, 4096, Sum.inl f)) : Nat × va_E)) (ht1 : tys[1]? = some ((cZ, FieldType.boolean) : ClassId × FieldType)) (ht2 : tys[2]? = some ((cF, FieldType.object "CommitLedger$LedgerFile") : ClassId × FieldType)) (fam : gf_F P F h) (hu : u ≤ 4096) (hnc : 0 < nc ∧ nc + 3 < 1000) (hsg : ∀ i, i < u → g1 i = some (sj i) ∧ P (sj i)) (hli : ∀ i, i < u → g2 i = none ∨ ∃ x, g2 i = some x ∧ P x) (how : P ow) : gx_Met l y_Le_commitIsCorrupt [Cond.code y_Le_commitIsCorrupt b_Le_commitIsCorrupt 1 (some .boolean)] { frames := 2, cells := 0, slots := 0, locals := 33 } (gx_P z sz D classes tys ws [Value.ref q0]) (gx_Q D classes tys (va_A ws sz) (gm_p (fun r h' => (r = Sum.inl (some (Value.int 0)) ∧ h' = h ∧ (nI ge ≤ 0)) ∨ (∃ q : Nat, r = Sum.inl (some (Value.int 1)) ∧ h' = h ∧ (¬ nI ge ≤ 0) ∧ (q < u) ∧ (¬ nI (F (sj q) 2) = 0)) ∨ (∃ q : Nat, ∃ x : Nat, r = Sum.inl (some (Value.int 1)) ∧ h' = h ∧ (¬ nI ge ≤ 0) ∧ (q < u) ∧ (g2 q = some x) ∧ (¬ nI (F x 2) = 0)) ∨ (r = Sum.inl (some (Value.int 1)) ∧ h' = h ∧ (¬ nI ge ≤ 0) ∧ (∀ i, i < u → nI (F (sj i) 2) = 0 ∧ ∀ x, g2 i = some x → nI (F x 2) = 0) ∧ (¬ nI (F ow 2) = 0)) ∨ (r = Sum.inl (some (Value.int 0)) ∧ h' = h ∧ (¬ nI ge ≤ 0) ∧ (∀ i, i < u → nI (F (sj i) 2) = 0 ∧ ∀ x, g2 i = some x → nI (F x 2) = 0) ∧ (nI (F ow 2) = 0))))) 0 0 (va_A ws sz) := by
  refine gx_ofW (cc := b_Le_commitIsCorrupt) (maxL := 1) (ret := (some .boolean)) (by decide) rfl ?_
  intro p e s m args below meth c s₁ B hml hv
  obtain ⟨rfl, hsz, hz, hP, hK, hD0, hY⟩ := hv
  have hx := B.exec
  have hb := B.bytes
  have hr := B.returns
  have hts := hY.hts (#[Value.ref q0] : Array Value)
  have hown : s.vm.findClass "CommitLedger" = some m.cls := findClass_of_methodNamed B.named
  have hlocks := B.notSynchronized
  have hne : c.exceptionTable.isEmpty = true := B.noHandlers (atoms_spec (ws := [Cond.code y_Le_commitIsCorrupt b_Le_commitIsCorrupt 1 (some .boolean)]) B.pre _ List.mem_cons_self)
  subst hsz
  have hAz := gx_az hD0 hz
  have hD := hD0.self (sz := s.heap.size)
  have hN := gx_ns hP
  have hA : ∀ q : Nat, s.heap.size ≤ q → va_A ws s.heap.size q := fun q h => Or.inr h
  generalize va_A ws s.heap.size = A at hD hN hA hAz ⊢
  generalize hPQ : (fun (r : Option Value ⊕ String) (h' : gm_M) => (r = Sum.inl (some (Value.int 0)) ∧ h' = h ∧ (nI ge ≤ 0)) ∨ (∃ q : Nat, r = Sum.inl (some (Value.int 1)) ∧ h' = h ∧ (¬ nI ge ≤ 0) ∧ (q < u) ∧ (¬ nI (F (sj q) 2) = 0)) ∨ (∃ q : Nat, ∃ x : Nat, r = Sum.inl (some (Value.int 1)) ∧ h' = h ∧ (¬ nI ge ≤ 0) ∧ (q < u) ∧ (g2 q = some x) ∧ (¬ nI (F x 2) = 0)) ∨ (r = Sum.inl (some (Value.int 1)) ∧ h' = h ∧ (¬ nI ge ≤ 0) ∧ (∀ i, i < u → nI (F (sj i) 2) = 0 ∧ ∀ x, g2 i = some x → nI (F x 2) = 0) ∧ (¬ nI (F ow 2) = 0)) ∨ (r = Sum.inl (some (Value.int 0)) ∧ h' = h ∧ (¬ nI ge ≤ 0) ∧ (∀ i, i < u → nI (F (sj i) 2) = 0 ∧ ∀ x, g2 i = some x → nI (F x 2) = 0) ∧ (nI (F ow 2) = 0))) = PQ
  have Z : gz D A s.heap h s.heap [] := ⟨ws, hM, hP, hD, va_S.rf⟩
  clear hP hD hM hD0
  have hU : gm_g h h [] := gm_g.rf
  have hl := lv_entry ([Value.ref q0]) (n := 1) (Nat.le_of_ble_eq_true rfl)
  rw [lg_entry_eq]
  generalize (lg_sl ([Value.ref q0]) ++ List.replicate (1 - (lg_sl ([Value.ref q0])).length) Slot.unset).toArray = ls at hl ⊢
  have hl : lv_has ls 1 [(0, Value.ref q0)] := hl
  refine lv_aload_n hx hb d_Le_commitIsCorrupt_0 rfl (lv_at hl 0 rfl) ?_
  refine gz_get (ci := 0) (v := Value.int (nI ge)) (C := "CommitLedger") (T := F_Le) (N := 18) hx hb hts i_Le hown hK Z f_0 rfl 15 (by decide) kf_Le_84 rfl d_Le_commitIsCorrupt_1 ?_
  refine lv_if_le (tgt := 21) hx hb d_Le_commitIsCorrupt_4 (by decide) (fun c4_1 => ?_) (fun c4_1 => ?_)
  · refine lv_iconst (v := 0) hx hb d_Le_commitIsCorrupt_21 (by decide) ?_
    exact gz_zret (v := 0) hx hb hr hlocks hK Z (by decide) (by decide) (rfl) (by rw [← hPQ]; exact Or.inl ⟨rfl, rfl, c4_1⟩) d_Le_commitIsCorrupt_22
  · refine lv_aload_n hx hb d_Le_commitIsCorrupt_7 rfl (lv_at hl 0 rfl) ?_
    refine gz_get (ci := 0) (v := Value.ref qc) (C := "CommitLedger") (T := F_Le) (N := 18) hx hb hts i_Le hown hK Z f_0 rfl 5 (by decide) kf_Le_30 rfl d_Le_commitIsCorrupt_8 ?_
    refine gz_call (ig := .invokevirtual 373) (av := [Value.ref qc]) Z (fun ws hM => k_Vi_hasHarmedFile_o l htr D tys z _ ws h hM cZ cF nc qc qc1 qc2 qc3 u x5 g1 g2 f sj ow P F f_nc f_nc_1 f_nc_2 f_nc_3 ht1 ht2 fam hu (by first | assumption | decide | omega) hsg hli how) (gx_invV (As := []) (rest := []) hx hb hown hts km_Le_373 kI_Vi_hasHarmedFile kV_Vi_hasHarmedFile kc_Vi_hasHarmedFile (by decide) (show (parseMethodDescriptor y_Vi_hasHarmedFile.desc).map (fun d => d.parameters.length) = some 0 by decide +kernel) (gz_recv (ci := 4) hK Z rfl f_nc) rfl rfl d_Le_commitIsCorrupt_11) (gx_cw (z := 0) hts kc_Vi_hasHarmedFile kN_Vi rfl rfl ⟨Nat.le_of_ble_eq_true rfl, Nat.le_of_ble_eq_true rfl⟩) hb hml hz hK hY hAz hA hl.1 (lv_room (Nat.le_of_ble_eq_true rfl)) d_Le_commitIsCorrupt_11 ⟨Nat.le_of_ble_eq_true rfl, Nat.le_of_ble_eq_true rfl⟩ (fun v2 h3 H locs hp Z => ?_) (fun x2 E9 ce h3 H locs hp hce Z => ?_)
    · rcases hp with ⟨q4, hv9, e_h3, g2_0, g2_1⟩ | ⟨q5, q6, hv9, e_h3, g2_0, g2_1, g2_2⟩ | ⟨hv9, e_h3, g2_0, g2_1⟩ | ⟨hv9, e_h3, g2_0, g2_1⟩
      · cases hv9
        rw [e_h3] at Z
        refine W.eq (g2 := F0 m 14 ls [Value.int 1]) rfl ?_
        refine lv_if_eq (tgt := 21) hx hb d_Le_commitIsCorrupt_14 (by decide) (fun c9 => absurd c9 (by decide)) (fun _ => ?_)
        refine lv_iconst (v := 1) hx hb d_Le_commitIsCorrupt_17 (by decide) ?_
        refine lv_goto (tgt := 22) hx hb d_Le_commitIsCorrupt_18 (by decide) ?_
        exact gz_zret (v := 1) hx hb hr hlocks hK Z (by decide) (by decide) (rfl) (by rw [← hPQ]; exact Or.inr (Or.inl ⟨q4, rfl, rfl, c4_1, g2_0, g2_1⟩)) d_Le_commitIsCorrupt_22
      · cases hv9
        rw [e_h3] at Z
        refine W.eq (g2 := F0 m 14 ls [Value.int 1]) rfl ?_
        refine lv_if_eq (tgt := 21) hx hb d_Le_commitIsCorrupt_14 (by decide) (fun c9 => absurd c9 (by decide)) (fun _ => ?_)
        refine lv_iconst (v := 1) hx hb d_Le_commitIsCorrupt_17 (by decide) ?_
        refine lv_goto (tgt := 22) hx hb d_Le_commitIsCorrupt_18 (by decide) ?_
        exact gz_zret (v := 1) hx hb hr hlocks hK Z (by decide) (by decide) (rfl) (by rw [← hPQ]; exact Or.inr (Or.inr (Or.inl ⟨q5, q6, rfl, rfl, c4_1, g2_0, g2_1, g2_2⟩))) d_Le_commitIsCorrupt_22
      · cases hv9
        rw [e_h3] at Z
        refine W.eq (g2 := F0 m 14 ls [Value.int 1]) rfl ?_
        refine lv_if_eq (tgt := 21) hx hb d_Le_commitIsCorrupt_14 (by decide) (fun c9 => absurd c9 (by decide)) (fun _ => ?_)
        refine lv_iconst (v := 1) hx hb d_Le_commitIsCorrupt_17 (by decide) ?_
        refine lv_goto (tgt := 22) hx hb d_Le_commitIsCorrupt_18 (by decide) ?_
        exact gz_zret (v := 1) hx hb hr hlocks hK Z (by decide) (by decide) (rfl) (by rw [← hPQ]; exact Or.inr (Or.inr (Or.inr (Or.inl ⟨rfl, rfl, c4_1, g2_0, g2_1⟩)))) d_Le_commitIsCorrupt_22
      · cases hv9
        rw [e_h3] at Z
        refine W.eq (g2 := F0 m 14 ls [Value.int 0]) rfl ?_
        refine lv_if_eq (tgt := 21) hx hb d_Le_commitIsCorrupt_14 (by decide) (fun _ => ?_) (fun c9 => absurd (by decide) c9)
        refine lv_iconst (v := 0) hx hb d_Le_commitIsCorrupt_21 (by decide) ?_
        exact gz_zret (v := 0) hx hb hr hlocks hK Z (by decide) (by decide) (rfl) (by rw [← hPQ]; exact Or.inr (Or.inr (Or.inr (Or.inr (⟨rfl, rfl, c4_1, g2_0, g2_1⟩))))) d_Le_commitIsCorrupt_22
    · rcases hp with ⟨q7, hv9, e_h3, g2_0, g2_1⟩ | ⟨q8, q9, hv9, e_h3, g2_0, g2_1, g2_2⟩ | ⟨hv9, e_h3, g2_0, g2_1⟩ | ⟨hv9, e_h3, g2_0, g2_1⟩
      · cases hv9
      · cases hv9
      · cases hv9
      · cases hv9
