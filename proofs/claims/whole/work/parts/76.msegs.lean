/-! THE WRITER'S SEGMENTS moved together (dropDeadSegments, replaceMerged), placeOfMerge, levelOf over maps; rows printed by own text programs, but for the first -/
theorem gd_A {f : Nat → Int32} {F M : Nat → Nat → Nat} {p : Nat → Nat} {rr : Nat} {sj : Nat → Nat} {k : Nat} (c : 0 < nI (gv_n f (F (sj k) 5) (F (sj k) 6 - F (sj k) 5))) : gd_k f F M p rr sj k = true := decide_eq_true (Or.inl c)
theorem gd_B {f : Nat → Int32} {F M : Nat → Nat → Nat} {p : Nat → Nat} {rr : Nat} {sj : Nat → Nat} {k : Nat} (c : ¬ nI (gq_mo M p (F (sj k) 5) rr 0) = 0) : gd_k f F M p rr sj k = true := decide_eq_true (Or.inr c)
theorem gd_N {f : Nat → Int32} {F M : Nat → Nat → Nat} {p : Nat → Nat} {rr : Nat} {sj : Nat → Nat} {k : Nat} (c1 : ¬ 0 < nI (gv_n f (F (sj k) 5) (F (sj k) 6 - F (sj k) 5))) (c2 : nI (gq_mo M p (F (sj k) 5) rr 0) = 0) : ¬ gd_k f F M p rr sj k = true := fun e9 => by
  rcases of_decide_eq_true e9 with h | h
  · exact c1 h
  · exact h c2
set_option maxHeartbeats 4000000 in
set_option maxRecDepth 100000 in
theorem k_Le_placeOfMerge (l : Launch) (htr : l.stackTraces = false) (D : va_G) (tys : List (ClassId × FieldType)) (z sz : Nat) (ws : va_W) (h : gm_M) (hM : gm_S h ws) (cM : ClassId) (q0 : Nat) (q1 : Nat) (q5 : Nat) (q8 : Nat) (q20 : Nat) (q25 : Nat) (ec : Value) (ep : Value) (l7 : Int32) (l8 : Int32) (l9 : Int32) (l10 : Int32) (l11 : Int32) (l13 : Int32) (l14 : Int32) (l15 : Int32) (l16 : Int32) (l17 : Int32) (rr : Nat) (p1 : Int32) (gp : Nat → Option Nat) (pi : Nat → Nat) (qm : Nat → Nat) (M : Nat → Nat → Nat) (mf : Nat → Option Nat) (f_0 : h 0 = some ((q0, Sum.inr (0, [Value.ref q1, Value.ref q5, Value.ref q8, Value.ref q20, Value.ref q25, ec, ep, Value.int l7, Value.int l8, Value.int l9, Value.int l10, Value.int l11, Value.int (nI rr), Value.int l13, Value.int l14, Value.int l15, Value.int l16, Value.int l17])) : Nat × va_E)) (f_20 : h 20 = some ((q20, Sum.inl (cM, 4, Sum.inr (Sum.inr (Sum.inr (Sum.inr gp))))) : Nat × va_E)) (ht3 : tys[3]? = some ((cM, FieldType.object "CommitLedger$Merge") : ClassId × FieldType)) (mfam : gM_F qm M mf h) (hrr : rr ≤ 4) (hgp : ∀ i, i < 4 → gp i = some (qm (pi i)) ∧ pi i < 4) : gx_Met l y_Le_placeOfMerge [Cond.code y_Le_placeOfMerge b_Le_placeOfMerge 3 (some .int)] { frames := 1, cells := 0, slots := 0, locals := 12 } (gx_P z sz D classes tys ws [Value.ref q0, Value.int p1]) (gx_Q D classes tys (va_A ws sz) (gm_p (fun r h' => (∃ j1 : Nat, r = Sum.inl (some (Value.int (nI j1))) ∧ h' = h ∧ (j1 < rr) ∧ (nI (M (pi j1) 0) = p1) ∧ (∀ i, i < j1 → ¬ nI (M (pi i) 0) = p1)) ∨ (r = Sum.inl (some (Value.int (-1))) ∧ h' = h ∧ (∀ i, i < rr → ¬ nI (M (pi i) 0) = p1))))) 0 0 (va_A ws sz) := by
  refine gx_ofW (cc := b_Le_placeOfMerge) (maxL := 3) (ret := (some .int)) (by decide) rfl ?_
  intro p e s m args below meth c s₁ B hml hv
  obtain ⟨rfl, hsz, hz, hP, hK, hD0, hY⟩ := hv
  have hx := B.exec
  have hb := B.bytes
  have hr := B.returns
  have hts := hY.hts (#[Value.ref q0, Value.int p1] : Array Value)
  have hown : s.vm.findClass "CommitLedger" = some m.cls := findClass_of_methodNamed B.named
  have hlocks := B.notSynchronized
  have hne : c.exceptionTable.isEmpty = true := B.noHandlers (atoms_spec (ws := [Cond.code y_Le_placeOfMerge b_Le_placeOfMerge 3 (some .int)]) B.pre _ List.mem_cons_self)
  subst hsz
  have hAz := gx_az hD0 hz
  have hD := hD0.self (sz := s.heap.size)
  have hN := gx_ns hP
  have hA : ∀ q : Nat, s.heap.size ≤ q → va_A ws s.heap.size q := fun q h => Or.inr h
  generalize va_A ws s.heap.size = A at hD hN hA hAz ⊢
  generalize hPQ : (fun (r : Option Value ⊕ String) (h' : gm_M) => (∃ j1 : Nat, r = Sum.inl (some (Value.int (nI j1))) ∧ h' = h ∧ (j1 < rr) ∧ (nI (M (pi j1) 0) = p1) ∧ (∀ i, i < j1 → ¬ nI (M (pi i) 0) = p1)) ∨ (r = Sum.inl (some (Value.int (-1))) ∧ h' = h ∧ (∀ i, i < rr → ¬ nI (M (pi i) 0) = p1))) = PQ
  have Z : gz D A s.heap h s.heap [] := ⟨ws, hM, hP, hD, va_S.rf⟩
  clear hP hD hM hD0
  have hU : gm_g h h [] := gm_g.rf
  have hl := lv_entry ([Value.ref q0, Value.int p1]) (n := 3) (Nat.le_of_ble_eq_true rfl)
  rw [lg_entry_eq]
  generalize (lg_sl ([Value.ref q0, Value.int p1]) ++ List.replicate (3 - (lg_sl ([Value.ref q0, Value.int p1])).length) Slot.unset).toArray = ls at hl ⊢
  have hl : lv_has ls 3 [(0, Value.ref q0), (1, Value.int p1)] := hl
  refine lv_iconst (v := 0) hx hb d_Le_placeOfMerge_0 (by decide) ?_
  refine lv_istore_n (lv' := [(2, Value.int 0), (0, Value.ref q0), (1, Value.int p1)]) hx hb d_Le_placeOfMerge_1 rfl hl (by decide) rfl (fun ls hl => ?_)
  refine gz_loop (N := rr) (pc := 2) (fun _ => 0) (fun _ => 0) (fun k h9 ls => h9 = h ∧ (∀ i, i < k → ¬ nI (M (pi i) 0) = p1) ∧ lv_has ls 3 [(2, Value.int (nI k)), (0, Value.ref q0), (1, Value.int p1)]) (fun k w1 H locs ls hk hI Z ih => ?_) (fun w1 H locs ls hI Z => ?_) (rr) 0 _ _ _ _ (Nat.zero_add _) ⟨rfl, fun i h1 => absurd h1 (Nat.not_lt_zero i), lv_sub hl [0, 1, 2] rfl⟩ Z
  · obtain ⟨hU, hj9, hl⟩ := hI
    rw [hU] at Z
    have hU : gm_g h h [] := gm_g.rf
    refine lv_iload_n hx hb d_Le_placeOfMerge_2 rfl (lv_at hl 0 rfl) ?_
    refine lv_aload_n hx hb d_Le_placeOfMerge_3 rfl (lv_at hl 1 rfl) ?_
    refine gz_get (ci := 0) (v := Value.int (nI rr)) (C := "CommitLedger") (T := F_Le) (N := 18) hx hb hts i_Le hown hK Z f_0 rfl 12 (by decide) kf_Le_142 rfl d_Le_placeOfMerge_4 ?_
    refine lv_icmp_ge (tgt := 31) hx hb d_Le_placeOfMerge_7 (by decide) (fun c9 => absurd c9 (nI_ge hk (by omega))) (fun _ => ?_)
    refine lv_aload_n hx hb d_Le_placeOfMerge_10 rfl (lv_at hl 1 rfl) ?_
    refine gz_get (ci := 0) (v := Value.ref q20) (C := "CommitLedger") (T := F_Le) (N := 18) hx hb hts i_Le hown hK Z f_0 rfl 3 (by decide) kf_Le_38 rfl d_Le_placeOfMerge_11 ?_
    refine lv_iload_n hx hb d_Le_placeOfMerge_14 rfl (lv_at hl 0 rfl) ?_
    refine gz_aald (v := Value.ref (qm (pi k))) (j := k) hx hb hK Z 3 f_20 ht3 (by omega) (rfl) (by decide) (by rw [(hgp k (by omega)).1]; rfl) d_Le_placeOfMerge_15 ?_
    refine gz_get (ci := 5) (v := Value.int (nI (M (pi k) 0))) (C := "CommitLedger$Merge") (T := F_Me) (N := 4) hx hb hts i_Me hown hK Z (mfam (pi k) (hgp k (by omega)).2) rfl 0 (by decide) kf_Le_334 rfl d_Le_placeOfMerge_16 ?_
    refine lv_iload_n hx hb d_Le_placeOfMerge_19 rfl (lv_at hl 2 rfl) ?_
    refine lv_icmp_ne (tgt := 25) hx hb d_Le_placeOfMerge_20 (by decide) (fun c20_3 => ?_) (fun c20_3 => ?_)
    · refine lv_iinc (v := nI (k + 1)) (lv' := [(2, Value.int (nI (k + 1))), (0, Value.ref q0), (1, Value.int p1)]) hx hb d_Le_placeOfMerge_25 hl (k := 0) rfl (show nI k + 1 = nI (k + 1) from nI_1 _) (by decide) rfl (fun ls hl => ?_)
      refine lv_goto (tgt := 2) hx hb d_Le_placeOfMerge_28 (by decide) ?_
      exact ih _ _ _ _ ⟨rfl, gv_more0 hj9 c20_3, lv_sub hl [0, 1, 2] rfl⟩ Z
    · refine lv_iload_n hx hb d_Le_placeOfMerge_23 rfl (lv_at hl 0 rfl) ?_
      exact gz_iret (v := nI k) hx hb hr hlocks hK Z (by decide) (by decide) (by rw [← hPQ]; exact Or.inl ⟨k, rfl, rfl, hk, c20_3, hj9⟩) d_Le_placeOfMerge_24
  · obtain ⟨hU, hj9, hl⟩ := hI
    rw [hU] at Z
    have hU : gm_g h h [] := gm_g.rf
    refine lv_iload_n hx hb d_Le_placeOfMerge_2 rfl (lv_at hl 0 rfl) ?_
    refine lv_aload_n hx hb d_Le_placeOfMerge_3 rfl (lv_at hl 1 rfl) ?_
    refine gz_get (ci := 0) (v := Value.int (nI rr)) (C := "CommitLedger") (T := F_Le) (N := 18) hx hb hts i_Le hown hK Z f_0 rfl 12 (by decide) kf_Le_142 rfl d_Le_placeOfMerge_4 ?_
    refine lv_icmp_ge (tgt := 31) hx hb d_Le_placeOfMerge_7 (by decide) (fun _ => ?_) (fun c9 => absurd (nI_le (Nat.le_refl _) (by omega)) c9)
    refine lv_iconst (v := (-1)) hx hb d_Le_placeOfMerge_31 (by decide) ?_
    exact gz_iret (v := (-1)) hx hb hr hlocks hK Z (by decide) (by decide) (by rw [← hPQ]; exact Or.inr (⟨rfl, rfl, hj9⟩)) d_Le_placeOfMerge_32

set_option maxHeartbeats 4000000 in
set_option maxRecDepth 100000 in
theorem k_Le_dropDeadSegments (l : Launch) (htr : l.stackTraces = false) (D : va_G) (tys : List (ClassId × FieldType)) (z sz : Nat) (ws : va_W) (h : gm_M) (hM : gm_S h ws) (cZ : ClassId) (cF : ClassId) (cM : ClassId) (q0 : Nat) (q1 : Nat) (q5 : Nat) (q8 : Nat) (q20 : Nat) (q25 : Nat) (ec : Value) (ep : Value) (l7 : Int32) (l8 : Int32) (l9 : Int32) (l10 : Int32) (l11 : Int32) (l13 : Int32) (l14 : Int32) (l15 : Int32) (l16 : Int32) (l17 : Int32) (q9 : Nat) (q10 : Nat) (q11 : Nat) (u : Nat) (e0 : Value) (x5 : Int32) (g1 : Nat → Option Nat) (g2 : Nat → Option Nat) (gp : Nat → Option Nat) (f : Nat → Int32) (sj : Nat → Nat) (pi : Nat → Nat) (rr : Nat) (qm : Nat → Nat) (M : Nat → Nat → Nat) (mf : Nat → Option Nat) (P : Nat → Prop) (F : Nat → Nat → Nat) (f_0 : h 0 = some ((q0, Sum.inr (0, [Value.ref q1, Value.ref q5, Value.ref q8, Value.ref q20, Value.ref q25, ec, ep, Value.int l7, Value.int l8, Value.int l9, Value.int l10, Value.int l11, Value.int (nI rr), Value.int l13, Value.int l14, Value.int l15, Value.int l16, Value.int l17])) : Nat × va_E)) (f_20 : h 20 = some ((q20, Sum.inl (cM, 4, Sum.inr (Sum.inr (Sum.inr (Sum.inr gp))))) : Nat × va_E)) (f_8 : h 8 = some ((q8, Sum.inr (4, [Value.ref q9, Value.ref q10, Value.ref q11, e0, Value.int (nI u), Value.int x5])) : Nat × va_E)) (f_9 : h 9 = some ((q9, Sum.inl (cF, 4096, Sum.inr (Sum.inr (Sum.inr (Sum.inr g1))))) : Nat × va_E)) (f_10 : h 10 = some ((q10, Sum.inl (cF, 4096, Sum.inr (Sum.inr (Sum.inr (Sum.inr g2))))) : Nat × va_E)) (f_11 : h 11 = some ((q11, Sum.inl (cZ, 4096, Sum.inl f)) : Nat × va_E)) (ht1 : tys[1]? = some ((cZ, FieldType.boolean) : ClassId × FieldType)) (ht2 : tys[2]? = some ((cF, FieldType.object "CommitLedger$LedgerFile") : ClassId × FieldType)) (ht3 : tys[3]? = some ((cM, FieldType.object "CommitLedger$Merge") : ClassId × FieldType)) (fam : gf_F P F h) (mfam : gM_F qm M mf h) (hrr : rr ≤ 4) (hgp : ∀ i, i < 4 → gp i = some (qm (pi i)) ∧ pi i < 4) (hu : u ≤ 4096) (hsg : ∀ i, i < u → g1 i = some (sj i) ∧ P (sj i)) (hli : ∀ i, i < u → g2 i = none ∨ ∃ x, g2 i = some x ∧ P x) (hs9 : ∀ x, P x → F x 5 ≤ 4096 ∧ F x 6 ≤ 4096) : gx_Met l y_Le_dropDeadSegments [Cond.code y_Le_dropDeadSegments b_Le_dropDeadSegments 4 none] { frames := 3, cells := 0, slots := 0, locals := 57 } (gx_P z sz D classes tys ws [Value.ref q0]) (gx_Q D classes tys (va_A ws sz) (gm_p (fun r h' => (r = Sum.inl none ∧ gm_g h h' [8, 9, 10, 11] ∧ h' 8 = some ((q8, Sum.inr (4, [Value.ref q9, Value.ref q10, Value.ref q11, e0, Value.int (nI (gk (gd_k f F M pi rr sj) u)), Value.int x5])) : Nat × va_E) ∧ h' 9 = some ((q9, Sum.inl (cF, 4096, Sum.inr (Sum.inr (Sum.inr (Sum.inr (gc (gd_k f F M pi rr sj) g1 g1 u)))))) : Nat × va_E) ∧ h' 10 = some ((q10, Sum.inl (cF, 4096, Sum.inr (Sum.inr (Sum.inr (Sum.inr (gc (gd_k f F M pi rr sj) g2 g2 u)))))) : Nat × va_E) ∧ h' 11 = some ((q11, Sum.inl (cZ, 4096, Sum.inl f)) : Nat × va_E))))) 0 0 (va_A ws sz) := by
  refine gx_ofW (cc := b_Le_dropDeadSegments) (maxL := 4) (ret := none) (by decide) rfl ?_
  intro p e s m args below meth c s₁ B hml hv
  obtain ⟨rfl, hsz, hz, hP, hK, hD0, hY⟩ := hv
  have hx := B.exec
  have hb := B.bytes
  have hr := B.returns
  have hts := hY.hts (#[Value.ref q0] : Array Value)
  have hown : s.vm.findClass "CommitLedger" = some m.cls := findClass_of_methodNamed B.named
  have hlocks := B.notSynchronized
  have hne : c.exceptionTable.isEmpty = true := B.noHandlers (atoms_spec (ws := [Cond.code y_Le_dropDeadSegments b_Le_dropDeadSegments 4 none]) B.pre _ List.mem_cons_self)
  subst hsz
  have hAz := gx_az hD0 hz
  have hD := hD0.self (sz := s.heap.size)
  have hN := gx_ns hP
  have hA : ∀ q : Nat, s.heap.size ≤ q → va_A ws s.heap.size q := fun q h => Or.inr h
  generalize va_A ws s.heap.size = A at hD hN hA hAz ⊢
  generalize hPQ : (fun (r : Option Value ⊕ String) (h' : gm_M) => (r = Sum.inl none ∧ gm_g h h' [8, 9, 10, 11] ∧ h' 8 = some ((q8, Sum.inr (4, [Value.ref q9, Value.ref q10, Value.ref q11, e0, Value.int (nI (gk (gd_k f F M pi rr sj) u)), Value.int x5])) : Nat × va_E) ∧ h' 9 = some ((q9, Sum.inl (cF, 4096, Sum.inr (Sum.inr (Sum.inr (Sum.inr (gc (gd_k f F M pi rr sj) g1 g1 u)))))) : Nat × va_E) ∧ h' 10 = some ((q10, Sum.inl (cF, 4096, Sum.inr (Sum.inr (Sum.inr (Sum.inr (gc (gd_k f F M pi rr sj) g2 g2 u)))))) : Nat × va_E) ∧ h' 11 = some ((q11, Sum.inl (cZ, 4096, Sum.inl f)) : Nat × va_E))) = PQ
  have Z : gz D A s.heap h s.heap [] := ⟨ws, hM, hP, hD, va_S.rf⟩
  clear hP hD hM hD0
  have hU : gm_g h h [8, 9, 10, 11] := gm_g.rf
  have hl := lv_entry ([Value.ref q0]) (n := 4) (Nat.le_of_ble_eq_true rfl)
  rw [lg_entry_eq]
  generalize (lg_sl ([Value.ref q0]) ++ List.replicate (4 - (lg_sl ([Value.ref q0])).length) Slot.unset).toArray = ls at hl ⊢
  have hl : lv_has ls 4 [(0, Value.ref q0)] := hl
  refine lv_iconst (v := 0) hx hb d_Le_dropDeadSegments_0 (by decide) ?_
  refine lv_istore_n (lv' := [(1, Value.int 0), (0, Value.ref q0)]) hx hb d_Le_dropDeadSegments_1 rfl hl (by decide) rfl (fun ls hl => ?_)
  refine lv_iconst (v := 0) hx hb d_Le_dropDeadSegments_2 (by decide) ?_
  refine lv_istore_n (lv' := [(2, Value.int 0), (1, Value.int 0), (0, Value.ref q0)]) hx hb d_Le_dropDeadSegments_3 rfl hl (by decide) rfl (fun ls hl => ?_)
  have hl : lv_has ls 4 [(2, Value.int (nI 0)), (1, Value.int (nI (gk (gd_k f F M pi rr sj) 0))), (0, Value.ref q0)] := hl
  have f_9_n : h 9 = some ((q9, Sum.inl (cF, 4096, Sum.inr (Sum.inr (Sum.inr (Sum.inr (gc (gd_k f F M pi rr sj) g1 g1 0)))))) : Nat × va_E) := by skip; exact f_9
  have f_10_n : h 10 = some ((q10, Sum.inl (cF, 4096, Sum.inr (Sum.inr (Sum.inr (Sum.inr (gc (gd_k f F M pi rr sj) g2 g2 0)))))) : Nat × va_E) := by skip; exact f_10
  refine gz_loop (N := u) (pc := 4) (fun _ => 0) (fun _ => 0) (fun k h9 ls => gm_g h h9 [8, 9, 10, 11] ∧ h9 8 = some ((q8, Sum.inr (4, [Value.ref q9, Value.ref q10, Value.ref q11, e0, Value.int (nI u), Value.int x5])) : Nat × va_E) ∧ h9 9 = some ((q9, Sum.inl (cF, 4096, Sum.inr (Sum.inr (Sum.inr (Sum.inr (gc (gd_k f F M pi rr sj) g1 g1 k)))))) : Nat × va_E) ∧ h9 10 = some ((q10, Sum.inl (cF, 4096, Sum.inr (Sum.inr (Sum.inr (Sum.inr (gc (gd_k f F M pi rr sj) g2 g2 k)))))) : Nat × va_E) ∧ h9 11 = some ((q11, Sum.inl (cZ, 4096, Sum.inl f)) : Nat × va_E) ∧ lv_has ls 4 [(2, Value.int (nI k)), (1, Value.int (nI (gk (gd_k f F M pi rr sj) k))), (0, Value.ref q0)]) (fun k w1 H locs ls hk hI Z ih => ?_) (fun w1 H locs ls hI Z => ?_) (u) 0 _ _ _ _ (Nat.zero_add _) ⟨hU, f_8, f_9_n, f_10_n, f_11, lv_sub hl [0, 1, 2] rfl⟩ Z
  · obtain ⟨hU, f_8_w1, f_9_w1, f_10_w1, f_11_w1, hl⟩ := hI
    have e_w1 := hU
    refine lv_iload_n hx hb d_Le_dropDeadSegments_4 rfl (lv_at hl 0 rfl) ?_
    refine lv_aload_n hx hb d_Le_dropDeadSegments_5 rfl (lv_at hl 2 rfl) ?_
    have f_0_w1 : w1 0 = some ((q0, Sum.inr (0, [Value.ref q1, Value.ref q5, Value.ref q8, Value.ref q20, Value.ref q25, ec, ep, Value.int l7, Value.int l8, Value.int l9, Value.int l10, Value.int l11, Value.int (nI rr), Value.int l13, Value.int l14, Value.int l15, Value.int l16, Value.int l17])) : Nat × va_E) := e_w1.at f_0 (by first | decide | (simp; done) | (simp; omega))
    refine gz_get (ci := 0) (v := Value.ref q8) (C := "CommitLedger") (T := F_Le) (N := 18) hx hb hts i_Le hown hK Z f_0_w1 rfl 2 (by decide) kf_Le_26 rfl d_Le_dropDeadSegments_6 ?_
    refine gz_get (ci := 4) (v := Value.int (nI u)) (C := "CommitLedger$View") (T := F_Vi) (N := 6) hx hb hts i_Vi hown hK Z f_8_w1 rfl 4 (by decide) kf_Le_109 rfl d_Le_dropDeadSegments_9 ?_
    refine lv_icmp_ge (tgt := 71) hx hb d_Le_dropDeadSegments_12 (by decide) (fun c9 => absurd c9 (nI_ge hk (by omega))) (fun _ => ?_)
    refine lv_aload_n hx hb d_Le_dropDeadSegments_15 rfl (lv_at hl 2 rfl) ?_
    refine gz_get (ci := 0) (v := Value.ref q8) (C := "CommitLedger") (T := F_Le) (N := 18) hx hb hts i_Le hown hK Z f_0_w1 rfl 2 (by decide) kf_Le_26 rfl d_Le_dropDeadSegments_16 ?_
    refine gz_get (ci := 4) (v := Value.ref q9) (C := "CommitLedger$View") (T := F_Vi) (N := 6) hx hb hts i_Vi hown hK Z f_8_w1 rfl 0 (by decide) kf_Le_254 rfl d_Le_dropDeadSegments_19 ?_
    refine lv_iload_n hx hb d_Le_dropDeadSegments_22 rfl (lv_at hl 0 rfl) ?_
    refine gz_aald (v := Value.ref (sj k)) (j := k) hx hb hK Z 2 f_9_w1 ht2 (by omega) (rfl) (by decide) (by rw [gc_at _ _ (Nat.le_refl _), (hsg k hk).1]; rfl) d_Le_dropDeadSegments_23 ?_
    refine lv_astore_n (lv' := [(3, Value.ref (sj k)), (2, Value.int (nI k)), (1, Value.int (nI (gk (gd_k f F M pi rr sj) k))), (0, Value.ref q0)]) hx hb d_Le_dropDeadSegments_24 rfl hl (by decide) rfl (fun ls hl => ?_)
    refine lv_aload_n hx hb d_Le_dropDeadSegments_25 rfl (lv_at hl 3 rfl) ?_
    refine gz_get (ci := 0) (v := Value.ref q8) (C := "CommitLedger") (T := F_Le) (N := 18) hx hb hts i_Le hown hK Z f_0_w1 rfl 2 (by decide) kf_Le_26 rfl d_Le_dropDeadSegments_26 ?_
    refine lv_aload_n hx hb d_Le_dropDeadSegments_29 rfl (lv_at hl 0 rfl) ?_
    have fam_w1 : gf_F P F w1 := gf_call fam e_w1 (by first | decide | (simp; done) | (simp; omega))
    refine gz_call (ig := .invokevirtual 261) (av := [Value.ref q8, Value.ref (sj k)]) Z (fun ws hM => k_Vi_liveIn l htr D tys z _ ws w1 hM cZ cF 8 q8 q9 q10 q11 u (e0) x5 (gc (gd_k f F M pi rr sj) g1 g1 k) (gc (gd_k f F M pi rr sj) g2 g2 k) f (sj k) P F f_8_w1 f_9_w1 f_10_w1 f_11_w1 ht1 ht2 fam_w1 (hsg k hk).2 (hs9 (sj k) (hsg k hk).2).1 (hs9 (sj k) (hsg k hk).2).2) (gx_invV (As := [Value.ref (sj k)]) (rest := []) hx hb hown hts km_Le_261 kI_Vi_liveIn kV_Vi_liveIn kc_Vi_liveIn (by decide) (show (parseMethodDescriptor y_Vi_liveIn.desc).map (fun d => d.parameters.length) = some 1 by decide +kernel) (gz_recv (ci := 4) hK Z rfl f_8_w1) rfl rfl d_Le_dropDeadSegments_30) (gx_cw (z := 0) hts kc_Vi_liveIn kN_Vi rfl rfl ⟨Nat.le_of_ble_eq_true rfl, Nat.le_of_ble_eq_true rfl⟩) hb hml hz hK hY hAz hA hl.1 (lv_room (Nat.le_of_ble_eq_true rfl)) d_Le_dropDeadSegments_30 ⟨Nat.le_of_ble_eq_true rfl, Nat.le_of_ble_eq_true rfl⟩ (fun v3 h4 H locs hp Z => ?_) (fun x3 E9 ce h4 H locs hp hce Z => ?_)
    · rcases hp with ⟨hv9, e_h4⟩
      cases hv9
      rw [e_h4] at Z
      refine W.eq (g2 := F0 m 33 ls [Value.int (nI (gv_n f (F (sj k) 5) (F (sj k) 6 - F (sj k) 5)))]) rfl ?_
      refine lv_if_gt (tgt := 44) hx hb d_Le_dropDeadSegments_33 (by decide) (fun c33_5 => ?_) (fun c33_5 => ?_)
      · refine lv_aload_n hx hb d_Le_dropDeadSegments_44 rfl (lv_at hl 3 rfl) ?_
        refine gz_get (ci := 0) (v := Value.ref q8) (C := "CommitLedger") (T := F_Le) (N := 18) hx hb hts i_Le hown hK Z f_0_w1 rfl 2 (by decide) kf_Le_26 rfl d_Le_dropDeadSegments_45 ?_
        refine lv_iload_n hx hb d_Le_dropDeadSegments_48 rfl (lv_at hl 2 rfl) ?_
        refine lv_aload_n hx hb d_Le_dropDeadSegments_49 rfl (lv_at hl 0 rfl) ?_
        refine lv_aload_n hx hb d_Le_dropDeadSegments_50 rfl (lv_at hl 3 rfl) ?_
        refine gz_get (ci := 0) (v := Value.ref q8) (C := "CommitLedger") (T := F_Le) (N := 18) hx hb hts i_Le hown hK Z f_0_w1 rfl 2 (by decide) kf_Le_26 rfl d_Le_dropDeadSegments_51 ?_
        refine gz_get (ci := 4) (v := Value.ref q10) (C := "CommitLedger$View") (T := F_Vi) (N := 6) hx hb hts i_Vi hown hK Z f_8_w1 rfl 1 (by decide) kf_Le_323 rfl d_Le_dropDeadSegments_54 ?_
        refine lv_iload_n hx hb d_Le_dropDeadSegments_57 rfl (lv_at hl 1 rfl) ?_
        rcases hli k (hk) with q9_6 | ⟨x6, q9_6, q8_6⟩
        · refine gz_aald (v := Value.null) (j := k) hx hb hK Z 2 f_10_w1 ht2 (by omega) (rfl) (by decide) (by rw [gc_at _ _ (Nat.le_refl _), q9_6]; rfl) d_Le_dropDeadSegments_58 ?_
          refine gz_call (ig := .invokevirtual 326) (av := [Value.ref q8, Value.int (nI (gk (gd_k f F M pi rr sj) k)), Value.ref (sj k), Value.null]) Z (fun ws hM => k_Vi_put_n l htr D tys z _ ws w1 hM cZ cF 8 q8 q9 q10 q11 u (e0) x5 (gc (gd_k f F M pi rr sj) g1 g1 k) (gc (gd_k f F M pi rr sj) g2 g2 k) f (gk (gd_k f F M pi rr sj) k) (sj k) P F f_8_w1 f_9_w1 f_10_w1 f_11_w1 ht1 ht2 fam_w1 (by have h9 := gk_le (c := (gd_k f F M pi rr sj)) k; omega) (by first | assumption | decide | omega) (hsg k hk).2) (gx_invV (As := [Value.int (nI (gk (gd_k f F M pi rr sj) k)), Value.ref (sj k), Value.null]) (rest := []) hx hb hown hts km_Le_326 kI_Vi_put kV_Vi_put kc_Vi_put (by decide) (show (parseMethodDescriptor y_Vi_put.desc).map (fun d => d.parameters.length) = some 3 by decide +kernel) (gz_recv (ci := 4) hK Z rfl f_8_w1) rfl rfl d_Le_dropDeadSegments_59) (gx_cw (z := 0) hts kc_Vi_put kN_Vi rfl rfl ⟨Nat.le_of_ble_eq_true rfl, Nat.le_of_ble_eq_true rfl⟩) hb hml hz hK hY hAz hA hl.1 (lv_room (Nat.le_of_ble_eq_true rfl)) d_Le_dropDeadSegments_59 ⟨Nat.le_of_ble_eq_true rfl, Nat.le_of_ble_eq_true rfl⟩ (fun v7 h8 H locs hp Z => ?_) (fun x7 E9 ce h8 H locs hp hce Z => ?_)
          · rcases hp with ⟨hv9, e_h8, f_9_h8, f_10_h8⟩
            cases hv9
            have f_9_h8 : h8 9 = some ((q9, Sum.inl (cF, 4096, Sum.inr (Sum.inr (Sum.inr (Sum.inr (va_up (gc (gd_k f F M pi rr sj) g1 g1 k) (gk (gd_k f F M pi rr sj) k) (some (sj k)))))))) : Nat × va_E) := f_9_h8
            have f_10_h8 : h8 10 = some ((q10, Sum.inl (cF, 4096, Sum.inr (Sum.inr (Sum.inr (Sum.inr (va_up (gc (gd_k f F M pi rr sj) g2 g2 k) (gk (gd_k f F M pi rr sj) k) none)))))) : Nat × va_E) := f_10_h8
            replace hU : gm_g h h8 [8, 9, 10, 11] := hU.call e_h8 (by first | decide | (simp; done) | (simp; omega))
            refine W.eq (g2 := F0 m 62 ls []) rfl ?_
            refine lv_iinc (v := nI ((gk (gd_k f F M pi rr sj) k) + 1)) (lv' := [(1, Value.int (nI ((gk (gd_k f F M pi rr sj) k) + 1))), (3, Value.ref (sj k)), (2, Value.int (nI k)), (0, Value.ref q0)]) hx hb d_Le_dropDeadSegments_62 hl (k := 2) rfl (show nI (gk (gd_k f F M pi rr sj) k) + 1 = nI ((gk (gd_k f F M pi rr sj) k) + 1) from nI_1 _) (by decide) rfl (fun ls hl => ?_)
            refine lv_iinc (v := nI (k + 1)) (lv' := [(2, Value.int (nI (k + 1))), (1, Value.int (nI ((gk (gd_k f F M pi rr sj) k) + 1))), (3, Value.ref (sj k)), (0, Value.ref q0)]) hx hb d_Le_dropDeadSegments_65 hl (k := 2) rfl (show nI k + 1 = nI (k + 1) from nI_1 _) (by decide) rfl (fun ls hl => ?_)
            refine lv_goto (tgt := 4) hx hb d_Le_dropDeadSegments_68 (by decide) ?_
            have hkp : (gd_k f F M pi rr sj) k = true := gd_A c33_5
            rw [← gk_yes hkp] at hl
            have f_8_h8 : h8 8 = some ((q8, Sum.inr (4, [Value.ref q9, Value.ref q10, Value.ref q11, e0, Value.int (nI u), Value.int x5])) : Nat × va_E) := e_h8.at f_8_w1 (by first | decide | (simp; done) | (simp; omega))
            have f_9_n : h8 9 = some ((q9, Sum.inl (cF, 4096, Sum.inr (Sum.inr (Sum.inr (Sum.inr (gc (gd_k f F M pi rr sj) g1 g1 (k + 1))))))) : Nat × va_E) := by rw [gc_yes hkp (hsg k hk).1]; exact f_9_h8
            have f_10_n : h8 10 = some ((q10, Sum.inl (cF, 4096, Sum.inr (Sum.inr (Sum.inr (Sum.inr (gc (gd_k f F M pi rr sj) g2 g2 (k + 1))))))) : Nat × va_E) := by rw [gc_yes hkp q9_6]; exact f_10_h8
            have f_11_h8 : h8 11 = some ((q11, Sum.inl (cZ, 4096, Sum.inl f)) : Nat × va_E) := e_h8.at f_11_w1 (by first | decide | (simp; done) | (simp; omega))
            exact ih _ _ _ _ ⟨hU, f_8_h8, f_9_n, f_10_n, f_11_h8, lv_sub hl [0, 1, 3] rfl⟩ Z
          · rcases hp with ⟨hv9, e_h8, f_9_h8, f_10_h8⟩
            cases hv9
        · refine gz_aald (v := Value.ref x6) (j := k) hx hb hK Z 2 f_10_w1 ht2 (by omega) (rfl) (by decide) (by rw [gc_at _ _ (Nat.le_refl _), q9_6]; rfl) d_Le_dropDeadSegments_58 ?_
          refine gz_call (ig := .invokevirtual 326) (av := [Value.ref q8, Value.int (nI (gk (gd_k f F M pi rr sj) k)), Value.ref (sj k), Value.ref x6]) Z (fun ws hM => k_Vi_put_f l htr D tys z _ ws w1 hM cZ cF 8 q8 q9 q10 q11 u (e0) x5 (gc (gd_k f F M pi rr sj) g1 g1 k) (gc (gd_k f F M pi rr sj) g2 g2 k) f (gk (gd_k f F M pi rr sj) k) (sj k) x6 P F f_8_w1 f_9_w1 f_10_w1 f_11_w1 ht1 ht2 fam_w1 (by have h9 := gk_le (c := (gd_k f F M pi rr sj)) k; omega) (by first | assumption | decide | omega) (hsg k hk).2 q8_6) (gx_invV (As := [Value.int (nI (gk (gd_k f F M pi rr sj) k)), Value.ref (sj k), Value.ref x6]) (rest := []) hx hb hown hts km_Le_326 kI_Vi_put kV_Vi_put kc_Vi_put (by decide) (show (parseMethodDescriptor y_Vi_put.desc).map (fun d => d.parameters.length) = some 3 by decide +kernel) (gz_recv (ci := 4) hK Z rfl f_8_w1) rfl rfl d_Le_dropDeadSegments_59) (gx_cw (z := 0) hts kc_Vi_put kN_Vi rfl rfl ⟨Nat.le_of_ble_eq_true rfl, Nat.le_of_ble_eq_true rfl⟩) hb hml hz hK hY hAz hA hl.1 (lv_room (Nat.le_of_ble_eq_true rfl)) d_Le_dropDeadSegments_59 ⟨Nat.le_of_ble_eq_true rfl, Nat.le_of_ble_eq_true rfl⟩ (fun v9 h10 H locs hp Z => ?_) (fun x9 E9 ce h10 H locs hp hce Z => ?_)
          · rcases hp with ⟨hv9, e_h10, f_9_h10, f_10_h10⟩
            cases hv9
            have f_9_h10 : h10 9 = some ((q9, Sum.inl (cF, 4096, Sum.inr (Sum.inr (Sum.inr (Sum.inr (va_up (gc (gd_k f F M pi rr sj) g1 g1 k) (gk (gd_k f F M pi rr sj) k) (some (sj k)))))))) : Nat × va_E) := f_9_h10
            have f_10_h10 : h10 10 = some ((q10, Sum.inl (cF, 4096, Sum.inr (Sum.inr (Sum.inr (Sum.inr (va_up (gc (gd_k f F M pi rr sj) g2 g2 k) (gk (gd_k f F M pi rr sj) k) (some x6))))))) : Nat × va_E) := f_10_h10
            replace hU : gm_g h h10 [8, 9, 10, 11] := hU.call e_h10 (by first | decide | (simp; done) | (simp; omega))
            refine W.eq (g2 := F0 m 62 ls []) rfl ?_
            refine lv_iinc (v := nI ((gk (gd_k f F M pi rr sj) k) + 1)) (lv' := [(1, Value.int (nI ((gk (gd_k f F M pi rr sj) k) + 1))), (3, Value.ref (sj k)), (2, Value.int (nI k)), (0, Value.ref q0)]) hx hb d_Le_dropDeadSegments_62 hl (k := 2) rfl (show nI (gk (gd_k f F M pi rr sj) k) + 1 = nI ((gk (gd_k f F M pi rr sj) k) + 1) from nI_1 _) (by decide) rfl (fun ls hl => ?_)
            refine lv_iinc (v := nI (k + 1)) (lv' := [(2, Value.int (nI (k + 1))), (1, Value.int (nI ((gk (gd_k f F M pi rr sj) k) + 1))), (3, Value.ref (sj k)), (0, Value.ref q0)]) hx hb d_Le_dropDeadSegments_65 hl (k := 2) rfl (show nI k + 1 = nI (k + 1) from nI_1 _) (by decide) rfl (fun ls hl => ?_)
            refine lv_goto (tgt := 4) hx hb d_Le_dropDeadSegments_68 (by decide) ?_
            have hkp : (gd_k f F M pi rr sj) k = true := gd_A c33_5
            rw [← gk_yes hkp] at hl
            have f_8_h10 : h10 8 = some ((q8, Sum.inr (4, [Value.ref q9, Value.ref q10, Value.ref q11, e0, Value.int (nI u), Value.int x5])) : Nat × va_E) := e_h10.at f_8_w1 (by first | decide | (simp; done) | (simp; omega))
            have f_9_n : h10 9 = some ((q9, Sum.inl (cF, 4096, Sum.inr (Sum.inr (Sum.inr (Sum.inr (gc (gd_k f F M pi rr sj) g1 g1 (k + 1))))))) : Nat × va_E) := by rw [gc_yes hkp (hsg k hk).1]; exact f_9_h10
            have f_10_n : h10 10 = some ((q10, Sum.inl (cF, 4096, Sum.inr (Sum.inr (Sum.inr (Sum.inr (gc (gd_k f F M pi rr sj) g2 g2 (k + 1))))))) : Nat × va_E) := by rw [gc_yes hkp q9_6]; exact f_10_h10
            have f_11_h10 : h10 11 = some ((q11, Sum.inl (cZ, 4096, Sum.inl f)) : Nat × va_E) := e_h10.at f_11_w1 (by first | decide | (simp; done) | (simp; omega))
            exact ih _ _ _ _ ⟨hU, f_8_h10, f_9_n, f_10_n, f_11_h10, lv_sub hl [0, 1, 3] rfl⟩ Z
          · rcases hp with ⟨hv9, e_h10, f_9_h10, f_10_h10⟩
            cases hv9
      · refine lv_aload_n hx hb d_Le_dropDeadSegments_36 rfl (lv_at hl 3 rfl) ?_
        refine lv_aload_n hx hb d_Le_dropDeadSegments_37 rfl (lv_at hl 0 rfl) ?_
        have f_20_w1 : w1 20 = some ((q20, Sum.inl (cM, 4, Sum.inr (Sum.inr (Sum.inr (Sum.inr gp))))) : Nat × va_E) := e_w1.at f_20 (by first | decide | (simp; done) | (simp; omega))
        have mfam_w1 : gM_F qm M mf w1 := gM_call mfam e_w1 (by first | decide | (simp; done) | (simp; omega))
        refine gz_call (ig := .invokevirtual 268) (av := [Value.ref q0, Value.ref (sj k)]) Z (fun ws hM => k_Le_mergeOf l htr D tys z _ ws w1 hM cM q0 q1 q5 q8 q20 q25 (ec) (ep) l7 l8 l9 l10 l11 l13 l14 l15 l16 l17 rr (sj k) gp pi qm M mf P F f_0_w1 f_20_w1 ht3 fam_w1 mfam_w1 hrr hgp (hsg k hk).2) (gx_invV (As := [Value.ref (sj k)]) (rest := []) hx hb hown hts km_Le_268 kI_Le_mergeOf kV_Le_mergeOf kc_Le_mergeOf (by decide) (show (parseMethodDescriptor y_Le_mergeOf.desc).map (fun d => d.parameters.length) = some 1 by decide +kernel) (gz_recv (ci := 0) hK Z rfl f_0_w1) rfl rfl d_Le_dropDeadSegments_38) (gx_cw (z := 0) hts kc_Le_mergeOf kN_Le rfl rfl ⟨Nat.le_of_ble_eq_true rfl, Nat.le_of_ble_eq_true rfl⟩) hb hml hz hK hY hAz hA hl.1 (lv_room (Nat.le_of_ble_eq_true rfl)) d_Le_dropDeadSegments_38 ⟨Nat.le_of_ble_eq_true rfl, Nat.le_of_ble_eq_true rfl⟩ (fun v11 h12 H locs hp Z => ?_) (fun x11 E9 ce h12 H locs hp hce Z => ?_)
        · rcases hp with ⟨hv9, e_h12⟩
          cases hv9
          rw [e_h12] at Z
          refine W.eq (g2 := F0 m 41 ls [Value.int (nI (gq_mo M pi (F (sj k) 5) rr 0))]) rfl ?_
          refine lv_if_eq (tgt := 65) hx hb d_Le_dropDeadSegments_41 (by decide) (fun c41_13 => ?_) (fun c41_13 => ?_)
          · refine lv_iinc (v := nI (k + 1)) (lv' := [(2, Value.int (nI (k + 1))), (3, Value.ref (sj k)), (1, Value.int (nI (gk (gd_k f F M pi rr sj) k))), (0, Value.ref q0)]) hx hb d_Le_dropDeadSegments_65 hl (k := 1) rfl (show nI k + 1 = nI (k + 1) from nI_1 _) (by decide) rfl (fun ls hl => ?_)
            refine lv_goto (tgt := 4) hx hb d_Le_dropDeadSegments_68 (by decide) ?_
            have hkp : ¬ (gd_k f F M pi rr sj) k = true := gd_N c33_5 c41_13
            rw [← gk_no hkp] at hl
            have f_9_n : w1 9 = some ((q9, Sum.inl (cF, 4096, Sum.inr (Sum.inr (Sum.inr (Sum.inr (gc (gd_k f F M pi rr sj) g1 g1 (k + 1))))))) : Nat × va_E) := by rw [gc_no hkp]; exact f_9_w1
            have f_10_n : w1 10 = some ((q10, Sum.inl (cF, 4096, Sum.inr (Sum.inr (Sum.inr (Sum.inr (gc (gd_k f F M pi rr sj) g2 g2 (k + 1))))))) : Nat × va_E) := by rw [gc_no hkp]; exact f_10_w1
            exact ih _ _ _ _ ⟨hU, f_8_w1, f_9_n, f_10_n, f_11_w1, lv_sub hl [0, 2, 3] rfl⟩ Z
          · refine lv_aload_n hx hb d_Le_dropDeadSegments_44 rfl (lv_at hl 3 rfl) ?_
            refine gz_get (ci := 0) (v := Value.ref q8) (C := "CommitLedger") (T := F_Le) (N := 18) hx hb hts i_Le hown hK Z f_0_w1 rfl 2 (by decide) kf_Le_26 rfl d_Le_dropDeadSegments_45 ?_
            refine lv_iload_n hx hb d_Le_dropDeadSegments_48 rfl (lv_at hl 2 rfl) ?_
            refine lv_aload_n hx hb d_Le_dropDeadSegments_49 rfl (lv_at hl 0 rfl) ?_
            refine lv_aload_n hx hb d_Le_dropDeadSegments_50 rfl (lv_at hl 3 rfl) ?_
            refine gz_get (ci := 0) (v := Value.ref q8) (C := "CommitLedger") (T := F_Le) (N := 18) hx hb hts i_Le hown hK Z f_0_w1 rfl 2 (by decide) kf_Le_26 rfl d_Le_dropDeadSegments_51 ?_
            refine gz_get (ci := 4) (v := Value.ref q10) (C := "CommitLedger$View") (T := F_Vi) (N := 6) hx hb hts i_Vi hown hK Z f_8_w1 rfl 1 (by decide) kf_Le_323 rfl d_Le_dropDeadSegments_54 ?_
            refine lv_iload_n hx hb d_Le_dropDeadSegments_57 rfl (lv_at hl 1 rfl) ?_
            rcases hli k (hk) with q9_14 | ⟨x14, q9_14, q8_14⟩
            · refine gz_aald (v := Value.null) (j := k) hx hb hK Z 2 f_10_w1 ht2 (by omega) (rfl) (by decide) (by rw [gc_at _ _ (Nat.le_refl _), q9_14]; rfl) d_Le_dropDeadSegments_58 ?_
              refine gz_call (ig := .invokevirtual 326) (av := [Value.ref q8, Value.int (nI (gk (gd_k f F M pi rr sj) k)), Value.ref (sj k), Value.null]) Z (fun ws hM => k_Vi_put_n l htr D tys z _ ws w1 hM cZ cF 8 q8 q9 q10 q11 u (e0) x5 (gc (gd_k f F M pi rr sj) g1 g1 k) (gc (gd_k f F M pi rr sj) g2 g2 k) f (gk (gd_k f F M pi rr sj) k) (sj k) P F f_8_w1 f_9_w1 f_10_w1 f_11_w1 ht1 ht2 fam_w1 (by have h9 := gk_le (c := (gd_k f F M pi rr sj)) k; omega) (by first | assumption | decide | omega) (hsg k hk).2) (gx_invV (As := [Value.int (nI (gk (gd_k f F M pi rr sj) k)), Value.ref (sj k), Value.null]) (rest := []) hx hb hown hts km_Le_326 kI_Vi_put kV_Vi_put kc_Vi_put (by decide) (show (parseMethodDescriptor y_Vi_put.desc).map (fun d => d.parameters.length) = some 3 by decide +kernel) (gz_recv (ci := 4) hK Z rfl f_8_w1) rfl rfl d_Le_dropDeadSegments_59) (gx_cw (z := 0) hts kc_Vi_put kN_Vi rfl rfl ⟨Nat.le_of_ble_eq_true rfl, Nat.le_of_ble_eq_true rfl⟩) hb hml hz hK hY hAz hA hl.1 (lv_room (Nat.le_of_ble_eq_true rfl)) d_Le_dropDeadSegments_59 ⟨Nat.le_of_ble_eq_true rfl, Nat.le_of_ble_eq_true rfl⟩ (fun v15 h16 H locs hp Z => ?_) (fun x15 E9 ce h16 H locs hp hce Z => ?_)
              · rcases hp with ⟨hv9, e_h16, f_9_h16, f_10_h16⟩
                cases hv9
                have f_9_h16 : h16 9 = some ((q9, Sum.inl (cF, 4096, Sum.inr (Sum.inr (Sum.inr (Sum.inr (va_up (gc (gd_k f F M pi rr sj) g1 g1 k) (gk (gd_k f F M pi rr sj) k) (some (sj k)))))))) : Nat × va_E) := f_9_h16
                have f_10_h16 : h16 10 = some ((q10, Sum.inl (cF, 4096, Sum.inr (Sum.inr (Sum.inr (Sum.inr (va_up (gc (gd_k f F M pi rr sj) g2 g2 k) (gk (gd_k f F M pi rr sj) k) none)))))) : Nat × va_E) := f_10_h16
                replace hU : gm_g h h16 [8, 9, 10, 11] := hU.call e_h16 (by first | decide | (simp; done) | (simp; omega))
                refine W.eq (g2 := F0 m 62 ls []) rfl ?_
                refine lv_iinc (v := nI ((gk (gd_k f F M pi rr sj) k) + 1)) (lv' := [(1, Value.int (nI ((gk (gd_k f F M pi rr sj) k) + 1))), (3, Value.ref (sj k)), (2, Value.int (nI k)), (0, Value.ref q0)]) hx hb d_Le_dropDeadSegments_62 hl (k := 2) rfl (show nI (gk (gd_k f F M pi rr sj) k) + 1 = nI ((gk (gd_k f F M pi rr sj) k) + 1) from nI_1 _) (by decide) rfl (fun ls hl => ?_)
                refine lv_iinc (v := nI (k + 1)) (lv' := [(2, Value.int (nI (k + 1))), (1, Value.int (nI ((gk (gd_k f F M pi rr sj) k) + 1))), (3, Value.ref (sj k)), (0, Value.ref q0)]) hx hb d_Le_dropDeadSegments_65 hl (k := 2) rfl (show nI k + 1 = nI (k + 1) from nI_1 _) (by decide) rfl (fun ls hl => ?_)
                refine lv_goto (tgt := 4) hx hb d_Le_dropDeadSegments_68 (by decide) ?_
                have hkp : (gd_k f F M pi rr sj) k = true := gd_B c41_13
                rw [← gk_yes hkp] at hl
                have f_8_h16 : h16 8 = some ((q8, Sum.inr (4, [Value.ref q9, Value.ref q10, Value.ref q11, e0, Value.int (nI u), Value.int x5])) : Nat × va_E) := e_h16.at f_8_w1 (by first | decide | (simp; done) | (simp; omega))
                have f_9_n : h16 9 = some ((q9, Sum.inl (cF, 4096, Sum.inr (Sum.inr (Sum.inr (Sum.inr (gc (gd_k f F M pi rr sj) g1 g1 (k + 1))))))) : Nat × va_E) := by rw [gc_yes hkp (hsg k hk).1]; exact f_9_h16
                have f_10_n : h16 10 = some ((q10, Sum.inl (cF, 4096, Sum.inr (Sum.inr (Sum.inr (Sum.inr (gc (gd_k f F M pi rr sj) g2 g2 (k + 1))))))) : Nat × va_E) := by rw [gc_yes hkp q9_14]; exact f_10_h16
                have f_11_h16 : h16 11 = some ((q11, Sum.inl (cZ, 4096, Sum.inl f)) : Nat × va_E) := e_h16.at f_11_w1 (by first | decide | (simp; done) | (simp; omega))
                exact ih _ _ _ _ ⟨hU, f_8_h16, f_9_n, f_10_n, f_11_h16, lv_sub hl [0, 1, 3] rfl⟩ Z
              · rcases hp with ⟨hv9, e_h16, f_9_h16, f_10_h16⟩
                cases hv9
            · refine gz_aald (v := Value.ref x14) (j := k) hx hb hK Z 2 f_10_w1 ht2 (by omega) (rfl) (by decide) (by rw [gc_at _ _ (Nat.le_refl _), q9_14]; rfl) d_Le_dropDeadSegments_58 ?_
              refine gz_call (ig := .invokevirtual 326) (av := [Value.ref q8, Value.int (nI (gk (gd_k f F M pi rr sj) k)), Value.ref (sj k), Value.ref x14]) Z (fun ws hM => k_Vi_put_f l htr D tys z _ ws w1 hM cZ cF 8 q8 q9 q10 q11 u (e0) x5 (gc (gd_k f F M pi rr sj) g1 g1 k) (gc (gd_k f F M pi rr sj) g2 g2 k) f (gk (gd_k f F M pi rr sj) k) (sj k) x14 P F f_8_w1 f_9_w1 f_10_w1 f_11_w1 ht1 ht2 fam_w1 (by have h9 := gk_le (c := (gd_k f F M pi rr sj)) k; omega) (by first | assumption | decide | omega) (hsg k hk).2 q8_14) (gx_invV (As := [Value.int (nI (gk (gd_k f F M pi rr sj) k)), Value.ref (sj k), Value.ref x14]) (rest := []) hx hb hown hts km_Le_326 kI_Vi_put kV_Vi_put kc_Vi_put (by decide) (show (parseMethodDescriptor y_Vi_put.desc).map (fun d => d.parameters.length) = some 3 by decide +kernel) (gz_recv (ci := 4) hK Z rfl f_8_w1) rfl rfl d_Le_dropDeadSegments_59) (gx_cw (z := 0) hts kc_Vi_put kN_Vi rfl rfl ⟨Nat.le_of_ble_eq_true rfl, Nat.le_of_ble_eq_true rfl⟩) hb hml hz hK hY hAz hA hl.1 (lv_room (Nat.le_of_ble_eq_true rfl)) d_Le_dropDeadSegments_59 ⟨Nat.le_of_ble_eq_true rfl, Nat.le_of_ble_eq_true rfl⟩ (fun v17 h18 H locs hp Z => ?_) (fun x17 E9 ce h18 H locs hp hce Z => ?_)
              · rcases hp with ⟨hv9, e_h18, f_9_h18, f_10_h18⟩
                cases hv9
                have f_9_h18 : h18 9 = some ((q9, Sum.inl (cF, 4096, Sum.inr (Sum.inr (Sum.inr (Sum.inr (va_up (gc (gd_k f F M pi rr sj) g1 g1 k) (gk (gd_k f F M pi rr sj) k) (some (sj k)))))))) : Nat × va_E) := f_9_h18
                have f_10_h18 : h18 10 = some ((q10, Sum.inl (cF, 4096, Sum.inr (Sum.inr (Sum.inr (Sum.inr (va_up (gc (gd_k f F M pi rr sj) g2 g2 k) (gk (gd_k f F M pi rr sj) k) (some x14))))))) : Nat × va_E) := f_10_h18
                replace hU : gm_g h h18 [8, 9, 10, 11] := hU.call e_h18 (by first | decide | (simp; done) | (simp; omega))
                refine W.eq (g2 := F0 m 62 ls []) rfl ?_
                refine lv_iinc (v := nI ((gk (gd_k f F M pi rr sj) k) + 1)) (lv' := [(1, Value.int (nI ((gk (gd_k f F M pi rr sj) k) + 1))), (3, Value.ref (sj k)), (2, Value.int (nI k)), (0, Value.ref q0)]) hx hb d_Le_dropDeadSegments_62 hl (k := 2) rfl (show nI (gk (gd_k f F M pi rr sj) k) + 1 = nI ((gk (gd_k f F M pi rr sj) k) + 1) from nI_1 _) (by decide) rfl (fun ls hl => ?_)
                refine lv_iinc (v := nI (k + 1)) (lv' := [(2, Value.int (nI (k + 1))), (1, Value.int (nI ((gk (gd_k f F M pi rr sj) k) + 1))), (3, Value.ref (sj k)), (0, Value.ref q0)]) hx hb d_Le_dropDeadSegments_65 hl (k := 2) rfl (show nI k + 1 = nI (k + 1) from nI_1 _) (by decide) rfl (fun ls hl => ?_)
                refine lv_goto (tgt := 4) hx hb d_Le_dropDeadSegments_68 (by decide) ?_
                have hkp : (gd_k f F M pi rr sj) k = true := gd_B c41_13
                rw [← gk_yes hkp] at hl
                have f_8_h18 : h18 8 = some ((q8, Sum.inr (4, [Value.ref q9, Value.ref q10, Value.ref q11, e0, Value.int (nI u), Value.int x5])) : Nat × va_E) := e_h18.at f_8_w1 (by first | decide | (simp; done) | (simp; omega))
                have f_9_n : h18 9 = some ((q9, Sum.inl (cF, 4096, Sum.inr (Sum.inr (Sum.inr (Sum.inr (gc (gd_k f F M pi rr sj) g1 g1 (k + 1))))))) : Nat × va_E) := by rw [gc_yes hkp (hsg k hk).1]; exact f_9_h18
                have f_10_n : h18 10 = some ((q10, Sum.inl (cF, 4096, Sum.inr (Sum.inr (Sum.inr (Sum.inr (gc (gd_k f F M pi rr sj) g2 g2 (k + 1))))))) : Nat × va_E) := by rw [gc_yes hkp q9_14]; exact f_10_h18
                have f_11_h18 : h18 11 = some ((q11, Sum.inl (cZ, 4096, Sum.inl f)) : Nat × va_E) := e_h18.at f_11_w1 (by first | decide | (simp; done) | (simp; omega))
                exact ih _ _ _ _ ⟨hU, f_8_h18, f_9_n, f_10_n, f_11_h18, lv_sub hl [0, 1, 3] rfl⟩ Z
              · rcases hp with ⟨hv9, e_h18, f_9_h18, f_10_h18⟩
                cases hv9
        · rcases hp with ⟨hv9, e_h12⟩
          cases hv9
    · rcases hp with ⟨hv9, e_h4⟩
      cases hv9
  · obtain ⟨hU, f_8_w1, f_9_w1, f_10_w1, f_11_w1, hl⟩ := hI
    have e_w1 := hU
    refine lv_iload_n hx hb d_Le_dropDeadSegments_4 rfl (lv_at hl 0 rfl) ?_
    refine lv_aload_n hx hb d_Le_dropDeadSegments_5 rfl (lv_at hl 2 rfl) ?_
    have f_0_w1 : w1 0 = some ((q0, Sum.inr (0, [Value.ref q1, Value.ref q5, Value.ref q8, Value.ref q20, Value.ref q25, ec, ep, Value.int l7, Value.int l8, Value.int l9, Value.int l10, Value.int l11, Value.int (nI rr), Value.int l13, Value.int l14, Value.int l15, Value.int l16, Value.int l17])) : Nat × va_E) := e_w1.at f_0 (by first | decide | (simp; done) | (simp; omega))
    refine gz_get (ci := 0) (v := Value.ref q8) (C := "CommitLedger") (T := F_Le) (N := 18) hx hb hts i_Le hown hK Z f_0_w1 rfl 2 (by decide) kf_Le_26 rfl d_Le_dropDeadSegments_6 ?_
    refine gz_get (ci := 4) (v := Value.int (nI u)) (C := "CommitLedger$View") (T := F_Vi) (N := 6) hx hb hts i_Vi hown hK Z f_8_w1 rfl 4 (by decide) kf_Le_109 rfl d_Le_dropDeadSegments_9 ?_
    refine lv_icmp_ge (tgt := 71) hx hb d_Le_dropDeadSegments_12 (by decide) (fun _ => ?_) (fun c9 => absurd (nI_le (Nat.le_refl _) (by omega)) c9)
    refine lv_aload_n hx hb d_Le_dropDeadSegments_71 rfl (lv_at hl 2 rfl) ?_
    refine gz_get (ci := 0) (v := Value.ref q8) (C := "CommitLedger") (T := F_Le) (N := 18) hx hb hts i_Le hown hK Z f_0_w1 rfl 2 (by decide) kf_Le_26 rfl d_Le_dropDeadSegments_72 ?_
    refine lv_iload_n hx hb d_Le_dropDeadSegments_75 rfl (lv_at hl 1 rfl) ?_
    refine gz_put (ci := 4) (v := Value.int (nI (gk (gd_k f F M pi rr sj) u))) (ty := .int) (C := "CommitLedger$View") (T := F_Vi) (N := 6) hx hb hts i_Vi t_Vi_ok n_Vi hown hK Z f_8_w1 rfl 4 (by decide) kf_Le_109 rfl (by decide +kernel) rfl rfl (Nat.le_of_ble_eq_true rfl) d_Le_dropDeadSegments_76 (fun H locs Z => ?_)
    obtain ⟨h20, e_h20⟩ : ∃ z9 : gm_M, z9 = gm_up w1 8 ((q8, Sum.inr (4, [Value.ref q9, Value.ref q10, Value.ref q11, e0, Value.int (nI (gk (gd_k f F M pi rr sj) u)), Value.int x5])) : Nat × va_E) := ⟨_, rfl⟩
    replace Z : gz D A s.heap h20 H locs := by rw [e_h20]; exact Z
    have f_8_h20 : h20 8 = some ((q8, Sum.inr (4, [Value.ref q9, Value.ref q10, Value.ref q11, e0, Value.int (nI (gk (gd_k f F M pi rr sj) u)), Value.int x5])) : Nat × va_E) := by rw [e_h20]; exact gm_self
    replace hU : gm_g h h20 [8, 9, 10, 11] := by rw [e_h20]; exact hU.put (by simp)
    have f_9_h20 : h20 9 = some ((q9, Sum.inl (cF, 4096, Sum.inr (Sum.inr (Sum.inr (Sum.inr (gc (gd_k f F M pi rr sj) g1 g1 u)))))) : Nat × va_E) := by rw [e_h20]; exact gm_at f_9_w1 (by decide)
    have f_10_h20 : h20 10 = some ((q10, Sum.inl (cF, 4096, Sum.inr (Sum.inr (Sum.inr (Sum.inr (gc (gd_k f F M pi rr sj) g2 g2 u)))))) : Nat × va_E) := by rw [e_h20]; exact gm_at f_10_w1 (by decide)
    have f_11_h20 : h20 11 = some ((q11, Sum.inl (cZ, 4096, Sum.inl f)) : Nat × va_E) := by rw [e_h20]; exact gm_at f_11_w1 (by decide)
    exact gz_vret hx hb hr hlocks hK Z (by decide) (by decide) (by rw [← hPQ]; exact ⟨rfl, hU, f_8_h20, f_9_h20, f_10_h20, f_11_h20⟩) d_Le_dropDeadSegments_79
