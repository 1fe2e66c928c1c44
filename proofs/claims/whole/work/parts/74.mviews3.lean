/-! VIEWS over maps: hasHarmedFile, listIsRight, append, becomeEmpty, isSameAs; rows printed by an own text program -/
set_option maxHeartbeats 4000000 in
set_option maxRecDepth 100000 in
theorem k_Vi_hasHarmedFile_n (l : Launch) (htr : l.stackTraces = false) (D : va_G) (tys : List (ClassId × FieldType)) (z sz : Nat) (ws : va_W) (h : gm_M) (hM : gm_S h ws) (cZ : ClassId) (cF : ClassId) (n : Nat) (a : Nat) (a1 : Nat) (a2 : Nat) (a3 : Nat) (u : Nat) (x5 : Int32) (g1 : Nat → Option Nat) (g2 : Nat → Option Nat) (f : Nat → Int32) (sj : Nat → Nat) (P : Nat → Prop) (F : Nat → Nat → Nat) (f_n : h n = some ((a, Sum.inr (4, [Value.ref a1, Value.ref a2, Value.ref a3, Value.null, Value.int (nI u), Value.int x5])) : Nat × va_E)) (f_n_1 : h (n + 1) = some ((a1, Sum.inl (cF, 4096, Sum.inr (Sum.inr (Sum.inr (Sum.inr g1))))) : Nat × va_E)) (f_n_2 : h (n + 2) = some ((a2, Sum.inl (cF, 4096, Sum.inr (Sum.inr (Sum.inr (Sum.inr g2))))) : Nat × va_E)) (f_n_3 : h (n + 3) = some ((a3, Sum.inl (cZ, 4096, Sum.inl f)) : Nat × va_E)) (ht1 : tys[1]? = some ((cZ, FieldType.boolean) : ClassId × FieldType)) (ht2 : tys[2]? = some ((cF, FieldType.object "CommitLedger$LedgerFile") : ClassId × FieldType)) (fam : gf_F P F h) (hu : u ≤ 4096) (hn : n + 3 < 1000) (hsg : ∀ i, i < u → g1 i = some (sj i) ∧ P (sj i)) (hli : ∀ i, i < u → g2 i = none ∨ ∃ x, g2 i = some x ∧ P x) : gx_Met l y_Vi_hasHarmedFile [Cond.code y_Vi_hasHarmedFile b_Vi_hasHarmedFile 2 (some .boolean)] { frames := 1, cells := 0, slots := 0, locals := 12 } (gx_P z sz D classes tys ws [Value.ref a]) (gx_Q D classes tys (va_A ws sz) (gm_p (fun r h' => (∃ q : Nat, r = Sum.inl (some (Value.int 1)) ∧ h' = h ∧ (q < u) ∧ (¬ nI (F (sj q) 2) = 0)) ∨ (∃ q : Nat, ∃ x : Nat, r = Sum.inl (some (Value.int 1)) ∧ h' = h ∧ (q < u) ∧ (g2 q = some x) ∧ (¬ nI (F x 2) = 0)) ∨ (r = Sum.inl (some (Value.int 0)) ∧ h' = h ∧ (∀ i, i < u → nI (F (sj i) 2) = 0 ∧ ∀ x, g2 i = some x → nI (F x 2) = 0))))) 0 0 (va_A ws sz) := by
  refine gx_ofW (cc := b_Vi_hasHarmedFile) (maxL := 2) (ret := (some .boolean)) (by decide) rfl ?_
  intro p e s m args below meth c s₁ B hml hv
  obtain ⟨rfl, hsz, hz, hP, hK, hD0, hY⟩ := hv
  have hx := B.exec
  have hb := B.bytes
  have hr := B.returns
  have hts := hY.hts (#[Value.ref a] : Array Value)
  have hown : s.vm.findClass "CommitLedger$View" = some m.cls := findClass_of_methodNamed B.named
  have hlocks := B.notSynchronized
  have hne : c.exceptionTable.isEmpty = true := B.noHandlers (atoms_spec (ws := [Cond.code y_Vi_hasHarmedFile b_Vi_hasHarmedFile 2 (some .boolean)]) B.pre _ List.mem_cons_self)
  subst hsz
  have hAz := gx_az hD0 hz
  have hD := hD0.self (sz := s.heap.size)
  have hN := gx_ns hP
  have hA : ∀ q : Nat, s.heap.size ≤ q → va_A ws s.heap.size q := fun q h => Or.inr h
  generalize va_A ws s.heap.size = A at hD hN hA hAz ⊢
  generalize hPQ : (fun (r : Option Value ⊕ String) (h' : gm_M) => (∃ q : Nat, r = Sum.inl (some (Value.int 1)) ∧ h' = h ∧ (q < u) ∧ (¬ nI (F (sj q) 2) = 0)) ∨ (∃ q : Nat, ∃ x : Nat, r = Sum.inl (some (Value.int 1)) ∧ h' = h ∧ (q < u) ∧ (g2 q = some x) ∧ (¬ nI (F x 2) = 0)) ∨ (r = Sum.inl (some (Value.int 0)) ∧ h' = h ∧ (∀ i, i < u → nI (F (sj i) 2) = 0 ∧ ∀ x, g2 i = some x → nI (F x 2) = 0))) = PQ
  have Z : gz D A s.heap h s.heap [] := ⟨ws, hM, hP, hD, va_S.rf⟩
  clear hP hD hM hD0
  have hU : gm_g h h [] := gm_g.rf
  have hl := lv_entry ([Value.ref a]) (n := 2) (Nat.le_of_ble_eq_true rfl)
  rw [lg_entry_eq]
  generalize (lg_sl ([Value.ref a]) ++ List.replicate (2 - (lg_sl ([Value.ref a])).length) Slot.unset).toArray = ls at hl ⊢
  have hl : lv_has ls 2 [(0, Value.ref a)] := hl
  refine lv_iconst (v := 0) hx hb d_Vi_hasHarmedFile_0 (by decide) ?_
  refine lv_istore_n (lv' := [(1, Value.int 0), (0, Value.ref a)]) hx hb d_Vi_hasHarmedFile_1 rfl hl (by decide) rfl (fun ls hl => ?_)
  refine gz_loop (N := u) (pc := 2) (fun _ => 0) (fun _ => 0) (fun k h9 ls => h9 = h ∧ (∀ i, i < k → nI (F (sj i) 2) = 0 ∧ ∀ x, g2 i = some x → nI (F x 2) = 0) ∧ lv_has ls 2 [(1, Value.int (nI k)), (0, Value.ref a)]) (fun k w1 H locs ls hk hI Z ih => ?_) (fun w1 H locs ls hI Z => ?_) (u) 0 _ _ _ _ (Nat.zero_add _) ⟨rfl, fun i h1 => absurd h1 (Nat.not_lt_zero i), lv_sub hl [0, 1] rfl⟩ Z
  · obtain ⟨hU, hz, hl⟩ := hI
    rw [hU] at Z
    have hU : gm_g h h [] := gm_g.rf
    refine lv_iload_n hx hb d_Vi_hasHarmedFile_2 rfl (lv_at hl 0 rfl) ?_
    refine lv_aload_n hx hb d_Vi_hasHarmedFile_3 rfl (lv_at hl 1 rfl) ?_
    refine gz_get (ci := 4) (v := Value.int (nI u)) (C := "CommitLedger$View") (T := F_Vi) (N := 6) hx hb hts i_Vi hown hK Z f_n rfl 4 (by decide) kf_Vi_24 rfl d_Vi_hasHarmedFile_4 ?_
    refine lv_icmp_ge (tgt := 51) hx hb d_Vi_hasHarmedFile_7 (by decide) (fun c9 => absurd c9 (nI_ge hk (by omega))) (fun _ => ?_)
    refine lv_aload_n hx hb d_Vi_hasHarmedFile_10 rfl (lv_at hl 1 rfl) ?_
    refine gz_get (ci := 4) (v := Value.ref a1) (C := "CommitLedger$View") (T := F_Vi) (N := 6) hx hb hts i_Vi hown hK Z f_n rfl 0 (by decide) kf_Vi_11 rfl d_Vi_hasHarmedFile_11 ?_
    refine lv_iload_n hx hb d_Vi_hasHarmedFile_14 rfl (lv_at hl 0 rfl) ?_
    refine gz_aald (v := Value.ref (sj k)) (j := k) hx hb hK Z 2 f_n_1 ht2 (by omega) (rfl) (by decide) (by rw [(hsg k (hk)).1]; rfl) d_Vi_hasHarmedFile_15 ?_
    refine gz_get (ci := 7) (v := Value.int (nI (F (sj k) 2))) (C := "CommitLedger$LedgerFile") (T := F_Fi) (N := 7) hx hb hts i_Fi hown hK Z (fam (sj k) (hsg k (hk)).2) rfl 2 (by decide) kf_Vi_62 rfl d_Vi_hasHarmedFile_16 ?_
    refine lv_if_ne (tgt := 43) hx hb d_Vi_hasHarmedFile_19 (by decide) (fun c19_3 => ?_) (fun c19_3 => ?_)
    · refine lv_iconst (v := 1) hx hb d_Vi_hasHarmedFile_43 (by decide) ?_
      exact gz_zret (v := 1) hx hb hr hlocks hK Z (by decide) (by decide) (rfl) (by rw [← hPQ]; exact Or.inl ⟨k, rfl, rfl, hk, c19_3⟩) d_Vi_hasHarmedFile_44
    · refine lv_aload_n hx hb d_Vi_hasHarmedFile_22 rfl (lv_at hl 1 rfl) ?_
      refine gz_get (ci := 4) (v := Value.ref a2) (C := "CommitLedger$View") (T := F_Vi) (N := 6) hx hb hts i_Vi hown hK Z f_n rfl 1 (by decide) kf_Vi_17 rfl d_Vi_hasHarmedFile_23 ?_
      refine lv_iload_n hx hb d_Vi_hasHarmedFile_26 rfl (lv_at hl 0 rfl) ?_
      rcases hli k (hk) with q9_4 | ⟨x4, q9_4, q8_4⟩
      · refine gz_aald (v := Value.null) (j := k) hx hb hK Z 2 f_n_2 ht2 (by omega) (rfl) (by decide) (by rw [q9_4]; rfl) d_Vi_hasHarmedFile_27 ?_
        refine lv_ifnullN (tgt := 45) hx hb d_Vi_hasHarmedFile_28 (by decide) ?_
        refine lv_iinc (v := nI (k + 1)) (lv' := [(1, Value.int (nI (k + 1))), (0, Value.ref a)]) hx hb d_Vi_hasHarmedFile_45 hl (k := 0) rfl (show nI k + 1 = nI (k + 1) from nI_1 _) (by decide) rfl (fun ls hl => ?_)
        refine lv_goto (tgt := 2) hx hb d_Vi_hasHarmedFile_48 (by decide) ?_
        exact ih _ _ _ _ ⟨rfl, gv_more0 hz ⟨c19_3, fun x e9 => by rw [q9_4] at e9; cases e9⟩, lv_sub hl [0, 1] rfl⟩ Z
      · refine gz_aald (v := Value.ref x4) (j := k) hx hb hK Z 2 f_n_2 ht2 (by omega) (rfl) (by decide) (by rw [q9_4]; rfl) d_Vi_hasHarmedFile_27 ?_
        refine lv_ifnull hx hb d_Vi_hasHarmedFile_28 ?_
        refine lv_aload_n hx hb d_Vi_hasHarmedFile_31 rfl (lv_at hl 1 rfl) ?_
        refine gz_get (ci := 4) (v := Value.ref a2) (C := "CommitLedger$View") (T := F_Vi) (N := 6) hx hb hts i_Vi hown hK Z f_n rfl 1 (by decide) kf_Vi_17 rfl d_Vi_hasHarmedFile_32 ?_
        refine lv_iload_n hx hb d_Vi_hasHarmedFile_35 rfl (lv_at hl 0 rfl) ?_
        refine gz_aald (v := Value.ref x4) (j := k) hx hb hK Z 2 f_n_2 ht2 (by omega) (rfl) (by decide) (by rw [q9_4]; rfl) d_Vi_hasHarmedFile_36 ?_
        refine gz_get (ci := 7) (v := Value.int (nI (F x4 2))) (C := "CommitLedger$LedgerFile") (T := F_Fi) (N := 7) hx hb hts i_Fi hown hK Z (fam x4 q8_4) rfl 2 (by decide) kf_Vi_62 rfl d_Vi_hasHarmedFile_37 ?_
        refine lv_if_eq (tgt := 45) hx hb d_Vi_hasHarmedFile_40 (by decide) (fun c40_5 => ?_) (fun c40_5 => ?_)
        · refine lv_iinc (v := nI (k + 1)) (lv' := [(1, Value.int (nI (k + 1))), (0, Value.ref a)]) hx hb d_Vi_hasHarmedFile_45 hl (k := 0) rfl (show nI k + 1 = nI (k + 1) from nI_1 _) (by decide) rfl (fun ls hl => ?_)
          refine lv_goto (tgt := 2) hx hb d_Vi_hasHarmedFile_48 (by decide) ?_
          exact ih _ _ _ _ ⟨rfl, gv_more0 hz ⟨c19_3, fun x e9 => by rw [q9_4] at e9; rw [← Option.some.inj e9]; exact c40_5⟩, lv_sub hl [0, 1] rfl⟩ Z
        · refine lv_iconst (v := 1) hx hb d_Vi_hasHarmedFile_43 (by decide) ?_
          exact gz_zret (v := 1) hx hb hr hlocks hK Z (by decide) (by decide) (rfl) (by rw [← hPQ]; exact Or.inr (Or.inl ⟨k, x4, rfl, rfl, hk, q9_4, c40_5⟩)) d_Vi_hasHarmedFile_44
  · obtain ⟨hU, hz, hl⟩ := hI
    rw [hU] at Z
    have hU : gm_g h h [] := gm_g.rf
    refine lv_iload_n hx hb d_Vi_hasHarmedFile_2 rfl (lv_at hl 0 rfl) ?_
    refine lv_aload_n hx hb d_Vi_hasHarmedFile_3 rfl (lv_at hl 1 rfl) ?_
    refine gz_get (ci := 4) (v := Value.int (nI u)) (C := "CommitLedger$View") (T := F_Vi) (N := 6) hx hb hts i_Vi hown hK Z f_n rfl 4 (by decide) kf_Vi_24 rfl d_Vi_hasHarmedFile_4 ?_
    refine lv_icmp_ge (tgt := 51) hx hb d_Vi_hasHarmedFile_7 (by decide) (fun _ => ?_) (fun c9 => absurd (nI_le (Nat.le_refl _) (by omega)) c9)
    refine lv_aload_n hx hb d_Vi_hasHarmedFile_51 rfl (lv_at hl 1 rfl) ?_
    refine gz_get (ci := 4) (v := Value.null) (C := "CommitLedger$View") (T := F_Vi) (N := 6) hx hb hts i_Vi hown hK Z f_n rfl 3 (by decide) kf_Vi_66 rfl d_Vi_hasHarmedFile_52 ?_
    refine lv_ifnullN (tgt := 72) hx hb d_Vi_hasHarmedFile_55 (by decide) ?_
    refine lv_iconst (v := 0) hx hb d_Vi_hasHarmedFile_72 (by decide) ?_
    exact gz_zret (v := 0) hx hb hr hlocks hK Z (by decide) (by decide) (rfl) (by rw [← hPQ]; exact Or.inr (Or.inr (⟨rfl, rfl, hz⟩))) d_Vi_hasHarmedFile_73

set_option maxHeartbeats 4000000 in
set_option maxRecDepth 100000 in
theorem k_Vi_hasHarmedFile_o (l : Launch) (htr : l.stackTraces = false) (D : va_G) (tys : List (ClassId × FieldType)) (z sz : Nat) (ws : va_W) (h : gm_M) (hM : gm_S h ws) (cZ : ClassId) (cF : ClassId) (n : Nat) (a : Nat) (a1 : Nat) (a2 : Nat) (a3 : Nat) (u : Nat) (x5 : Int32) (g1 : Nat → Option Nat) (g2 : Nat → Option Nat) (f : Nat → Int32) (sj : Nat → Nat) (ow : Nat) (P : Nat → Prop) (F : Nat → Nat → Nat) (f_n : h n = some ((a, Sum.inr (4, [Value.ref a1, Value.ref a2, Value.ref a3, Value.ref ow, Value.int (nI u), Value.int x5])) : Nat × va_E)) (f_n_1 : h (n + 1) = some ((a1, Sum.inl (cF, 4096, Sum.inr (Sum.inr (Sum.inr (Sum.inr g1))))) : Nat × va_E)) (f_n_2 : h (n + 2) = some ((a2, Sum.inl (cF, 4096, Sum.inr (Sum.inr (Sum.inr (Sum.inr g2))))) : Nat × va_E)) (f_n_3 : h (n + 3) = some ((a3, Sum.inl (cZ, 4096, Sum.inl f)) : Nat × va_E)) (ht1 : tys[1]? = some ((cZ, FieldType.boolean) : ClassId × FieldType)) (ht2 : tys[2]? = some ((cF, FieldType.object "CommitLedger$LedgerFile") : ClassId × FieldType)) (fam : gf_F P F h) (hu : u ≤ 4096) (hn : n + 3 < 1000) (hsg : ∀ i, i < u → g1 i = some (sj i) ∧ P (sj i)) (hli : ∀ i, i < u → g2 i = none ∨ ∃ x, g2 i = some x ∧ P x) (how : P ow) : gx_Met l y_Vi_hasHarmedFile [Cond.code y_Vi_hasHarmedFile b_Vi_hasHarmedFile 2 (some .boolean)] { frames := 1, cells := 0, slots := 0, locals := 12 } (gx_P z sz D classes tys ws [Value.ref a]) (gx_Q D classes tys (va_A ws sz) (gm_p (fun r h' => (∃ q : Nat, r = Sum.inl (some (Value.int 1)) ∧ h' = h ∧ (q < u) ∧ (¬ nI (F (sj q) 2) = 0)) ∨ (∃ q : Nat, ∃ x : Nat, r = Sum.inl (some (Value.int 1)) ∧ h' = h ∧ (q < u) ∧ (g2 q = some x) ∧ (¬ nI (F x 2) = 0)) ∨ (r = Sum.inl (some (Value.int 1)) ∧ h' = h ∧ (∀ i, i < u → nI (F (sj i) 2) = 0 ∧ ∀ x, g2 i = some x → nI (F x 2) = 0) ∧ (¬ nI (F ow 2) = 0)) ∨ (r = Sum.inl (some (Value.int 0)) ∧ h' = h ∧ (∀ i, i < u → nI (F (sj i) 2) = 0 ∧ ∀ x, g2 i = some x → nI (F x 2) = 0) ∧ (nI (F ow 2) = 0))))) 0 0 (va_A ws sz) := by
  refine gx_ofW (cc := b_Vi_hasHarmedFile) (maxL := 2) (ret := (some .boolean)) (by decide) rfl ?_
  intro p e s m args below meth c s₁ B hml hv
  obtain ⟨rfl, hsz, hz, hP, hK, hD0, hY⟩ := hv
  have hx := B.exec
  have hb := B.bytes
  have hr := B.returns
  have hts := hY.hts (#[Value.ref a] : Array Value)
  have hown : s.vm.findClass "CommitLedger$View" = some m.cls := findClass_of_methodNamed B.named
  have hlocks := B.notSynchronized
  have hne : c.exceptionTable.isEmpty = true := B.noHandlers (atoms_spec (ws := [Cond.code y_Vi_hasHarmedFile b_Vi_hasHarmedFile 2 (some .boolean)]) B.pre _ List.mem_cons_self)
  subst hsz
  have hAz := gx_az hD0 hz
  have hD := hD0.self (sz := s.heap.size)
  have hN := gx_ns hP
  have hA : ∀ q : Nat, s.heap.size ≤ q → va_A ws s.heap.size q := fun q h => Or.inr h
  generalize va_A ws s.heap.size = A at hD hN hA hAz ⊢
  generalize hPQ : (fun (r : Option Value ⊕ String) (h' : gm_M) => (∃ q : Nat, r = Sum.inl (some (Value.int 1)) ∧ h' = h ∧ (q < u) ∧ (¬ nI (F (sj q) 2) = 0)) ∨ (∃ q : Nat, ∃ x : Nat, r = Sum.inl (some (Value.int 1)) ∧ h' = h ∧ (q < u) ∧ (g2 q = some x) ∧ (¬ nI (F x 2) = 0)) ∨ (r = Sum.inl (some (Value.int 1)) ∧ h' = h ∧ (∀ i, i < u → nI (F (sj i) 2) = 0 ∧ ∀ x, g2 i = some x → nI (F x 2) = 0) ∧ (¬ nI (F ow 2) = 0)) ∨ (r = Sum.inl (some (Value.int 0)) ∧ h' = h ∧ (∀ i, i < u → nI (F (sj i) 2) = 0 ∧ ∀ x, g2 i = some x → nI (F x 2) = 0) ∧ (nI (F ow 2) = 0))) = PQ
  have Z : gz D A s.heap h s.heap [] := ⟨ws, hM, hP, hD, va_S.rf⟩
  clear hP hD hM hD0
  have hU : gm_g h h [] := gm_g.rf
  have hl := lv_entry ([Value.ref a]) (n := 2) (Nat.le_of_ble_eq_true rfl)
  rw [lg_entry_eq]
  generalize (lg_sl ([Value.ref a]) ++ List.replicate (2 - (lg_sl ([Value.ref a])).length) Slot.unset).toArray = ls at hl ⊢
  have hl : lv_has ls 2 [(0, Value.ref a)] := hl
  refine lv_iconst (v := 0) hx hb d_Vi_hasHarmedFile_0 (by decide) ?_
  refine lv_istore_n (lv' := [(1, Value.int 0), (0, Value.ref a)]) hx hb d_Vi_hasHarmedFile_1 rfl hl (by decide) rfl (fun ls hl => ?_)
  refine gz_loop (N := u) (pc := 2) (fun _ => 0) (fun _ => 0) (fun k h9 ls => h9 = h ∧ (∀ i, i < k → nI (F (sj i) 2) = 0 ∧ ∀ x, g2 i = some x → nI (F x 2) = 0) ∧ lv_has ls 2 [(1, Value.int (nI k)), (0, Value.ref a)]) (fun k w1 H locs ls hk hI Z ih => ?_) (fun w1 H locs ls hI Z => ?_) (u) 0 _ _ _ _ (Nat.zero_add _) ⟨rfl, fun i h1 => absurd h1 (Nat.not_lt_zero i), lv_sub hl [0, 1] rfl⟩ Z
  · obtain ⟨hU, hz, hl⟩ := hI
    rw [hU] at Z
    have hU : gm_g h h [] := gm_g.rf
    refine lv_iload_n hx hb d_Vi_hasHarmedFile_2 rfl (lv_at hl 0 rfl) ?_
    refine lv_aload_n hx hb d_Vi_hasHarmedFile_3 rfl (lv_at hl 1 rfl) ?_
    refine gz_get (ci := 4) (v := Value.int (nI u)) (C := "CommitLedger$View") (T := F_Vi) (N := 6) hx hb hts i_Vi hown hK Z f_n rfl 4 (by decide) kf_Vi_24 rfl d_Vi_hasHarmedFile_4 ?_
    refine lv_icmp_ge (tgt := 51) hx hb d_Vi_hasHarmedFile_7 (by decide) (fun c9 => absurd c9 (nI_ge hk (by omega))) (fun _ => ?_)
    refine lv_aload_n hx hb d_Vi_hasHarmedFile_10 rfl (lv_at hl 1 rfl) ?_
    refine gz_get (ci := 4) (v := Value.ref a1) (C := "CommitLedger$View") (T := F_Vi) (N := 6) hx hb hts i_Vi hown hK Z f_n rfl 0 (by decide) kf_Vi_11 rfl d_Vi_hasHarmedFile_11 ?_
    refine lv_iload_n hx hb d_Vi_hasHarmedFile_14 rfl (lv_at hl 0 rfl) ?_
    refine gz_aald (v := Value.ref (sj k)) (j := k) hx hb hK Z 2 f_n_1 ht2 (by omega) (rfl) (by decide) (by rw [(hsg k (hk)).1]; rfl) d_Vi_hasHarmedFile_15 ?_
    refine gz_get (ci := 7) (v := Value.int (nI (F (sj k) 2))) (C := "CommitLedger$LedgerFile") (T := F_Fi) (N := 7) hx hb hts i_Fi hown hK Z (fam (sj k) (hsg k (hk)).2) rfl 2 (by decide) kf_Vi_62 rfl d_Vi_hasHarmedFile_16 ?_
    refine lv_if_ne (tgt := 43) hx hb d_Vi_hasHarmedFile_19 (by decide) (fun c19_3 => ?_) (fun c19_3 => ?_)
    · refine lv_iconst (v := 1) hx hb d_Vi_hasHarmedFile_43 (by decide) ?_
      exact gz_zret (v := 1) hx hb hr hlocks hK Z (by decide) (by decide) (rfl) (by rw [← hPQ]; exact Or.inl ⟨k, rfl, rfl, hk, c19_3⟩) d_Vi_hasHarmedFile_44
    · refine lv_aload_n hx hb d_Vi_hasHarmedFile_22 rfl (lv_at hl 1 rfl) ?_
      refine gz_get (ci := 4) (v := Value.ref a2) (C := "CommitLedger$View") (T := F_Vi) (N := 6) hx hb hts i_Vi hown hK Z f_n rfl 1 (by decide) kf_Vi_17 rfl d_Vi_hasHarmedFile_23 ?_
      refine lv_iload_n hx hb d_Vi_hasHarmedFile_26 rfl (lv_at hl 0 rfl) ?_
      rcases hli k (hk) with q9_4 | ⟨x4, q9_4, q8_4⟩
      · refine gz_aald (v := Value.null) (j := k) hx hb hK Z 2 f_n_2 ht2 (by omega) (rfl) (by decide) (by rw [q9_4]; rfl) d_Vi_hasHarmedFile_27 ?_
        refine lv_ifnullN (tgt := 45) hx hb d_Vi_hasHarmedFile_28 (by decide) ?_
        refine lv_iinc (v := nI (k + 1)) (lv' := [(1, Value.int (nI (k + 1))), (0, Value.ref a)]) hx hb d_Vi_hasHarmedFile_45 hl (k := 0) rfl (show nI k + 1 = nI (k + 1) from nI_1 _) (by decide) rfl (fun ls hl => ?_)
        refine lv_goto (tgt := 2) hx hb d_Vi_hasHarmedFile_48 (by decide) ?_
        exact ih _ _ _ _ ⟨rfl, gv_more0 hz ⟨c19_3, fun x e9 => by rw [q9_4] at e9; cases e9⟩, lv_sub hl [0, 1] rfl⟩ Z
      · refine gz_aald (v := Value.ref x4) (j := k) hx hb hK Z 2 f_n_2 ht2 (by omega) (rfl) (by decide) (by rw [q9_4]; rfl) d_Vi_hasHarmedFile_27 ?_
        refine lv_ifnull hx hb d_Vi_hasHarmedFile_28 ?_
        refine lv_aload_n hx hb d_Vi_hasHarmedFile_31 rfl (lv_at hl 1 rfl) ?_
        refine gz_get (ci := 4) (v := Value.ref a2) (C := "CommitLedger$View") (T := F_Vi) (N := 6) hx hb hts i_Vi hown hK Z f_n rfl 1 (by decide) kf_Vi_17 rfl d_Vi_hasHarmedFile_32 ?_
        refine lv_iload_n hx hb d_Vi_hasHarmedFile_35 rfl (lv_at hl 0 rfl) ?_
        refine gz_aald (v := Value.ref x4) (j := k) hx hb hK Z 2 f_n_2 ht2 (by omega) (rfl) (by decide) (by rw [q9_4]; rfl) d_Vi_hasHarmedFile_36 ?_
        refine gz_get (ci := 7) (v := Value.int (nI (F x4 2))) (C := "CommitLedger$LedgerFile") (T := F_Fi) (N := 7) hx hb hts i_Fi hown hK Z (fam x4 q8_4) rfl 2 (by decide) kf_Vi_62 rfl d_Vi_hasHarmedFile_37 ?_
        refine lv_if_eq (tgt := 45) hx hb d_Vi_hasHarmedFile_40 (by decide) (fun c40_5 => ?_) (fun c40_5 => ?_)
        · refine lv_iinc (v := nI (k + 1)) (lv' := [(1, Value.int (nI (k + 1))), (0, Value.ref a)]) hx hb d_Vi_hasHarmedFile_45 hl (k := 0) rfl (show nI k + 1 = nI (k + 1) from nI_1 _) (by decide) rfl (fun ls hl => ?_)
          refine lv_goto (tgt := 2) hx hb d_Vi_hasHarmedFile_48 (by decide) ?_
          exact ih _ _ _ _ ⟨rfl, gv_more0 hz ⟨c19_3, fun x e9 => by rw [q9_4] at e9; rw [← Option.some.inj e9]; exact c40_5⟩, lv_sub hl [0, 1] rfl⟩ Z
        · refine lv_iconst (v := 1) hx hb d_Vi_hasHarmedFile_43 (by decide) ?_
          exact gz_zret (v := 1) hx hb hr hlocks hK Z (by decide) (by decide) (rfl) (by rw [← hPQ]; exact Or.inr (Or.inl ⟨k, x4, rfl, rfl, hk, q9_4, c40_5⟩)) d_Vi_hasHarmedFile_44
  · obtain ⟨hU, hz, hl⟩ := hI
    rw [hU] at Z
    have hU : gm_g h h [] := gm_g.rf
    refine lv_iload_n hx hb d_Vi_hasHarmedFile_2 rfl (lv_at hl 0 rfl) ?_
    refine lv_aload_n hx hb d_Vi_hasHarmedFile_3 rfl (lv_at hl 1 rfl) ?_
    refine gz_get (ci := 4) (v := Value.int (nI u)) (C := "CommitLedger$View") (T := F_Vi) (N := 6) hx hb hts i_Vi hown hK Z f_n rfl 4 (by decide) kf_Vi_24 rfl d_Vi_hasHarmedFile_4 ?_
    refine lv_icmp_ge (tgt := 51) hx hb d_Vi_hasHarmedFile_7 (by decide) (fun _ => ?_) (fun c9 => absurd (nI_le (Nat.le_refl _) (by omega)) c9)
    refine lv_aload_n hx hb d_Vi_hasHarmedFile_51 rfl (lv_at hl 1 rfl) ?_
    refine gz_get (ci := 4) (v := Value.ref ow) (C := "CommitLedger$View") (T := F_Vi) (N := 6) hx hb hts i_Vi hown hK Z f_n rfl 3 (by decide) kf_Vi_66 rfl d_Vi_hasHarmedFile_52 ?_
    refine lv_ifnull hx hb d_Vi_hasHarmedFile_55 ?_
    refine lv_aload_n hx hb d_Vi_hasHarmedFile_58 rfl (lv_at hl 1 rfl) ?_
    refine gz_get (ci := 4) (v := Value.ref ow) (C := "CommitLedger$View") (T := F_Vi) (N := 6) hx hb hts i_Vi hown hK Z f_n rfl 3 (by decide) kf_Vi_66 rfl d_Vi_hasHarmedFile_59 ?_
    refine gz_get (ci := 7) (v := Value.int (nI (F ow 2))) (C := "CommitLedger$LedgerFile") (T := F_Fi) (N := 7) hx hb hts i_Fi hown hK Z (fam ow how) rfl 2 (by decide) kf_Vi_62 rfl d_Vi_hasHarmedFile_62 ?_
    refine lv_if_eq (tgt := 72) hx hb d_Vi_hasHarmedFile_65 (by decide) (fun c65_7 => ?_) (fun c65_7 => ?_)
    · refine lv_iconst (v := 0) hx hb d_Vi_hasHarmedFile_72 (by decide) ?_
      exact gz_zret (v := 0) hx hb hr hlocks hK Z (by decide) (by decide) (rfl) (by rw [← hPQ]; exact Or.inr (Or.inr (Or.inr (⟨rfl, rfl, hz, c65_7⟩)))) d_Vi_hasHarmedFile_73
    · refine lv_iconst (v := 1) hx hb d_Vi_hasHarmedFile_68 (by decide) ?_
      refine lv_goto (tgt := 73) hx hb d_Vi_hasHarmedFile_69 (by decide) ?_
      exact gz_zret (v := 1) hx hb hr hlocks hK Z (by decide) (by decide) (rfl) (by rw [← hPQ]; exact Or.inr (Or.inr (Or.inl ⟨rfl, rfl, hz, c65_7⟩))) d_Vi_hasHarmedFile_73

set_option maxHeartbeats 4000000 in
set_option maxRecDepth 100000 in
theorem k_Vi_listIsRight (l : Launch) (htr : l.stackTraces = false) (D : va_G) (tys : List (ClassId × FieldType)) (z sz : Nat) (ws : va_W) (h : gm_M) (hM : gm_S h ws) (cZ : ClassId) (cF : ClassId) (n : Nat) (a : Nat) (a1 : Nat) (a2 : Nat) (a3 : Nat) (u : Nat) (e0 : Value) (x5 : Int32) (g1 : Nat → Option Nat) (g2 : Nat → Option Nat) (f : Nat → Int32) (sj : Nat → Nat) (i0 : Nat) (P : Nat → Prop) (F : Nat → Nat → Nat) (f_n : h n = some ((a, Sum.inr (4, [Value.ref a1, Value.ref a2, Value.ref a3, e0, Value.int (nI u), Value.int x5])) : Nat × va_E)) (f_n_1 : h (n + 1) = some ((a1, Sum.inl (cF, 4096, Sum.inr (Sum.inr (Sum.inr (Sum.inr g1))))) : Nat × va_E)) (f_n_2 : h (n + 2) = some ((a2, Sum.inl (cF, 4096, Sum.inr (Sum.inr (Sum.inr (Sum.inr g2))))) : Nat × va_E)) (f_n_3 : h (n + 3) = some ((a3, Sum.inl (cZ, 4096, Sum.inl f)) : Nat × va_E)) (ht1 : tys[1]? = some ((cZ, FieldType.boolean) : ClassId × FieldType)) (ht2 : tys[2]? = some ((cF, FieldType.object "CommitLedger$LedgerFile") : ClassId × FieldType)) (fam : gf_F P F h) (hu : u ≤ 4096) (hn : n + 3 < 1000) (hi0 : i0 < u) (hsg : ∀ i, i < u → g1 i = some (sj i) ∧ P (sj i)) (hli : ∀ i, i < u → g2 i = none ∨ ∃ x, g2 i = some x ∧ P x) (hs9 : ∀ x, P x → F x 5 ≤ 4096 ∧ F x 6 ≤ 4096) : gx_Met l y_Vi_listIsRight [Cond.code y_Vi_listIsRight b_Vi_listIsRight 3 (some .boolean)] { frames := 3, cells := 0, slots := 0, locals := 57 } (gx_P z sz D classes tys ws [Value.ref a, Value.int (nI i0)]) (gx_Q D classes tys (va_A ws sz) (gm_p (fun r h' => (r = Sum.inl (some (Value.int 1)) ∧ h' = h ∧ (g2 i0 = none) ∧ (nI (F (sj i0) 4) = nI (gv_n f (F (sj i0) 5) (F (sj i0) 6 - F (sj i0) 5)))) ∨ (r = Sum.inl (some (Value.int 0)) ∧ h' = h ∧ (g2 i0 = none) ∧ (¬ nI (F (sj i0) 4) = nI (gv_n f (F (sj i0) 5) (F (sj i0) 6 - F (sj i0) 5)))) ∨ (∃ x : Nat, r = Sum.inl (some (Value.int 1)) ∧ h' = h ∧ (g2 i0 = some x) ∧ (nI (F x 4) = nI (gv_n f (F (sj i0) 5) (F (sj i0) 6 - F (sj i0) 5)))) ∨ (∃ x : Nat, r = Sum.inl (some (Value.int 0)) ∧ h' = h ∧ (g2 i0 = some x) ∧ (¬ nI (F x 4) = nI (gv_n f (F (sj i0) 5) (F (sj i0) 6 - F (sj i0) 5))))))) 0 0 (va_A ws sz) := by
  refine gx_ofW (cc := b_Vi_listIsRight) (maxL := 3) (ret := (some .boolean)) (by decide) rfl ?_
  intro p e s m args below meth c s₁ B hml hv
  obtain ⟨rfl, hsz, hz, hP, hK, hD0, hY⟩ := hv
  have hx := B.exec
  have hb := B.bytes
  have hr := B.returns
  have hts := hY.hts (#[Value.ref a, Value.int (nI i0)] : Array Value)
  have hown : s.vm.findClass "CommitLedger$View" = some m.cls := findClass_of_methodNamed B.named
  have hlocks := B.notSynchronized
  have hne : c.exceptionTable.isEmpty = true := B.noHandlers (atoms_spec (ws := [Cond.code y_Vi_listIsRight b_Vi_listIsRight 3 (some .boolean)]) B.pre _ List.mem_cons_self)
  subst hsz
  have hAz := gx_az hD0 hz
  have hD := hD0.self (sz := s.heap.size)
  have hN := gx_ns hP
  have hA : ∀ q : Nat, s.heap.size ≤ q → va_A ws s.heap.size q := fun q h => Or.inr h
  generalize va_A ws s.heap.size = A at hD hN hA hAz ⊢
  generalize hPQ : (fun (r : Option Value ⊕ String) (h' : gm_M) => (r = Sum.inl (some (Value.int 1)) ∧ h' = h ∧ (g2 i0 = none) ∧ (nI (F (sj i0) 4) = nI (gv_n f (F (sj i0) 5) (F (sj i0) 6 - F (sj i0) 5)))) ∨ (r = Sum.inl (some (Value.int 0)) ∧ h' = h ∧ (g2 i0 = none) ∧ (¬ nI (F (sj i0) 4) = nI (gv_n f (F (sj i0) 5) (F (sj i0) 6 - F (sj i0) 5)))) ∨ (∃ x : Nat, r = Sum.inl (some (Value.int 1)) ∧ h' = h ∧ (g2 i0 = some x) ∧ (nI (F x 4) = nI (gv_n f (F (sj i0) 5) (F (sj i0) 6 - F (sj i0) 5)))) ∨ (∃ x : Nat, r = Sum.inl (some (Value.int 0)) ∧ h' = h ∧ (g2 i0 = some x) ∧ (¬ nI (F x 4) = nI (gv_n f (F (sj i0) 5) (F (sj i0) 6 - F (sj i0) 5))))) = PQ
  have Z : gz D A s.heap h s.heap [] := ⟨ws, hM, hP, hD, va_S.rf⟩
  clear hP hD hM hD0
  have hU : gm_g h h [] := gm_g.rf
  have hl := lv_entry ([Value.ref a, Value.int (nI i0)]) (n := 3) (Nat.le_of_ble_eq_true rfl)
  rw [lg_entry_eq]
  generalize (lg_sl ([Value.ref a, Value.int (nI i0)]) ++ List.replicate (3 - (lg_sl ([Value.ref a, Value.int (nI i0)])).length) Slot.unset).toArray = ls at hl ⊢
  have hl : lv_has ls 3 [(0, Value.ref a), (1, Value.int (nI i0))] := hl
  refine lv_aload_n hx hb d_Vi_listIsRight_0 rfl (lv_at hl 0 rfl) ?_
  refine gz_get (ci := 4) (v := Value.ref a2) (C := "CommitLedger$View") (T := F_Vi) (N := 6) hx hb hts i_Vi hown hK Z f_n rfl 1 (by decide) kf_Vi_17 rfl d_Vi_listIsRight_1 ?_
  refine lv_iload_n hx hb d_Vi_listIsRight_4 rfl (lv_at hl 1 rfl) ?_
  rcases hli i0 (hi0) with q9_1 | ⟨x1, q9_1, q8_1⟩
  · refine gz_aald (v := Value.null) (j := i0) hx hb hK Z 2 f_n_2 ht2 (by omega) (rfl) (by decide) (by rw [q9_1]; rfl) d_Vi_listIsRight_5 ?_
    refine lv_ifnullN (tgt := 18) hx hb d_Vi_listIsRight_6 (by decide) ?_
    refine lv_aload_n hx hb d_Vi_listIsRight_18 rfl (lv_at hl 0 rfl) ?_
    refine gz_get (ci := 4) (v := Value.ref a1) (C := "CommitLedger$View") (T := F_Vi) (N := 6) hx hb hts i_Vi hown hK Z f_n rfl 0 (by decide) kf_Vi_11 rfl d_Vi_listIsRight_19 ?_
    refine lv_iload_n hx hb d_Vi_listIsRight_22 rfl (lv_at hl 1 rfl) ?_
    refine gz_aald (v := Value.ref (sj i0)) (j := i0) hx hb hK Z 2 f_n_1 ht2 (by omega) (rfl) (by decide) (by rw [(hsg i0 (hi0)).1]; rfl) d_Vi_listIsRight_23 ?_
    refine lv_astore_n (lv' := [(2, Value.ref (sj i0)), (0, Value.ref a), (1, Value.int (nI i0))]) hx hb d_Vi_listIsRight_24 rfl hl (by decide) rfl (fun ls hl => ?_)
    refine lv_aload_n hx hb d_Vi_listIsRight_25 rfl (lv_at hl 0 rfl) ?_
    refine gz_get (ci := 7) (v := Value.int (nI (F (sj i0) 4))) (C := "CommitLedger$LedgerFile") (T := F_Fi) (N := 7) hx hb hts i_Fi hown hK Z (fam (sj i0) (hsg i0 (hi0)).2) rfl 4 (by decide) kf_Vi_55 rfl d_Vi_listIsRight_26 ?_
    refine lv_aload_n hx hb d_Vi_listIsRight_29 rfl (lv_at hl 1 rfl) ?_
    refine lv_aload_n hx hb d_Vi_listIsRight_30 rfl (lv_at hl 1 rfl) ?_
    refine gz_get (ci := 4) (v := Value.ref a1) (C := "CommitLedger$View") (T := F_Vi) (N := 6) hx hb hts i_Vi hown hK Z f_n rfl 0 (by decide) kf_Vi_11 rfl d_Vi_listIsRight_31 ?_
    refine lv_iload_n hx hb d_Vi_listIsRight_34 rfl (lv_at hl 2 rfl) ?_
    refine gz_aald (v := Value.ref (sj i0)) (j := i0) hx hb hK Z 2 f_n_1 ht2 (by omega) (rfl) (by decide) (by rw [(hsg i0 (hi0)).1]; rfl) d_Vi_listIsRight_35 ?_
    refine gz_call (ig := .invokevirtual 58) (av := [Value.ref a, Value.ref (sj i0)]) Z (fun ws hM => k_Vi_liveIn l htr D tys z _ ws h hM cZ cF n a a1 a2 a3 u (e0) x5 g1 g2 f (sj i0) P F f_n f_n_1 f_n_2 f_n_3 ht1 ht2 fam (hsg i0 (hi0)).2 (hs9 (sj i0) (hsg i0 (hi0)).2).1 (hs9 (sj i0) (hsg i0 (hi0)).2).2) (gx_invV (As := [Value.ref (sj i0)]) (rest := [Value.int (nI (F (sj i0) 4))]) hx hb hown hts km_Vi_58 kI_Vi_liveIn kV_Vi_liveIn kc_Vi_liveIn (by decide) (show (parseMethodDescriptor y_Vi_liveIn.desc).map (fun d => d.parameters.length) = some 1 by decide +kernel) (gz_recv (ci := 4) hK Z rfl f_n) rfl rfl d_Vi_listIsRight_36) (gx_cw (z := 0) hts kc_Vi_liveIn kN_Vi rfl rfl ⟨Nat.le_of_ble_eq_true rfl, Nat.le_of_ble_eq_true rfl⟩) hb hml hz hK hY hAz hA hl.1 (lv_room (Nat.le_of_ble_eq_true rfl)) d_Vi_listIsRight_36 ⟨Nat.le_of_ble_eq_true rfl, Nat.le_of_ble_eq_true rfl⟩ (fun v2 h3 H locs hp Z => ?_) (fun x2 E9 ce h3 H locs hp hce Z => ?_)
    · rcases hp with ⟨hv9, e_h3⟩
      cases hv9
      rw [e_h3] at Z
      refine W.eq (g2 := F0 m 39 ls [Value.int (nI (gv_n f (F (sj i0) 5) (F (sj i0) 6 - F (sj i0) 5))), Value.int (nI (F (sj i0) 4))]) rfl ?_
      refine lv_icmp_ne (tgt := 46) hx hb d_Vi_listIsRight_39 (by decide) (fun c39_4 => ?_) (fun c39_4 => ?_)
      · refine lv_iconst (v := 0) hx hb d_Vi_listIsRight_46 (by decide) ?_
        exact gz_zret (v := 0) hx hb hr hlocks hK Z (by decide) (by decide) (rfl) (by rw [← hPQ]; exact Or.inr (Or.inl ⟨rfl, rfl, q9_1, c39_4⟩)) d_Vi_listIsRight_47
      · refine lv_iconst (v := 1) hx hb d_Vi_listIsRight_42 (by decide) ?_
        refine lv_goto (tgt := 47) hx hb d_Vi_listIsRight_43 (by decide) ?_
        exact gz_zret (v := 1) hx hb hr hlocks hK Z (by decide) (by decide) (rfl) (by rw [← hPQ]; exact Or.inl ⟨rfl, rfl, q9_1, c39_4⟩) d_Vi_listIsRight_47
    · rcases hp with ⟨hv9, e_h3⟩
      cases hv9
  · refine gz_aald (v := Value.ref x1) (j := i0) hx hb hK Z 2 f_n_2 ht2 (by omega) (rfl) (by decide) (by rw [q9_1]; rfl) d_Vi_listIsRight_5 ?_
    refine lv_ifnull hx hb d_Vi_listIsRight_6 ?_
    refine lv_aload_n hx hb d_Vi_listIsRight_9 rfl (lv_at hl 0 rfl) ?_
    refine gz_get (ci := 4) (v := Value.ref a2) (C := "CommitLedger$View") (T := F_Vi) (N := 6) hx hb hts i_Vi hown hK Z f_n rfl 1 (by decide) kf_Vi_17 rfl d_Vi_listIsRight_10 ?_
    refine lv_iload_n hx hb d_Vi_listIsRight_13 rfl (lv_at hl 1 rfl) ?_
    refine gz_aald (v := Value.ref x1) (j := i0) hx hb hK Z 2 f_n_2 ht2 (by omega) (rfl) (by decide) (by rw [q9_1]; rfl) d_Vi_listIsRight_14 ?_
    refine lv_goto (tgt := 24) hx hb d_Vi_listIsRight_15 (by decide) ?_
    refine lv_astore_n (lv' := [(2, Value.ref x1), (0, Value.ref a), (1, Value.int (nI i0))]) hx hb d_Vi_listIsRight_24 rfl hl (by decide) rfl (fun ls hl => ?_)
    refine lv_aload_n hx hb d_Vi_listIsRight_25 rfl (lv_at hl 0 rfl) ?_
    refine gz_get (ci := 7) (v := Value.int (nI (F x1 4))) (C := "CommitLedger$LedgerFile") (T := F_Fi) (N := 7) hx hb hts i_Fi hown hK Z (fam x1 q8_1) rfl 4 (by decide) kf_Vi_55 rfl d_Vi_listIsRight_26 ?_
    refine lv_aload_n hx hb d_Vi_listIsRight_29 rfl (lv_at hl 1 rfl) ?_
    refine lv_aload_n hx hb d_Vi_listIsRight_30 rfl (lv_at hl 1 rfl) ?_
    refine gz_get (ci := 4) (v := Value.ref a1) (C := "CommitLedger$View") (T := F_Vi) (N := 6) hx hb hts i_Vi hown hK Z f_n rfl 0 (by decide) kf_Vi_11 rfl d_Vi_listIsRight_31 ?_
    refine lv_iload_n hx hb d_Vi_listIsRight_34 rfl (lv_at hl 2 rfl) ?_
    refine gz_aald (v := Value.ref (sj i0)) (j := i0) hx hb hK Z 2 f_n_1 ht2 (by omega) (rfl) (by decide) (by rw [(hsg i0 (hi0)).1]; rfl) d_Vi_listIsRight_35 ?_
    refine gz_call (ig := .invokevirtual 58) (av := [Value.ref a, Value.ref (sj i0)]) Z (fun ws hM => k_Vi_liveIn l htr D tys z _ ws h hM cZ cF n a a1 a2 a3 u (e0) x5 g1 g2 f (sj i0) P F f_n f_n_1 f_n_2 f_n_3 ht1 ht2 fam (hsg i0 (hi0)).2 (hs9 (sj i0) (hsg i0 (hi0)).2).1 (hs9 (sj i0) (hsg i0 (hi0)).2).2) (gx_invV (As := [Value.ref (sj i0)]) (rest := [Value.int (nI (F x1 4))]) hx hb hown hts km_Vi_58 kI_Vi_liveIn kV_Vi_liveIn kc_Vi_liveIn (by decide) (show (parseMethodDescriptor y_Vi_liveIn.desc).map (fun d => d.parameters.length) = some 1 by decide +kernel) (gz_recv (ci := 4) hK Z rfl f_n) rfl rfl d_Vi_listIsRight_36) (gx_cw (z := 0) hts kc_Vi_liveIn kN_Vi rfl rfl ⟨Nat.le_of_ble_eq_true rfl, Nat.le_of_ble_eq_true rfl⟩) hb hml hz hK hY hAz hA hl.1 (lv_room (Nat.le_of_ble_eq_true rfl)) d_Vi_listIsRight_36 ⟨Nat.le_of_ble_eq_true rfl, Nat.le_of_ble_eq_true rfl⟩ (fun v5 h6 H locs hp Z => ?_) (fun x5 E9 ce h6 H locs hp hce Z => ?_)
    · rcases hp with ⟨hv9, e_h6⟩
      cases hv9
      rw [e_h6] at Z
      refine W.eq (g2 := F0 m 39 ls [Value.int (nI (gv_n f (F (sj i0) 5) (F (sj i0) 6 - F (sj i0) 5))), Value.int (nI (F x1 4))]) rfl ?_
      refine lv_icmp_ne (tgt := 46) hx hb d_Vi_listIsRight_39 (by decide) (fun c39_7 => ?_) (fun c39_7 => ?_)
      · refine lv_iconst (v := 0) hx hb d_Vi_listIsRight_46 (by decide) ?_
        exact gz_zret (v := 0) hx hb hr hlocks hK Z (by decide) (by decide) (rfl) (by rw [← hPQ]; exact Or.inr (Or.inr (Or.inr (⟨x1, rfl, rfl, q9_1, c39_7⟩)))) d_Vi_listIsRight_47
      · refine lv_iconst (v := 1) hx hb d_Vi_listIsRight_42 (by decide) ?_
        refine lv_goto (tgt := 47) hx hb d_Vi_listIsRight_43 (by decide) ?_
        exact gz_zret (v := 1) hx hb hr hlocks hK Z (by decide) (by decide) (rfl) (by rw [← hPQ]; exact Or.inr (Or.inr (Or.inl ⟨x1, rfl, rfl, q9_1, c39_7⟩))) d_Vi_listIsRight_47
    · rcases hp with ⟨hv9, e_h6⟩
      cases hv9

set_option maxHeartbeats 4000000 in
set_option maxRecDepth 100000 in
theorem k_Vi_append (l : Launch) (htr : l.stackTraces = false) (D : va_G) (tys : List (ClassId × FieldType)) (z sz : Nat) (ws : va_W) (h : gm_M) (hM : gm_S h ws) (cZ : ClassId) (cF : ClassId) (n : Nat) (a : Nat) (a1 : Nat) (a2 : Nat) (a3 : Nat) (u : Nat) (e0 : Value) (x5 : Int32) (g1 : Nat → Option Nat) (g2 : Nat → Option Nat) (f : Nat → Int32) (x : Nat) (P : Nat → Prop) (F : Nat → Nat → Nat) (f_n : h n = some ((a, Sum.inr (4, [Value.ref a1, Value.ref a2, Value.ref a3, e0, Value.int (nI u), Value.int x5])) : Nat × va_E)) (f_n_1 : h (n + 1) = some ((a1, Sum.inl (cF, 4096, Sum.inr (Sum.inr (Sum.inr (Sum.inr g1))))) : Nat × va_E)) (f_n_2 : h (n + 2) = some ((a2, Sum.inl (cF, 4096, Sum.inr (Sum.inr (Sum.inr (Sum.inr g2))))) : Nat × va_E)) (f_n_3 : h (n + 3) = some ((a3, Sum.inl (cZ, 4096, Sum.inl f)) : Nat × va_E)) (ht1 : tys[1]? = some ((cZ, FieldType.boolean) : ClassId × FieldType)) (ht2 : tys[2]? = some ((cF, FieldType.object "CommitLedger$LedgerFile") : ClassId × FieldType)) (fam : gf_F P F h) (hk : u < 4096) (hn : n + 3 < 1000) (hx9 : P x) : gx_Met l y_Vi_append [Cond.code y_Vi_append b_Vi_append 2 none] { frames := 2, cells := 0, slots := 0, locals := 35 } (gx_P z sz D classes tys ws [Value.ref a, Value.ref x]) (gx_Q D classes tys (va_A ws sz) (gm_p (fun r h' => (r = Sum.inl none ∧ gm_g h h' [n, n + 1, n + 2, n + 3] ∧ h' n = some ((a, Sum.inr (4, [Value.ref a1, Value.ref a2, Value.ref a3, e0, Value.int (nI (u + 1)), Value.int x5])) : Nat × va_E) ∧ h' (n + 1) = some ((a1, Sum.inl (cF, 4096, Sum.inr (Sum.inr (Sum.inr (Sum.inr (va_up g1 u (some x))))))) : Nat × va_E) ∧ h' (n + 2) = some ((a2, Sum.inl (cF, 4096, Sum.inr (Sum.inr (Sum.inr (Sum.inr (va_up g2 u none)))))) : Nat × va_E) ∧ h' (n + 3) = some ((a3, Sum.inl (cZ, 4096, Sum.inl f)) : Nat × va_E))))) 0 0 (va_A ws sz) := by
  refine gx_ofW (cc := b_Vi_append) (maxL := 2) (ret := none) (by decide) rfl ?_
  intro p e s m args below meth c s₁ B hml hv
  obtain ⟨rfl, hsz, hz, hP, hK, hD0, hY⟩ := hv
  have hx := B.exec
  have hb := B.bytes
  have hr := B.returns
  have hts := hY.hts (#[Value.ref a, Value.ref x] : Array Value)
  have hown : s.vm.findClass "CommitLedger$View" = some m.cls := findClass_of_methodNamed B.named
  have hlocks := B.notSynchronized
  have hne : c.exceptionTable.isEmpty = true := B.noHandlers (atoms_spec (ws := [Cond.code y_Vi_append b_Vi_append 2 none]) B.pre _ List.mem_cons_self)
  subst hsz
  have hAz := gx_az hD0 hz
  have hD := hD0.self (sz := s.heap.size)
  have hN := gx_ns hP
  have hA : ∀ q : Nat, s.heap.size ≤ q → va_A ws s.heap.size q := fun q h => Or.inr h
  generalize va_A ws s.heap.size = A at hD hN hA hAz ⊢
  generalize hPQ : (fun (r : Option Value ⊕ String) (h' : gm_M) => (r = Sum.inl none ∧ gm_g h h' [n, n + 1, n + 2, n + 3] ∧ h' n = some ((a, Sum.inr (4, [Value.ref a1, Value.ref a2, Value.ref a3, e0, Value.int (nI (u + 1)), Value.int x5])) : Nat × va_E) ∧ h' (n + 1) = some ((a1, Sum.inl (cF, 4096, Sum.inr (Sum.inr (Sum.inr (Sum.inr (va_up g1 u (some x))))))) : Nat × va_E) ∧ h' (n + 2) = some ((a2, Sum.inl (cF, 4096, Sum.inr (Sum.inr (Sum.inr (Sum.inr (va_up g2 u none)))))) : Nat × va_E) ∧ h' (n + 3) = some ((a3, Sum.inl (cZ, 4096, Sum.inl f)) : Nat × va_E))) = PQ
  have Z : gz D A s.heap h s.heap [] := ⟨ws, hM, hP, hD, va_S.rf⟩
  clear hP hD hM hD0
  have hU : gm_g h h [n, n + 1, n + 2, n + 3] := gm_g.rf
  have hl := lv_entry ([Value.ref a, Value.ref x]) (n := 2) (Nat.le_of_ble_eq_true rfl)
  rw [lg_entry_eq]
  generalize (lg_sl ([Value.ref a, Value.ref x]) ++ List.replicate (2 - (lg_sl ([Value.ref a, Value.ref x])).length) Slot.unset).toArray = ls at hl ⊢
  have hl : lv_has ls 2 [(0, Value.ref a), (1, Value.ref x)] := hl
  refine lv_aload_n hx hb d_Vi_append_0 rfl (lv_at hl 0 rfl) ?_
  refine gz_get (ci := 4) (v := Value.int (nI u)) (C := "CommitLedger$View") (T := F_Vi) (N := 6) hx hb hts i_Vi hown hK Z f_n rfl 4 (by decide) kf_Vi_24 rfl d_Vi_append_1 ?_
  refine lv_sipush (v := 4096) hx hb d_Vi_append_4 (by decide) ?_
  refine lv_icmp_ge (tgt := 30) hx hb d_Vi_append_7 (by decide) (fun c9 => absurd c9 (show ¬ nI 4096 ≤ nI u from nI_ge hk (by decide))) (fun _ => ?_)
  refine lv_aload_n hx hb d_Vi_append_10 rfl (lv_at hl 0 rfl) ?_
  refine lv_aload_n hx hb d_Vi_append_11 rfl (lv_at hl 0 rfl) ?_
  refine gz_get (ci := 4) (v := Value.int (nI u)) (C := "CommitLedger$View") (T := F_Vi) (N := 6) hx hb hts i_Vi hown hK Z f_n rfl 4 (by decide) kf_Vi_24 rfl d_Vi_append_12 ?_
  refine lv_aload_n hx hb d_Vi_append_15 rfl (lv_at hl 1 rfl) ?_
  refine lv_null hx hb d_Vi_append_16 ?_
  refine gz_call (ig := .invokevirtual 31) (av := [Value.ref a, Value.int (nI u), Value.ref x, Value.null]) Z (fun ws hM => k_Vi_put_n l htr D tys z _ ws h hM cZ cF n a a1 a2 a3 u (e0) x5 g1 g2 f u x P F f_n f_n_1 f_n_2 f_n_3 ht1 ht2 fam hk hn hx9) (gx_invV (As := [Value.int (nI u), Value.ref x, Value.null]) (rest := []) hx hb hown hts km_Vi_31 kI_Vi_put kV_Vi_put kc_Vi_put (by decide) (show (parseMethodDescriptor y_Vi_put.desc).map (fun d => d.parameters.length) = some 3 by decide +kernel) (gz_recv (ci := 4) hK Z rfl f_n) rfl rfl d_Vi_append_17) (gx_cw (z := 0) hts kc_Vi_put kN_Vi rfl rfl ⟨Nat.le_of_ble_eq_true rfl, Nat.le_of_ble_eq_true rfl⟩) hb hml hz hK hY hAz hA hl.1 (lv_room (Nat.le_of_ble_eq_true rfl)) d_Vi_append_17 ⟨Nat.le_of_ble_eq_true rfl, Nat.le_of_ble_eq_true rfl⟩ (fun v2 h3 H locs hp Z => ?_) (fun x2 E9 ce h3 H locs hp hce Z => ?_)
  · rcases hp with ⟨hv9, e_h3, f_n_1_h3, f_n_2_h3⟩
    cases hv9
    have f_n_1_h3 : h3 (n + 1) = some ((a1, Sum.inl (cF, 4096, Sum.inr (Sum.inr (Sum.inr (Sum.inr (va_up g1 u (some x))))))) : Nat × va_E) := f_n_1_h3
    have f_n_2_h3 : h3 (n + 2) = some ((a2, Sum.inl (cF, 4096, Sum.inr (Sum.inr (Sum.inr (Sum.inr (va_up g2 u none)))))) : Nat × va_E) := f_n_2_h3
    replace hU : gm_g h h3 [n, n + 1, n + 2, n + 3] := hU.call e_h3 (by first | decide | (simp; done) | (simp; omega))
    refine W.eq (g2 := F0 m 20 ls []) rfl ?_
    refine lv_aload_n hx hb d_Vi_append_20 rfl (lv_at hl 0 rfl) ?_
    refine lv_dup hx hb d_Vi_append_21 rfl ?_
    have f_n_h3 : h3 n = some ((a, Sum.inr (4, [Value.ref a1, Value.ref a2, Value.ref a3, e0, Value.int (nI u), Value.int x5])) : Nat × va_E) := e_h3.at f_n (by first | decide | (simp; done) | (simp; omega))
    refine gz_get (ci := 4) (v := Value.int (nI u)) (C := "CommitLedger$View") (T := F_Vi) (N := 6) hx hb hts i_Vi hown hK Z f_n_h3 rfl 4 (by decide) kf_Vi_24 rfl d_Vi_append_22 ?_
    refine lv_iconst (v := 1) hx hb d_Vi_append_25 (by decide) ?_
    refine lv_iadd hx hb d_Vi_append_26 ?_
    refine gx_topi (y := nI (u + 1)) (nI_1 _) ?_
    refine gz_put (ci := 4) (v := Value.int (nI (u + 1))) (ty := .int) (C := "CommitLedger$View") (T := F_Vi) (N := 6) hx hb hts i_Vi t_Vi_ok n_Vi hown hK Z f_n_h3 rfl 4 (by decide) kf_Vi_24 rfl (by decide +kernel) rfl rfl (Nat.le_of_ble_eq_true rfl) d_Vi_append_27 (fun H locs Z => ?_)
    obtain ⟨h4, e_h4⟩ : ∃ z9 : gm_M, z9 = gm_up h3 n ((a, Sum.inr (4, [Value.ref a1, Value.ref a2, Value.ref a3, e0, Value.int (nI (u + 1)), Value.int x5])) : Nat × va_E) := ⟨_, rfl⟩
    replace Z : gz D A s.heap h4 H locs := by rw [e_h4]; exact Z
    have f_n_h4 : h4 n = some ((a, Sum.inr (4, [Value.ref a1, Value.ref a2, Value.ref a3, e0, Value.int (nI (u + 1)), Value.int x5])) : Nat × va_E) := by rw [e_h4]; exact gm_self
    replace hU : gm_g h h4 [n, n + 1, n + 2, n + 3] := by rw [e_h4]; exact hU.put (by simp)
    have f_n_1_h4 : h4 (n + 1) = some ((a1, Sum.inl (cF, 4096, Sum.inr (Sum.inr (Sum.inr (Sum.inr (va_up g1 u (some x))))))) : Nat × va_E) := by rw [e_h4]; exact gm_at f_n_1_h3 (by omega)
    have f_n_2_h4 : h4 (n + 2) = some ((a2, Sum.inl (cF, 4096, Sum.inr (Sum.inr (Sum.inr (Sum.inr (va_up g2 u none)))))) : Nat × va_E) := by rw [e_h4]; exact gm_at f_n_2_h3 (by omega)
    have f_n_3_h3 : h3 (n + 3) = some ((a3, Sum.inl (cZ, 4096, Sum.inl f)) : Nat × va_E) := e_h3.at f_n_3 (by first | decide | (simp; done) | (simp; omega))
    have f_n_3_h4 : h4 (n + 3) = some ((a3, Sum.inl (cZ, 4096, Sum.inl f)) : Nat × va_E) := by rw [e_h4]; exact gm_at f_n_3_h3 (by omega)
    exact gz_vret hx hb hr hlocks hK Z (by decide) (by decide) (by rw [← hPQ]; exact ⟨rfl, hU, f_n_h4, f_n_1_h4, f_n_2_h4, f_n_3_h4⟩) d_Vi_append_30
  · rcases hp with ⟨hv9, e_h3, f_n_1_h3, f_n_2_h3⟩
    cases hv9

set_option maxHeartbeats 4000000 in
set_option maxRecDepth 100000 in
theorem k_Vi_becomeEmpty (l : Launch) (htr : l.stackTraces = false) (D : va_G) (tys : List (ClassId × FieldType)) (z sz : Nat) (ws : va_W) (h : gm_M) (hM : gm_S h ws) (cZ : ClassId) (cF : ClassId) (n : Nat) (a : Nat) (a1 : Nat) (a2 : Nat) (a3 : Nat) (e0 : Value) (x5 : Int32) (g1 : Nat → Option Nat) (g2 : Nat → Option Nat) (f : Nat → Int32) (x4 : Int32) (f_n : h n = some ((a, Sum.inr (4, [Value.ref a1, Value.ref a2, Value.ref a3, e0, Value.int x4, Value.int x5])) : Nat × va_E)) (f_n_1 : h (n + 1) = some ((a1, Sum.inl (cF, 4096, Sum.inr (Sum.inr (Sum.inr (Sum.inr g1))))) : Nat × va_E)) (f_n_2 : h (n + 2) = some ((a2, Sum.inl (cF, 4096, Sum.inr (Sum.inr (Sum.inr (Sum.inr g2))))) : Nat × va_E)) (f_n_3 : h (n + 3) = some ((a3, Sum.inl (cZ, 4096, Sum.inl f)) : Nat × va_E)) (ht1 : tys[1]? = some ((cZ, FieldType.boolean) : ClassId × FieldType)) (ht2 : tys[2]? = some ((cF, FieldType.object "CommitLedger$LedgerFile") : ClassId × FieldType)) (hn : n + 3 < 1000) : gx_Met l y_Vi_becomeEmpty [Cond.code y_Vi_becomeEmpty b_Vi_becomeEmpty 2 none] { frames := 1, cells := 0, slots := 0, locals := 12 } (gx_P z sz D classes tys ws [Value.ref a]) (gx_Q D classes tys (va_A ws sz) (gm_p (fun r h' => (r = Sum.inl none ∧ gm_g h h' [n, n + 1, n + 2, n + 3] ∧ h' n = some ((a, Sum.inr (4, [Value.ref a1, Value.ref a2, Value.ref a3, e0, Value.int 0, Value.int 0])) : Nat × va_E) ∧ h' (n + 1) = some ((a1, Sum.inl (cF, 4096, Sum.inr (Sum.inr (Sum.inr (Sum.inr g1))))) : Nat × va_E) ∧ h' (n + 2) = some ((a2, Sum.inl (cF, 4096, Sum.inr (Sum.inr (Sum.inr (Sum.inr g2))))) : Nat × va_E) ∧ h' (n + 3) = some ((a3, Sum.inl (cZ, 4096, Sum.inl (gv_cp 4096 (fun _ => 0) f))) : Nat × va_E))))) 0 0 (va_A ws sz) := by
  refine gx_ofW (cc := b_Vi_becomeEmpty) (maxL := 2) (ret := none) (by decide) rfl ?_
  intro p e s m args below meth c s₁ B hml hv
  obtain ⟨rfl, hsz, hz, hP, hK, hD0, hY⟩ := hv
  have hx := B.exec
  have hb := B.bytes
  have hr := B.returns
  have hts := hY.hts (#[Value.ref a] : Array Value)
  have hown : s.vm.findClass "CommitLedger$View" = some m.cls := findClass_of_methodNamed B.named
  have hlocks := B.notSynchronized
  have hne : c.exceptionTable.isEmpty = true := B.noHandlers (atoms_spec (ws := [Cond.code y_Vi_becomeEmpty b_Vi_becomeEmpty 2 none]) B.pre _ List.mem_cons_self)
  subst hsz
  have hAz := gx_az hD0 hz
  have hD := hD0.self (sz := s.heap.size)
  have hN := gx_ns hP
  have hA : ∀ q : Nat, s.heap.size ≤ q → va_A ws s.heap.size q := fun q h => Or.inr h
  generalize va_A ws s.heap.size = A at hD hN hA hAz ⊢
  generalize hPQ : (fun (r : Option Value ⊕ String) (h' : gm_M) => (r = Sum.inl none ∧ gm_g h h' [n, n + 1, n + 2, n + 3] ∧ h' n = some ((a, Sum.inr (4, [Value.ref a1, Value.ref a2, Value.ref a3, e0, Value.int 0, Value.int 0])) : Nat × va_E) ∧ h' (n + 1) = some ((a1, Sum.inl (cF, 4096, Sum.inr (Sum.inr (Sum.inr (Sum.inr g1))))) : Nat × va_E) ∧ h' (n + 2) = some ((a2, Sum.inl (cF, 4096, Sum.inr (Sum.inr (Sum.inr (Sum.inr g2))))) : Nat × va_E) ∧ h' (n + 3) = some ((a3, Sum.inl (cZ, 4096, Sum.inl (gv_cp 4096 (fun _ => 0) f))) : Nat × va_E))) = PQ
  have Z : gz D A s.heap h s.heap [] := ⟨ws, hM, hP, hD, va_S.rf⟩
  clear hP hD hM hD0
  have hU : gm_g h h [n, n + 1, n + 2, n + 3] := gm_g.rf
  have hl := lv_entry ([Value.ref a]) (n := 2) (Nat.le_of_ble_eq_true rfl)
  rw [lg_entry_eq]
  generalize (lg_sl ([Value.ref a]) ++ List.replicate (2 - (lg_sl ([Value.ref a])).length) Slot.unset).toArray = ls at hl ⊢
  have hl : lv_has ls 2 [(0, Value.ref a)] := hl
  refine lv_aload_n hx hb d_Vi_becomeEmpty_0 rfl (lv_at hl 0 rfl) ?_
  refine lv_iconst (v := 0) hx hb d_Vi_becomeEmpty_1 (by decide) ?_
  refine gz_put (ci := 4) (v := Value.int 0) (ty := .int) (C := "CommitLedger$View") (T := F_Vi) (N := 6) hx hb hts i_Vi t_Vi_ok n_Vi hown hK Z f_n rfl 4 (by decide) kf_Vi_24 rfl (by decide +kernel) rfl rfl (Nat.le_of_ble_eq_true rfl) d_Vi_becomeEmpty_2 (fun H locs Z => ?_)
  obtain ⟨h1, e_h1⟩ : ∃ z9 : gm_M, z9 = gm_up h n ((a, Sum.inr (4, [Value.ref a1, Value.ref a2, Value.ref a3, e0, Value.int 0, Value.int x5])) : Nat × va_E) := ⟨_, rfl⟩
  replace Z : gz D A s.heap h1 H locs := by rw [e_h1]; exact Z
  have f_n_h1 : h1 n = some ((a, Sum.inr (4, [Value.ref a1, Value.ref a2, Value.ref a3, e0, Value.int 0, Value.int x5])) : Nat × va_E) := by rw [e_h1]; exact gm_self
  replace hU : gm_g h h1 [n, n + 1, n + 2, n + 3] := by rw [e_h1]; exact hU.put (by simp)
  refine lv_aload_n hx hb d_Vi_becomeEmpty_5 rfl (lv_at hl 0 rfl) ?_
  refine lv_iconst (v := 0) hx hb d_Vi_becomeEmpty_6 (by decide) ?_
  refine gz_put (ci := 4) (v := Value.int 0) (ty := .int) (C := "CommitLedger$View") (T := F_Vi) (N := 6) hx hb hts i_Vi t_Vi_ok n_Vi hown hK Z f_n_h1 rfl 5 (by decide) kf_Vi_28 rfl (by decide +kernel) rfl rfl (Nat.le_of_ble_eq_true rfl) d_Vi_becomeEmpty_7 (fun H locs Z => ?_)
  obtain ⟨h2, e_h2⟩ : ∃ z9 : gm_M, z9 = gm_up h1 n ((a, Sum.inr (4, [Value.ref a1, Value.ref a2, Value.ref a3, e0, Value.int 0, Value.int 0])) : Nat × va_E) := ⟨_, rfl⟩
  replace Z : gz D A s.heap h2 H locs := by rw [e_h2]; exact Z
  have f_n_h2 : h2 n = some ((a, Sum.inr (4, [Value.ref a1, Value.ref a2, Value.ref a3, e0, Value.int 0, Value.int 0])) : Nat × va_E) := by rw [e_h2]; exact gm_self
  replace hU : gm_g h h2 [n, n + 1, n + 2, n + 3] := by rw [e_h2]; exact hU.put (by simp)
  refine lv_iconst (v := 0) hx hb d_Vi_becomeEmpty_10 (by decide) ?_
  refine lv_istore_n (lv' := [(1, Value.int 0), (0, Value.ref a)]) hx hb d_Vi_becomeEmpty_11 rfl hl (by decide) rfl (fun ls hl => ?_)
  have f_n_1_h1 : h1 (n + 1) = some ((a1, Sum.inl (cF, 4096, Sum.inr (Sum.inr (Sum.inr (Sum.inr g1))))) : Nat × va_E) := by rw [e_h1]; exact gm_at f_n_1 (by omega)
  have f_n_1_h2 : h2 (n + 1) = some ((a1, Sum.inl (cF, 4096, Sum.inr (Sum.inr (Sum.inr (Sum.inr g1))))) : Nat × va_E) := by rw [e_h2]; exact gm_at f_n_1_h1 (by omega)
  have f_n_2_h1 : h1 (n + 2) = some ((a2, Sum.inl (cF, 4096, Sum.inr (Sum.inr (Sum.inr (Sum.inr g2))))) : Nat × va_E) := by rw [e_h1]; exact gm_at f_n_2 (by omega)
  have f_n_2_h2 : h2 (n + 2) = some ((a2, Sum.inl (cF, 4096, Sum.inr (Sum.inr (Sum.inr (Sum.inr g2))))) : Nat × va_E) := by rw [e_h2]; exact gm_at f_n_2_h1 (by omega)
  have f_n_3_h1 : h1 (n + 3) = some ((a3, Sum.inl (cZ, 4096, Sum.inl f)) : Nat × va_E) := by rw [e_h1]; exact gm_at f_n_3 (by omega)
  have f_n_3_h2 : h2 (n + 3) = some ((a3, Sum.inl (cZ, 4096, Sum.inl f)) : Nat × va_E) := by rw [e_h2]; exact gm_at f_n_3_h1 (by omega)
  have f_n_3_n : h2 (n + 3) = some ((a3, Sum.inl (cZ, 4096, Sum.inl (gv_cp 0 (fun _ => 0) f))) : Nat × va_E) := by rw [gv_cp_0]; exact f_n_3_h2
  refine gz_loop (N := 4096) (pc := 12) (fun _ => 0) (fun _ => 0) (fun k h9 ls => gm_g h h9 [n, n + 1, n + 2, n + 3] ∧ h9 n = some ((a, Sum.inr (4, [Value.ref a1, Value.ref a2, Value.ref a3, e0, Value.int 0, Value.int 0])) : Nat × va_E) ∧ h9 (n + 1) = some ((a1, Sum.inl (cF, 4096, Sum.inr (Sum.inr (Sum.inr (Sum.inr g1))))) : Nat × va_E) ∧ h9 (n + 2) = some ((a2, Sum.inl (cF, 4096, Sum.inr (Sum.inr (Sum.inr (Sum.inr g2))))) : Nat × va_E) ∧ h9 (n + 3) = some ((a3, Sum.inl (cZ, 4096, Sum.inl (gv_cp k (fun _ => 0) f))) : Nat × va_E) ∧ lv_has ls 2 [(1, Value.int (nI k)), (0, Value.ref a)]) (fun k w3 H locs ls hk hI Z ih => ?_) (fun w3 H locs ls hI Z => ?_) (4096) 0 _ _ _ _ (Nat.zero_add _) ⟨hU, f_n_h2, f_n_1_h2, f_n_2_h2, f_n_3_n, lv_sub hl [0, 1] rfl⟩ Z
  · obtain ⟨hU, f_n_w3, f_n_1_w3, f_n_2_w3, f_n_3_w3, hl⟩ := hI
    have e_w3 := hU
    refine lv_iload_n hx hb d_Vi_becomeEmpty_12 rfl (lv_at hl 0 rfl) ?_
    refine lv_sipush (v := 4096) hx hb d_Vi_becomeEmpty_13 (by decide) ?_
    refine lv_icmp_ge (tgt := 32) hx hb d_Vi_becomeEmpty_16 (by decide) (fun c9 => absurd c9 (show ¬ nI 4096 ≤ nI k from nI_ge hk (by decide))) (fun _ => ?_)
    refine lv_aload_n hx hb d_Vi_becomeEmpty_19 rfl (lv_at hl 1 rfl) ?_
    refine gz_get (ci := 4) (v := Value.ref a3) (C := "CommitLedger$View") (T := F_Vi) (N := 6) hx hb hts i_Vi hown hK Z f_n_w3 rfl 2 (by decide) kf_Vi_20 rfl d_Vi_becomeEmpty_20 ?_
    refine lv_iload_n hx hb d_Vi_becomeEmpty_23 rfl (lv_at hl 0 rfl) ?_
    refine lv_iconst (v := 0) hx hb d_Vi_becomeEmpty_24 (by decide) ?_
    refine gz_zast (j := k) hx hb hK Z 1 f_n_3_w3 ht1 (hk) (rfl) (by decide) d_Vi_becomeEmpty_25 (fun H locs Z => ?_)
    obtain ⟨h5, e_h5⟩ : ∃ z9 : gm_M, z9 = gm_up w3 (n + 3) ((a3, Sum.inl (cZ, 4096, Sum.inl (upd (gv_cp k (fun _ => 0) f) k 0))) : Nat × va_E) := ⟨_, rfl⟩
    replace Z : gz D A s.heap h5 H locs := by rw [e_h5]; exact Z
    have f_n_3_h5 : h5 (n + 3) = some ((a3, Sum.inl (cZ, 4096, Sum.inl (upd (gv_cp k (fun _ => 0) f) k 0))) : Nat × va_E) := by rw [e_h5]; exact gm_self
    replace hU : gm_g h h5 [n, n + 1, n + 2, n + 3] := by rw [e_h5]; exact hU.put (by simp)
    refine lv_iinc (v := nI (k + 1)) (lv' := [(1, Value.int (nI (k + 1))), (0, Value.ref a)]) hx hb d_Vi_becomeEmpty_26 hl (k := 0) rfl (show nI k + 1 = nI (k + 1) from nI_1 _) (by decide) rfl (fun ls hl => ?_)
    refine lv_goto (tgt := 12) hx hb d_Vi_becomeEmpty_29 (by decide) ?_
    have f_n_h5 : h5 n = some ((a, Sum.inr (4, [Value.ref a1, Value.ref a2, Value.ref a3, e0, Value.int 0, Value.int 0])) : Nat × va_E) := by rw [e_h5]; exact gm_at f_n_w3 (by omega)
    have f_n_1_h5 : h5 (n + 1) = some ((a1, Sum.inl (cF, 4096, Sum.inr (Sum.inr (Sum.inr (Sum.inr g1))))) : Nat × va_E) := by rw [e_h5]; exact gm_at f_n_1_w3 (by omega)
    have f_n_2_h5 : h5 (n + 2) = some ((a2, Sum.inl (cF, 4096, Sum.inr (Sum.inr (Sum.inr (Sum.inr g2))))) : Nat × va_E) := by rw [e_h5]; exact gm_at f_n_2_w3 (by omega)
    have f_n_3_n : h5 (n + 3) = some ((a3, Sum.inl (cZ, 4096, Sum.inl (gv_cp (k + 1) (fun _ => 0) f))) : Nat × va_E) := by rw [← gv_cp_su]; exact f_n_3_h5
    exact ih _ _ _ _ ⟨hU, f_n_h5, f_n_1_h5, f_n_2_h5, f_n_3_n, lv_sub hl [0, 1] rfl⟩ Z
  · obtain ⟨hU, f_n_w3, f_n_1_w3, f_n_2_w3, f_n_3_w3, hl⟩ := hI
    have e_w3 := hU
    refine lv_iload_n hx hb d_Vi_becomeEmpty_12 rfl (lv_at hl 0 rfl) ?_
    refine lv_sipush (v := 4096) hx hb d_Vi_becomeEmpty_13 (by decide) ?_
    refine lv_icmp_ge (tgt := 32) hx hb d_Vi_becomeEmpty_16 (by decide) (fun _ => ?_) (fun c9 => absurd (by decide) c9)
    exact gz_vret hx hb hr hlocks hK Z (by decide) (by decide) (by rw [← hPQ]; exact ⟨rfl, hU, f_n_w3, f_n_1_w3, f_n_2_w3, f_n_3_w3⟩) d_Vi_becomeEmpty_32

set_option maxHeartbeats 4000000 in
set_option maxRecDepth 100000 in
theorem k_Vi_isSameAs (l : Launch) (htr : l.stackTraces = false) (D : va_G) (tys : List (ClassId × FieldType)) (z sz : Nat) (ws : va_W) (h : gm_M) (hM : gm_S h ws) (cZ : ClassId) (cF : ClassId) (n : Nat) (a : Nat) (a1 : Nat) (a2 : Nat) (a3 : Nat) (u : Nat) (e0 : Value) (x5 : Int32) (g1 : Nat → Option Nat) (g2 : Nat → Option Nat) (f : Nat → Int32) (sj : Nat → Nat) (o : Nat) (b : Nat) (b1 : Nat) (b2 : Nat) (b3 : Nat) (u2 : Nat) (e1 : Value) (y5 : Int32) (k1 : Nat → Option Nat) (k2 : Nat → Option Nat) (f2 : Nat → Int32) (tj : Nat → Nat) (P : Nat → Prop) (F : Nat → Nat → Nat) (f_n : h n = some ((a, Sum.inr (4, [Value.ref a1, Value.ref a2, Value.ref a3, e0, Value.int (nI u), Value.int x5])) : Nat × va_E)) (f_n_1 : h (n + 1) = some ((a1, Sum.inl (cF, 4096, Sum.inr (Sum.inr (Sum.inr (Sum.inr g1))))) : Nat × va_E)) (f_n_2 : h (n + 2) = some ((a2, Sum.inl (cF, 4096, Sum.inr (Sum.inr (Sum.inr (Sum.inr g2))))) : Nat × va_E)) (f_n_3 : h (n + 3) = some ((a3, Sum.inl (cZ, 4096, Sum.inl f)) : Nat × va_E)) (f_o : h o = some ((b, Sum.inr (4, [Value.ref b1, Value.ref b2, Value.ref b3, e1, Value.int (nI u2), Value.int y5])) : Nat × va_E)) (f_o_1 : h (o + 1) = some ((b1, Sum.inl (cF, 4096, Sum.inr (Sum.inr (Sum.inr (Sum.inr k1))))) : Nat × va_E)) (f_o_2 : h (o + 2) = some ((b2, Sum.inl (cF, 4096, Sum.inr (Sum.inr (Sum.inr (Sum.inr k2))))) : Nat × va_E)) (f_o_3 : h (o + 3) = some ((b3, Sum.inl (cZ, 4096, Sum.inl f2)) : Nat × va_E)) (ht1 : tys[1]? = some ((cZ, FieldType.boolean) : ClassId × FieldType)) (ht2 : tys[2]? = some ((cF, FieldType.object "CommitLedger$LedgerFile") : ClassId × FieldType)) (fam : gf_F P F h) (hu : u ≤ 4096) (hn : n + 3 < 1000) (hu2 : u2 ≤ 4096) (hsg : ∀ i, i < u → g1 i = some (sj i) ∧ P (sj i)) (htg : ∀ i, i < u → i < u2 → k1 i = some (tj i) ∧ P (tj i)) : gx_Met l y_Vi_isSameAs [Cond.code y_Vi_isSameAs b_Vi_isSameAs 3 (some .boolean)] { frames := 1, cells := 0, slots := 0, locals := 12 } (gx_P z sz D classes tys ws [Value.ref a, Value.ref b]) (gx_Q D classes tys (va_A ws sz) (gm_p (fun r h' => (r = Sum.inl (some (Value.int 0)) ∧ h' = h ∧ (¬ nI u = nI u2)) ∨ (r = Sum.inl (some (Value.int 0)) ∧ h' = h ∧ (¬ x5 = y5)) ∨ (∃ q : Nat, r = Sum.inl (some (Value.int 0)) ∧ h' = h ∧ (q < u) ∧ (¬ some (sj q) = some (tj q))) ∨ (∃ q : Nat, r = Sum.inl (some (Value.int 0)) ∧ h' = h ∧ (q < 4096) ∧ (¬ f q = f2 q)) ∨ (r = Sum.inl (some (Value.int 1)) ∧ h' = h ∧ (nI u = nI u2) ∧ (x5 = y5) ∧ (∀ i, i < u → some (sj i) = some (tj i)) ∧ (∀ i, i < 4096 → f i = f2 i))))) 0 0 (va_A ws sz) := by
  refine gx_ofW (cc := b_Vi_isSameAs) (maxL := 3) (ret := (some .boolean)) (by decide) rfl ?_
  intro p e s m args below meth c s₁ B hml hv
  obtain ⟨rfl, hsz, hz, hP, hK, hD0, hY⟩ := hv
  have hx := B.exec
  have hb := B.bytes
  have hr := B.returns
  have hts := hY.hts (#[Value.ref a, Value.ref b] : Array Value)
  have hown : s.vm.findClass "CommitLedger$View" = some m.cls := findClass_of_methodNamed B.named
  have hlocks := B.notSynchronized
  have hne : c.exceptionTable.isEmpty = true := B.noHandlers (atoms_spec (ws := [Cond.code y_Vi_isSameAs b_Vi_isSameAs 3 (some .boolean)]) B.pre _ List.mem_cons_self)
  subst hsz
  have hAz := gx_az hD0 hz
  have hD := hD0.self (sz := s.heap.size)
  have hN := gx_ns hP
  have hA : ∀ q : Nat, s.heap.size ≤ q → va_A ws s.heap.size q := fun q h => Or.inr h
  generalize va_A ws s.heap.size = A at hD hN hA hAz ⊢
  generalize hPQ : (fun (r : Option Value ⊕ String) (h' : gm_M) => (r = Sum.inl (some (Value.int 0)) ∧ h' = h ∧ (¬ nI u = nI u2)) ∨ (r = Sum.inl (some (Value.int 0)) ∧ h' = h ∧ (¬ x5 = y5)) ∨ (∃ q : Nat, r = Sum.inl (some (Value.int 0)) ∧ h' = h ∧ (q < u) ∧ (¬ some (sj q) = some (tj q))) ∨ (∃ q : Nat, r = Sum.inl (some (Value.int 0)) ∧ h' = h ∧ (q < 4096) ∧ (¬ f q = f2 q)) ∨ (r = Sum.inl (some (Value.int 1)) ∧ h' = h ∧ (nI u = nI u2) ∧ (x5 = y5) ∧ (∀ i, i < u → some (sj i) = some (tj i)) ∧ (∀ i, i < 4096 → f i = f2 i))) = PQ
  have Z : gz D A s.heap h s.heap [] := ⟨ws, hM, hP, hD, va_S.rf⟩
  clear hP hD hM hD0
  have hU : gm_g h h [] := gm_g.rf
  have hl := lv_entry ([Value.ref a, Value.ref b]) (n := 3) (Nat.le_of_ble_eq_true rfl)
  rw [lg_entry_eq]
  generalize (lg_sl ([Value.ref a, Value.ref b]) ++ List.replicate (3 - (lg_sl ([Value.ref a, Value.ref b])).length) Slot.unset).toArray = ls at hl ⊢
  have hl : lv_has ls 3 [(0, Value.ref a), (1, Value.ref b)] := hl
  refine lv_aload_n hx hb d_Vi_isSameAs_0 rfl (lv_at hl 0 rfl) ?_
  refine gz_get (ci := 4) (v := Value.int (nI u)) (C := "CommitLedger$View") (T := F_Vi) (N := 6) hx hb hts i_Vi hown hK Z f_n rfl 4 (by decide) kf_Vi_24 rfl d_Vi_isSameAs_1 ?_
  refine lv_aload_n hx hb d_Vi_isSameAs_4 rfl (lv_at hl 1 rfl) ?_
  refine gz_get (ci := 4) (v := Value.int (nI u2)) (C := "CommitLedger$View") (T := F_Vi) (N := 6) hx hb hts i_Vi hown hK Z f_o rfl 4 (by decide) kf_Vi_24 rfl d_Vi_isSameAs_5 ?_
  refine lv_icmp_ne (tgt := 22) hx hb d_Vi_isSameAs_8 (by decide) (fun c8_1 => ?_) (fun c8_1 => ?_)
  · refine lv_iconst (v := 0) hx hb d_Vi_isSameAs_22 (by decide) ?_
    exact gz_zret (v := 0) hx hb hr hlocks hK Z (by decide) (by decide) (rfl) (by rw [← hPQ]; exact Or.inl ⟨rfl, rfl, c8_1⟩) d_Vi_isSameAs_23
  · refine lv_aload_n hx hb d_Vi_isSameAs_11 rfl (lv_at hl 0 rfl) ?_
    refine gz_get (ci := 4) (v := Value.int x5) (C := "CommitLedger$View") (T := F_Vi) (N := 6) hx hb hts i_Vi hown hK Z f_n rfl 5 (by decide) kf_Vi_28 rfl d_Vi_isSameAs_12 ?_
    refine lv_aload_n hx hb d_Vi_isSameAs_15 rfl (lv_at hl 1 rfl) ?_
    refine gz_get (ci := 4) (v := Value.int y5) (C := "CommitLedger$View") (T := F_Vi) (N := 6) hx hb hts i_Vi hown hK Z f_o rfl 5 (by decide) kf_Vi_28 rfl d_Vi_isSameAs_16 ?_
    refine lv_icmp_eq (tgt := 24) hx hb d_Vi_isSameAs_19 (by decide) (fun c19_2 => ?_) (fun c19_2 => ?_)
    · refine lv_iconst (v := 0) hx hb d_Vi_isSameAs_24 (by decide) ?_
      refine lv_istore_n (lv' := [(2, Value.int 0), (0, Value.ref a), (1, Value.ref b)]) hx hb d_Vi_isSameAs_25 rfl hl (by decide) rfl (fun ls hl => ?_)
      refine gz_loop (N := u) (pc := 26) (fun _ => 0) (fun _ => 0) (fun k h9 ls => h9 = h ∧ (∀ i, i < k → some (sj i) = some (tj i)) ∧ lv_has ls 3 [(2, Value.int (nI k)), (0, Value.ref a), (1, Value.ref b)]) (fun k w3 H locs ls hk hI Z ih => ?_) (fun w3 H locs ls hI Z => ?_) (u) 0 _ _ _ _ (Nat.zero_add _) ⟨rfl, fun i h1 => absurd h1 (Nat.not_lt_zero i), lv_sub hl [0, 1, 2] rfl⟩ Z
      · obtain ⟨hU, hz, hl⟩ := hI
        rw [hU] at Z
        have hU : gm_g h h [] := gm_g.rf
        refine lv_iload_n hx hb d_Vi_isSameAs_26 rfl (lv_at hl 0 rfl) ?_
        refine lv_aload_n hx hb d_Vi_isSameAs_27 rfl (lv_at hl 1 rfl) ?_
        refine gz_get (ci := 4) (v := Value.int (nI u)) (C := "CommitLedger$View") (T := F_Vi) (N := 6) hx hb hts i_Vi hown hK Z f_n rfl 4 (by decide) kf_Vi_24 rfl d_Vi_isSameAs_28 ?_
        refine lv_icmp_ge (tgt := 57) hx hb d_Vi_isSameAs_31 (by decide) (fun c9 => absurd c9 (nI_ge hk (by omega))) (fun _ => ?_)
        refine lv_aload_n hx hb d_Vi_isSameAs_34 rfl (lv_at hl 1 rfl) ?_
        refine gz_get (ci := 4) (v := Value.ref a1) (C := "CommitLedger$View") (T := F_Vi) (N := 6) hx hb hts i_Vi hown hK Z f_n rfl 0 (by decide) kf_Vi_11 rfl d_Vi_isSameAs_35 ?_
        refine lv_iload_n hx hb d_Vi_isSameAs_38 rfl (lv_at hl 0 rfl) ?_
        refine gz_aald (v := Value.ref (sj k)) (j := k) hx hb hK Z 2 f_n_1 ht2 (by omega) (rfl) (by decide) (by rw [(hsg k (hk)).1]; rfl) d_Vi_isSameAs_39 ?_
        refine lv_aload_n hx hb d_Vi_isSameAs_40 rfl (lv_at hl 2 rfl) ?_
        refine gz_get (ci := 4) (v := Value.ref b1) (C := "CommitLedger$View") (T := F_Vi) (N := 6) hx hb hts i_Vi hown hK Z f_o rfl 0 (by decide) kf_Vi_11 rfl d_Vi_isSameAs_41 ?_
        refine lv_iload_n hx hb d_Vi_isSameAs_44 rfl (lv_at hl 0 rfl) ?_
        refine gz_aald (v := Value.ref (tj k)) (j := k) hx hb hK Z 2 f_o_1 ht2 (by omega) (rfl) (by decide) (by rw [(htg k hk (by have e9 := (nI_eq (by omega) (by omega)).mp c8_1; omega)).1]; rfl) d_Vi_isSameAs_45 ?_
        refine lv_acmp_eq (rx := some (sj k)) (ry := some (tj k)) (tgt := 51) hx hb d_Vi_isSameAs_46 (by decide) (fun c46_5 => ?_) (fun c46_5 => ?_)
        · refine lv_iinc (v := nI (k + 1)) (lv' := [(2, Value.int (nI (k + 1))), (0, Value.ref a), (1, Value.ref b)]) hx hb d_Vi_isSameAs_51 hl (k := 0) rfl (show nI k + 1 = nI (k + 1) from nI_1 _) (by decide) rfl (fun ls hl => ?_)
          refine lv_goto (tgt := 26) hx hb d_Vi_isSameAs_54 (by decide) ?_
          exact ih _ _ _ _ ⟨rfl, gv_more0 hz c46_5, lv_sub hl [0, 1, 2] rfl⟩ Z
        · refine lv_iconst (v := 0) hx hb d_Vi_isSameAs_49 (by decide) ?_
          exact gz_zret (v := 0) hx hb hr hlocks hK Z (by decide) (by decide) (rfl) (by rw [← hPQ]; exact Or.inr (Or.inr (Or.inl ⟨k, rfl, rfl, hk, c46_5⟩))) d_Vi_isSameAs_50
      · obtain ⟨hU, hz, hl⟩ := hI
        rw [hU] at Z
        have hU : gm_g h h [] := gm_g.rf
        refine lv_iload_n hx hb d_Vi_isSameAs_26 rfl (lv_at hl 0 rfl) ?_
        refine lv_aload_n hx hb d_Vi_isSameAs_27 rfl (lv_at hl 1 rfl) ?_
        refine gz_get (ci := 4) (v := Value.int (nI u)) (C := "CommitLedger$View") (T := F_Vi) (N := 6) hx hb hts i_Vi hown hK Z f_n rfl 4 (by decide) kf_Vi_24 rfl d_Vi_isSameAs_28 ?_
        refine lv_icmp_ge (tgt := 57) hx hb d_Vi_isSameAs_31 (by decide) (fun _ => ?_) (fun c9 => absurd (nI_le (Nat.le_refl _) (by omega)) c9)
        refine lv_iconst (v := 0) hx hb d_Vi_isSameAs_57 (by decide) ?_
        refine lv_istore_n (lv' := [(2, Value.int 0), (0, Value.ref a), (1, Value.ref b)]) hx hb d_Vi_isSameAs_58 rfl hl (by decide) rfl (fun ls hl => ?_)
        refine gz_loop (N := 4096) (pc := 59) (fun _ => 0) (fun _ => 0) (fun k h9 ls => h9 = h ∧ (∀ i, i < k → f i = f2 i) ∧ lv_has ls 3 [(2, Value.int (nI k)), (0, Value.ref a), (1, Value.ref b)]) (fun k w7 H locs ls hk hI Z ih => ?_) (fun w7 H locs ls hI Z => ?_) (4096) 0 _ _ _ _ (Nat.zero_add _) ⟨rfl, fun i h1 => absurd h1 (Nat.not_lt_zero i), lv_sub hl [0, 1, 2] rfl⟩ Z
        · obtain ⟨hU, hz2, hl⟩ := hI
          rw [hU] at Z
          have hU : gm_g h h [] := gm_g.rf
          refine lv_iload_n hx hb d_Vi_isSameAs_59 rfl (lv_at hl 0 rfl) ?_
          refine lv_sipush (v := 4096) hx hb d_Vi_isSameAs_60 (by decide) ?_
          refine lv_icmp_ge (tgt := 89) hx hb d_Vi_isSameAs_63 (by decide) (fun c9 => absurd c9 (show ¬ nI 4096 ≤ nI k from nI_ge hk (by decide))) (fun _ => ?_)
          refine lv_aload_n hx hb d_Vi_isSameAs_66 rfl (lv_at hl 1 rfl) ?_
          refine gz_get (ci := 4) (v := Value.ref a3) (C := "CommitLedger$View") (T := F_Vi) (N := 6) hx hb hts i_Vi hown hK Z f_n rfl 2 (by decide) kf_Vi_20 rfl d_Vi_isSameAs_67 ?_
          refine lv_iload_n hx hb d_Vi_isSameAs_70 rfl (lv_at hl 0 rfl) ?_
          refine gz_zald (j := k) hx hb hK Z 1 f_n_3 ht1 (hk) (rfl) (by decide) d_Vi_isSameAs_71 ?_
          refine lv_aload_n hx hb d_Vi_isSameAs_72 rfl (lv_at hl 2 rfl) ?_
          refine gz_get (ci := 4) (v := Value.ref b3) (C := "CommitLedger$View") (T := F_Vi) (N := 6) hx hb hts i_Vi hown hK Z f_o rfl 2 (by decide) kf_Vi_20 rfl d_Vi_isSameAs_73 ?_
          refine lv_iload_n hx hb d_Vi_isSameAs_76 rfl (lv_at hl 0 rfl) ?_
          refine gz_zald (j := k) hx hb hK Z 1 f_o_3 ht1 (hk) (rfl) (by decide) d_Vi_isSameAs_77 ?_
          refine lv_icmp_eq (tgt := 83) hx hb d_Vi_isSameAs_78 (by decide) (fun c78_9 => ?_) (fun c78_9 => ?_)
          · refine lv_iinc (v := nI (k + 1)) (lv' := [(2, Value.int (nI (k + 1))), (0, Value.ref a), (1, Value.ref b)]) hx hb d_Vi_isSameAs_83 hl (k := 0) rfl (show nI k + 1 = nI (k + 1) from nI_1 _) (by decide) rfl (fun ls hl => ?_)
            refine lv_goto (tgt := 59) hx hb d_Vi_isSameAs_86 (by decide) ?_
            exact ih _ _ _ _ ⟨rfl, gv_more0 hz2 c78_9, lv_sub hl [0, 1, 2] rfl⟩ Z
          · refine lv_iconst (v := 0) hx hb d_Vi_isSameAs_81 (by decide) ?_
            exact gz_zret (v := 0) hx hb hr hlocks hK Z (by decide) (by decide) (rfl) (by rw [← hPQ]; exact Or.inr (Or.inr (Or.inr (Or.inl ⟨k, rfl, rfl, hk, c78_9⟩)))) d_Vi_isSameAs_82
        · obtain ⟨hU, hz2, hl⟩ := hI
          rw [hU] at Z
          have hU : gm_g h h [] := gm_g.rf
          refine lv_iload_n hx hb d_Vi_isSameAs_59 rfl (lv_at hl 0 rfl) ?_
          refine lv_sipush (v := 4096) hx hb d_Vi_isSameAs_60 (by decide) ?_
          refine lv_icmp_ge (tgt := 89) hx hb d_Vi_isSameAs_63 (by decide) (fun _ => ?_) (fun c9 => absurd (by decide) c9)
          refine lv_iconst (v := 1) hx hb d_Vi_isSameAs_89 (by decide) ?_
          exact gz_zret (v := 1) hx hb hr hlocks hK Z (by decide) (by decide) (rfl) (by rw [← hPQ]; exact Or.inr (Or.inr (Or.inr (Or.inr (⟨rfl, rfl, c8_1, c19_2, hz, hz2⟩))))) d_Vi_isSameAs_90
    · refine lv_iconst (v := 0) hx hb d_Vi_isSameAs_22 (by decide) ?_
      exact gz_zret (v := 0) hx hb hr hlocks hK Z (by decide) (by decide) (rfl) (by rw [← hPQ]; exact Or.inr (Or.inl ⟨rfl, rfl, c19_2⟩)) d_Vi_isSameAs_23
