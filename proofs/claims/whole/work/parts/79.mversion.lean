/-! THE REFERENCE'S Version over maps; rows printed by own text programs, but for the first -/
/-- an array of numbers -/
def gi (X : Nat → Nat) : Nat → Int32 := fun i => nI (X i)
theorem gi_upc {X : Nat → Nat} {j t : Nat} {c : Int32} (h : c = nI t) : upd (gi X) j c = gi (va_up X j t) := by
  funext i
  by_cases e : i = j
  · rw [e, pk_us, h]
    show nI t = nI (va_up X j t j)
    rw [va_up_self]
  · rw [pk_un e]
    show nI (X i) = nI (va_up X j t i)
    rw [va_up_ne _ _ e]
theorem gv_cp_in {α : Type} {k i : Nat} {f g : Nat → α} (h : i < k) : gv_cp k f g i = f i := if_pos h
set_option maxHeartbeats 4000000 in
set_option maxRecDepth 100000 in
theorem k_Ve_docs (l : Launch) (htr : l.stackTraces = false) (D : va_G) (tys : List (ClassId × FieldType)) (z sz : Nat) (ws : va_W) (h : gm_M) (hM : gm_S h ws) (cI : ClassId) (cZ : ClassId) (n : Nat) (a : Nat) (a1 : Nat) (a2 : Nat) (a3 : Nat) (a4 : Nat) (a5 : Nat) (a6 : Nat) (a7 : Nat) (fl : Nat → Int32) (li : Nat → Int32) (mg : Nat → Int32) (lv : Nat → Int32) (lt : Nat → Int32) (fr : Nat → Nat) (dc : Nat → Nat) (sg : Nat) (se : Int32) (ow : Int32) (nu : Int32) (f_n : h n = some ((a, Sum.inr (9, [Value.ref a1, Value.ref a2, Value.ref a3, Value.ref a4, Value.ref a5, Value.ref a6, Value.ref a7, Value.int (nI sg), Value.int se, Value.int ow, Value.int nu])) : Nat × va_E)) (f_n_1 : h (n + 1) = some ((a1, Sum.inl (cI, 4097, Sum.inl fl)) : Nat × va_E)) (f_n_2 : h (n + 2) = some ((a2, Sum.inl (cI, 4097, Sum.inl li)) : Nat × va_E)) (f_n_3 : h (n + 3) = some ((a3, Sum.inl (cI, 4098, Sum.inl (gi fr))) : Nat × va_E)) (f_n_4 : h (n + 4) = some ((a4, Sum.inl (cI, 4097, Sum.inl mg)) : Nat × va_E)) (f_n_5 : h (n + 5) = some ((a5, Sum.inl (cI, 4096, Sum.inl (gi dc))) : Nat × va_E)) (f_n_6 : h (n + 6) = some ((a6, Sum.inl (cZ, 4096, Sum.inl lv)) : Nat × va_E)) (f_n_7 : h (n + 7) = some ((a7, Sum.inl (cZ, 4096, Sum.inl lt)) : Nat × va_E)) (ht0 : tys[0]? = some ((cI, FieldType.int) : ClassId × FieldType)) (ht1 : tys[1]? = some ((cZ, FieldType.boolean) : ClassId × FieldType)) (hsg : sg ≤ 4096) : gx_Met l y_Ve_docs [Cond.code y_Ve_docs b_Ve_docs 1 (some .int)] { frames := 1, cells := 0, slots := 0, locals := 12 } (gx_P z sz D classes tys ws [Value.ref a]) (gx_Q D classes tys (va_A ws sz) (gm_p (fun r h' => (r = Sum.inl (some (Value.int (nI (fr sg)))) ∧ h' = h)))) 0 0 (va_A ws sz) := by
  refine gx_ofW (cc := b_Ve_docs) (maxL := 1) (ret := (some .int)) (by decide) rfl ?_
  intro p e s m args below meth c s₁ B hml hv
  obtain ⟨rfl, hsz, hz, hP, hK, hD0, hY⟩ := hv
  have hx := B.exec
  have hb := B.bytes
  have hr := B.returns
  have hts := hY.hts (#[Value.ref a] : Array Value)
  have hown : s.vm.findClass "CommitLedgerModel$Version" = some m.cls := findClass_of_methodNamed B.named
  have hlocks := B.notSynchronized
  have hne : c.exceptionTable.isEmpty = true := B.noHandlers (atoms_spec (ws := [Cond.code y_Ve_docs b_Ve_docs 1 (some .int)]) B.pre _ List.mem_cons_self)
  subst hsz
  have hAz := gx_az hD0 hz
  have hD := hD0.self (sz := s.heap.size)
  have hN := gx_ns hP
  have hA : ∀ q : Nat, s.heap.size ≤ q → va_A ws s.heap.size q := fun q h => Or.inr h
  generalize va_A ws s.heap.size = A at hD hN hA hAz ⊢
  generalize hPQ : (fun (r : Option Value ⊕ String) (h' : gm_M) => (r = Sum.inl (some (Value.int (nI (fr sg)))) ∧ h' = h)) = PQ
  have Z : gz D A s.heap h s.heap [] := ⟨ws, hM, hP, hD, va_S.rf⟩
  clear hP hD hM hD0
  have hU : gm_g h h [] := gm_g.rf
  have hl := lv_entry ([Value.ref a]) (n := 1) (Nat.le_of_ble_eq_true rfl)
  rw [lg_entry_eq]
  generalize (lg_sl ([Value.ref a]) ++ List.replicate (1 - (lg_sl ([Value.ref a])).length) Slot.unset).toArray = ls at hl ⊢
  have hl : lv_has ls 1 [(0, Value.ref a)] := hl
  refine lv_aload_n hx hb d_Ve_docs_0 rfl (lv_at hl 0 rfl) ?_
  refine gz_get (ci := 9) (v := Value.ref a3) (C := "CommitLedgerModel$Version") (T := F_Ve) (N := 11) hx hb hts i_Ve hown hK Z f_n rfl 2 (by decide) kf_Ve_18 rfl d_Ve_docs_1 ?_
  refine lv_aload_n hx hb d_Ve_docs_4 rfl (lv_at hl 0 rfl) ?_
  refine gz_get (ci := 9) (v := Value.int (nI sg)) (C := "CommitLedgerModel$Version") (T := F_Ve) (N := 11) hx hb hts i_Ve hown hK Z f_n rfl 7 (by decide) kf_Ve_34 rfl d_Ve_docs_5 ?_
  refine gz_iald (j := sg) hx hb hK Z 0 f_n_3 ht0 (by omega) (rfl) (by decide) d_Ve_docs_8 ?_
  refine gx_topi (y := nI (fr sg)) rfl ?_
  exact gz_iret (v := nI (fr sg)) hx hb hr hlocks hK Z (by decide) (by decide) (by rw [← hPQ]; exact ⟨rfl, rfl⟩) d_Ve_docs_9

set_option maxHeartbeats 4000000 in
set_option maxRecDepth 100000 in
theorem k_Ve_liveIn (l : Launch) (htr : l.stackTraces = false) (D : va_G) (tys : List (ClassId × FieldType)) (z sz : Nat) (ws : va_W) (h : gm_M) (hM : gm_S h ws) (cI : ClassId) (cZ : ClassId) (n : Nat) (a : Nat) (a1 : Nat) (a2 : Nat) (a3 : Nat) (a4 : Nat) (a5 : Nat) (a6 : Nat) (a7 : Nat) (fl : Nat → Int32) (li : Nat → Int32) (mg : Nat → Int32) (lv : Nat → Int32) (lt : Nat → Int32) (fr : Nat → Nat) (dc : Nat → Nat) (sg : Nat) (se : Int32) (ow : Int32) (nu : Int32) (s0 : Nat) (f_n : h n = some ((a, Sum.inr (9, [Value.ref a1, Value.ref a2, Value.ref a3, Value.ref a4, Value.ref a5, Value.ref a6, Value.ref a7, Value.int (nI sg), Value.int se, Value.int ow, Value.int nu])) : Nat × va_E)) (f_n_1 : h (n + 1) = some ((a1, Sum.inl (cI, 4097, Sum.inl fl)) : Nat × va_E)) (f_n_2 : h (n + 2) = some ((a2, Sum.inl (cI, 4097, Sum.inl li)) : Nat × va_E)) (f_n_3 : h (n + 3) = some ((a3, Sum.inl (cI, 4098, Sum.inl (gi fr))) : Nat × va_E)) (f_n_4 : h (n + 4) = some ((a4, Sum.inl (cI, 4097, Sum.inl mg)) : Nat × va_E)) (f_n_5 : h (n + 5) = some ((a5, Sum.inl (cI, 4096, Sum.inl (gi dc))) : Nat × va_E)) (f_n_6 : h (n + 6) = some ((a6, Sum.inl (cZ, 4096, Sum.inl lv)) : Nat × va_E)) (f_n_7 : h (n + 7) = some ((a7, Sum.inl (cZ, 4096, Sum.inl lt)) : Nat × va_E)) (ht0 : tys[0]? = some ((cI, FieldType.int) : ClassId × FieldType)) (ht1 : tys[1]? = some ((cZ, FieldType.boolean) : ClassId × FieldType)) (hsg : sg ≤ 4096) (hs0 : s0 < sg) (hf0 : fr s0 ≤ fr (s0 + 1)) (hf1 : fr (s0 + 1) ≤ 4096) : gx_Met l y_Ve_liveIn [Cond.code y_Ve_liveIn b_Ve_liveIn 4 (some .int)] { frames := 1, cells := 0, slots := 0, locals := 12 } (gx_P z sz D classes tys ws [Value.ref a, Value.int (nI s0)]) (gx_Q D classes tys (va_A ws sz) (gm_p (fun r h' => (r = Sum.inl (some (Value.int (nI (gv_n lv (fr s0) (fr (s0 + 1) - fr s0))))) ∧ h' = h)))) 0 0 (va_A ws sz) := by
  refine gx_ofW (cc := b_Ve_liveIn) (maxL := 4) (ret := (some .int)) (by decide) rfl ?_
  intro p e s m args below meth c s₁ B hml hv
  obtain ⟨rfl, hsz, hz, hP, hK, hD0, hY⟩ := hv
  have hx := B.exec
  have hb := B.bytes
  have hr := B.returns
  have hts := hY.hts (#[Value.ref a, Value.int (nI s0)] : Array Value)
  have hown : s.vm.findClass "CommitLedgerModel$Version" = some m.cls := findClass_of_methodNamed B.named
  have hlocks := B.notSynchronized
  have hne : c.exceptionTable.isEmpty = true := B.noHandlers (atoms_spec (ws := [Cond.code y_Ve_liveIn b_Ve_liveIn 4 (some .int)]) B.pre _ List.mem_cons_self)
  subst hsz
  have hAz := gx_az hD0 hz
  have hD := hD0.self (sz := s.heap.size)
  have hN := gx_ns hP
  have hA : ∀ q : Nat, s.heap.size ≤ q → va_A ws s.heap.size q := fun q h => Or.inr h
  generalize va_A ws s.heap.size = A at hD hN hA hAz ⊢
  generalize hPQ : (fun (r : Option Value ⊕ String) (h' : gm_M) => (r = Sum.inl (some (Value.int (nI (gv_n lv (fr s0) (fr (s0 + 1) - fr s0))))) ∧ h' = h)) = PQ
  have Z : gz D A s.heap h s.heap [] := ⟨ws, hM, hP, hD, va_S.rf⟩
  clear hP hD hM hD0
  have hU : gm_g h h [] := gm_g.rf
  have hl := lv_entry ([Value.ref a, Value.int (nI s0)]) (n := 4) (Nat.le_of_ble_eq_true rfl)
  rw [lg_entry_eq]
  generalize (lg_sl ([Value.ref a, Value.int (nI s0)]) ++ List.replicate (4 - (lg_sl ([Value.ref a, Value.int (nI s0)])).length) Slot.unset).toArray = ls at hl ⊢
  have hl : lv_has ls 4 [(0, Value.ref a), (1, Value.int (nI s0))] := hl
  refine lv_iconst (v := 0) hx hb d_Ve_liveIn_0 (by decide) ?_
  refine lv_istore_n (lv' := [(2, Value.int 0), (0, Value.ref a), (1, Value.int (nI s0))]) hx hb d_Ve_liveIn_1 rfl hl (by decide) rfl (fun ls hl => ?_)
  refine lv_aload_n hx hb d_Ve_liveIn_2 rfl (lv_at hl 1 rfl) ?_
  refine gz_get (ci := 9) (v := Value.ref a3) (C := "CommitLedgerModel$Version") (T := F_Ve) (N := 11) hx hb hts i_Ve hown hK Z f_n rfl 2 (by decide) kf_Ve_18 rfl d_Ve_liveIn_3 ?_
  refine lv_iload_n hx hb d_Ve_liveIn_6 rfl (lv_at hl 2 rfl) ?_
  refine gz_iald (j := s0) hx hb hK Z 0 f_n_3 ht0 (by omega) (rfl) (by decide) d_Ve_liveIn_7 ?_
  refine gx_topi (y := nI (fr s0)) rfl ?_
  refine lv_istore_n (lv' := [(3, Value.int (nI (fr s0))), (2, Value.int 0), (0, Value.ref a), (1, Value.int (nI s0))]) hx hb d_Ve_liveIn_8 rfl hl (by decide) rfl (fun ls hl => ?_)
  have hl : lv_has ls 4 [(3, Value.int (nI (fr s0 + 0))), (2, Value.int (nI (gv_n lv (fr s0) 0))), (0, Value.ref a), (1, Value.int (nI s0))] := hl
  refine gz_loop (N := (fr (s0 + 1) - fr s0)) (pc := 9) (fun _ => 0) (fun _ => 0) (fun k h9 ls => h9 = h ∧ lv_has ls 4 [(3, Value.int (nI (fr s0 + k))), (2, Value.int (nI (gv_n lv (fr s0) k))), (0, Value.ref a), (1, Value.int (nI s0))]) (fun k w1 H locs ls hk hI Z ihk => ?_) (fun w1 H locs ls hI Z => ?_) ((fr (s0 + 1) - fr s0)) 0 _ _ _ _ (Nat.zero_add _) ⟨rfl, lv_sub hl [0, 1, 2, 3] rfl⟩ Z
  · obtain ⟨hU, hl⟩ := hI
    rw [hU] at Z
    have hU : gm_g h h [] := gm_g.rf
    refine lv_iload_n hx hb d_Ve_liveIn_9 rfl (lv_at hl 0 rfl) ?_
    refine lv_aload_n hx hb d_Ve_liveIn_10 rfl (lv_at hl 2 rfl) ?_
    refine gz_get (ci := 9) (v := Value.ref a3) (C := "CommitLedgerModel$Version") (T := F_Ve) (N := 11) hx hb hts i_Ve hown hK Z f_n rfl 2 (by decide) kf_Ve_18 rfl d_Ve_liveIn_11 ?_
    refine lv_iload_n hx hb d_Ve_liveIn_14 rfl (lv_at hl 3 rfl) ?_
    refine lv_iconst (v := 1) hx hb d_Ve_liveIn_15 (by decide) ?_
    refine lv_iadd hx hb d_Ve_liveIn_16 ?_
    refine gx_topi (y := nI (s0 + 1)) (nI_1 _) ?_
    refine gz_iald (j := s0 + 1) hx hb hK Z 0 f_n_3 ht0 (by omega) (rfl) (by decide) d_Ve_liveIn_17 ?_
    refine gx_topi (y := nI (fr (s0 + 1))) rfl ?_
    refine lv_icmp_ge (tgt := 39) hx hb d_Ve_liveIn_18 (by decide) (fun c9 => absurd c9 (nI_ge (by omega) (by omega))) (fun _ => ?_)
    refine lv_aload_n hx hb d_Ve_liveIn_21 rfl (lv_at hl 2 rfl) ?_
    refine gz_get (ci := 9) (v := Value.ref a6) (C := "CommitLedgerModel$Version") (T := F_Ve) (N := 11) hx hb hts i_Ve hown hK Z f_n rfl 5 (by decide) kf_Ve_27 rfl d_Ve_liveIn_22 ?_
    refine lv_iload_n hx hb d_Ve_liveIn_25 rfl (lv_at hl 0 rfl) ?_
    refine gz_zald (j := fr s0 + k) hx hb hK Z 1 f_n_6 ht1 ((by omega)) (rfl) (by decide) d_Ve_liveIn_26 ?_
    refine lv_if_eq (tgt := 33) hx hb d_Ve_liveIn_27 (by decide) (fun c27_3 => ?_) (fun c27_3 => ?_)
    · refine lv_iinc (v := nI ((fr s0 + k) + 1)) (lv' := [(3, Value.int (nI ((fr s0 + k) + 1))), (2, Value.int (nI (gv_n lv (fr s0) k))), (0, Value.ref a), (1, Value.int (nI s0))]) hx hb d_Ve_liveIn_33 hl (k := 0) rfl (show nI (fr s0 + k) + 1 = nI ((fr s0 + k) + 1) from nI_1 _) (by decide) rfl (fun ls hl => ?_)
      refine lv_goto (tgt := 9) hx hb d_Ve_liveIn_36 (by decide) ?_
      rw [← gv_n_z c27_3] at hl
      exact ihk _ _ _ _ ⟨rfl, lv_sub hl [0, 1, 2, 3] rfl⟩ Z
    · refine lv_iinc (v := nI ((gv_n lv (fr s0) k) + 1)) (lv' := [(2, Value.int (nI ((gv_n lv (fr s0) k) + 1))), (3, Value.int (nI (fr s0 + k))), (0, Value.ref a), (1, Value.int (nI s0))]) hx hb d_Ve_liveIn_30 hl (k := 1) rfl (show nI (gv_n lv (fr s0) k) + 1 = nI ((gv_n lv (fr s0) k) + 1) from nI_1 _) (by decide) rfl (fun ls hl => ?_)
      refine lv_iinc (v := nI ((fr s0 + k) + 1)) (lv' := [(3, Value.int (nI ((fr s0 + k) + 1))), (2, Value.int (nI ((gv_n lv (fr s0) k) + 1))), (0, Value.ref a), (1, Value.int (nI s0))]) hx hb d_Ve_liveIn_33 hl (k := 1) rfl (show nI (fr s0 + k) + 1 = nI ((fr s0 + k) + 1) from nI_1 _) (by decide) rfl (fun ls hl => ?_)
      refine lv_goto (tgt := 9) hx hb d_Ve_liveIn_36 (by decide) ?_
      rw [← gv_n_o c27_3] at hl
      exact ihk _ _ _ _ ⟨rfl, lv_sub hl [0, 1, 2, 3] rfl⟩ Z
  · obtain ⟨hU, hl⟩ := hI
    rw [hU] at Z
    have hU : gm_g h h [] := gm_g.rf
    refine lv_iload_n hx hb d_Ve_liveIn_9 rfl (lv_at hl 0 rfl) ?_
    refine lv_aload_n hx hb d_Ve_liveIn_10 rfl (lv_at hl 2 rfl) ?_
    refine gz_get (ci := 9) (v := Value.ref a3) (C := "CommitLedgerModel$Version") (T := F_Ve) (N := 11) hx hb hts i_Ve hown hK Z f_n rfl 2 (by decide) kf_Ve_18 rfl d_Ve_liveIn_11 ?_
    refine lv_iload_n hx hb d_Ve_liveIn_14 rfl (lv_at hl 3 rfl) ?_
    refine lv_iconst (v := 1) hx hb d_Ve_liveIn_15 (by decide) ?_
    refine lv_iadd hx hb d_Ve_liveIn_16 ?_
    refine gx_topi (y := nI (s0 + 1)) (nI_1 _) ?_
    refine gz_iald (j := s0 + 1) hx hb hK Z 0 f_n_3 ht0 (by omega) (rfl) (by decide) d_Ve_liveIn_17 ?_
    refine gx_topi (y := nI (fr (s0 + 1))) rfl ?_
    refine lv_icmp_ge (tgt := 39) hx hb d_Ve_liveIn_18 (by decide) (fun _ => ?_) (fun c9 => absurd (nI_le (by omega) (by omega)) c9)
    refine lv_iload_n hx hb d_Ve_liveIn_39 rfl (lv_at hl 1 rfl) ?_
    exact gz_iret (v := nI (gv_n lv (fr s0) (fr (s0 + 1) - fr s0))) hx hb hr hlocks hK Z (by decide) (by decide) (by rw [← hPQ]; exact ⟨rfl, rfl⟩) d_Ve_liveIn_40

set_option maxHeartbeats 4000000 in
set_option maxRecDepth 100000 in
theorem k_Ve_live (l : Launch) (htr : l.stackTraces = false) (D : va_G) (tys : List (ClassId × FieldType)) (z sz : Nat) (ws : va_W) (h : gm_M) (hM : gm_S h ws) (cI : ClassId) (cZ : ClassId) (n : Nat) (a : Nat) (a1 : Nat) (a2 : Nat) (a3 : Nat) (a4 : Nat) (a5 : Nat) (a6 : Nat) (a7 : Nat) (fl : Nat → Int32) (li : Nat → Int32) (mg : Nat → Int32) (lv : Nat → Int32) (lt : Nat → Int32) (fr : Nat → Nat) (dc : Nat → Nat) (sg : Nat) (se : Int32) (ow : Int32) (nu : Int32) (f_n : h n = some ((a, Sum.inr (9, [Value.ref a1, Value.ref a2, Value.ref a3, Value.ref a4, Value.ref a5, Value.ref a6, Value.ref a7, Value.int (nI sg), Value.int se, Value.int ow, Value.int nu])) : Nat × va_E)) (f_n_1 : h (n + 1) = some ((a1, Sum.inl (cI, 4097, Sum.inl fl)) : Nat × va_E)) (f_n_2 : h (n + 2) = some ((a2, Sum.inl (cI, 4097, Sum.inl li)) : Nat × va_E)) (f_n_3 : h (n + 3) = some ((a3, Sum.inl (cI, 4098, Sum.inl (gi fr))) : Nat × va_E)) (f_n_4 : h (n + 4) = some ((a4, Sum.inl (cI, 4097, Sum.inl mg)) : Nat × va_E)) (f_n_5 : h (n + 5) = some ((a5, Sum.inl (cI, 4096, Sum.inl (gi dc))) : Nat × va_E)) (f_n_6 : h (n + 6) = some ((a6, Sum.inl (cZ, 4096, Sum.inl lv)) : Nat × va_E)) (f_n_7 : h (n + 7) = some ((a7, Sum.inl (cZ, 4096, Sum.inl lt)) : Nat × va_E)) (ht0 : tys[0]? = some ((cI, FieldType.int) : ClassId × FieldType)) (ht1 : tys[1]? = some ((cZ, FieldType.boolean) : ClassId × FieldType)) (hsg : sg ≤ 4096) (hd0 : fr sg ≤ 4096) : gx_Met l y_Ve_live [Cond.code y_Ve_live b_Ve_live 3 (some .int)] { frames := 2, cells := 0, slots := 0, locals := 32 } (gx_P z sz D classes tys ws [Value.ref a]) (gx_Q D classes tys (va_A ws sz) (gm_p (fun r h' => (r = Sum.inl (some (Value.int (nI (gv_n lv 0 (fr sg))))) ∧ h' = h)))) 0 0 (va_A ws sz) := by
  refine gx_ofW (cc := b_Ve_live) (maxL := 3) (ret := (some .int)) (by decide) rfl ?_
  intro p e s m args below meth c s₁ B hml hv
  obtain ⟨rfl, hsz, hz, hP, hK, hD0, hY⟩ := hv
  have hx := B.exec
  have hb := B.bytes
  have hr := B.returns
  have hts := hY.hts (#[Value.ref a] : Array Value)
  have hown : s.vm.findClass "CommitLedgerModel$Version" = some m.cls := findClass_of_methodNamed B.named
  have hlocks := B.notSynchronized
  have hne : c.exceptionTable.isEmpty = true := B.noHandlers (atoms_spec (ws := [Cond.code y_Ve_live b_Ve_live 3 (some .int)]) B.pre _ List.mem_cons_self)
  subst hsz
  have hAz := gx_az hD0 hz
  have hD := hD0.self (sz := s.heap.size)
  have hN := gx_ns hP
  have hA : ∀ q : Nat, s.heap.size ≤ q → va_A ws s.heap.size q := fun q h => Or.inr h
  generalize va_A ws s.heap.size = A at hD hN hA hAz ⊢
  generalize hPQ : (fun (r : Option Value ⊕ String) (h' : gm_M) => (r = Sum.inl (some (Value.int (nI (gv_n lv 0 (fr sg))))) ∧ h' = h)) = PQ
  have Z : gz D A s.heap h s.heap [] := ⟨ws, hM, hP, hD, va_S.rf⟩
  clear hP hD hM hD0
  have hU : gm_g h h [] := gm_g.rf
  have hl := lv_entry ([Value.ref a]) (n := 3) (Nat.le_of_ble_eq_true rfl)
  rw [lg_entry_eq]
  generalize (lg_sl ([Value.ref a]) ++ List.replicate (3 - (lg_sl ([Value.ref a])).length) Slot.unset).toArray = ls at hl ⊢
  have hl : lv_has ls 3 [(0, Value.ref a)] := hl
  refine lv_iconst (v := 0) hx hb d_Ve_live_0 (by decide) ?_
  refine lv_istore_n (lv' := [(1, Value.int 0), (0, Value.ref a)]) hx hb d_Ve_live_1 rfl hl (by decide) rfl (fun ls hl => ?_)
  refine lv_iconst (v := 0) hx hb d_Ve_live_2 (by decide) ?_
  refine lv_istore_n (lv' := [(2, Value.int 0), (1, Value.int 0), (0, Value.ref a)]) hx hb d_Ve_live_3 rfl hl (by decide) rfl (fun ls hl => ?_)
  have hl : lv_has ls 3 [(2, Value.int (nI (0 + 0))), (1, Value.int (nI (gv_n lv 0 0))), (0, Value.ref a)] := hl
  refine gz_loop (N := (fr sg)) (pc := 4) (fun _ => 0) (fun _ => 0) (fun k h9 ls => h9 = h ∧ lv_has ls 3 [(2, Value.int (nI (0 + k))), (1, Value.int (nI (gv_n lv 0 k))), (0, Value.ref a)]) (fun k w1 H locs ls hk hI Z ihk => ?_) (fun w1 H locs ls hI Z => ?_) ((fr sg)) 0 _ _ _ _ (Nat.zero_add _) ⟨rfl, lv_sub hl [0, 1, 2] rfl⟩ Z
  · obtain ⟨hU, hl⟩ := hI
    rw [hU] at Z
    have hU : gm_g h h [] := gm_g.rf
    refine lv_iload_n hx hb d_Ve_live_4 rfl (lv_at hl 0 rfl) ?_
    refine lv_aload_n hx hb d_Ve_live_5 rfl (lv_at hl 2 rfl) ?_
    refine gz_call (ig := .invokevirtual 44) (av := [Value.ref a]) Z (fun ws hM => k_Ve_docs l htr D tys z _ ws h hM cI cZ n a a1 a2 a3 a4 a5 a6 a7 fl li mg lv lt fr dc sg se ow nu f_n f_n_1 f_n_2 f_n_3 f_n_4 f_n_5 f_n_6 f_n_7 ht0 ht1 hsg) (gx_invV (As := []) (rest := [Value.int (nI (0 + k))]) hx hb hown hts km_Ve_44 kI_Ve_docs kV_Ve_docs kc_Ve_docs (by decide) (show (parseMethodDescriptor y_Ve_docs.desc).map (fun d => d.parameters.length) = some 0 by decide +kernel) (gz_recv (ci := 9) hK Z rfl f_n) rfl rfl d_Ve_live_6) (gx_cw (z := 0) hts kc_Ve_docs kN_Ve rfl rfl ⟨Nat.le_of_ble_eq_true rfl, Nat.le_of_ble_eq_true rfl⟩) hb hml hz hK hY hAz hA hl.1 (lv_room (Nat.le_of_ble_eq_true rfl)) d_Ve_live_6 ⟨Nat.le_of_ble_eq_true rfl, Nat.le_of_ble_eq_true rfl⟩ (fun v2 h3 H locs hp Z => ?_) (fun x2 E9 ce h3 H locs hp hce Z => ?_)
    · rcases hp with ⟨hv9, e_h3⟩
      cases hv9
      rw [e_h3] at Z
      refine W.eq (g2 := F0 m 9 ls [Value.int (nI (fr sg)), Value.int (nI (0 + k))]) rfl ?_
      refine lv_icmp_ge (tgt := 30) hx hb d_Ve_live_9 (by decide) (fun c9 => absurd c9 (nI_ge (by omega) (by omega))) (fun _ => ?_)
      refine lv_aload_n hx hb d_Ve_live_12 rfl (lv_at hl 2 rfl) ?_
      refine gz_get (ci := 9) (v := Value.ref a6) (C := "CommitLedgerModel$Version") (T := F_Ve) (N := 11) hx hb hts i_Ve hown hK Z f_n rfl 5 (by decide) kf_Ve_27 rfl d_Ve_live_13 ?_
      refine lv_iload_n hx hb d_Ve_live_16 rfl (lv_at hl 0 rfl) ?_
      refine gz_zald (j := 0 + k) hx hb hK Z 1 f_n_6 ht1 ((by omega)) (rfl) (by decide) d_Ve_live_17 ?_
      refine lv_if_eq (tgt := 24) hx hb d_Ve_live_18 (by decide) (fun c18_5 => ?_) (fun c18_5 => ?_)
      · refine lv_iinc (v := nI ((0 + k) + 1)) (lv' := [(2, Value.int (nI ((0 + k) + 1))), (1, Value.int (nI (gv_n lv 0 k))), (0, Value.ref a)]) hx hb d_Ve_live_24 hl (k := 0) rfl (show nI (0 + k) + 1 = nI ((0 + k) + 1) from nI_1 _) (by decide) rfl (fun ls hl => ?_)
        refine lv_goto (tgt := 4) hx hb d_Ve_live_27 (by decide) ?_
        rw [← gv_n_z c18_5] at hl
        exact ihk _ _ _ _ ⟨rfl, lv_sub hl [0, 1, 2] rfl⟩ Z
      · refine lv_iinc (v := nI ((gv_n lv 0 k) + 1)) (lv' := [(1, Value.int (nI ((gv_n lv 0 k) + 1))), (2, Value.int (nI (0 + k))), (0, Value.ref a)]) hx hb d_Ve_live_21 hl (k := 1) rfl (show nI (gv_n lv 0 k) + 1 = nI ((gv_n lv 0 k) + 1) from nI_1 _) (by decide) rfl (fun ls hl => ?_)
        refine lv_iinc (v := nI ((0 + k) + 1)) (lv' := [(2, Value.int (nI ((0 + k) + 1))), (1, Value.int (nI ((gv_n lv 0 k) + 1))), (0, Value.ref a)]) hx hb d_Ve_live_24 hl (k := 1) rfl (show nI (0 + k) + 1 = nI ((0 + k) + 1) from nI_1 _) (by decide) rfl (fun ls hl => ?_)
        refine lv_goto (tgt := 4) hx hb d_Ve_live_27 (by decide) ?_
        rw [← gv_n_o c18_5] at hl
        exact ihk _ _ _ _ ⟨rfl, lv_sub hl [0, 1, 2] rfl⟩ Z
    · rcases hp with ⟨hv9, e_h3⟩
      cases hv9
  · obtain ⟨hU, hl⟩ := hI
    rw [hU] at Z
    have hU : gm_g h h [] := gm_g.rf
    refine lv_iload_n hx hb d_Ve_live_4 rfl (lv_at hl 0 rfl) ?_
    refine lv_aload_n hx hb d_Ve_live_5 rfl (lv_at hl 2 rfl) ?_
    refine gz_call (ig := .invokevirtual 44) (av := [Value.ref a]) Z (fun ws hM => k_Ve_docs l htr D tys z _ ws h hM cI cZ n a a1 a2 a3 a4 a5 a6 a7 fl li mg lv lt fr dc sg se ow nu f_n f_n_1 f_n_2 f_n_3 f_n_4 f_n_5 f_n_6 f_n_7 ht0 ht1 hsg) (gx_invV (As := []) (rest := [Value.int (nI (0 + (fr sg)))]) hx hb hown hts km_Ve_44 kI_Ve_docs kV_Ve_docs kc_Ve_docs (by decide) (show (parseMethodDescriptor y_Ve_docs.desc).map (fun d => d.parameters.length) = some 0 by decide +kernel) (gz_recv (ci := 9) hK Z rfl f_n) rfl rfl d_Ve_live_6) (gx_cw (z := 0) hts kc_Ve_docs kN_Ve rfl rfl ⟨Nat.le_of_ble_eq_true rfl, Nat.le_of_ble_eq_true rfl⟩) hb hml hz hK hY hAz hA hl.1 (lv_room (Nat.le_of_ble_eq_true rfl)) d_Ve_live_6 ⟨Nat.le_of_ble_eq_true rfl, Nat.le_of_ble_eq_true rfl⟩ (fun v6 h7 H locs hp Z => ?_) (fun x6 E9 ce h7 H locs hp hce Z => ?_)
    · rcases hp with ⟨hv9, e_h7⟩
      cases hv9
      rw [e_h7] at Z
      refine W.eq (g2 := F0 m 9 ls [Value.int (nI (fr sg)), Value.int (nI (0 + (fr sg)))]) rfl ?_
      refine lv_icmp_ge (tgt := 30) hx hb d_Ve_live_9 (by decide) (fun _ => ?_) (fun c9 => absurd (nI_le (by omega) (by omega)) c9)
      refine lv_iload_n hx hb d_Ve_live_30 rfl (lv_at hl 1 rfl) ?_
      exact gz_iret (v := nI (gv_n lv 0 (fr sg))) hx hb hr hlocks hK Z (by decide) (by decide) (by rw [← hPQ]; exact ⟨rfl, rfl⟩) d_Ve_live_31
    · rcases hp with ⟨hv9, e_h7⟩
      cases hv9

set_option maxHeartbeats 4000000 in
set_option maxRecDepth 100000 in
theorem k_Ve_copy (l : Launch) (htr : l.stackTraces = false) (D : va_G) (tys : List (ClassId × FieldType)) (z sz : Nat) (ws : va_W) (h : gm_M) (hM : gm_S h ws) (cI : ClassId) (cZ : ClassId) (n : Nat) (a : Nat) (a1 : Nat) (a2 : Nat) (a3 : Nat) (a4 : Nat) (a5 : Nat) (a6 : Nat) (a7 : Nat) (fl : Nat → Int32) (li : Nat → Int32) (mg : Nat → Int32) (lv : Nat → Int32) (lt : Nat → Int32) (fr : Nat → Nat) (dc : Nat → Nat) (sg : Nat) (se : Int32) (ow : Int32) (nu : Int32) (o : Nat) (b : Nat) (b1 : Nat) (b2 : Nat) (b3 : Nat) (b4 : Nat) (b5 : Nat) (b6 : Nat) (b7 : Nat) (fl2 : Nat → Int32) (li2 : Nat → Int32) (mg2 : Nat → Int32) (lv2 : Nat → Int32) (lt2 : Nat → Int32) (fr2 : Nat → Nat) (dc2 : Nat → Nat) (sg2 : Nat) (se2 : Int32) (ow2 : Int32) (nu2 : Int32) (f_n : h n = some ((a, Sum.inr (9, [Value.ref a1, Value.ref a2, Value.ref a3, Value.ref a4, Value.ref a5, Value.ref a6, Value.ref a7, Value.int (nI sg), Value.int se, Value.int ow, Value.int nu])) : Nat × va_E)) (f_n_1 : h (n + 1) = some ((a1, Sum.inl (cI, 4097, Sum.inl fl)) : Nat × va_E)) (f_n_2 : h (n + 2) = some ((a2, Sum.inl (cI, 4097, Sum.inl li)) : Nat × va_E)) (f_n_3 : h (n + 3) = some ((a3, Sum.inl (cI, 4098, Sum.inl (gi fr))) : Nat × va_E)) (f_n_4 : h (n + 4) = some ((a4, Sum.inl (cI, 4097, Sum.inl mg)) : Nat × va_E)) (f_n_5 : h (n + 5) = some ((a5, Sum.inl (cI, 4096, Sum.inl (gi dc))) : Nat × va_E)) (f_n_6 : h (n + 6) = some ((a6, Sum.inl (cZ, 4096, Sum.inl lv)) : Nat × va_E)) (f_n_7 : h (n + 7) = some ((a7, Sum.inl (cZ, 4096, Sum.inl lt)) : Nat × va_E)) (f_o : h o = some ((b, Sum.inr (9, [Value.ref b1, Value.ref b2, Value.ref b3, Value.ref b4, Value.ref b5, Value.ref b6, Value.ref b7, Value.int (nI sg2), Value.int se2, Value.int ow2, Value.int nu2])) : Nat × va_E)) (f_o_1 : h (o + 1) = some ((b1, Sum.inl (cI, 4097, Sum.inl fl2)) : Nat × va_E)) (f_o_2 : h (o + 2) = some ((b2, Sum.inl (cI, 4097, Sum.inl li2)) : Nat × va_E)) (f_o_3 : h (o + 3) = some ((b3, Sum.inl (cI, 4098, Sum.inl (gi fr2))) : Nat × va_E)) (f_o_4 : h (o + 4) = some ((b4, Sum.inl (cI, 4097, Sum.inl mg2)) : Nat × va_E)) (f_o_5 : h (o + 5) = some ((b5, Sum.inl (cI, 4096, Sum.inl (gi dc2))) : Nat × va_E)) (f_o_6 : h (o + 6) = some ((b6, Sum.inl (cZ, 4096, Sum.inl lv2)) : Nat × va_E)) (f_o_7 : h (o + 7) = some ((b7, Sum.inl (cZ, 4096, Sum.inl lt2)) : Nat × va_E)) (ht0 : tys[0]? = some ((cI, FieldType.int) : ClassId × FieldType)) (ht1 : tys[1]? = some ((cZ, FieldType.boolean) : ClassId × FieldType)) (hsg : sg2 ≤ 4096) (hap : n + 7 < o ∨ o + 7 < n) (hd0 : fr2 sg2 ≤ 4096) (hb1 : ∀ i, i < fr2 sg2 → gx_b (lv2 i)) (hb2 : ∀ i, i < fr2 sg2 → gx_b (lt2 i)) : gx_Met l y_Ve_copy [Cond.code y_Ve_copy b_Ve_copy 3 none] { frames := 2, cells := 0, slots := 0, locals := 32 } (gx_P z sz D classes tys ws [Value.ref a, Value.ref b]) (gx_Q D classes tys (va_A ws sz) (gm_p (fun r h' => (r = Sum.inl none ∧ gm_g h h' [n, n + 1, n + 2, n + 3, n + 4, n + 5, n + 6, n + 7] ∧ h' n = some ((a, Sum.inr (9, [Value.ref a1, Value.ref a2, Value.ref a3, Value.ref a4, Value.ref a5, Value.ref a6, Value.ref a7, Value.int (nI sg2), Value.int se2, Value.int ow2, Value.int nu])) : Nat × va_E) ∧ h' (n + 1) = some ((a1, Sum.inl (cI, 4097, Sum.inl (gv_cp sg2 fl2 fl))) : Nat × va_E) ∧ h' (n + 2) = some ((a2, Sum.inl (cI, 4097, Sum.inl (gv_cp sg2 li2 li))) : Nat × va_E) ∧ h' (n + 3) = some ((a3, Sum.inl (cI, 4098, Sum.inl (gi (gv_cp (sg2 + 1) fr2 fr)))) : Nat × va_E) ∧ h' (n + 4) = some ((a4, Sum.inl (cI, 4097, Sum.inl (gv_cp sg2 mg2 mg))) : Nat × va_E) ∧ h' (n + 5) = some ((a5, Sum.inl (cI, 4096, Sum.inl (gi (gv_cp (fr2 sg2) dc2 dc)))) : Nat × va_E) ∧ h' (n + 6) = some ((a6, Sum.inl (cZ, 4096, Sum.inl (gv_cp (fr2 sg2) lv2 lv))) : Nat × va_E) ∧ h' (n + 7) = some ((a7, Sum.inl (cZ, 4096, Sum.inl (gv_cp (fr2 sg2) lt2 lt))) : Nat × va_E))))) 0 0 (va_A ws sz) := by
  refine gx_ofW (cc := b_Ve_copy) (maxL := 3) (ret := none) (by decide) rfl ?_
  intro p e s m args below meth c s₁ B hml hv
  obtain ⟨rfl, hsz, hz, hP, hK, hD0, hY⟩ := hv
  have hx := B.exec
  have hb := B.bytes
  have hr := B.returns
  have hts := hY.hts (#[Value.ref a, Value.ref b] : Array Value)
  have hown : s.vm.findClass "CommitLedgerModel$Version" = some m.cls := findClass_of_methodNamed B.named
  have hlocks := B.notSynchronized
  have hne : c.exceptionTable.isEmpty = true := B.noHandlers (atoms_spec (ws := [Cond.code y_Ve_copy b_Ve_copy 3 none]) B.pre _ List.mem_cons_self)
  subst hsz
  have hAz := gx_az hD0 hz
  have hD := hD0.self (sz := s.heap.size)
  have hN := gx_ns hP
  have hA : ∀ q : Nat, s.heap.size ≤ q → va_A ws s.heap.size q := fun q h => Or.inr h
  generalize va_A ws s.heap.size = A at hD hN hA hAz ⊢
  generalize hPQ : (fun (r : Option Value ⊕ String) (h' : gm_M) => (r = Sum.inl none ∧ gm_g h h' [n, n + 1, n + 2, n + 3, n + 4, n + 5, n + 6, n + 7] ∧ h' n = some ((a, Sum.inr (9, [Value.ref a1, Value.ref a2, Value.ref a3, Value.ref a4, Value.ref a5, Value.ref a6, Value.ref a7, Value.int (nI sg2), Value.int se2, Value.int ow2, Value.int nu])) : Nat × va_E) ∧ h' (n + 1) = some ((a1, Sum.inl (cI, 4097, Sum.inl (gv_cp sg2 fl2 fl))) : Nat × va_E) ∧ h' (n + 2) = some ((a2, Sum.inl (cI, 4097, Sum.inl (gv_cp sg2 li2 li))) : Nat × va_E) ∧ h' (n + 3) = some ((a3, Sum.inl (cI, 4098, Sum.inl (gi (gv_cp (sg2 + 1) fr2 fr)))) : Nat × va_E) ∧ h' (n + 4) = some ((a4, Sum.inl (cI, 4097, Sum.inl (gv_cp sg2 mg2 mg))) : Nat × va_E) ∧ h' (n + 5) = some ((a5, Sum.inl (cI, 4096, Sum.inl (gi (gv_cp (fr2 sg2) dc2 dc)))) : Nat × va_E) ∧ h' (n + 6) = some ((a6, Sum.inl (cZ, 4096, Sum.inl (gv_cp (fr2 sg2) lv2 lv))) : Nat × va_E) ∧ h' (n + 7) = some ((a7, Sum.inl (cZ, 4096, Sum.inl (gv_cp (fr2 sg2) lt2 lt))) : Nat × va_E))) = PQ
  have Z : gz D A s.heap h s.heap [] := ⟨ws, hM, hP, hD, va_S.rf⟩
  clear hP hD hM hD0
  have hU : gm_g h h [n, n + 1, n + 2, n + 3, n + 4, n + 5, n + 6, n + 7] := gm_g.rf
  have hl := lv_entry ([Value.ref a, Value.ref b]) (n := 3) (Nat.le_of_ble_eq_true rfl)
  rw [lg_entry_eq]
  generalize (lg_sl ([Value.ref a, Value.ref b]) ++ List.replicate (3 - (lg_sl ([Value.ref a, Value.ref b])).length) Slot.unset).toArray = ls at hl ⊢
  have hl : lv_has ls 3 [(0, Value.ref a), (1, Value.ref b)] := hl
  refine lv_aload_n hx hb d_Ve_copy_0 rfl (lv_at hl 0 rfl) ?_
  refine lv_aload_n hx hb d_Ve_copy_1 rfl (lv_at hl 1 rfl) ?_
  refine gz_get (ci := 9) (v := Value.int (nI sg2)) (C := "CommitLedgerModel$Version") (T := F_Ve) (N := 11) hx hb hts i_Ve hown hK Z f_o rfl 7 (by decide) kf_Ve_34 rfl d_Ve_copy_2 ?_
  refine gz_put (ci := 9) (v := Value.int (nI sg2)) (ty := .int) (C := "CommitLedgerModel$Version") (T := F_Ve) (N := 11) hx hb hts i_Ve t_Ve_ok n_Ve hown hK Z f_n rfl 7 (by decide) kf_Ve_34 rfl (by decide +kernel) rfl rfl (Nat.le_of_ble_eq_true rfl) d_Ve_copy_5 (fun H locs Z => ?_)
  obtain ⟨h1, e_h1⟩ : ∃ z9 : gm_M, z9 = gm_up h n ((a, Sum.inr (9, [Value.ref a1, Value.ref a2, Value.ref a3, Value.ref a4, Value.ref a5, Value.ref a6, Value.ref a7, Value.int (nI sg2), Value.int se, Value.int ow, Value.int nu])) : Nat × va_E) := ⟨_, rfl⟩
  replace Z : gz D A s.heap h1 H locs := by rw [e_h1]; exact Z
  have f_n_h1 : h1 n = some ((a, Sum.inr (9, [Value.ref a1, Value.ref a2, Value.ref a3, Value.ref a4, Value.ref a5, Value.ref a6, Value.ref a7, Value.int (nI sg2), Value.int se, Value.int ow, Value.int nu])) : Nat × va_E) := by rw [e_h1]; exact gm_self
  replace hU : gm_g h h1 [n, n + 1, n + 2, n + 3, n + 4, n + 5, n + 6, n + 7] := by rw [e_h1]; exact hU.put (by simp)
  refine lv_aload_n hx hb d_Ve_copy_8 rfl (lv_at hl 0 rfl) ?_
  refine lv_aload_n hx hb d_Ve_copy_9 rfl (lv_at hl 1 rfl) ?_
  have f_o_h1 : h1 o = some ((b, Sum.inr (9, [Value.ref b1, Value.ref b2, Value.ref b3, Value.ref b4, Value.ref b5, Value.ref b6, Value.ref b7, Value.int (nI sg2), Value.int se2, Value.int ow2, Value.int nu2])) : Nat × va_E) := by rw [e_h1]; exact gm_at f_o (by omega)
  refine gz_get (ci := 9) (v := Value.int se2) (C := "CommitLedgerModel$Version") (T := F_Ve) (N := 11) hx hb hts i_Ve hown hK Z f_o_h1 rfl 8 (by decide) kf_Ve_38 rfl d_Ve_copy_10 ?_
  refine gz_put (ci := 9) (v := Value.int se2) (ty := .int) (C := "CommitLedgerModel$Version") (T := F_Ve) (N := 11) hx hb hts i_Ve t_Ve_ok n_Ve hown hK Z f_n_h1 rfl 8 (by decide) kf_Ve_38 rfl (by decide +kernel) rfl rfl (Nat.le_of_ble_eq_true rfl) d_Ve_copy_13 (fun H locs Z => ?_)
  obtain ⟨h2, e_h2⟩ : ∃ z9 : gm_M, z9 = gm_up h1 n ((a, Sum.inr (9, [Value.ref a1, Value.ref a2, Value.ref a3, Value.ref a4, Value.ref a5, Value.ref a6, Value.ref a7, Value.int (nI sg2), Value.int se2, Value.int ow, Value.int nu])) : Nat × va_E) := ⟨_, rfl⟩
  replace Z : gz D A s.heap h2 H locs := by rw [e_h2]; exact Z
  have f_n_h2 : h2 n = some ((a, Sum.inr (9, [Value.ref a1, Value.ref a2, Value.ref a3, Value.ref a4, Value.ref a5, Value.ref a6, Value.ref a7, Value.int (nI sg2), Value.int se2, Value.int ow, Value.int nu])) : Nat × va_E) := by rw [e_h2]; exact gm_self
  replace hU : gm_g h h2 [n, n + 1, n + 2, n + 3, n + 4, n + 5, n + 6, n + 7] := by rw [e_h2]; exact hU.put (by simp)
  refine lv_aload_n hx hb d_Ve_copy_16 rfl (lv_at hl 0 rfl) ?_
  refine lv_aload_n hx hb d_Ve_copy_17 rfl (lv_at hl 1 rfl) ?_
  have f_o_h2 : h2 o = some ((b, Sum.inr (9, [Value.ref b1, Value.ref b2, Value.ref b3, Value.ref b4, Value.ref b5, Value.ref b6, Value.ref b7, Value.int (nI sg2), Value.int se2, Value.int ow2, Value.int nu2])) : Nat × va_E) := by rw [e_h2]; exact gm_at f_o_h1 (by omega)
  refine gz_get (ci := 9) (v := Value.int ow2) (C := "CommitLedgerModel$Version") (T := F_Ve) (N := 11) hx hb hts i_Ve hown hK Z f_o_h2 rfl 9 (by decide) kf_Ve_41 rfl d_Ve_copy_18 ?_
  refine gz_put (ci := 9) (v := Value.int ow2) (ty := .int) (C := "CommitLedgerModel$Version") (T := F_Ve) (N := 11) hx hb hts i_Ve t_Ve_ok n_Ve hown hK Z f_n_h2 rfl 9 (by decide) kf_Ve_41 rfl (by decide +kernel) rfl rfl (Nat.le_of_ble_eq_true rfl) d_Ve_copy_21 (fun H locs Z => ?_)
  obtain ⟨h3, e_h3⟩ : ∃ z9 : gm_M, z9 = gm_up h2 n ((a, Sum.inr (9, [Value.ref a1, Value.ref a2, Value.ref a3, Value.ref a4, Value.ref a5, Value.ref a6, Value.ref a7, Value.int (nI sg2), Value.int se2, Value.int ow2, Value.int nu])) : Nat × va_E) := ⟨_, rfl⟩
  replace Z : gz D A s.heap h3 H locs := by rw [e_h3]; exact Z
  have f_n_h3 : h3 n = some ((a, Sum.inr (9, [Value.ref a1, Value.ref a2, Value.ref a3, Value.ref a4, Value.ref a5, Value.ref a6, Value.ref a7, Value.int (nI sg2), Value.int se2, Value.int ow2, Value.int nu])) : Nat × va_E) := by rw [e_h3]; exact gm_self
  replace hU : gm_g h h3 [n, n + 1, n + 2, n + 3, n + 4, n + 5, n + 6, n + 7] := by rw [e_h3]; exact hU.put (by simp)
  refine lv_iconst (v := 0) hx hb d_Ve_copy_24 (by decide) ?_
  refine lv_istore_n (lv' := [(2, Value.int 0), (0, Value.ref a), (1, Value.ref b)]) hx hb d_Ve_copy_25 rfl hl (by decide) rfl (fun ls hl => ?_)
  have f_n_1_h1 : h1 (n + 1) = some ((a1, Sum.inl (cI, 4097, Sum.inl fl)) : Nat × va_E) := by rw [e_h1]; exact gm_at f_n_1 (by omega)
  have f_n_1_h2 : h2 (n + 1) = some ((a1, Sum.inl (cI, 4097, Sum.inl fl)) : Nat × va_E) := by rw [e_h2]; exact gm_at f_n_1_h1 (by omega)
  have f_n_1_h3 : h3 (n + 1) = some ((a1, Sum.inl (cI, 4097, Sum.inl fl)) : Nat × va_E) := by rw [e_h3]; exact gm_at f_n_1_h2 (by omega)
  have f_n_1_n : h3 (n + 1) = some ((a1, Sum.inl (cI, 4097, Sum.inl (gv_cp 0 fl2 fl))) : Nat × va_E) := by rw [gv_cp_0]; exact f_n_1_h3
  have f_n_2_h1 : h1 (n + 2) = some ((a2, Sum.inl (cI, 4097, Sum.inl li)) : Nat × va_E) := by rw [e_h1]; exact gm_at f_n_2 (by omega)
  have f_n_2_h2 : h2 (n + 2) = some ((a2, Sum.inl (cI, 4097, Sum.inl li)) : Nat × va_E) := by rw [e_h2]; exact gm_at f_n_2_h1 (by omega)
  have f_n_2_h3 : h3 (n + 2) = some ((a2, Sum.inl (cI, 4097, Sum.inl li)) : Nat × va_E) := by rw [e_h3]; exact gm_at f_n_2_h2 (by omega)
  have f_n_2_n : h3 (n + 2) = some ((a2, Sum.inl (cI, 4097, Sum.inl (gv_cp 0 li2 li))) : Nat × va_E) := by rw [gv_cp_0]; exact f_n_2_h3
  have f_n_3_h1 : h1 (n + 3) = some ((a3, Sum.inl (cI, 4098, Sum.inl (gi fr))) : Nat × va_E) := by rw [e_h1]; exact gm_at f_n_3 (by omega)
  have f_n_3_h2 : h2 (n + 3) = some ((a3, Sum.inl (cI, 4098, Sum.inl (gi fr))) : Nat × va_E) := by rw [e_h2]; exact gm_at f_n_3_h1 (by omega)
  have f_n_3_h3 : h3 (n + 3) = some ((a3, Sum.inl (cI, 4098, Sum.inl (gi fr))) : Nat × va_E) := by rw [e_h3]; exact gm_at f_n_3_h2 (by omega)
  have f_n_4_h1 : h1 (n + 4) = some ((a4, Sum.inl (cI, 4097, Sum.inl mg)) : Nat × va_E) := by rw [e_h1]; exact gm_at f_n_4 (by omega)
  have f_n_4_h2 : h2 (n + 4) = some ((a4, Sum.inl (cI, 4097, Sum.inl mg)) : Nat × va_E) := by rw [e_h2]; exact gm_at f_n_4_h1 (by omega)
  have f_n_4_h3 : h3 (n + 4) = some ((a4, Sum.inl (cI, 4097, Sum.inl mg)) : Nat × va_E) := by rw [e_h3]; exact gm_at f_n_4_h2 (by omega)
  have f_n_4_n : h3 (n + 4) = some ((a4, Sum.inl (cI, 4097, Sum.inl (gv_cp 0 mg2 mg))) : Nat × va_E) := by rw [gv_cp_0]; exact f_n_4_h3
  have f_n_5_h1 : h1 (n + 5) = some ((a5, Sum.inl (cI, 4096, Sum.inl (gi dc))) : Nat × va_E) := by rw [e_h1]; exact gm_at f_n_5 (by omega)
  have f_n_5_h2 : h2 (n + 5) = some ((a5, Sum.inl (cI, 4096, Sum.inl (gi dc))) : Nat × va_E) := by rw [e_h2]; exact gm_at f_n_5_h1 (by omega)
  have f_n_5_h3 : h3 (n + 5) = some ((a5, Sum.inl (cI, 4096, Sum.inl (gi dc))) : Nat × va_E) := by rw [e_h3]; exact gm_at f_n_5_h2 (by omega)
  have f_n_6_h1 : h1 (n + 6) = some ((a6, Sum.inl (cZ, 4096, Sum.inl lv)) : Nat × va_E) := by rw [e_h1]; exact gm_at f_n_6 (by omega)
  have f_n_6_h2 : h2 (n + 6) = some ((a6, Sum.inl (cZ, 4096, Sum.inl lv)) : Nat × va_E) := by rw [e_h2]; exact gm_at f_n_6_h1 (by omega)
  have f_n_6_h3 : h3 (n + 6) = some ((a6, Sum.inl (cZ, 4096, Sum.inl lv)) : Nat × va_E) := by rw [e_h3]; exact gm_at f_n_6_h2 (by omega)
  have f_n_7_h1 : h1 (n + 7) = some ((a7, Sum.inl (cZ, 4096, Sum.inl lt)) : Nat × va_E) := by rw [e_h1]; exact gm_at f_n_7 (by omega)
  have f_n_7_h2 : h2 (n + 7) = some ((a7, Sum.inl (cZ, 4096, Sum.inl lt)) : Nat × va_E) := by rw [e_h2]; exact gm_at f_n_7_h1 (by omega)
  have f_n_7_h3 : h3 (n + 7) = some ((a7, Sum.inl (cZ, 4096, Sum.inl lt)) : Nat × va_E) := by rw [e_h3]; exact gm_at f_n_7_h2 (by omega)
  refine gz_loop (N := sg2) (pc := 26) (fun _ => 0) (fun _ => 0) (fun k h9 ls => gm_g h h9 [n, n + 1, n + 2, n + 3, n + 4, n + 5, n + 6, n + 7] ∧ h9 n = some ((a, Sum.inr (9, [Value.ref a1, Value.ref a2, Value.ref a3, Value.ref a4, Value.ref a5, Value.ref a6, Value.ref a7, Value.int (nI sg2), Value.int se2, Value.int ow2, Value.int nu])) : Nat × va_E) ∧ h9 (n + 1) = some ((a1, Sum.inl (cI, 4097, Sum.inl (gv_cp k fl2 fl))) : Nat × va_E) ∧ h9 (n + 2) = some ((a2, Sum.inl (cI, 4097, Sum.inl (gv_cp k li2 li))) : Nat × va_E) ∧ h9 (n + 3) = some ((a3, Sum.inl (cI, 4098, Sum.inl (gi fr))) : Nat × va_E) ∧ h9 (n + 4) = some ((a4, Sum.inl (cI, 4097, Sum.inl (gv_cp k mg2 mg))) : Nat × va_E) ∧ h9 (n + 5) = some ((a5, Sum.inl (cI, 4096, Sum.inl (gi dc))) : Nat × va_E) ∧ h9 (n + 6) = some ((a6, Sum.inl (cZ, 4096, Sum.inl lv)) : Nat × va_E) ∧ h9 (n + 7) = some ((a7, Sum.inl (cZ, 4096, Sum.inl lt)) : Nat × va_E) ∧ lv_has ls 3 [(2, Value.int (nI k)), (0, Value.ref a), (1, Value.ref b)]) (fun k w4 H locs ls hk hI Z ihk => ?_) (fun w4 H locs ls hI Z => ?_) (sg2) 0 _ _ _ _ (Nat.zero_add _) ⟨hU, f_n_h3, f_n_1_n, f_n_2_n, f_n_3_h3, f_n_4_n, f_n_5_h3, f_n_6_h3, f_n_7_h3, lv_sub hl [0, 1, 2] rfl⟩ Z
  · obtain ⟨hU, f_n_w4, f_n_1_w4, f_n_2_w4, f_n_3_w4, f_n_4_w4, f_n_5_w4, f_n_6_w4, f_n_7_w4, hl⟩ := hI
    have e_w4 := hU
    refine lv_iload_n hx hb d_Ve_copy_26 rfl (lv_at hl 0 rfl) ?_
    refine lv_aload_n hx hb d_Ve_copy_27 rfl (lv_at hl 1 rfl) ?_
    refine gz_get (ci := 9) (v := Value.int (nI sg2)) (C := "CommitLedgerModel$Version") (T := F_Ve) (N := 11) hx hb hts i_Ve hown hK Z f_n_w4 rfl 7 (by decide) kf_Ve_34 rfl d_Ve_copy_28 ?_
    refine lv_icmp_ge (tgt := 76) hx hb d_Ve_copy_31 (by decide) (fun c9 => absurd c9 (nI_ge hk (by omega))) (fun _ => ?_)
    refine lv_aload_n hx hb d_Ve_copy_34 rfl (lv_at hl 1 rfl) ?_
    refine gz_get (ci := 9) (v := Value.ref a1) (C := "CommitLedgerModel$Version") (T := F_Ve) (N := 11) hx hb hts i_Ve hown hK Z f_n_w4 rfl 0 (by decide) kf_Ve_9 rfl d_Ve_copy_35 ?_
    refine lv_iload_n hx hb d_Ve_copy_38 rfl (lv_at hl 0 rfl) ?_
    refine lv_aload_n hx hb d_Ve_copy_39 rfl (lv_at hl 2 rfl) ?_
    have f_o_w4 : w4 o = some ((b, Sum.inr (9, [Value.ref b1, Value.ref b2, Value.ref b3, Value.ref b4, Value.ref b5, Value.ref b6, Value.ref b7, Value.int (nI sg2), Value.int se2, Value.int ow2, Value.int nu2])) : Nat × va_E) := e_w4.at f_o (by first | decide | (simp; done) | (simp; omega))
    refine gz_get (ci := 9) (v := Value.ref b1) (C := "CommitLedgerModel$Version") (T := F_Ve) (N := 11) hx hb hts i_Ve hown hK Z f_o_w4 rfl 0 (by decide) kf_Ve_9 rfl d_Ve_copy_40 ?_
    refine lv_iload_n hx hb d_Ve_copy_43 rfl (lv_at hl 0 rfl) ?_
    have f_o_1_w4 : w4 (o + 1) = some ((b1, Sum.inl (cI, 4097, Sum.inl fl2)) : Nat × va_E) := e_w4.at f_o_1 (by first | decide | (simp; done) | (simp; omega))
    refine gz_iald (j := k) hx hb hK Z 0 f_o_1_w4 ht0 (by omega) (rfl) (by decide) d_Ve_copy_44 ?_
    refine gz_iast (j := k) hx hb hK Z 0 f_n_1_w4 ht0 (by omega) (rfl) (by decide) d_Ve_copy_45 (fun H locs Z => ?_)
    obtain ⟨h6, e_h6⟩ : ∃ z9 : gm_M, z9 = gm_up w4 (n + 1) ((a1, Sum.inl (cI, 4097, Sum.inl (upd (gv_cp k fl2 fl) k (fl2 k)))) : Nat × va_E) := ⟨_, rfl⟩
    replace Z : gz D A s.heap h6 H locs := by rw [e_h6]; exact Z
    have f_n_1_h6 : h6 (n + 1) = some ((a1, Sum.inl (cI, 4097, Sum.inl (upd (gv_cp k fl2 fl) k (fl2 k)))) : Nat × va_E) := by rw [e_h6]; exact gm_self
    replace hU : gm_g h h6 [n, n + 1, n + 2, n + 3, n + 4, n + 5, n + 6, n + 7] := by rw [e_h6]; exact hU.put (by simp)
    refine lv_aload_n hx hb d_Ve_copy_46 rfl (lv_at hl 1 rfl) ?_
    have f_n_h6 : h6 n = some ((a, Sum.inr (9, [Value.ref a1, Value.ref a2, Value.ref a3, Value.ref a4, Value.ref a5, Value.ref a6, Value.ref a7, Value.int (nI sg2), Value.int se2, Value.int ow2, Value.int nu])) : Nat × va_E) := by rw [e_h6]; exact gm_at f_n_w4 (by omega)
    refine gz_get (ci := 9) (v := Value.ref a2) (C := "CommitLedgerModel$Version") (T := F_Ve) (N := 11) hx hb hts i_Ve hown hK Z f_n_h6 rfl 1 (by decide) kf_Ve_15 rfl d_Ve_copy_47 ?_
    refine lv_iload_n hx hb d_Ve_copy_50 rfl (lv_at hl 0 rfl) ?_
    refine lv_aload_n hx hb d_Ve_copy_51 rfl (lv_at hl 2 rfl) ?_
    have f_o_h6 : h6 o = some ((b, Sum.inr (9, [Value.ref b1, Value.ref b2, Value.ref b3, Value.ref b4, Value.ref b5, Value.ref b6, Value.ref b7, Value.int (nI sg2), Value.int se2, Value.int ow2, Value.int nu2])) : Nat × va_E) := by rw [e_h6]; exact gm_at f_o_w4 (by omega)
    refine gz_get (ci := 9) (v := Value.ref b2) (C := "CommitLedgerModel$Version") (T := F_Ve) (N := 11) hx hb hts i_Ve hown hK Z f_o_h6 rfl 1 (by decide) kf_Ve_15 rfl d_Ve_copy_52 ?_
    refine lv_iload_n hx hb d_Ve_copy_55 rfl (lv_at hl 0 rfl) ?_
    have f_o_2_w4 : w4 (o + 2) = some ((b2, Sum.inl (cI, 4097, Sum.inl li2)) : Nat × va_E) := e_w4.at f_o_2 (by first | decide | (simp; done) | (simp; omega))
    have f_o_2_h6 : h6 (o + 2) = some ((b2, Sum.inl (cI, 4097, Sum.inl li2)) : Nat × va_E) := by rw [e_h6]; exact gm_at f_o_2_w4 (by omega)
    refine gz_iald (j := k) hx hb hK Z 0 f_o_2_h6 ht0 (by omega) (rfl) (by decide) d_Ve_copy_56 ?_
    have f_n_2_h6 : h6 (n + 2) = some ((a2, Sum.inl (cI, 4097, Sum.inl (gv_cp k li2 li))) : Nat × va_E) := by rw [e_h6]; exact gm_at f_n_2_w4 (by omega)
    refine gz_iast (j := k) hx hb hK Z 0 f_n_2_h6 ht0 (by omega) (rfl) (by decide) d_Ve_copy_57 (fun H locs Z => ?_)
    obtain ⟨h7, e_h7⟩ : ∃ z9 : gm_M, z9 = gm_up h6 (n + 2) ((a2, Sum.inl (cI, 4097, Sum.inl (upd (gv_cp k li2 li) k (li2 k)))) : Nat × va_E) := ⟨_, rfl⟩
    replace Z : gz D A s.heap h7 H locs := by rw [e_h7]; exact Z
    have f_n_2_h7 : h7 (n + 2) = some ((a2, Sum.inl (cI, 4097, Sum.inl (upd (gv_cp k li2 li) k (li2 k)))) : Nat × va_E) := by rw [e_h7]; exact gm_self
    replace hU : gm_g h h7 [n, n + 1, n + 2, n + 3, n + 4, n + 5, n + 6, n + 7] := by rw [e_h7]; exact hU.put (by simp)
    refine lv_aload_n hx hb d_Ve_copy_58 rfl (lv_at hl 1 rfl) ?_
    have f_n_h7 : h7 n = some ((a, Sum.inr (9, [Value.ref a1, Value.ref a2, Value.ref a3, Value.ref a4, Value.ref a5, Value.ref a6, Value.ref a7, Value.int (nI sg2), Value.int se2, Value.int ow2, Value.int nu])) : Nat × va_E) := by rw [e_h7]; exact gm_at f_n_h6 (by omega)
    refine gz_get (ci := 9) (v := Value.ref a4) (C := "CommitLedgerModel$Version") (T := F_Ve) (N := 11) hx hb hts i_Ve hown hK Z f_n_h7 rfl 3 (by decide) kf_Ve_21 rfl d_Ve_copy_59 ?_
    refine lv_iload_n hx hb d_Ve_copy_62 rfl (lv_at hl 0 rfl) ?_
    refine lv_aload_n hx hb d_Ve_copy_63 rfl (lv_at hl 2 rfl) ?_
    have f_o_h7 : h7 o = some ((b, Sum.inr (9, [Value.ref b1, Value.ref b2, Value.ref b3, Value.ref b4, Value.ref b5, Value.ref b6, Value.ref b7, Value.int (nI sg2), Value.int se2, Value.int ow2, Value.int nu2])) : Nat × va_E) := by rw [e_h7]; exact gm_at f_o_h6 (by omega)
    refine gz_get (ci := 9) (v := Value.ref b4) (C := "CommitLedgerModel$Version") (T := F_Ve) (N := 11) hx hb hts i_Ve hown hK Z f_o_h7 rfl 3 (by decide) kf_Ve_21 rfl d_Ve_copy_64 ?_
    refine lv_iload_n hx hb d_Ve_copy_67 rfl (lv_at hl 0 rfl) ?_
    have f_o_4_w4 : w4 (o + 4) = some ((b4, Sum.inl (cI, 4097, Sum.inl mg2)) : Nat × va_E) := e_w4.at f_o_4 (by first | decide | (simp; done) | (simp; omega))
    have f_o_4_h6 : h6 (o + 4) = some ((b4, Sum.inl (cI, 4097, Sum.inl mg2)) : Nat × va_E) := by rw [e_h6]; exact gm_at f_o_4_w4 (by omega)
    have f_o_4_h7 : h7 (o + 4) = some ((b4, Sum.inl (cI, 4097, Sum.inl mg2)) : Nat × va_E) := by rw [e_h7]; exact gm_at f_o_4_h6 (by omega)
    refine gz_iald (j := k) hx hb hK Z 0 f_o_4_h7 ht0 (by omega) (rfl) (by decide) d_Ve_copy_68 ?_
    have f_n_4_h6 : h6 (n + 4) = some ((a4, Sum.inl (cI, 4097, Sum.inl (gv_cp k mg2 mg))) : Nat × va_E) := by rw [e_h6]; exact gm_at f_n_4_w4 (by omega)
    have f_n_4_h7 : h7 (n + 4) = some ((a4, Sum.inl (cI, 4097, Sum.inl (gv_cp k mg2 mg))) : Nat × va_E) := by rw [e_h7]; exact gm_at f_n_4_h6 (by omega)
    refine gz_iast (j := k) hx hb hK Z 0 f_n_4_h7 ht0 (by omega) (rfl) (by decide) d_Ve_copy_69 (fun H locs Z => ?_)
    obtain ⟨h8, e_h8⟩ : ∃ z9 : gm_M, z9 = gm_up h7 (n + 4) ((a4, Sum.inl (cI, 4097, Sum.inl (upd (gv_cp k mg2 mg) k (mg2 k)))) : Nat × va_E) := ⟨_, rfl⟩
    replace Z : gz D A s.heap h8 H locs := by rw [e_h8]; exact Z
    have f_n_4_h8 : h8 (n + 4) = some ((a4, Sum.inl (cI, 4097, Sum.inl (upd (gv_cp k mg2 mg) k (mg2 k)))) : Nat × va_E) := by rw [e_h8]; exact gm_self
    replace hU : gm_g h h8 [n, n + 1, n + 2, n + 3, n + 4, n + 5, n + 6, n + 7] := by rw [e_h8]; exact hU.put (by simp)
    refine lv_iinc (v := nI (k + 1)) (lv' := [(2, Value.int (nI (k + 1))), (0, Value.ref a), (1, Value.ref b)]) hx hb d_Ve_copy_70 hl (k := 0) rfl (show nI k + 1 = nI (k + 1) from nI_1 _) (by decide) rfl (fun ls hl => ?_)
    refine lv_goto (tgt := 26) hx hb d_Ve_copy_73 (by decide) ?_
    have f_n_h8 : h8 n = some ((a, Sum.inr (9, [Value.ref a1, Value.ref a2, Value.ref a3, Value.ref a4, Value.ref a5, Value.ref a6, Value.ref a7, Value.int (nI sg2), Value.int se2, Value.int ow2, Value.int nu])) : Nat × va_E) := by rw [e_h8]; exact gm_at f_n_h7 (by omega)
    have f_n_1_h7 : h7 (n + 1) = some ((a1, Sum.inl (cI, 4097, Sum.inl (upd (gv_cp k fl2 fl) k (fl2 k)))) : Nat × va_E) := by rw [e_h7]; exact gm_at f_n_1_h6 (by omega)
    have f_n_1_h8 : h8 (n + 1) = some ((a1, Sum.inl (cI, 4097, Sum.inl (upd (gv_cp k fl2 fl) k (fl2 k)))) : Nat × va_E) := by rw [e_h8]; exact gm_at f_n_1_h7 (by omega)
    have f_n_1_n : h8 (n + 1) = some ((a1, Sum.inl (cI, 4097, Sum.inl (gv_cp (k + 1) fl2 fl))) : Nat × va_E) := by rw [← gv_cp_su]; exact f_n_1_h8
    have f_n_2_h8 : h8 (n + 2) = some ((a2, Sum.inl (cI, 4097, Sum.inl (upd (gv_cp k li2 li) k (li2 k)))) : Nat × va_E) := by rw [e_h8]; exact gm_at f_n_2_h7 (by omega)
    have f_n_2_n : h8 (n + 2) = some ((a2, Sum.inl (cI, 4097, Sum.inl (gv_cp (k + 1) li2 li))) : Nat × va_E) := by rw [← gv_cp_su]; exact f_n_2_h8
    have f_n_3_h6 : h6 (n + 3) = some ((a3, Sum.inl (cI, 4098, Sum.inl (gi fr))) : Nat × va_E) := by rw [e_h6]; exact gm_at f_n_3_w4 (by omega)
    have f_n_3_h7 : h7 (n + 3) = some ((a3, Sum.inl (cI, 4098, Sum.inl (gi fr))) : Nat × va_E) := by rw [e_h7]; exact gm_at f_n_3_h6 (by omega)
    have f_n_3_h8 : h8 (n + 3) = some ((a3, Sum.inl (cI, 4098, Sum.inl (gi fr))) : Nat × va_E) := by rw [e_h8]; exact gm_at f_n_3_h7 (by omega)
    have f_n_4_n : h8 (n + 4) = some ((a4, Sum.inl (cI, 4097, Sum.inl (gv_cp (k + 1) mg2 mg))) : Nat × va_E) := by rw [← gv_cp_su]; exact f_n_4_h8
    have f_n_5_h6 : h6 (n + 5) = some ((a5, Sum.inl (cI, 4096, Sum.inl (gi dc))) : Nat × va_E) := by rw [e_h6]; exact gm_at f_n_5_w4 (by omega)
    have f_n_5_h7 : h7 (n + 5) = some ((a5, Sum.inl (cI, 4096, Sum.inl (gi dc))) : Nat × va_E) := by rw [e_h7]; exact gm_at f_n_5_h6 (by omega)
    have f_n_5_h8 : h8 (n + 5) = some ((a5, Sum.inl (cI, 4096, Sum.inl (gi dc))) : Nat × va_E) := by rw [e_h8]; exact gm_at f_n_5_h7 (by omega)
    have f_n_6_h6 : h6 (n + 6) = some ((a6, Sum.inl (cZ, 4096, Sum.inl lv)) : Nat × va_E) := by rw [e_h6]; exact gm_at f_n_6_w4 (by omega)
    have f_n_6_h7 : h7 (n + 6) = some ((a6, Sum.inl (cZ, 4096, Sum.inl lv)) : Nat × va_E) := by rw [e_h7]; exact gm_at f_n_6_h6 (by omega)
    have f_n_6_h8 : h8 (n + 6) = some ((a6, Sum.inl (cZ, 4096, Sum.inl lv)) : Nat × va_E) := by rw [e_h8]; exact gm_at f_n_6_h7 (by omega)
    have f_n_7_h6 : h6 (n + 7) = some ((a7, Sum.inl (cZ, 4096, Sum.inl lt)) : Nat × va_E) := by rw [e_h6]; exact gm_at f_n_7_w4 (by omega)
    have f_n_7_h7 : h7 (n + 7) = some ((a7, Sum.inl (cZ, 4096, Sum.inl lt)) : Nat × va_E) := by rw [e_h7]; exact gm_at f_n_7_h6 (by omega)
    have f_n_7_h8 : h8 (n + 7) = some ((a7, Sum.inl (cZ, 4096, Sum.inl lt)) : Nat × va_E) := by rw [e_h8]; exact gm_at f_n_7_h7 (by omega)
    exact ihk _ _ _ _ ⟨hU, f_n_h8, f_n_1_n, f_n_2_n, f_n_3_h8, f_n_4_n, f_n_5_h8, f_n_6_h8, f_n_7_h8, lv_sub hl [0, 1, 2] rfl⟩ Z
  · obtain ⟨hU, f_n_w4, f_n_1_w4, f_n_2_w4, f_n_3_w4, f_n_4_w4, f_n_5_w4, f_n_6_w4, f_n_7_w4, hl⟩ := hI
    have e_w4 := hU
    refine lv_iload_n hx hb d_Ve_copy_26 rfl (lv_at hl 0 rfl) ?_
    refine lv_aload_n hx hb d_Ve_copy_27 rfl (lv_at hl 1 rfl) ?_
    refine gz_get (ci := 9) (v := Value.int (nI sg2)) (C := "CommitLedgerModel$Version") (T := F_Ve) (N := 11) hx hb hts i_Ve hown hK Z f_n_w4 rfl 7 (by decide) kf_Ve_34 rfl d_Ve_copy_28 ?_
    refine lv_icmp_ge (tgt := 76) hx hb d_Ve_copy_31 (by decide) (fun _ => ?_) (fun c9 => absurd (nI_le (Nat.le_refl _) (by omega)) c9)
    refine lv_iconst (v := 0) hx hb d_Ve_copy_76 (by decide) ?_
    refine lv_istore_n (lv' := [(2, Value.int 0), (0, Value.ref a), (1, Value.ref b)]) hx hb d_Ve_copy_77 rfl hl (by decide) rfl (fun ls hl => ?_)
    have f_n_3_n : w4 (n + 3) = some ((a3, Sum.inl (cI, 4098, Sum.inl (gi (gv_cp 0 fr2 fr)))) : Nat × va_E) := by rw [gv_cp_0]; exact f_n_3_w4
    refine gz_loop (N := (sg2 + 1)) (pc := 78) (fun _ => 0) (fun _ => 0) (fun k h9 ls => gm_g h h9 [n, n + 1, n + 2, n + 3, n + 4, n + 5, n + 6, n + 7] ∧ h9 n = some ((a, Sum.inr (9, [Value.ref a1, Value.ref a2, Value.ref a3, Value.ref a4, Value.ref a5, Value.ref a6, Value.ref a7, Value.int (nI sg2), Value.int se2, Value.int ow2, Value.int nu])) : Nat × va_E) ∧ h9 (n + 1) = some ((a1, Sum.inl (cI, 4097, Sum.inl (gv_cp sg2 fl2 fl))) : Nat × va_E) ∧ h9 (n + 2) = some ((a2, Sum.inl (cI, 4097, Sum.inl (gv_cp sg2 li2 li))) : Nat × va_E) ∧ h9 (n + 3) = some ((a3, Sum.inl (cI, 4098, Sum.inl (gi (gv_cp k fr2 fr)))) : Nat × va_E) ∧ h9 (n + 4) = some ((a4, Sum.inl (cI, 4097, Sum.inl (gv_cp sg2 mg2 mg))) : Nat × va_E) ∧ h9 (n + 5) = some ((a5, Sum.inl (cI, 4096, Sum.inl (gi dc))) : Nat × va_E) ∧ h9 (n + 6) = some ((a6, Sum.inl (cZ, 4096, Sum.inl lv)) : Nat × va_E) ∧ h9 (n + 7) = some ((a7, Sum.inl (cZ, 4096, Sum.inl lt)) : Nat × va_E) ∧ lv_has ls 3 [(2, Value.int (nI k)), (0, Value.ref a), (1, Value.ref b)]) (fun k w10 H locs ls hk hI Z ihk => ?_) (fun w10 H locs ls hI Z => ?_) ((sg2 + 1)) 0 _ _ _ _ (Nat.zero_add _) ⟨hU, f_n_w4, f_n_1_w4, f_n_2_w4, f_n_3_n, f_n_4_w4, f_n_5_w4, f_n_6_w4, f_n_7_w4, lv_sub hl [0, 1, 2] rfl⟩ Z
    · obtain ⟨hU, f_n_w10, f_n_1_w10, f_n_2_w10, f_n_3_w10, f_n_4_w10, f_n_5_w10, f_n_6_w10, f_n_7_w10, hl⟩ := hI
      have e_w10 := hU
      refine lv_iload_n hx hb d_Ve_copy_78 rfl (lv_at hl 0 rfl) ?_
      refine lv_aload_n hx hb d_Ve_copy_79 rfl (lv_at hl 1 rfl) ?_
      refine gz_get (ci := 9) (v := Value.int (nI sg2)) (C := "CommitLedgerModel$Version") (T := F_Ve) (N := 11) hx hb hts i_Ve hown hK Z f_n_w10 rfl 7 (by decide) kf_Ve_34 rfl d_Ve_copy_80 ?_
      refine lv_icmp_gt (tgt := 104) hx hb d_Ve_copy_83 (by decide) (fun c9 => absurd c9 (nI_nlt (by omega) (by omega))) (fun _ => ?_)
      refine lv_aload_n hx hb d_Ve_copy_86 rfl (lv_at hl 1 rfl) ?_
      refine gz_get (ci := 9) (v := Value.ref a3) (C := "CommitLedgerModel$Version") (T := F_Ve) (N := 11) hx hb hts i_Ve hown hK Z f_n_w10 rfl 2 (by decide) kf_Ve_18 rfl d_Ve_copy_87 ?_
      refine lv_iload_n hx hb d_Ve_copy_90 rfl (lv_at hl 0 rfl) ?_
      refine lv_aload_n hx hb d_Ve_copy_91 rfl (lv_at hl 2 rfl) ?_
      have f_o_w10 : w10 o = some ((b, Sum.inr (9, [Value.ref b1, Value.ref b2, Value.ref b3, Value.ref b4, Value.ref b5, Value.ref b6, Value.ref b7, Value.int (nI sg2), Value.int se2, Value.int ow2, Value.int nu2])) : Nat × va_E) := e_w10.at f_o (by first | decide | (simp; done) | (simp; omega))
      refine gz_get (ci := 9) (v := Value.ref b3) (C := "CommitLedgerModel$Version") (T := F_Ve) (N := 11) hx hb hts i_Ve hown hK Z f_o_w10 rfl 2 (by decide) kf_Ve_18 rfl d_Ve_copy_92 ?_
      refine lv_iload_n hx hb d_Ve_copy_95 rfl (lv_at hl 0 rfl) ?_
      have f_o_3_w10 : w10 (o + 3) = some ((b3, Sum.inl (cI, 4098, Sum.inl (gi fr2))) : Nat × va_E) := e_w10.at f_o_3 (by first | decide | (simp; done) | (simp; omega))
      refine gz_iald (j := k) hx hb hK Z 0 f_o_3_w10 ht0 (by omega) (rfl) (by decide) d_Ve_copy_96 ?_
      refine gx_topi (y := nI (fr2 k)) rfl ?_
      refine gz_iast (j := k) hx hb hK Z 0 f_n_3_w10 ht0 (by omega) (rfl) (by decide) d_Ve_copy_97 (fun H locs Z => ?_)
      rw [gi_upc (X := (gv_cp k fr2 fr)) (j := k) (t := (fr2 k)) (rfl)] at Z
      obtain ⟨h12, e_h12⟩ : ∃ z9 : gm_M, z9 = gm_up w10 (n + 3) ((a3, Sum.inl (cI, 4098, Sum.inl (gi (va_up (gv_cp k fr2 fr) k (fr2 k))))) : Nat × va_E) := ⟨_, rfl⟩
      replace Z : gz D A s.heap h12 H locs := by rw [e_h12]; exact Z
      have f_n_3_h12 : h12 (n + 3) = some ((a3, Sum.inl (cI, 4098, Sum.inl (gi (va_up (gv_cp k fr2 fr) k (fr2 k))))) : Nat × va_E) := by rw [e_h12]; exact gm_self
      replace hU : gm_g h h12 [n, n + 1, n + 2, n + 3, n + 4, n + 5, n + 6, n + 7] := by rw [e_h12]; exact hU.put (by simp)
      refine lv_iinc (v := nI (k + 1)) (lv' := [(2, Value.int (nI (k + 1))), (0, Value.ref a), (1, Value.ref b)]) hx hb d_Ve_copy_98 hl (k := 0) rfl (show nI k + 1 = nI (k + 1) from nI_1 _) (by decide) rfl (fun ls hl => ?_)
      refine lv_goto (tgt := 78) hx hb d_Ve_copy_101 (by decide) ?_
      have f_n_h12 : h12 n = some ((a, Sum.inr (9, [Value.ref a1, Value.ref a2, Value.ref a3, Value.ref a4, Value.ref a5, Value.ref a6, Value.ref a7, Value.int (nI sg2), Value.int se2, Value.int ow2, Value.int nu])) : Nat × va_E) := by rw [e_h12]; exact gm_at f_n_w10 (by omega)
      have f_n_1_h12 : h12 (n + 1) = some ((a1, Sum.inl (cI, 4097, Sum.inl (gv_cp sg2 fl2 fl))) : Nat × va_E) := by rw [e_h12]; exact gm_at f_n_1_w10 (by omega)
      have f_n_2_h12 : h12 (n + 2) = some ((a2, Sum.inl (cI, 4097, Sum.inl (gv_cp sg2 li2 li))) : Nat × va_E) := by rw [e_h12]; exact gm_at f_n_2_w10 (by omega)
      have f_n_3_n : h12 (n + 3) = some ((a3, Sum.inl (cI, 4098, Sum.inl (gi (gv_cp (k + 1) fr2 fr)))) : Nat × va_E) := by rw [← gv_cp_s]; exact f_n_3_h12
      have f_n_4_h12 : h12 (n + 4) = some ((a4, Sum.inl (cI, 4097, Sum.inl (gv_cp sg2 mg2 mg))) : Nat × va_E) := by rw [e_h12]; exact gm_at f_n_4_w10 (by omega)
      have f_n_5_h12 : h12 (n + 5) = some ((a5, Sum.inl (cI, 4096, Sum.inl (gi dc))) : Nat × va_E) := by rw [e_h12]; exact gm_at f_n_5_w10 (by omega)
      have f_n_6_h12 : h12 (n + 6) = some ((a6, Sum.inl (cZ, 4096, Sum.inl lv)) : Nat × va_E) := by rw [e_h12]; exact gm_at f_n_6_w10 (by omega)
      have f_n_7_h12 : h12 (n + 7) = some ((a7, Sum.inl (cZ, 4096, Sum.inl lt)) : Nat × va_E) := by rw [e_h12]; exact gm_at f_n_7_w10 (by omega)
      exact ihk _ _ _ _ ⟨hU, f_n_h12, f_n_1_h12, f_n_2_h12, f_n_3_n, f_n_4_h12, f_n_5_h12, f_n_6_h12, f_n_7_h12, lv_sub hl [0, 1, 2] rfl⟩ Z
    · obtain ⟨hU, f_n_w10, f_n_1_w10, f_n_2_w10, f_n_3_w10, f_n_4_w10, f_n_5_w10, f_n_6_w10, f_n_7_w10, hl⟩ := hI
      have e_w10 := hU
      refine lv_iload_n hx hb d_Ve_copy_78 rfl (lv_at hl 0 rfl) ?_
      refine lv_aload_n hx hb d_Ve_copy_79 rfl (lv_at hl 1 rfl) ?_
      refine gz_get (ci := 9) (v := Value.int (nI sg2)) (C := "CommitLedgerModel$Version") (T := F_Ve) (N := 11) hx hb hts i_Ve hown hK Z f_n_w10 rfl 7 (by decide) kf_Ve_34 rfl d_Ve_copy_80 ?_
      refine lv_icmp_gt (tgt := 104) hx hb d_Ve_copy_83 (by decide) (fun _ => ?_) (fun c9 => absurd (nI_lt (by omega) (by omega)) c9)
      refine lv_iconst (v := 0) hx hb d_Ve_copy_104 (by decide) ?_
      refine lv_istore_n (lv' := [(2, Value.int 0), (0, Value.ref a), (1, Value.ref b)]) hx hb d_Ve_copy_105 rfl hl (by decide) rfl (fun ls hl => ?_)
      have f_n_5_n : w10 (n + 5) = some ((a5, Sum.inl (cI, 4096, Sum.inl (gi (gv_cp 0 dc2 dc)))) : Nat × va_E) := by rw [gv_cp_0]; exact f_n_5_w10
      have f_n_6_n : w10 (n + 6) = some ((a6, Sum.inl (cZ, 4096, Sum.inl (gv_cp 0 lv2 lv))) : Nat × va_E) := by rw [gv_cp_0]; exact f_n_6_w10
      have f_n_7_n : w10 (n + 7) = some ((a7, Sum.inl (cZ, 4096, Sum.inl (gv_cp 0 lt2 lt))) : Nat × va_E) := by rw [gv_cp_0]; exact f_n_7_w10
      refine gz_loop (N := (fr2 sg2)) (pc := 106) (fun _ => 0) (fun _ => 0) (fun k h9 ls => gm_g h h9 [n, n + 1, n + 2, n + 3, n + 4, n + 5, n + 6, n + 7] ∧ h9 n = some ((a, Sum.inr (9, [Value.ref a1, Value.ref a2, Value.ref a3, Value.ref a4, Value.ref a5, Value.ref a6, Value.ref a7, Value.int (nI sg2), Value.int se2, Value.int ow2, Value.int nu])) : Nat × va_E) ∧ h9 (n + 1) = some ((a1, Sum.inl (cI, 4097, Sum.inl (gv_cp sg2 fl2 fl))) : Nat × va_E) ∧ h9 (n + 2) = some ((a2, Sum.inl (cI, 4097, Sum.inl (gv_cp sg2 li2 li))) : Nat × va_E) ∧ h9 (n + 3) = some ((a3, Sum.inl (cI, 4098, Sum.inl (gi (gv_cp (sg2 + 1) fr2 fr)))) : Nat × va_E) ∧ h9 (n + 4) = some ((a4, Sum.inl (cI, 4097, Sum.inl (gv_cp sg2 mg2 mg))) : Nat × va_E) ∧ h9 (n + 5) = some ((a5, Sum.inl (cI, 4096, Sum.inl (gi (gv_cp k dc2 dc)))) : Nat × va_E) ∧ h9 (n + 6) = some ((a6, Sum.inl (cZ, 4096, Sum.inl (gv_cp k lv2 lv))) : Nat × va_E) ∧ h9 (n + 7) = some ((a7, Sum.inl (cZ, 4096, Sum.inl (gv_cp k lt2 lt))) : Nat × va_E) ∧ lv_has ls 3 [(2, Value.int (nI k)), (0, Value.ref a), (1, Value.ref b)]) (fun k w14 H locs ls hk hI Z ihk => ?_) (fun w14 H locs ls hI Z => ?_) ((fr2 sg2)) 0 _ _ _ _ (Nat.zero_add _) ⟨hU, f_n_w10, f_n_1_w10, f_n_2_w10, f_n_3_w10, f_n_4_w10, f_n_5_n, f_n_6_n, f_n_7_n, lv_sub hl [0, 1, 2] rfl⟩ Z
      · obtain ⟨hU, f_n_w14, f_n_1_w14, f_n_2_w14, f_n_3_w14, f_n_4_w14, f_n_5_w14, f_n_6_w14, f_n_7_w14, hl⟩ := hI
        have e_w14 := hU
        refine lv_iload_n hx hb d_Ve_copy_106 rfl (lv_at hl 0 rfl) ?_
        refine lv_aload_n hx hb d_Ve_copy_107 rfl (lv_at hl 1 rfl) ?_
        refine gz_call (ig := .invokevirtual 44) (av := [Value.ref a]) Z (fun ws hM => k_Ve_docs l htr D tys z _ ws w14 hM cI cZ n a a1 a2 a3 a4 a5 a6 a7 (gv_cp sg2 fl2 fl) (gv_cp sg2 li2 li) (gv_cp sg2 mg2 mg) (gv_cp k lv2 lv) (gv_cp k lt2 lt) (gv_cp (sg2 + 1) fr2 fr) (gv_cp k dc2 dc) sg2 se2 ow2 nu f_n_w14 f_n_1_w14 f_n_2_w14 f_n_3_w14 f_n_4_w14 f_n_5_w14 f_n_6_w14 f_n_7_w14 ht0 ht1 hsg) (gx_invV (As := []) (rest := [Value.int (nI k)]) hx hb hown hts km_Ve_44 kI_Ve_docs kV_Ve_docs kc_Ve_docs (by decide) (show (parseMethodDescriptor y_Ve_docs.desc).map (fun d => d.parameters.length) = some 0 by decide +kernel) (gz_recv (ci := 9) hK Z rfl f_n_w14) rfl rfl d_Ve_copy_108) (gx_cw (z := 0) hts kc_Ve_docs kN_Ve rfl rfl ⟨Nat.le_of_ble_eq_true rfl, Nat.le_of_ble_eq_true rfl⟩) hb hml hz hK hY hAz hA hl.1 (lv_room (Nat.le_of_ble_eq_true rfl)) d_Ve_copy_108 ⟨Nat.le_of_ble_eq_true rfl, Nat.le_of_ble_eq_true rfl⟩ (fun v15 h16 H locs hp Z => ?_) (fun x15 E9 ce h16 H locs hp hce Z => ?_)
        · rcases hp with ⟨hv9, e_h16⟩
          cases hv9
          rw [e_h16] at Z
          refine W.eq (g2 := F0 m 111 ls [Value.int (nI ((gv_cp (sg2 + 1) fr2 fr) sg2)), Value.int (nI k)]) rfl ?_
          refine gx_topi (y := nI (fr2 sg2)) (by rw [gv_cp_in (by omega)]) ?_
          refine lv_icmp_ge (tgt := 156) hx hb d_Ve_copy_111 (by decide) (fun c9 => absurd c9 (nI_ge hk (by omega))) (fun _ => ?_)
          refine lv_aload_n hx hb d_Ve_copy_114 rfl (lv_at hl 1 rfl) ?_
          refine gz_get (ci := 9) (v := Value.ref a5) (C := "CommitLedgerModel$Version") (T := F_Ve) (N := 11) hx hb hts i_Ve hown hK Z f_n_w14 rfl 4 (by decide) kf_Ve_24 rfl d_Ve_copy_115 ?_
          refine lv_iload_n hx hb d_Ve_copy_118 rfl (lv_at hl 0 rfl) ?_
          refine lv_aload_n hx hb d_Ve_copy_119 rfl (lv_at hl 2 rfl) ?_
          have f_o_w14 : w14 o = some ((b, Sum.inr (9, [Value.ref b1, Value.ref b2, Value.ref b3, Value.ref b4, Value.ref b5, Value.ref b6, Value.ref b7, Value.int (nI sg2), Value.int se2, Value.int ow2, Value.int nu2])) : Nat × va_E) := e_w14.at f_o (by first | decide | (simp; done) | (simp; omega))
          refine gz_get (ci := 9) (v := Value.ref b5) (C := "CommitLedgerModel$Version") (T := F_Ve) (N := 11) hx hb hts i_Ve hown hK Z f_o_w14 rfl 4 (by decide) kf_Ve_24 rfl d_Ve_copy_120 ?_
          refine lv_iload_n hx hb d_Ve_copy_123 rfl (lv_at hl 0 rfl) ?_
          have f_o_5_w14 : w14 (o + 5) = some ((b5, Sum.inl (cI, 4096, Sum.inl (gi dc2))) : Nat × va_E) := e_w14.at f_o_5 (by first | decide | (simp; done) | (simp; omega))
          refine gz_iald (j := k) hx hb hK Z 0 f_o_5_w14 ht0 (by omega) (rfl) (by decide) d_Ve_copy_124 ?_
          refine gx_topi (y := nI (dc2 k)) rfl ?_
          refine gz_iast (j := k) hx hb hK Z 0 f_n_5_w14 ht0 (by omega) (rfl) (by decide) d_Ve_copy_125 (fun H locs Z => ?_)
          rw [gi_upc (X := (gv_cp k dc2 dc)) (j := k) (t := (dc2 k)) (rfl)] at Z
          obtain ⟨h18, e_h18⟩ : ∃ z9 : gm_M, z9 = gm_up w14 (n + 5) ((a5, Sum.inl (cI, 4096, Sum.inl (gi (va_up (gv_cp k dc2 dc) k (dc2 k))))) : Nat × va_E) := ⟨_, rfl⟩
          replace Z : gz D A s.heap h18 H locs := by rw [e_h18]; exact Z
          have f_n_5_h18 : h18 (n + 5) = some ((a5, Sum.inl (cI, 4096, Sum.inl (gi (va_up (gv_cp k dc2 dc) k (dc2 k))))) : Nat × va_E) := by rw [e_h18]; exact gm_self
          replace hU : gm_g h h18 [n, n + 1, n + 2, n + 3, n + 4, n + 5, n + 6, n + 7] := by rw [e_h18]; exact hU.put (by simp)
          refine lv_aload_n hx hb d_Ve_copy_126 rfl (lv_at hl 1 rfl) ?_
          have f_n_h18 : h18 n = some ((a, Sum.inr (9, [Value.ref a1, Value.ref a2, Value.ref a3, Value.ref a4, Value.ref a5, Value.ref a6, Value.ref a7, Value.int (nI sg2), Value.int se2, Value.int ow2, Value.int nu])) : Nat × va_E) := by rw [e_h18]; exact gm_at f_n_w14 (by omega)
          refine gz_get (ci := 9) (v := Value.ref a6) (C := "CommitLedgerModel$Version") (T := F_Ve) (N := 11) hx hb hts i_Ve hown hK Z f_n_h18 rfl 5 (by decide) kf_Ve_27 rfl d_Ve_copy_127 ?_
          refine lv_iload_n hx hb d_Ve_copy_130 rfl (lv_at hl 0 rfl) ?_
          refine lv_aload_n hx hb d_Ve_copy_131 rfl (lv_at hl 2 rfl) ?_
          have f_o_h18 : h18 o = some ((b, Sum.inr (9, [Value.ref b1, Value.ref b2, Value.ref b3, Value.ref b4, Value.ref b5, Value.ref b6, Value.ref b7, Value.int (nI sg2), Value.int se2, Value.int ow2, Value.int nu2])) : Nat × va_E) := by rw [e_h18]; exact gm_at f_o_w14 (by omega)
          refine gz_get (ci := 9) (v := Value.ref b6) (C := "CommitLedgerModel$Version") (T := F_Ve) (N := 11) hx hb hts i_Ve hown hK Z f_o_h18 rfl 5 (by decide) kf_Ve_27 rfl d_Ve_copy_132 ?_
          refine lv_iload_n hx hb d_Ve_copy_135 rfl (lv_at hl 0 rfl) ?_
          have f_o_6_w14 : w14 (o + 6) = some ((b6, Sum.inl (cZ, 4096, Sum.inl lv2)) : Nat × va_E) := e_w14.at f_o_6 (by first | decide | (simp; done) | (simp; omega))
          have f_o_6_h18 : h18 (o + 6) = some ((b6, Sum.inl (cZ, 4096, Sum.inl lv2)) : Nat × va_E) := by rw [e_h18]; exact gm_at f_o_6_w14 (by omega)
          refine gz_zald (j := k) hx hb hK Z 1 f_o_6_h18 ht1 (by omega) (rfl) (by decide) d_Ve_copy_136 ?_
          have f_n_6_h18 : h18 (n + 6) = some ((a6, Sum.inl (cZ, 4096, Sum.inl (gv_cp k lv2 lv))) : Nat × va_E) := by rw [e_h18]; exact gm_at f_n_6_w14 (by omega)
          refine gz_zast (j := k) hx hb hK Z 1 f_n_6_h18 ht1 (by omega) (rfl) (by decide) d_Ve_copy_137 (fun H locs Z => ?_)
          obtain ⟨h19, e_h19⟩ : ∃ z9 : gm_M, z9 = gm_up h18 (n + 6) ((a6, Sum.inl (cZ, 4096, Sum.inl (upd (gv_cp k lv2 lv) k (vp_nar .boolean (lv2 k))))) : Nat × va_E) := ⟨_, rfl⟩
          replace Z : gz D A s.heap h19 H locs := by rw [e_h19]; exact Z
          have f_n_6_h19 : h19 (n + 6) = some ((a6, Sum.inl (cZ, 4096, Sum.inl (upd (gv_cp k lv2 lv) k (vp_nar .boolean (lv2 k))))) : Nat × va_E) := by rw [e_h19]; exact gm_self
          replace hU : gm_g h h19 [n, n + 1, n + 2, n + 3, n + 4, n + 5, n + 6, n + 7] := by rw [e_h19]; exact hU.put (by simp)
          refine lv_aload_n hx hb d_Ve_copy_138 rfl (lv_at hl 1 rfl) ?_
          have f_n_h19 : h19 n = some ((a, Sum.inr (9, [Value.ref a1, Value.ref a2, Value.ref a3, Value.ref a4, Value.ref a5, Value.ref a6, Value.ref a7, Value.int (nI sg2), Value.int se2, Value.int ow2, Value.int nu])) : Nat × va_E) := by rw [e_h19]; exact gm_at f_n_h18 (by omega)
          refine gz_get (ci := 9) (v := Value.ref a7) (C := "CommitLedgerModel$Version") (T := F_Ve) (N := 11) hx hb hts i_Ve hown hK Z f_n_h19 rfl 6 (by decide) kf_Ve_31 rfl d_Ve_copy_139 ?_
          refine lv_iload_n hx hb d_Ve_copy_142 rfl (lv_at hl 0 rfl) ?_
          refine lv_aload_n hx hb d_Ve_copy_143 rfl (lv_at hl 2 rfl) ?_
          have f_o_h19 : h19 o = some ((b, Sum.inr (9, [Value.ref b1, Value.ref b2, Value.ref b3, Value.ref b4, Value.ref b5, Value.ref b6, Value.ref b7, Value.int (nI sg2), Value.int se2, Value.int ow2, Value.int nu2])) : Nat × va_E) := by rw [e_h19]; exact gm_at f_o_h18 (by omega)
          refine gz_get (ci := 9) (v := Value.ref b7) (C := "CommitLedgerModel$Version") (T := F_Ve) (N := 11) hx hb hts i_Ve hown hK Z f_o_h19 rfl 6 (by decide) kf_Ve_31 rfl d_Ve_copy_144 ?_
          refine lv_iload_n hx hb d_Ve_copy_147 rfl (lv_at hl 0 rfl) ?_
          have f_o_7_w14 : w14 (o + 7) = some ((b7, Sum.inl (cZ, 4096, Sum.inl lt2)) : Nat × va_E) := e_w14.at f_o_7 (by first | decide | (simp; done) | (simp; omega))
          have f_o_7_h18 : h18 (o + 7) = some ((b7, Sum.inl (cZ, 4096, Sum.inl lt2)) : Nat × va_E) := by rw [e_h18]; exact gm_at f_o_7_w14 (by omega)
          have f_o_7_h19 : h19 (o + 7) = some ((b7, Sum.inl (cZ, 4096, Sum.inl lt2)) : Nat × va_E) := by rw [e_h19]; exact gm_at f_o_7_h18 (by omega)
          refine gz_zald (j := k) hx hb hK Z 1 f_o_7_h19 ht1 (by omega) (rfl) (by decide) d_Ve_copy_148 ?_
          have f_n_7_h18 : h18 (n + 7) = some ((a7, Sum.inl (cZ, 4096, Sum.inl (gv_cp k lt2 lt))) : Nat × va_E) := by rw [e_h18]; exact gm_at f_n_7_w14 (by omega)
          have f_n_7_h19 : h19 (n + 7) = some ((a7, Sum.inl (cZ, 4096, Sum.inl (gv_cp k lt2 lt))) : Nat × va_E) := by rw [e_h19]; exact gm_at f_n_7_h18 (by omega)
          refine gz_zast (j := k) hx hb hK Z 1 f_n_7_h19 ht1 (by omega) (rfl) (by decide) d_Ve_copy_149 (fun H locs Z => ?_)
          obtain ⟨h20, e_h20⟩ : ∃ z9 : gm_M, z9 = gm_up h19 (n + 7) ((a7, Sum.inl (cZ, 4096, Sum.inl (upd (gv_cp k lt2 lt) k (vp_nar .boolean (lt2 k))))) : Nat × va_E) := ⟨_, rfl⟩
          replace Z : gz D A s.heap h20 H locs := by rw [e_h20]; exact Z
          have f_n_7_h20 : h20 (n + 7) = some ((a7, Sum.inl (cZ, 4096, Sum.inl (upd (gv_cp k lt2 lt) k (vp_nar .boolean (lt2 k))))) : Nat × va_E) := by rw [e_h20]; exact gm_self
          replace hU : gm_g h h20 [n, n + 1, n + 2, n + 3, n + 4, n + 5, n + 6, n + 7] := by rw [e_h20]; exact hU.put (by simp)
          refine lv_iinc (v := nI (k + 1)) (lv' := [(2, Value.int (nI (k + 1))), (0, Value.ref a), (1, Value.ref b)]) hx hb d_Ve_copy_150 hl (k := 0) rfl (show nI k + 1 = nI (k + 1) from nI_1 _) (by decide) rfl (fun ls hl => ?_)
          refine lv_goto (tgt := 106) hx hb d_Ve_copy_153 (by decide) ?_
          have f_n_h20 : h20 n = some ((a, Sum.inr (9, [Value.ref a1, Value.ref a2, Value.ref a3, Value.ref a4, Value.ref a5, Value.ref a6, Value.ref a7, Value.int (nI sg2), Value.int se2, Value.int ow2, Value.int nu])) : Nat × va_E) := by rw [e_h20]; exact gm_at f_n_h19 (by omega)
          have f_n_1_h18 : h18 (n + 1) = some ((a1, Sum.inl (cI, 4097, Sum.inl (gv_cp sg2 fl2 fl))) : Nat × va_E) := by rw [e_h18]; exact gm_at f_n_1_w14 (by omega)
          have f_n_1_h19 : h19 (n + 1) = some ((a1, Sum.inl (cI, 4097, Sum.inl (gv_cp sg2 fl2 fl))) : Nat × va_E) := by rw [e_h19]; exact gm_at f_n_1_h18 (by omega)
          have f_n_1_h20 : h20 (n + 1) = some ((a1, Sum.inl (cI, 4097, Sum.inl (gv_cp sg2 fl2 fl))) : Nat × va_E) := by rw [e_h20]; exact gm_at f_n_1_h19 (by omega)
          have f_n_2_h18 : h18 (n + 2) = some ((a2, Sum.inl (cI, 4097, Sum.inl (gv_cp sg2 li2 li))) : Nat × va_E) := by rw [e_h18]; exact gm_at f_n_2_w14 (by omega)
          have f_n_2_h19 : h19 (n + 2) = some ((a2, Sum.inl (cI, 4097, Sum.inl (gv_cp sg2 li2 li))) : Nat × va_E) := by rw [e_h19]; exact gm_at f_n_2_h18 (by omega)
          have f_n_2_h20 : h20 (n + 2) = some ((a2, Sum.inl (cI, 4097, Sum.inl (gv_cp sg2 li2 li))) : Nat × va_E) := by rw [e_h20]; exact gm_at f_n_2_h19 (by omega)
          have f_n_3_h18 : h18 (n + 3) = some ((a3, Sum.inl (cI, 4098, Sum.inl (gi (gv_cp (sg2 + 1) fr2 fr)))) : Nat × va_E) := by rw [e_h18]; exact gm_at f_n_3_w14 (by omega)
          have f_n_3_h19 : h19 (n + 3) = some ((a3, Sum.inl (cI, 4098, Sum.inl (gi (gv_cp (sg2 + 1) fr2 fr)))) : Nat × va_E) := by rw [e_h19]; exact gm_at f_n_3_h18 (by omega)
          have f_n_3_h20 : h20 (n + 3) = some ((a3, Sum.inl (cI, 4098, Sum.inl (gi (gv_cp (sg2 + 1) fr2 fr)))) : Nat × va_E) := by rw [e_h20]; exact gm_at f_n_3_h19 (by omega)
          have f_n_4_h18 : h18 (n + 4) = some ((a4, Sum.inl (cI, 4097, Sum.inl (gv_cp sg2 mg2 mg))) : Nat × va_E) := by rw [e_h18]; exact gm_at f_n_4_w14 (by omega)
          have f_n_4_h19 : h19 (n + 4) = some ((a4, Sum.inl (cI, 4097, Sum.inl (gv_cp sg2 mg2 mg))) : Nat × va_E) := by rw [e_h19]; exact gm_at f_n_4_h18 (by omega)
          have f_n_4_h20 : h20 (n + 4) = some ((a4, Sum.inl (cI, 4097, Sum.inl (gv_cp sg2 mg2 mg))) : Nat × va_E) := by rw [e_h20]; exact gm_at f_n_4_h19 (by omega)
          have f_n_5_h19 : h19 (n + 5) = some ((a5, Sum.inl (cI, 4096, Sum.inl (gi (va_up (gv_cp k dc2 dc) k (dc2 k))))) : Nat × va_E) := by rw [e_h19]; exact gm_at f_n_5_h18 (by omega)
          have f_n_5_h20 : h20 (n + 5) = some ((a5, Sum.inl (cI, 4096, Sum.inl (gi (va_up (gv_cp k dc2 dc) k (dc2 k))))) : Nat × va_E) := by rw [e_h20]; exact gm_at f_n_5_h19 (by omega)
          have f_n_5_n : h20 (n + 5) = some ((a5, Sum.inl (cI, 4096, Sum.inl (gi (gv_cp (k + 1) dc2 dc)))) : Nat × va_E) := by rw [← gv_cp_s]; exact f_n_5_h20
          have f_n_6_h20 : h20 (n + 6) = some ((a6, Sum.inl (cZ, 4096, Sum.inl (upd (gv_cp k lv2 lv) k (vp_nar .boolean (lv2 k))))) : Nat × va_E) := by rw [e_h20]; exact gm_at f_n_6_h19 (by omega)
          have f_n_6_n : h20 (n + 6) = some ((a6, Sum.inl (cZ, 4096, Sum.inl (gv_cp (k + 1) lv2 lv))) : Nat × va_E) := by rw [← gv_cp_sz (hb1 k hk)]; exact f_n_6_h20
          have f_n_7_n : h20 (n + 7) = some ((a7, Sum.inl (cZ, 4096, Sum.inl (gv_cp (k + 1) lt2 lt))) : Nat × va_E) := by rw [← gv_cp_sz (hb2 k hk)]; exact f_n_7_h20
          exact ihk _ _ _ _ ⟨hU, f_n_h20, f_n_1_h20, f_n_2_h20, f_n_3_h20, f_n_4_h20, f_n_5_n, f_n_6_n, f_n_7_n, lv_sub hl [0, 1, 2] rfl⟩ Z
        · rcases hp with ⟨hv9, e_h16⟩
          cases hv9
      · obtain ⟨hU, f_n_w14, f_n_1_w14, f_n_2_w14, f_n_3_w14, f_n_4_w14, f_n_5_w14, f_n_6_w14, f_n_7_w14, hl⟩ := hI
        have e_w14 := hU
        refine lv_iload_n hx hb d_Ve_copy_106 rfl (lv_at hl 0 rfl) ?_
        refine lv_aload_n hx hb d_Ve_copy_107 rfl (lv_at hl 1 rfl) ?_
        refine gz_call (ig := .invokevirtual 44) (av := [Value.ref a]) Z (fun ws hM => k_Ve_docs l htr D tys z _ ws w14 hM cI cZ n a a1 a2 a3 a4 a5 a6 a7 (gv_cp sg2 fl2 fl) (gv_cp sg2 li2 li) (gv_cp sg2 mg2 mg) (gv_cp (fr2 sg2) lv2 lv) (gv_cp (fr2 sg2) lt2 lt) (gv_cp (sg2 + 1) fr2 fr) (gv_cp (fr2 sg2) dc2 dc) sg2 se2 ow2 nu f_n_w14 f_n_1_w14 f_n_2_w14 f_n_3_w14 f_n_4_w14 f_n_5_w14 f_n_6_w14 f_n_7_w14 ht0 ht1 hsg) (gx_invV (As := []) (rest := [Value.int (nI (fr2 sg2))]) hx hb hown hts km_Ve_44 kI_Ve_docs kV_Ve_docs kc_Ve_docs (by decide) (show (parseMethodDescriptor y_Ve_docs.desc).map (fun d => d.parameters.length) = some 0 by decide +kernel) (gz_recv (ci := 9) hK Z rfl f_n_w14) rfl rfl d_Ve_copy_108) (gx_cw (z := 0) hts kc_Ve_docs kN_Ve rfl rfl ⟨Nat.le_of_ble_eq_true rfl, Nat.le_of_ble_eq_true rfl⟩) hb hml hz hK hY hAz hA hl.1 (lv_room (Nat.le_of_ble_eq_true rfl)) d_Ve_copy_108 ⟨Nat.le_of_ble_eq_true rfl, Nat.le_of_ble_eq_true rfl⟩ (fun v21 h22 H locs hp Z => ?_) (fun x21 E9 ce h22 H locs hp hce Z => ?_)
        · rcases hp with ⟨hv9, e_h22⟩
          cases hv9
          rw [e_h22] at Z
          refine W.eq (g2 := F0 m 111 ls [Value.int (nI ((gv_cp (sg2 + 1) fr2 fr) sg2)), Value.int (nI (fr2 sg2))]) rfl ?_
          refine gx_topi (y := nI (fr2 sg2)) (by rw [gv_cp_in (by omega)]) ?_
          refine lv_icmp_ge (tgt := 156) hx hb d_Ve_copy_111 (by decide) (fun _ => ?_) (fun c9 => absurd (nI_le (Nat.le_refl _) (by omega)) c9)
          exact gz_vret hx hb hr hlocks hK Z (by decide) (by decide) (by rw [← hPQ]; exact ⟨rfl, hU, f_n_w14, f_n_1_w14, f_n_2_w14, f_n_3_w14, f_n_4_w14, f_n_5_w14, f_n_6_w14, f_n_7_w14⟩) d_Ve_copy_156
        · rcases hp with ⟨hv9, e_h22⟩
          cases hv9
