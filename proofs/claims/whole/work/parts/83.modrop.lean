/-! Version.drop over maps; rows printed by own text programs, but for the first -/
/-- k places from a on hold what stood n further on -/
def gsh {α : Type} (a n k : Nat) (g : Nat → α) : Nat → α := fun i => if a ≤ i ∧ i < a + k then g (i + n) else g i
theorem gsh_0 {α : Type} {a n : Nat} {g : Nat → α} : gsh a n 0 g = g := by
  funext i
  exact if_neg (by omega)
theorem gsh_at {α : Type} {a n k i : Nat} {g : Nat → α} (h : a + k ≤ i) : gsh a n k g i = g i := if_neg (by omega)
theorem gsh_s {α : Type} {a n k : Nat} {g : Nat → α} : va_up (gsh a n k g) (a + k) (g (a + k + n)) = gsh a n (k + 1) g := by
  funext i
  by_cases e : i = a + k
  · rw [e, va_up_self]
    exact (if_pos (by omega)).symm
  · rw [va_up_ne _ _ e]
    unfold gsh
    by_cases h : a ≤ i ∧ i < a + k
    · rw [if_pos h, if_pos (by omega)]
    · rw [if_neg h, if_neg (by omega)]
theorem gsh_u {a n k : Nat} {g : Nat → Int32} : upd (gsh a n k g) (a + k) (g (a + k + n)) = gsh a n (k + 1) g := by rw [upd_va]; exact gsh_s
theorem gsh_z {a n k : Nat} {g : Nat → Int32} (hb : gx_b (g (a + k + n))) : upd (gsh a n k g) (a + k) (vp_nar .boolean (g (a + k + n))) = gsh a n (k + 1) g := by rw [gx_nz hb]; exact gsh_u
/-- k places from b on hold what stood one further on, less n -/
def gfs (b n k : Nat) (g : Nat → Nat) : Nat → Nat := fun i => if b ≤ i ∧ i < b + k then g (i + 1) - n else g i
theorem gfs_0 {b n : Nat} {g : Nat → Nat} : gfs b n 0 g = g := by
  funext i
  exact if_neg (by omega)
theorem gfs_at {b n k i : Nat} {g : Nat → Nat} (h : b + k ≤ i) : gfs b n k g i = g i := if_neg (by omega)
theorem gfs_s {b n k : Nat} {g : Nat → Nat} : va_up (gfs b n k g) (b + k) (g (b + k + 1) - n) = gfs b n (k + 1) g := by
  funext i
  by_cases e : i = b + k
  · rw [e, va_up_self]
    exact (if_pos (by omega)).symm
  · rw [va_up_ne _ _ e]
    unfold gfs
    by_cases h : b ≤ i ∧ i < b + k
    · rw [if_pos h, if_pos (by omega)]
    · rw [if_neg h, if_neg (by omega)]
set_option maxHeartbeats 4000000 in
set_option maxRecDepth 100000 in
theorem k_Ve_drop (l : Launch) (htr : l.stackTraces = false) (D : va_G) (tys : List (ClassId × FieldType)) (z sz : Nat) (ws : va_W) (h : gm_M) (hM : gm_S h ws) (cI : ClassId) (cZ : ClassId) (n : Nat) (a : Nat) (a1 : Nat) (a2 : Nat) (a3 : Nat) (a4 : Nat) (a5 : Nat) (a6 : Nat) (a7 : Nat) (fl : Nat → Int32) (li : Nat → Int32) (mg : Nat → Int32) (lv : Nat → Int32) (lt : Nat → Int32) (fr : Nat → Nat) (dc : Nat → Nat) (sg : Nat) (se : Int32) (ow : Int32) (nu : Int32) (s0 : Nat) (f_n : h n = some ((a, Sum.inr (9, [Value.ref a1, Value.ref a2, Value.ref a3, Value.ref a4, Value.ref a5, Value.ref a6, Value.ref a7, Value.int (nI sg), Value.int se, Value.int ow, Value.int nu])) : Nat × va_E)) (f_n_1 : h (n + 1) = some ((a1, Sum.inl (cI, 4097, Sum.inl fl)) : Nat × va_E)) (f_n_2 : h (n + 2) = some ((a2, Sum.inl (cI, 4097, Sum.inl li)) : Nat × va_E)) (f_n_3 : h (n + 3) = some ((a3, Sum.inl (cI, 4098, Sum.inl (gi fr))) : Nat × va_E)) (f_n_4 : h (n + 4) = some ((a4, Sum.inl (cI, 4097, Sum.inl mg)) : Nat × va_E)) (f_n_5 : h (n + 5) = some ((a5, Sum.inl (cI, 4096, Sum.inl (gi dc))) : Nat × va_E)) (f_n_6 : h (n + 6) = some ((a6, Sum.inl (cZ, 4096, Sum.inl lv)) : Nat × va_E)) (f_n_7 : h (n + 7) = some ((a7, Sum.inl (cZ, 4096, Sum.inl lt)) : Nat × va_E)) (ht0 : tys[0]? = some ((cI, FieldType.int) : ClassId × FieldType)) (ht1 : tys[1]? = some ((cZ, FieldType.boolean) : ClassId × FieldType)) (hsg : sg ≤ 4096) (hs0 : s0 < sg) (hmo : ∀ i j, i ≤ j → j ≤ sg → fr i ≤ fr j) (hd0 : fr sg ≤ 4096) (hf0 : fr s0 ≤ fr (s0 + 1)) (hf1 : fr (s0 + 1) ≤ fr sg) (hb1 : ∀ i, i < fr sg → gx_b (lv i)) (hb2 : ∀ i, i < fr sg → gx_b (lt i)) : gx_Met l y_Ve_drop [Cond.code y_Ve_drop b_Ve_drop 4 none] { frames := 2, cells := 0, slots := 0, locals := 32 } (gx_P z sz D classes tys ws [Value.ref a, Value.int (nI s0)]) (gx_Q D classes tys (va_A ws sz) (gm_p (fun r h' => (r = Sum.inl none ∧ gm_g h h' [n, n + 1, n + 2, n + 3, n + 4, n + 5, n + 6, n + 7] ∧ h' n = some ((a, Sum.inr (9, [Value.ref a1, Value.ref a2, Value.ref a3, Value.ref a4, Value.ref a5, Value.ref a6, Value.ref a7, Value.int (nI (sg - 1)), Value.int se, Value.int ow, Value.int nu])) : Nat × va_E) ∧ h' (n + 1) = some ((a1, Sum.inl (cI, 4097, Sum.inl (gsh s0 1 (sg - (s0 + 1)) fl))) : Nat × va_E) ∧ h' (n + 2) = some ((a2, Sum.inl (cI, 4097, Sum.inl (gsh s0 1 (sg - (s0 + 1)) li))) : Nat × va_E) ∧ h' (n + 3) = some ((a3, Sum.inl (cI, 4098, Sum.inl (gi (gfs (s0 + 1) (fr (s0 + 1) - fr s0) (sg - (s0 + 1)) fr)))) : Nat × va_E) ∧ h' (n + 4) = some ((a4, Sum.inl (cI, 4097, Sum.inl (gsh s0 1 (sg - (s0 + 1)) mg))) : Nat × va_E) ∧ h' (n + 5) = some ((a5, Sum.inl (cI, 4096, Sum.inl (gi (gsh (fr s0) (fr (s0 + 1) - fr s0) (fr sg - fr (s0 + 1)) dc)))) : Nat × va_E) ∧ h' (n + 6) = some ((a6, Sum.inl (cZ, 4096, Sum.inl (gsh (fr s0) (fr (s0 + 1) - fr s0) (fr sg - fr (s0 + 1)) lv))) : Nat × va_E) ∧ h' (n + 7) = some ((a7, Sum.inl (cZ, 4096, Sum.inl (gsh (fr s0) (fr (s0 + 1) - fr s0) (fr sg - fr (s0 + 1)) lt))) : Nat × va_E))))) 0 0 (va_A ws sz) := by
  refine gx_ofW (cc := b_Ve_drop) (maxL := 4) (ret := none) (by decide) rfl ?_
  intro p e s m args below meth c s₁ B hml hv
  obtain ⟨rfl, hsz, hz, hP, hK, hD0, hY⟩ := hv
  have hx := B.exec
  have hb := B.bytes
  have hr := B.returns
  have hts := hY.hts (#[Value.ref a, Value.int (nI s0)] : Array Value)
  have hown : s.vm.findClass "CommitLedgerModel$Version" = some m.cls := findClass_of_methodNamed B.named
  have hlocks := B.notSynchronized
  have hne : c.exceptionTable.isEmpty = true := B.noHandlers (atoms_spec (ws := [Cond.code y_Ve_drop b_Ve_drop 4 none]) B.pre _ List.mem_cons_self)
  subst hsz
  have hAz := gx_az hD0 hz
  have hD := hD0.self (sz := s.heap.size)
  have hN := gx_ns hP
  have hA : ∀ q : Nat, s.heap.size ≤ q → va_A ws s.heap.size q := fun q h => Or.inr h
  generalize va_A ws s.heap.size = A at hD hN hA hAz ⊢
  generalize hPQ : (fun (r : Option Value ⊕ String) (h' : gm_M) => (r = Sum.inl none ∧ gm_g h h' [n, n + 1, n + 2, n + 3, n + 4, n + 5, n + 6, n + 7] ∧ h' n = some ((a, Sum.inr (9, [Value.ref a1, Value.ref a2, Value.ref a3, Value.ref a4, Value.ref a5, Value.ref a6, Value.ref a7, Value.int (nI (sg - 1)), Value.int se, Value.int ow, Value.int nu])) : Nat × va_E) ∧ h' (n + 1) = some ((a1, Sum.inl (cI, 4097, Sum.inl (gsh s0 1 (sg - (s0 + 1)) fl))) : Nat × va_E) ∧ h' (n + 2) = some ((a2, Sum.inl (cI, 4097, Sum.inl (gsh s0 1 (sg - (s0 + 1)) li))) : Nat × va_E) ∧ h' (n + 3) = some ((a3, Sum.inl (cI, 4098, Sum.inl (gi (gfs (s0 + 1) (fr (s0 + 1) - fr s0) (sg - (s0 + 1)) fr)))) : Nat × va_E) ∧ h' (n + 4) = some ((a4, Sum.inl (cI, 4097, Sum.inl (gsh s0 1 (sg - (s0 + 1)) mg))) : Nat × va_E) ∧ h' (n + 5) = some ((a5, Sum.inl (cI, 4096, Sum.inl (gi (gsh (fr s0) (fr (s0 + 1) - fr s0) (fr sg - fr (s0 + 1)) dc)))) : Nat × va_E) ∧ h' (n + 6) = some ((a6, Sum.inl (cZ, 4096, Sum.inl (gsh (fr s0) (fr (s0 + 1) - fr s0) (fr sg - fr (s0 + 1)) lv))) : Nat × va_E) ∧ h' (n + 7) = some ((a7, Sum.inl (cZ, 4096, Sum.inl (gsh (fr s0) (fr (s0 + 1) - fr s0) (fr sg - fr (s0 + 1)) lt))) : Nat × va_E))) = PQ
  have Z : gz D A s.heap h s.heap [] := ⟨ws, hM, hP, hD, va_S.rf⟩
  clear hP hD hM hD0
  have hU : gm_g h h [n, n + 1, n + 2, n + 3, n + 4, n + 5, n + 6, n + 7] := gm_g.rf
  have hl := lv_entry ([Value.ref a, Value.int (nI s0)]) (n := 4) (Nat.le_of_ble_eq_true rfl)
  rw [lg_entry_eq]
  generalize (lg_sl ([Value.ref a, Value.int (nI s0)]) ++ List.replicate (4 - (lg_sl ([Value.ref a, Value.int (nI s0)])).length) Slot.unset).toArray = ls at hl ⊢
  have hl : lv_has ls 4 [(0, Value.ref a), (1, Value.int (nI s0))] := hl
  refine lv_aload_n hx hb d_Ve_drop_0 rfl (lv_at hl 0 rfl) ?_
  refine gz_get (ci := 9) (v := Value.ref a3) (C := "CommitLedgerModel$Version") (T := F_Ve) (N := 11) hx hb hts i_Ve hown hK Z f_n rfl 2 (by decide) kf_Ve_18 rfl d_Ve_drop_1 ?_
  refine lv_iload_n hx hb d_Ve_drop_4 rfl (lv_at hl 1 rfl) ?_
  refine lv_iconst (v := 1) hx hb d_Ve_drop_5 (by decide) ?_
  refine lv_iadd hx hb d_Ve_drop_6 ?_
  refine gx_topi (y := nI (s0 + 1)) (nI_1 _) ?_
  refine gz_iald (j := s0 + 1) hx hb hK Z 0 f_n_3 ht0 (by omega) (rfl) (by decide) d_Ve_drop_7 ?_
  refine gx_topi (y := nI (fr (s0 + 1))) rfl ?_
  refine lv_aload_n hx hb d_Ve_drop_8 rfl (lv_at hl 0 rfl) ?_
  refine gz_get (ci := 9) (v := Value.ref a3) (C := "CommitLedgerModel$Version") (T := F_Ve) (N := 11) hx hb hts i_Ve hown hK Z f_n rfl 2 (by decide) kf_Ve_18 rfl d_Ve_drop_9 ?_
  refine lv_iload_n hx hb d_Ve_drop_12 rfl (lv_at hl 1 rfl) ?_
  refine gz_iald (j := s0) hx hb hK Z 0 f_n_3 ht0 (by omega) (rfl) (by decide) d_Ve_drop_13 ?_
  refine gx_topi (y := nI (fr s0)) rfl ?_
  refine lv_isub hx hb d_Ve_drop_14 ?_
  refine gx_topi (y := nI ((fr (s0 + 1)) - (fr s0))) (pk_sub (a := fr (s0 + 1)) (b := fr s0) (hf0)) ?_
  refine lv_istore_n (lv' := [(2, Value.int (nI ((fr (s0 + 1)) - (fr s0)))), (0, Value.ref a), (1, Value.int (nI s0))]) hx hb d_Ve_drop_15 rfl hl (by decide) rfl (fun ls hl => ?_)
  refine lv_aload_n hx hb d_Ve_drop_16 rfl (lv_at hl 1 rfl) ?_
  refine gz_get (ci := 9) (v := Value.ref a3) (C := "CommitLedgerModel$Version") (T := F_Ve) (N := 11) hx hb hts i_Ve hown hK Z f_n rfl 2 (by decide) kf_Ve_18 rfl d_Ve_drop_17 ?_
  refine lv_iload_n hx hb d_Ve_drop_20 rfl (lv_at hl 2 rfl) ?_
  refine gz_iald (j := s0) hx hb hK Z 0 f_n_3 ht0 (by omega) (rfl) (by decide) d_Ve_drop_21 ?_
  refine gx_topi (y := nI (fr s0)) rfl ?_
  refine lv_istore_n (lv' := [(3, Value.int (nI (fr s0))), (2, Value.int (nI ((fr (s0 + 1)) - (fr s0)))), (0, Value.ref a), (1, Value.int (nI s0))]) hx hb d_Ve_drop_22 rfl hl (by decide) rfl (fun ls hl => ?_)
  have hl : lv_has ls 4 [(3, Value.int (nI (fr s0 + 0))), (2, Value.int (nI (fr (s0 + 1) - fr s0))), (0, Value.ref a), (1, Value.int (nI s0))] := hl
  have f_n_5_n : h (n + 5) = some ((a5, Sum.inl (cI, 4096, Sum.inl (gi (gsh (fr s0) (fr (s0 + 1) - fr s0) 0 dc)))) : Nat × va_E) := by rw [gsh_0]; exact f_n_5
  have f_n_6_n : h (n + 6) = some ((a6, Sum.inl (cZ, 4096, Sum.inl (gsh (fr s0) (fr (s0 + 1) - fr s0) 0 lv))) : Nat × va_E) := by rw [gsh_0]; exact f_n_6
  have f_n_7_n : h (n + 7) = some ((a7, Sum.inl (cZ, 4096, Sum.inl (gsh (fr s0) (fr (s0 + 1) - fr s0) 0 lt))) : Nat × va_E) := by rw [gsh_0]; exact f_n_7
  refine gz_loop (N := (fr sg - fr (s0 + 1))) (pc := 23) (fun _ => 0) (fun _ => 0) (fun k h9 ls => gm_g h h9 [n, n + 1, n + 2, n + 3, n + 4, n + 5, n + 6, n + 7] ∧ h9 n = some ((a, Sum.inr (9, [Value.ref a1, Value.ref a2, Value.ref a3, Value.ref a4, Value.ref a5, Value.ref a6, Value.ref a7, Value.int (nI sg), Value.int se, Value.int ow, Value.int nu])) : Nat × va_E) ∧ h9 (n + 1) = some ((a1, Sum.inl (cI, 4097, Sum.inl fl)) : Nat × va_E) ∧ h9 (n + 2) = some ((a2, Sum.inl (cI, 4097, Sum.inl li)) : Nat × va_E) ∧ h9 (n + 3) = some ((a3, Sum.inl (cI, 4098, Sum.inl (gi fr))) : Nat × va_E) ∧ h9 (n + 4) = some ((a4, Sum.inl (cI, 4097, Sum.inl mg)) : Nat × va_E) ∧ h9 (n + 5) = some ((a5, Sum.inl (cI, 4096, Sum.inl (gi (gsh (fr s0) (fr (s0 + 1) - fr s0) k dc)))) : Nat × va_E) ∧ h9 (n + 6) = some ((a6, Sum.inl (cZ, 4096, Sum.inl (gsh (fr s0) (fr (s0 + 1) - fr s0) k lv))) : Nat × va_E) ∧ h9 (n + 7) = some ((a7, Sum.inl (cZ, 4096, Sum.inl (gsh (fr s0) (fr (s0 + 1) - fr s0) k lt))) : Nat × va_E) ∧ lv_has ls 4 [(3, Value.int (nI (fr s0 + k))), (2, Value.int (nI (fr (s0 + 1) - fr s0))), (0, Value.ref a), (1, Value.int (nI s0))]) (fun k w1 H locs ls hk hI Z ihk => ?_) (fun w1 H locs ls hI Z => ?_) ((fr sg - fr (s0 + 1))) 0 _ _ _ _ (Nat.zero_add _) ⟨hU, f_n, f_n_1, f_n_2, f_n_3, f_n_4, f_n_5_n, f_n_6_n, f_n_7_n, lv_sub hl [0, 1, 2, 3] rfl⟩ Z
  · obtain ⟨hU, f_n_w1, f_n_1_w1, f_n_2_w1, f_n_3_w1, f_n_4_w1, f_n_5_w1, f_n_6_w1, f_n_7_w1, hl⟩ := hI
    have e_w1 := hU
    refine lv_iload_n hx hb d_Ve_drop_23 rfl (lv_at hl 0 rfl) ?_
    refine lv_iload_n hx hb d_Ve_drop_24 rfl (lv_at hl 1 rfl) ?_
    refine lv_iadd hx hb d_Ve_drop_25 ?_
    refine gx_topi (y := nI ((fr s0 + k) + (fr (s0 + 1) - fr s0))) (nI_add _ _) ?_
    refine lv_aload_n hx hb d_Ve_drop_26 rfl (lv_at hl 2 rfl) ?_
    refine gz_call (ig := .invokevirtual 44) (av := [Value.ref a]) Z (fun ws hM => k_Ve_docs l htr D tys z _ ws w1 hM cI cZ n a a1 a2 a3 a4 a5 a6 a7 fl li mg (gsh (fr s0) (fr (s0 + 1) - fr s0) k lv) (gsh (fr s0) (fr (s0 + 1) - fr s0) k lt) fr (gsh (fr s0) (fr (s0 + 1) - fr s0) k dc) sg se ow nu f_n_w1 f_n_1_w1 f_n_2_w1 f_n_3_w1 f_n_4_w1 f_n_5_w1 f_n_6_w1 f_n_7_w1 ht0 ht1 hsg) (gx_invV (As := []) (rest := [Value.int (nI ((fr s0 + k) + (fr (s0 + 1) - fr s0)))]) hx hb hown hts km_Ve_44 kI_Ve_docs kV_Ve_docs kc_Ve_docs (by decide) (show (parseMethodDescriptor y_Ve_docs.desc).map (fun d => d.parameters.length) = some 0 by decide +kernel) (gz_recv (ci := 9) hK Z rfl f_n_w1) rfl rfl d_Ve_drop_27) (gx_cw (z := 0) hts kc_Ve_docs kN_Ve rfl rfl ⟨Nat.le_of_ble_eq_true rfl, Nat.le_of_ble_eq_true rfl⟩) hb hml hz hK hY hAz hA hl.1 (lv_room (Nat.le_of_ble_eq_true rfl)) d_Ve_drop_27 ⟨Nat.le_of_ble_eq_true rfl, Nat.le_of_ble_eq_true rfl⟩ (fun v2 h3 H locs hp Z => ?_) (fun x2 E9 ce h3 H locs hp hce Z => ?_)
    · rcases hp with ⟨hv9, e_h3⟩
      cases hv9
      rw [e_h3] at Z
      refine W.eq (g2 := F0 m 30 ls [Value.int (nI (fr sg)), Value.int (nI ((fr s0 + k) + (fr (s0 + 1) - fr s0)))]) rfl ?_
      refine lv_icmp_ge (tgt := 81) hx hb d_Ve_drop_30 (by decide) (fun c9 => absurd c9 (nI_ge (by omega) (by omega))) (fun _ => ?_)
      refine lv_aload_n hx hb d_Ve_drop_33 rfl (lv_at hl 2 rfl) ?_
      refine gz_get (ci := 9) (v := Value.ref a5) (C := "CommitLedgerModel$Version") (T := F_Ve) (N := 11) hx hb hts i_Ve hown hK Z f_n_w1 rfl 4 (by decide) kf_Ve_24 rfl d_Ve_drop_34 ?_
      refine lv_iload_n hx hb d_Ve_drop_37 rfl (lv_at hl 0 rfl) ?_
      refine lv_aload_n hx hb d_Ve_drop_38 rfl (lv_at hl 2 rfl) ?_
      refine gz_get (ci := 9) (v := Value.ref a5) (C := "CommitLedgerModel$Version") (T := F_Ve) (N := 11) hx hb hts i_Ve hown hK Z f_n_w1 rfl 4 (by decide) kf_Ve_24 rfl d_Ve_drop_39 ?_
      refine lv_iload_n hx hb d_Ve_drop_42 rfl (lv_at hl 0 rfl) ?_
      refine lv_iload_n hx hb d_Ve_drop_43 rfl (lv_at hl 1 rfl) ?_
      refine lv_iadd hx hb d_Ve_drop_44 ?_
      refine gx_topi (y := nI ((fr s0 + k) + (fr (s0 + 1) - fr s0))) (nI_add _ _) ?_
      refine gz_iald (j := (fr s0 + k) + (fr (s0 + 1) - fr s0)) hx hb hK Z 0 f_n_5_w1 ht0 (by omega) (rfl) (by decide) d_Ve_drop_45 ?_
      refine gx_topi (y := nI ((gsh (fr s0) (fr (s0 + 1) - fr s0) k dc) ((fr s0 + k) + (fr (s0 + 1) - fr s0)))) rfl ?_
      refine gx_topi (y := nI (dc (fr s0 + k + (fr (s0 + 1) - fr s0)))) (by rw [gsh_at (by omega)]) ?_
      refine gz_iast (j := fr s0 + k) hx hb hK Z 0 f_n_5_w1 ht0 ((by omega)) (rfl) (by decide) d_Ve_drop_46 (fun H locs Z => ?_)
      rw [gi_upc (X := (gsh (fr s0) (fr (s0 + 1) - fr s0) k dc)) (j := (fr s0 + k)) (t := (dc (fr s0 + k + (fr (s0 + 1) - fr s0)))) (rfl)] at Z
      obtain ⟨h5, e_h5⟩ : ∃ z9 : gm_M, z9 = gm_up w1 (n + 5) ((a5, Sum.inl (cI, 4096, Sum.inl (gi (va_up (gsh (fr s0) (fr (s0 + 1) - fr s0) k dc) (fr s0 + k) (dc (fr s0 + k + (fr (s0 + 1) - fr s0))))))) : Nat × va_E) := ⟨_, rfl⟩
      replace Z : gz D A s.heap h5 H locs := by rw [e_h5]; exact Z
      have f_n_5_h5 : h5 (n + 5) = some ((a5, Sum.inl (cI, 4096, Sum.inl (gi (va_up (gsh (fr s0) (fr (s0 + 1) - fr s0) k dc) (fr s0 + k) (dc (fr s0 + k + (fr (s0 + 1) - fr s0))))))) : Nat × va_E) := by rw [e_h5]; exact gm_self
      replace hU : gm_g h h5 [n, n + 1, n + 2, n + 3, n + 4, n + 5, n + 6, n + 7] := by rw [e_h5]; exact hU.put (by simp)
      refine lv_aload_n hx hb d_Ve_drop_47 rfl (lv_at hl 2 rfl) ?_
      have f_n_h5 : h5 n = some ((a, Sum.inr (9, [Value.ref a1, Value.ref a2, Value.ref a3, Value.ref a4, Value.ref a5, Value.ref a6, Value.ref a7, Value.int (nI sg), Value.int se, Value.int ow, Value.int nu])) : Nat × va_E) := by rw [e_h5]; exact gm_at f_n_w1 (by omega)
      refine gz_get (ci := 9) (v := Value.ref a6) (C := "CommitLedgerModel$Version") (T := F_Ve) (N := 11) hx hb hts i_Ve hown hK Z f_n_h5 rfl 5 (by decide) kf_Ve_27 rfl d_Ve_drop_48 ?_
      refine lv_iload_n hx hb d_Ve_drop_51 rfl (lv_at hl 0 rfl) ?_
      refine lv_aload_n hx hb d_Ve_drop_52 rfl (lv_at hl 2 rfl) ?_
      refine gz_get (ci := 9) (v := Value.ref a6) (C := "CommitLedgerModel$Version") (T := F_Ve) (N := 11) hx hb hts i_Ve hown hK Z f_n_h5 rfl 5 (by decide) kf_Ve_27 rfl d_Ve_drop_53 ?_
      refine lv_iload_n hx hb d_Ve_drop_56 rfl (lv_at hl 0 rfl) ?_
      refine lv_iload_n hx hb d_Ve_drop_57 rfl (lv_at hl 1 rfl) ?_
      refine lv_iadd hx hb d_Ve_drop_58 ?_
      refine gx_topi (y := nI ((fr s0 + k) + (fr (s0 + 1) - fr s0))) (nI_add _ _) ?_
      have f_n_6_h5 : h5 (n + 6) = some ((a6, Sum.inl (cZ, 4096, Sum.inl (gsh (fr s0) (fr (s0 + 1) - fr s0) k lv))) : Nat × va_E) := by rw [e_h5]; exact gm_at f_n_6_w1 (by omega)
      refine gz_zald (j := (fr s0 + k) + (fr (s0 + 1) - fr s0)) hx hb hK Z 1 f_n_6_h5 ht1 (by omega) (rfl) (by decide) d_Ve_drop_59 ?_
      refine gx_topi (y := lv (fr s0 + k + (fr (s0 + 1) - fr s0))) (by rw [gsh_at (by omega)]) ?_
      refine gz_zast (j := fr s0 + k) hx hb hK Z 1 f_n_6_h5 ht1 ((by omega)) (rfl) (by decide) d_Ve_drop_60 (fun H locs Z => ?_)
      obtain ⟨h6, e_h6⟩ : ∃ z9 : gm_M, z9 = gm_up h5 (n + 6) ((a6, Sum.inl (cZ, 4096, Sum.inl (upd (gsh (fr s0) (fr (s0 + 1) - fr s0) k lv) (fr s0 + k) (vp_nar .boolean (lv (fr s0 + k + (fr (s0 + 1) - fr s0))))))) : Nat × va_E) := ⟨_, rfl⟩
      replace Z : gz D A s.heap h6 H locs := by rw [e_h6]; exact Z
      have f_n_6_h6 : h6 (n + 6) = some ((a6, Sum.inl (cZ, 4096, Sum.inl (upd (gsh (fr s0) (fr (s0 + 1) - fr s0) k lv) (fr s0 + k) (vp_nar .boolean (lv (fr s0 + k + (fr (s0 + 1) - fr s0))))))) : Nat × va_E) := by rw [e_h6]; exact gm_self
      replace hU : gm_g h h6 [n, n + 1, n + 2, n + 3, n + 4, n + 5, n + 6, n + 7] := by rw [e_h6]; exact hU.put (by simp)
      refine lv_aload_n hx hb d_Ve_drop_61 rfl (lv_at hl 2 rfl) ?_
      have f_n_h6 : h6 n = some ((a, Sum.inr (9, [Value.ref a1, Value.ref a2, Value.ref a3, Value.ref a4, Value.ref a5, Value.ref a6, Value.ref a7, Value.int (nI sg), Value.int se, Value.int ow, Value.int nu])) : Nat × va_E) := by rw [e_h6]; exact gm_at f_n_h5 (by omega)
      refine gz_get (ci := 9) (v := Value.ref a7) (C := "CommitLedgerModel$Version") (T := F_Ve) (N := 11) hx hb hts i_Ve hown hK Z f_n_h6 rfl 6 (by decide) kf_Ve_31 rfl d_Ve_drop_62 ?_
      refine lv_iload_n hx hb d_Ve_drop_65 rfl (lv_at hl 0 rfl) ?_
      refine lv_aload_n hx hb d_Ve_drop_66 rfl (lv_at hl 2 rfl) ?_
      refine gz_get (ci := 9) (v := Value.ref a7) (C := "CommitLedgerModel$Version") (T := F_Ve) (N := 11) hx hb hts i_Ve hown hK Z f_n_h6 rfl 6 (by decide) kf_Ve_31 rfl d_Ve_drop_67 ?_
      refine lv_iload_n hx hb d_Ve_drop_70 rfl (lv_at hl 0 rfl) ?_
      refine lv_iload_n hx hb d_Ve_drop_71 rfl (lv_at hl 1 rfl) ?_
      refine lv_iadd hx hb d_Ve_drop_72 ?_
      refine gx_topi (y := nI ((fr s0 + k) + (fr (s0 + 1) - fr s0))) (nI_add _ _) ?_
      have f_n_7_h5 : h5 (n + 7) = some ((a7, Sum.inl (cZ, 4096, Sum.inl (gsh (fr s0) (fr (s0 + 1) - fr s0) k lt))) : Nat × va_E) := by rw [e_h5]; exact gm_at f_n_7_w1 (by omega)
      have f_n_7_h6 : h6 (n + 7) = some ((a7, Sum.inl (cZ, 4096, Sum.inl (gsh (fr s0) (fr (s0 + 1) - fr s0) k lt))) : Nat × va_E) := by rw [e_h6]; exact gm_at f_n_7_h5 (by omega)
      refine gz_zald (j := (fr s0 + k) + (fr (s0 + 1) - fr s0)) hx hb hK Z 1 f_n_7_h6 ht1 (by omega) (rfl) (by decide) d_Ve_drop_73 ?_
      refine gx_topi (y := lt (fr s0 + k + (fr (s0 + 1) - fr s0))) (by rw [gsh_at (by omega)]) ?_
      refine gz_zast (j := fr s0 + k) hx hb hK Z 1 f_n_7_h6 ht1 ((by omega)) (rfl) (by decide) d_Ve_drop_74 (fun H locs Z => ?_)
      obtain ⟨h7, e_h7⟩ : ∃ z9 : gm_M, z9 = gm_up h6 (n + 7) ((a7, Sum.inl (cZ, 4096, Sum.inl (upd (gsh (fr s0) (fr (s0 + 1) - fr s0) k lt) (fr s0 + k) (vp_nar .boolean (lt (fr s0 + k + (fr (s0 + 1) - fr s0))))))) : Nat × va_E) := ⟨_, rfl⟩
      replace Z : gz D A s.heap h7 H locs := by rw [e_h7]; exact Z
      have f_n_7_h7 : h7 (n + 7) = some ((a7, Sum.inl (cZ, 4096, Sum.inl (upd (gsh (fr s0) (fr (s0 + 1) - fr s0) k lt) (fr s0 + k) (vp_nar .boolean (lt (fr s0 + k + (fr (s0 + 1) - fr s0))))))) : Nat × va_E) := by rw [e_h7]; exact gm_self
      replace hU : gm_g h h7 [n, n + 1, n + 2, n + 3, n + 4, n + 5, n + 6, n + 7] := by rw [e_h7]; exact hU.put (by simp)
      refine lv_iinc (v := nI ((fr s0 + k) + 1)) (lv' := [(3, Value.int (nI ((fr s0 + k) + 1))), (2, Value.int (nI (fr (s0 + 1) - fr s0))), (0, Value.ref a), (1, Value.int (nI s0))]) hx hb d_Ve_drop_75 hl (k := 0) rfl (show nI (fr s0 + k) + 1 = nI ((fr s0 + k) + 1) from nI_1 _) (by decide) rfl (fun ls hl => ?_)
      refine lv_goto (tgt := 23) hx hb d_Ve_drop_78 (by decide) ?_
      have f_n_h7 : h7 n = some ((a, Sum.inr (9, [Value.ref a1, Value.ref a2, Value.ref a3, Value.ref a4, Value.ref a5, Value.ref a6, Value.ref a7, Value.int (nI sg), Value.int se, Value.int ow, Value.int nu])) : Nat × va_E) := by rw [e_h7]; exact gm_at f_n_h6 (by omega)
      have f_n_1_h5 : h5 (n + 1) = some ((a1, Sum.inl (cI, 4097, Sum.inl fl)) : Nat × va_E) := by rw [e_h5]; exact gm_at f_n_1_w1 (by omega)
      have f_n_1_h6 : h6 (n + 1) = some ((a1, Sum.inl (cI, 4097, Sum.inl fl)) : Nat × va_E) := by rw [e_h6]; exact gm_at f_n_1_h5 (by omega)
      have f_n_1_h7 : h7 (n + 1) = some ((a1, Sum.inl (cI, 4097, Sum.inl fl)) : Nat × va_E) := by rw [e_h7]; exact gm_at f_n_1_h6 (by omega)
      have f_n_2_h5 : h5 (n + 2) = some ((a2, Sum.inl (cI, 4097, Sum.inl li)) : Nat × va_E) := by rw [e_h5]; exact gm_at f_n_2_w1 (by omega)
      have f_n_2_h6 : h6 (n + 2) = some ((a2, Sum.inl (cI, 4097, Sum.inl li)) : Nat × va_E) := by rw [e_h6]; exact gm_at f_n_2_h5 (by omega)
      have f_n_2_h7 : h7 (n + 2) = some ((a2, Sum.inl (cI, 4097, Sum.inl li)) : Nat × va_E) := by rw [e_h7]; exact gm_at f_n_2_h6 (by omega)
      have f_n_3_h5 : h5 (n + 3) = some ((a3, Sum.inl (cI, 4098, Sum.inl (gi fr))) : Nat × va_E) := by rw [e_h5]; exact gm_at f_n_3_w1 (by omega)
      have f_n_3_h6 : h6 (n + 3) = some ((a3, Sum.inl (cI, 4098, Sum.inl (gi fr))) : Nat × va_E) := by rw [e_h6]; exact gm_at f_n_3_h5 (by omega)
      have f_n_3_h7 : h7 (n + 3) = some ((a3, Sum.inl (cI, 4098, Sum.inl (gi fr))) : Nat × va_E) := by rw [e_h7]; exact gm_at f_n_3_h6 (by omega)
      have f_n_4_h5 : h5 (n + 4) = some ((a4, Sum.inl (cI, 4097, Sum.inl mg)) : Nat × va_E) := by rw [e_h5]; exact gm_at f_n_4_w1 (by omega)
      have f_n_4_h6 : h6 (n + 4) = some ((a4, Sum.inl (cI, 4097, Sum.inl mg)) : Nat × va_E) := by rw [e_h6]; exact gm_at f_n_4_h5 (by omega)
      have f_n_4_h7 : h7 (n + 4) = some ((a4, Sum.inl (cI, 4097, Sum.inl mg)) : Nat × va_E) := by rw [e_h7]; exact gm_at f_n_4_h6 (by omega)
      have f_n_5_h6 : h6 (n + 5) = some ((a5, Sum.inl (cI, 4096, Sum.inl (gi (va_up (gsh (fr s0) (fr (s0 + 1) - fr s0) k dc) (fr s0 + k) (dc (fr s0 + k + (fr (s0 + 1) - fr s0))))))) : Nat × va_E) := by rw [e_h6]; exact gm_at f_n_5_h5 (by omega)
      have f_n_5_h7 : h7 (n + 5) = some ((a5, Sum.inl (cI, 4096, Sum.inl (gi (va_up (gsh (fr s0) (fr (s0 + 1) - fr s0) k dc) (fr s0 + k) (dc (fr s0 + k + (fr (s0 + 1) - fr s0))))))) : Nat × va_E) := by rw [e_h7]; exact gm_at f_n_5_h6 (by omega)
      have f_n_5_n : h7 (n + 5) = some ((a5, Sum.inl (cI, 4096, Sum.inl (gi (gsh (fr s0) (fr (s0 + 1) - fr s0) (k + 1) dc)))) : Nat × va_E) := by rw [← gsh_s]; exact f_n_5_h7
      have f_n_6_h7 : h7 (n + 6) = some ((a6, Sum.inl (cZ, 4096, Sum.inl (upd (gsh (fr s0) (fr (s0 + 1) - fr s0) k lv) (fr s0 + k) (vp_nar .boolean (lv (fr s0 + k + (fr (s0 + 1) - fr s0))))))) : Nat × va_E) := by rw [e_h7]; exact gm_at f_n_6_h6 (by omega)
      have f_n_6_n : h7 (n + 6) = some ((a6, Sum.inl (cZ, 4096, Sum.inl (gsh (fr s0) (fr (s0 + 1) - fr s0) (k + 1) lv))) : Nat × va_E) := by rw [← gsh_z (hb1 _ (by omega))]; exact f_n_6_h7
      have f_n_7_n : h7 (n + 7) = some ((a7, Sum.inl (cZ, 4096, Sum.inl (gsh (fr s0) (fr (s0 + 1) - fr s0) (k + 1) lt))) : Nat × va_E) := by rw [← gsh_z (hb2 _ (by omega))]; exact f_n_7_h7
      exact ihk _ _ _ _ ⟨hU, f_n_h7, f_n_1_h7, f_n_2_h7, f_n_3_h7, f_n_4_h7, f_n_5_n, f_n_6_n, f_n_7_n, lv_sub hl [0, 1, 2, 3] rfl⟩ Z
    · rcases hp with ⟨hv9, e_h3⟩
      cases hv9
  · obtain ⟨hU, f_n_w1, f_n_1_w1, f_n_2_w1, f_n_3_w1, f_n_4_w1, f_n_5_w1, f_n_6_w1, f_n_7_w1, hl⟩ := hI
    have e_w1 := hU
    refine lv_iload_n hx hb d_Ve_drop_23 rfl (lv_at hl 0 rfl) ?_
    refine lv_iload_n hx hb d_Ve_drop_24 rfl (lv_at hl 1 rfl) ?_
    refine lv_iadd hx hb d_Ve_drop_25 ?_
    refine gx_topi (y := nI ((fr s0 + (fr sg - fr (s0 + 1))) + (fr (s0 + 1) - fr s0))) (nI_add _ _) ?_
    refine lv_aload_n hx hb d_Ve_drop_26 rfl (lv_at hl 2 rfl) ?_
    refine gz_call (ig := .invokevirtual 44) (av := [Value.ref a]) Z (fun ws hM => k_Ve_docs l htr D tys z _ ws w1 hM cI cZ n a a1 a2 a3 a4 a5 a6 a7 fl li mg (gsh (fr s0) (fr (s0 + 1) - fr s0) (fr sg - fr (s0 + 1)) lv) (gsh (fr s0) (fr (s0 + 1) - fr s0) (fr sg - fr (s0 + 1)) lt) fr (gsh (fr s0) (fr (s0 + 1) - fr s0) (fr sg - fr (s0 + 1)) dc) sg se ow nu f_n_w1 f_n_1_w1 f_n_2_w1 f_n_3_w1 f_n_4_w1 f_n_5_w1 f_n_6_w1 f_n_7_w1 ht0 ht1 hsg) (gx_invV (As := []) (rest := [Value.int (nI ((fr s0 + (fr sg - fr (s0 + 1))) + (fr (s0 + 1) - fr s0)))]) hx hb hown hts km_Ve_44 kI_Ve_docs kV_Ve_docs kc_Ve_docs (by decide) (show (parseMethodDescriptor y_Ve_docs.desc).map (fun d => d.parameters.length) = some 0 by decide +kernel) (gz_recv (ci := 9) hK Z rfl f_n_w1) rfl rfl d_Ve_drop_27) (gx_cw (z := 0) hts kc_Ve_docs kN_Ve rfl rfl ⟨Nat.le_of_ble_eq_true rfl, Nat.le_of_ble_eq_true rfl⟩) hb hml hz hK hY hAz hA hl.1 (lv_room (Nat.le_of_ble_eq_true rfl)) d_Ve_drop_27 ⟨Nat.le_of_ble_eq_true rfl, Nat.le_of_ble_eq_true rfl⟩ (fun v8 h9 H locs hp Z => ?_) (fun x8 E9 ce h9 H locs hp hce Z => ?_)
    · rcases hp with ⟨hv9, e_h9⟩
      cases hv9
      rw [e_h9] at Z
      refine W.eq (g2 := F0 m 30 ls [Value.int (nI (fr sg)), Value.int (nI ((fr s0 + (fr sg - fr (s0 + 1))) + (fr (s0 + 1) - fr s0)))]) rfl ?_
      refine lv_icmp_ge (tgt := 81) hx hb d_Ve_drop_30 (by decide) (fun _ => ?_) (fun c9 => absurd (nI_le (by omega) (by omega)) c9)
      refine lv_iload_n hx hb d_Ve_drop_81 rfl (lv_at hl 3 rfl) ?_
      refine lv_istore_n (lv' := [(3, Value.int (nI s0)), (2, Value.int (nI (fr (s0 + 1) - fr s0))), (0, Value.ref a), (1, Value.int (nI s0))]) hx hb d_Ve_drop_82 rfl hl (by decide) rfl (fun ls hl => ?_)
      have hl : lv_has ls 4 [(3, Value.int (nI (s0 + 0))), (2, Value.int (nI (fr (s0 + 1) - fr s0))), (0, Value.ref a), (1, Value.int (nI s0))] := lv_sub hl [0, 1, 2, 3] rfl
      have f_n_1_n : w1 (n + 1) = some ((a1, Sum.inl (cI, 4097, Sum.inl (gsh s0 1 0 fl))) : Nat × va_E) := by rw [gsh_0]; exact f_n_1_w1
      have f_n_2_n : w1 (n + 2) = some ((a2, Sum.inl (cI, 4097, Sum.inl (gsh s0 1 0 li))) : Nat × va_E) := by rw [gsh_0]; exact f_n_2_w1
      have f_n_4_n : w1 (n + 4) = some ((a4, Sum.inl (cI, 4097, Sum.inl (gsh s0 1 0 mg))) : Nat × va_E) := by rw [gsh_0]; exact f_n_4_w1
      refine gz_loop (N := (sg - (s0 + 1))) (pc := 83) (fun _ => 0) (fun _ => 0) (fun k h9 ls => gm_g h h9 [n, n + 1, n + 2, n + 3, n + 4, n + 5, n + 6, n + 7] ∧ h9 n = some ((a, Sum.inr (9, [Value.ref a1, Value.ref a2, Value.ref a3, Value.ref a4, Value.ref a5, Value.ref a6, Value.ref a7, Value.int (nI sg), Value.int se, Value.int ow, Value.int nu])) : Nat × va_E) ∧ h9 (n + 1) = some ((a1, Sum.inl (cI, 4097, Sum.inl (gsh s0 1 k fl))) : Nat × va_E) ∧ h9 (n + 2) = some ((a2, Sum.inl (cI, 4097, Sum.inl (gsh s0 1 k li))) : Nat × va_E) ∧ h9 (n + 3) = some ((a3, Sum.inl (cI, 4098, Sum.inl (gi fr))) : Nat × va_E) ∧ h9 (n + 4) = some ((a4, Sum.inl (cI, 4097, Sum.inl (gsh s0 1 k mg))) : Nat × va_E) ∧ h9 (n + 5) = some ((a5, Sum.inl (cI, 4096, Sum.inl (gi (gsh (fr s0) (fr (s0 + 1) - fr s0) (fr sg - fr (s0 + 1)) dc)))) : Nat × va_E) ∧ h9 (n + 6) = some ((a6, Sum.inl (cZ, 4096, Sum.inl (gsh (fr s0) (fr (s0 + 1) - fr s0) (fr sg - fr (s0 + 1)) lv))) : Nat × va_E) ∧ h9 (n + 7) = some ((a7, Sum.inl (cZ, 4096, Sum.inl (gsh (fr s0) (fr (s0 + 1) - fr s0) (fr sg - fr (s0 + 1)) lt))) : Nat × va_E) ∧ lv_has ls 4 [(3, Value.int (nI (s0 + k))), (2, Value.int (nI (fr (s0 + 1) - fr s0))), (0, Value.ref a), (1, Value.int (nI s0))]) (fun k w11 H locs ls hk hI Z ihk => ?_) (fun w11 H locs ls hI Z => ?_) ((sg - (s0 + 1))) 0 _ _ _ _ (Nat.zero_add _) ⟨hU, f_n_w1, f_n_1_n, f_n_2_n, f_n_3_w1, f_n_4_n, f_n_5_w1, f_n_6_w1, f_n_7_w1, lv_sub hl [0, 1, 2, 3] rfl⟩ Z
      · obtain ⟨hU, f_n_w11, f_n_1_w11, f_n_2_w11, f_n_3_w11, f_n_4_w11, f_n_5_w11, f_n_6_w11, f_n_7_w11, hl⟩ := hI
        have e_w11 := hU
        refine lv_iload_n hx hb d_Ve_drop_83 rfl (lv_at hl 0 rfl) ?_
        refine lv_iconst (v := 1) hx hb d_Ve_drop_84 (by decide) ?_
        refine lv_iadd hx hb d_Ve_drop_85 ?_
        refine gx_topi (y := nI (s0 + k + 1)) (nI_1 _) ?_
        refine lv_aload_n hx hb d_Ve_drop_86 rfl (lv_at hl 2 rfl) ?_
        refine gz_get (ci := 9) (v := Value.int (nI sg)) (C := "CommitLedgerModel$Version") (T := F_Ve) (N := 11) hx hb hts i_Ve hown hK Z f_n_w11 rfl 7 (by decide) kf_Ve_34 rfl d_Ve_drop_87 ?_
        refine lv_icmp_ge (tgt := 141) hx hb d_Ve_drop_90 (by decide) (fun c9 => absurd c9 (nI_ge (by omega) (by omega))) (fun _ => ?_)
        refine lv_aload_n hx hb d_Ve_drop_93 rfl (lv_at hl 2 rfl) ?_
        refine gz_get (ci := 9) (v := Value.ref a1) (C := "CommitLedgerModel$Version") (T := F_Ve) (N := 11) hx hb hts i_Ve hown hK Z f_n_w11 rfl 0 (by decide) kf_Ve_9 rfl d_Ve_drop_94 ?_
        refine lv_iload_n hx hb d_Ve_drop_97 rfl (lv_at hl 0 rfl) ?_
        refine lv_aload_n hx hb d_Ve_drop_98 rfl (lv_at hl 2 rfl) ?_
        refine gz_get (ci := 9) (v := Value.ref a1) (C := "CommitLedgerModel$Version") (T := F_Ve) (N := 11) hx hb hts i_Ve hown hK Z f_n_w11 rfl 0 (by decide) kf_Ve_9 rfl d_Ve_drop_99 ?_
        refine lv_iload_n hx hb d_Ve_drop_102 rfl (lv_at hl 0 rfl) ?_
        refine lv_iconst (v := 1) hx hb d_Ve_drop_103 (by decide) ?_
        refine lv_iadd hx hb d_Ve_drop_104 ?_
        refine gx_topi (y := nI (s0 + k + 1)) (nI_1 _) ?_
        refine gz_iald (j := s0 + k + 1) hx hb hK Z 0 f_n_1_w11 ht0 ((by omega)) (rfl) (by decide) d_Ve_drop_105 ?_
        refine gx_topi (y := fl (s0 + k + 1)) (by rw [gsh_at (by omega)]) ?_
        refine gz_iast (j := s0 + k) hx hb hK Z 0 f_n_1_w11 ht0 ((by omega)) (rfl) (by decide) d_Ve_drop_106 (fun H locs Z => ?_)
        obtain ⟨h13, e_h13⟩ : ∃ z9 : gm_M, z9 = gm_up w11 (n + 1) ((a1, Sum.inl (cI, 4097, Sum.inl (upd (gsh s0 1 k fl) (s0 + k) (fl (s0 + k + 1))))) : Nat × va_E) := ⟨_, rfl⟩
        replace Z : gz D A s.heap h13 H locs := by rw [e_h13]; exact Z
        have f_n_1_h13 : h13 (n + 1) = some ((a1, Sum.inl (cI, 4097, Sum.inl (upd (gsh s0 1 k fl) (s0 + k) (fl (s0 + k + 1))))) : Nat × va_E) := by rw [e_h13]; exact gm_self
        replace hU : gm_g h h13 [n, n + 1, n + 2, n + 3, n + 4, n + 5, n + 6, n + 7] := by rw [e_h13]; exact hU.put (by simp)
        refine lv_aload_n hx hb d_Ve_drop_107 rfl (lv_at hl 2 rfl) ?_
        have f_n_h13 : h13 n = some ((a, Sum.inr (9, [Value.ref a1, Value.ref a2, Value.ref a3, Value.ref a4, Value.ref a5, Value.ref a6, Value.ref a7, Value.int (nI sg), Value.int se, Value.int ow, Value.int nu])) : Nat × va_E) := by rw [e_h13]; exact gm_at f_n_w11 (by omega)
        refine gz_get (ci := 9) (v := Value.ref a2) (C := "CommitLedgerModel$Version") (T := F_Ve) (N := 11) hx hb hts i_Ve hown hK Z f_n_h13 rfl 1 (by decide) kf_Ve_15 rfl d_Ve_drop_108 ?_
        refine lv_iload_n hx hb d_Ve_drop_111 rfl (lv_at hl 0 rfl) ?_
        refine lv_aload_n hx hb d_Ve_drop_112 rfl (lv_at hl 2 rfl) ?_
        refine gz_get (ci := 9) (v := Value.ref a2) (C := "CommitLedgerModel$Version") (T := F_Ve) (N := 11) hx hb hts i_Ve hown hK Z f_n_h13 rfl 1 (by decide) kf_Ve_15 rfl d_Ve_drop_113 ?_
        refine lv_iload_n hx hb d_Ve_drop_116 rfl (lv_at hl 0 rfl) ?_
        refine lv_iconst (v := 1) hx hb d_Ve_drop_117 (by decide) ?_
        refine lv_iadd hx hb d_Ve_drop_118 ?_
        refine gx_topi (y := nI (s0 + k + 1)) (nI_1 _) ?_
        have f_n_2_h13 : h13 (n + 2) = some ((a2, Sum.inl (cI, 4097, Sum.inl (gsh s0 1 k li))) : Nat × va_E) := by rw [e_h13]; exact gm_at f_n_2_w11 (by omega)
        refine gz_iald (j := s0 + k + 1) hx hb hK Z 0 f_n_2_h13 ht0 ((by omega)) (rfl) (by decide) d_Ve_drop_119 ?_
        refine gx_topi (y := li (s0 + k + 1)) (by rw [gsh_at (by omega)]) ?_
        refine gz_iast (j := s0 + k) hx hb hK Z 0 f_n_2_h13 ht0 ((by omega)) (rfl) (by decide) d_Ve_drop_120 (fun H locs Z => ?_)
        obtain ⟨h14, e_h14⟩ : ∃ z9 : gm_M, z9 = gm_up h13 (n + 2) ((a2, Sum.inl (cI, 4097, Sum.inl (upd (gsh s0 1 k li) (s0 + k) (li (s0 + k + 1))))) : Nat × va_E) := ⟨_, rfl⟩
        replace Z : gz D A s.heap h14 H locs := by rw [e_h14]; exact Z
        have f_n_2_h14 : h14 (n + 2) = some ((a2, Sum.inl (cI, 4097, Sum.inl (upd (gsh s0 1 k li) (s0 + k) (li (s0 + k + 1))))) : Nat × va_E) := by rw [e_h14]; exact gm_self
        replace hU : gm_g h h14 [n, n + 1, n + 2, n + 3, n + 4, n + 5, n + 6, n + 7] := by rw [e_h14]; exact hU.put (by simp)
        refine lv_aload_n hx hb d_Ve_drop_121 rfl (lv_at hl 2 rfl) ?_
        have f_n_h14 : h14 n = some ((a, Sum.inr (9, [Value.ref a1, Value.ref a2, Value.ref a3, Value.ref a4, Value.ref a5, Value.ref a6, Value.ref a7, Value.int (nI sg), Value.int se, Value.int ow, Value.int nu])) : Nat × va_E) := by rw [e_h14]; exact gm_at f_n_h13 (by omega)
        refine gz_get (ci := 9) (v := Value.ref a4) (C := "CommitLedgerModel$Version") (T := F_Ve) (N := 11) hx hb hts i_Ve hown hK Z f_n_h14 rfl 3 (by decide) kf_Ve_21 rfl d_Ve_drop_122 ?_
        refine lv_iload_n hx hb d_Ve_drop_125 rfl (lv_at hl 0 rfl) ?_
        refine lv_aload_n hx hb d_Ve_drop_126 rfl (lv_at hl 2 rfl) ?_
        refine gz_get (ci := 9) (v := Value.ref a4) (C := "CommitLedgerModel$Version") (T := F_Ve) (N := 11) hx hb hts i_Ve hown hK Z f_n_h14 rfl 3 (by decide) kf_Ve_21 rfl d_Ve_drop_127 ?_
        refine lv_iload_n hx hb d_Ve_drop_130 rfl (lv_at hl 0 rfl) ?_
        refine lv_iconst (v := 1) hx hb d_Ve_drop_131 (by decide) ?_
        refine lv_iadd hx hb d_Ve_drop_132 ?_
        refine gx_topi (y := nI (s0 + k + 1)) (nI_1 _) ?_
        have f_n_4_h13 : h13 (n + 4) = some ((a4, Sum.inl (cI, 4097, Sum.inl (gsh s0 1 k mg))) : Nat × va_E) := by rw [e_h13]; exact gm_at f_n_4_w11 (by omega)
        have f_n_4_h14 : h14 (n + 4) = some ((a4, Sum.inl (cI, 4097, Sum.inl (gsh s0 1 k mg))) : Nat × va_E) := by rw [e_h14]; exact gm_at f_n_4_h13 (by omega)
        refine gz_iald (j := s0 + k + 1) hx hb hK Z 0 f_n_4_h14 ht0 ((by omega)) (rfl) (by decide) d_Ve_drop_133 ?_
        refine gx_topi (y := mg (s0 + k + 1)) (by rw [gsh_at (by omega)]) ?_
        refine gz_iast (j := s0 + k) hx hb hK Z 0 f_n_4_h14 ht0 ((by omega)) (rfl) (by decide) d_Ve_drop_134 (fun H locs Z => ?_)
        obtain ⟨h15, e_h15⟩ : ∃ z9 : gm_M, z9 = gm_up h14 (n + 4) ((a4, Sum.inl (cI, 4097, Sum.inl (upd (gsh s0 1 k mg) (s0 + k) (mg (s0 + k + 1))))) : Nat × va_E) := ⟨_, rfl⟩
        replace Z : gz D A s.heap h15 H locs := by rw [e_h15]; exact Z
        have f_n_4_h15 : h15 (n + 4) = some ((a4, Sum.inl (cI, 4097, Sum.inl (upd (gsh s0 1 k mg) (s0 + k) (mg (s0 + k + 1))))) : Nat × va_E) := by rw [e_h15]; exact gm_self
        replace hU : gm_g h h15 [n, n + 1, n + 2, n + 3, n + 4, n + 5, n + 6, n + 7] := by rw [e_h15]; exact hU.put (by simp)
        refine lv_iinc (v := nI ((s0 + k) + 1)) (lv' := [(3, Value.int (nI ((s0 + k) + 1))), (2, Value.int (nI (fr (s0 + 1) - fr s0))), (0, Value.ref a), (1, Value.int (nI s0))]) hx hb d_Ve_drop_135 hl (k := 0) rfl (show nI (s0 + k) + 1 = nI ((s0 + k) + 1) from nI_1 _) (by decide) rfl (fun ls hl => ?_)
        refine lv_goto (tgt := 83) hx hb d_Ve_drop_138 (by decide) ?_
        have f_n_h15 : h15 n = some ((a, Sum.inr (9, [Value.ref a1, Value.ref a2, Value.ref a3, Value.ref a4, Value.ref a5, Value.ref a6, Value.ref a7, Value.int (nI sg), Value.int se, Value.int ow, Value.int nu])) : Nat × va_E) := by rw [e_h15]; exact gm_at f_n_h14 (by omega)
        have f_n_1_h14 : h14 (n + 1) = some ((a1, Sum.inl (cI, 4097, Sum.inl (upd (gsh s0 1 k fl) (s0 + k) (fl (s0 + k + 1))))) : Nat × va_E) := by rw [e_h14]; exact gm_at f_n_1_h13 (by omega)
        have f_n_1_h15 : h15 (n + 1) = some ((a1, Sum.inl (cI, 4097, Sum.inl (upd (gsh s0 1 k fl) (s0 + k) (fl (s0 + k + 1))))) : Nat × va_E) := by rw [e_h15]; exact gm_at f_n_1_h14 (by omega)
        have f_n_1_n : h15 (n + 1) = some ((a1, Sum.inl (cI, 4097, Sum.inl (gsh s0 1 (k + 1) fl))) : Nat × va_E) := by rw [← gsh_u]; exact f_n_1_h15
        have f_n_2_h15 : h15 (n + 2) = some ((a2, Sum.inl (cI, 4097, Sum.inl (upd (gsh s0 1 k li) (s0 + k) (li (s0 + k + 1))))) : Nat × va_E) := by rw [e_h15]; exact gm_at f_n_2_h14 (by omega)
        have f_n_2_n : h15 (n + 2) = some ((a2, Sum.inl (cI, 4097, Sum.inl (gsh s0 1 (k + 1) li))) : Nat × va_E) := by rw [← gsh_u]; exact f_n_2_h15
        have f_n_3_h13 : h13 (n + 3) = some ((a3, Sum.inl (cI, 4098, Sum.inl (gi fr))) : Nat × va_E) := by rw [e_h13]; exact gm_at f_n_3_w11 (by omega)
        have f_n_3_h14 : h14 (n + 3) = some ((a3, Sum.inl (cI, 4098, Sum.inl (gi fr))) : Nat × va_E) := by rw [e_h14]; exact gm_at f_n_3_h13 (by omega)
        have f_n_3_h15 : h15 (n + 3) = some ((a3, Sum.inl (cI, 4098, Sum.inl (gi fr))) : Nat × va_E) := by rw [e_h15]; exact gm_at f_n_3_h14 (by omega)
        have f_n_4_n : h15 (n + 4) = some ((a4, Sum.inl (cI, 4097, Sum.inl (gsh s0 1 (k + 1) mg))) : Nat × va_E) := by rw [← gsh_u]; exact f_n_4_h15
        have f_n_5_h13 : h13 (n + 5) = some ((a5, Sum.inl (cI, 4096, Sum.inl (gi (gsh (fr s0) (fr (s0 + 1) - fr s0) (fr sg - fr (s0 + 1)) dc)))) : Nat × va_E) := by rw [e_h13]; exact gm_at f_n_5_w11 (by omega)
        have f_n_5_h14 : h14 (n + 5) = some ((a5, Sum.inl (cI, 4096, Sum.inl (gi (gsh (fr s0) (fr (s0 + 1) - fr s0) (fr sg - fr (s0 + 1)) dc)))) : Nat × va_E) := by rw [e_h14]; exact gm_at f_n_5_h13 (by omega)
        have f_n_5_h15 : h15 (n + 5) = some ((a5, Sum.inl (cI, 4096, Sum.inl (gi (gsh (fr s0) (fr (s0 + 1) - fr s0) (fr sg - fr (s0 + 1)) dc)))) : Nat × va_E) := by rw [e_h15]; exact gm_at f_n_5_h14 (by omega)
        have f_n_6_h13 : h13 (n + 6) = some ((a6, Sum.inl (cZ, 4096, Sum.inl (gsh (fr s0) (fr (s0 + 1) - fr s0) (fr sg - fr (s0 + 1)) lv))) : Nat × va_E) := by rw [e_h13]; exact gm_at f_n_6_w11 (by omega)
        have f_n_6_h14 : h14 (n + 6) = some ((a6, Sum.inl (cZ, 4096, Sum.inl (gsh (fr s0) (fr (s0 + 1) - fr s0) (fr sg - fr (s0 + 1)) lv))) : Nat × va_E) := by rw [e_h14]; exact gm_at f_n_6_h13 (by omega)
        have f_n_6_h15 : h15 (n + 6) = some ((a6, Sum.inl (cZ, 4096, Sum.inl (gsh (fr s0) (fr (s0 + 1) - fr s0) (fr sg - fr (s0 + 1)) lv))) : Nat × va_E) := by rw [e_h15]; exact gm_at f_n_6_h14 (by omega)
        have f_n_7_h13 : h13 (n + 7) = some ((a7, Sum.inl (cZ, 4096, Sum.inl (gsh (fr s0) (fr (s0 + 1) - fr s0) (fr sg - fr (s0 + 1)) lt))) : Nat × va_E) := by rw [e_h13]; exact gm_at f_n_7_w11 (by omega)
        have f_n_7_h14 : h14 (n + 7) = some ((a7, Sum.inl (cZ, 4096, Sum.inl (gsh (fr s0) (fr (s0 + 1) - fr s0) (fr sg - fr (s0 + 1)) lt))) : Nat × va_E) := by rw [e_h14]; exact gm_at f_n_7_h13 (by omega)
        have f_n_7_h15 : h15 (n + 7) = some ((a7, Sum.inl (cZ, 4096, Sum.inl (gsh (fr s0) (fr (s0 + 1) - fr s0) (fr sg - fr (s0 + 1)) lt))) : Nat × va_E) := by rw [e_h15]; exact gm_at f_n_7_h14 (by omega)
        exact ihk _ _ _ _ ⟨hU, f_n_h15, f_n_1_n, f_n_2_n, f_n_3_h15, f_n_4_n, f_n_5_h15, f_n_6_h15, f_n_7_h15, lv_sub hl [0, 1, 2, 3] rfl⟩ Z
      · obtain ⟨hU, f_n_w11, f_n_1_w11, f_n_2_w11, f_n_3_w11, f_n_4_w11, f_n_5_w11, f_n_6_w11, f_n_7_w11, hl⟩ := hI
        have e_w11 := hU
        refine lv_iload_n hx hb d_Ve_drop_83 rfl (lv_at hl 0 rfl) ?_
        refine lv_iconst (v := 1) hx hb d_Ve_drop_84 (by decide) ?_
        refine lv_iadd hx hb d_Ve_drop_85 ?_
        refine gx_topi (y := nI (s0 + (sg - (s0 + 1)) + 1)) (nI_1 _) ?_
        refine lv_aload_n hx hb d_Ve_drop_86 rfl (lv_at hl 2 rfl) ?_
        refine gz_get (ci := 9) (v := Value.int (nI sg)) (C := "CommitLedgerModel$Version") (T := F_Ve) (N := 11) hx hb hts i_Ve hown hK Z f_n_w11 rfl 7 (by decide) kf_Ve_34 rfl d_Ve_drop_87 ?_
        refine lv_icmp_ge (tgt := 141) hx hb d_Ve_drop_90 (by decide) (fun _ => ?_) (fun c9 => absurd (nI_le (by omega) (by omega)) c9)
        refine lv_iload_n hx hb d_Ve_drop_141 rfl (lv_at hl 3 rfl) ?_
        refine lv_iconst (v := 1) hx hb d_Ve_drop_142 (by decide) ?_
        refine lv_iadd hx hb d_Ve_drop_143 ?_
        refine gx_topi (y := nI (s0 + 1)) (nI_1 _) ?_
        refine lv_istore_n (lv' := [(3, Value.int (nI (s0 + 1))), (2, Value.int (nI (fr (s0 + 1) - fr s0))), (0, Value.ref a), (1, Value.int (nI s0))]) hx hb d_Ve_drop_144 rfl hl (by decide) rfl (fun ls hl => ?_)
        have hl : lv_has ls 4 [(3, Value.int (nI (s0 + 1 + 0))), (2, Value.int (nI (fr (s0 + 1) - fr s0))), (0, Value.ref a), (1, Value.int (nI s0))] := lv_sub hl [0, 1, 2, 3] rfl
        have f_n_3_n : w11 (n + 3) = some ((a3, Sum.inl (cI, 4098, Sum.inl (gi (gfs (s0 + 1) (fr (s0 + 1) - fr s0) 0 fr)))) : Nat × va_E) := by rw [gfs_0]; exact f_n_3_w11
        refine gz_loop (N := (sg - (s0 + 1))) (pc := 145) (fun _ => 0) (fun _ => 0) (fun k h9 ls => gm_g h h9 [n, n + 1, n + 2, n + 3, n + 4, n + 5, n + 6, n + 7] ∧ h9 n = some ((a, Sum.inr (9, [Value.ref a1, Value.ref a2, Value.ref a3, Value.ref a4, Value.ref a5, Value.ref a6, Value.ref a7, Value.int (nI sg), Value.int se, Value.int ow, Value.int nu])) : Nat × va_E) ∧ h9 (n + 1) = some ((a1, Sum.inl (cI, 4097, Sum.inl (gsh s0 1 (sg - (s0 + 1)) fl))) : Nat × va_E) ∧ h9 (n + 2) = some ((a2, Sum.inl (cI, 4097, Sum.inl (gsh s0 1 (sg - (s0 + 1)) li))) : Nat × va_E) ∧ h9 (n + 3) = some ((a3, Sum.inl (cI, 4098, Sum.inl (gi (gfs (s0 + 1) (fr (s0 + 1) - fr s0) k fr)))) : Nat × va_E) ∧ h9 (n + 4) = some ((a4, Sum.inl (cI, 4097, Sum.inl (gsh s0 1 (sg - (s0 + 1)) mg))) : Nat × va_E) ∧ h9 (n + 5) = some ((a5, Sum.inl (cI, 4096, Sum.inl (gi (gsh (fr s0) (fr (s0 + 1) - fr s0) (fr sg - fr (s0 + 1)) dc)))) : Nat × va_E) ∧ h9 (n + 6) = some ((a6, Sum.inl (cZ, 4096, Sum.inl (gsh (fr s0) (fr (s0 + 1) - fr s0) (fr sg - fr (s0 + 1)) lv))) : Nat × va_E) ∧ h9 (n + 7) = some ((a7, Sum.inl (cZ, 4096, Sum.inl (gsh (fr s0) (fr (s0 + 1) - fr s0) (fr sg - fr (s0 + 1)) lt))) : Nat × va_E) ∧ lv_has ls 4 [(3, Value.int (nI (s0 + 1 + k))), (2, Value.int (nI (fr (s0 + 1) - fr s0))), (0, Value.ref a), (1, Value.int (nI s0))]) (fun k w17 H locs ls hk hI Z ihk => ?_) (fun w17 H locs ls hI Z => ?_) ((sg - (s0 + 1))) 0 _ _ _ _ (Nat.zero_add _) ⟨hU, f_n_w11, f_n_1_w11, f_n_2_w11, f_n_3_n, f_n_4_w11, f_n_5_w11, f_n_6_w11, f_n_7_w11, lv_sub hl [0, 1, 2, 3] rfl⟩ Z
        · obtain ⟨hU, f_n_w17, f_n_1_w17, f_n_2_w17, f_n_3_w17, f_n_4_w17, f_n_5_w17, f_n_6_w17, f_n_7_w17, hl⟩ := hI
          have e_w17 := hU
          refine lv_iload_n hx hb d_Ve_drop_145 rfl (lv_at hl 0 rfl) ?_
          refine lv_aload_n hx hb d_Ve_drop_146 rfl (lv_at hl 2 rfl) ?_
          refine gz_get (ci := 9) (v := Value.int (nI sg)) (C := "CommitLedgerModel$Version") (T := F_Ve) (N := 11) hx hb hts i_Ve hown hK Z f_n_w17 rfl 7 (by decide) kf_Ve_34 rfl d_Ve_drop_147 ?_
          refine lv_icmp_ge (tgt := 175) hx hb d_Ve_drop_150 (by decide) (fun c9 => absurd c9 (nI_ge (by omega) (by omega))) (fun _ => ?_)
          refine lv_aload_n hx hb d_Ve_drop_153 rfl (lv_at hl 2 rfl) ?_
          refine gz_get (ci := 9) (v := Value.ref a3) (C := "CommitLedgerModel$Version") (T := F_Ve) (N := 11) hx hb hts i_Ve hown hK Z f_n_w17 rfl 2 (by decide) kf_Ve_18 rfl d_Ve_drop_154 ?_
          refine lv_iload_n hx hb d_Ve_drop_157 rfl (lv_at hl 0 rfl) ?_
          refine lv_aload_n hx hb d_Ve_drop_158 rfl (lv_at hl 2 rfl) ?_
          refine gz_get (ci := 9) (v := Value.ref a3) (C := "CommitLedgerModel$Version") (T := F_Ve) (N := 11) hx hb hts i_Ve hown hK Z f_n_w17 rfl 2 (by decide) kf_Ve_18 rfl d_Ve_drop_159 ?_
          refine lv_iload_n hx hb d_Ve_drop_162 rfl (lv_at hl 0 rfl) ?_
          refine lv_iconst (v := 1) hx hb d_Ve_drop_163 (by decide) ?_
          refine lv_iadd hx hb d_Ve_drop_164 ?_
          refine gx_topi (y := nI (s0 + 1 + k + 1)) (nI_1 _) ?_
          refine gz_iald (j := s0 + 1 + k + 1) hx hb hK Z 0 f_n_3_w17 ht0 ((by omega)) (rfl) (by decide) d_Ve_drop_165 ?_
          refine gx_topi (y := nI ((gfs (s0 + 1) (fr (s0 + 1) - fr s0) k fr) (s0 + 1 + k + 1))) rfl ?_
          refine gx_topi (y := nI (fr (s0 + 1 + k + 1))) (by rw [gfs_at (by omega)]) ?_
          refine lv_iload_n hx hb d_Ve_drop_166 rfl (lv_at hl 1 rfl) ?_
          refine lv_isub hx hb d_Ve_drop_167 ?_
          refine gx_topi (y := nI ((fr (s0 + 1 + k + 1)) - (fr (s0 + 1) - fr s0))) (pk_sub (a := fr (s0 + 1 + k + 1)) (b := fr (s0 + 1) - fr s0) ((by have h9 := hmo (s0 + 1) (s0 + 1 + k + 1) (by omega) (by omega); omega))) ?_
          refine gz_iast (j := s0 + 1 + k) hx hb hK Z 0 f_n_3_w17 ht0 ((by omega)) (rfl) (by decide) d_Ve_drop_168 (fun H locs Z => ?_)
          rw [gi_upc (X := (gfs (s0 + 1) (fr (s0 + 1) - fr s0) k fr)) (j := (s0 + 1 + k)) (t := ((fr (s0 + 1 + k + 1)) - (fr (s0 + 1) - fr s0))) (rfl)] at Z
          obtain ⟨h19, e_h19⟩ : ∃ z9 : gm_M, z9 = gm_up w17 (n + 3) ((a3, Sum.inl (cI, 4098, Sum.inl (gi (va_up (gfs (s0 + 1) (fr (s0 + 1) - fr s0) k fr) (s0 + 1 + k) ((fr (s0 + 1 + k + 1)) - (fr (s0 + 1) - fr s0)))))) : Nat × va_E) := ⟨_, rfl⟩
          replace Z : gz D A s.heap h19 H locs := by rw [e_h19]; exact Z
          have f_n_3_h19 : h19 (n + 3) = some ((a3, Sum.inl (cI, 4098, Sum.inl (gi (va_up (gfs (s0 + 1) (fr (s0 + 1) - fr s0) k fr) (s0 + 1 + k) ((fr (s0 + 1 + k + 1)) - (fr (s0 + 1) - fr s0)))))) : Nat × va_E) := by rw [e_h19]; exact gm_self
          replace hU : gm_g h h19 [n, n + 1, n + 2, n + 3, n + 4, n + 5, n + 6, n + 7] := by rw [e_h19]; exact hU.put (by simp)
          refine lv_iinc (v := nI ((s0 + 1 + k) + 1)) (lv' := [(3, Value.int (nI ((s0 + 1 + k) + 1))), (2, Value.int (nI (fr (s0 + 1) - fr s0))), (0, Value.ref a), (1, Value.int (nI s0))]) hx hb d_Ve_drop_169 hl (k := 0) rfl (show nI (s0 + 1 + k) + 1 = nI ((s0 + 1 + k) + 1) from nI_1 _) (by decide) rfl (fun ls hl => ?_)
          refine lv_goto (tgt := 145) hx hb d_Ve_drop_172 (by decide) ?_
          have f_n_h19 : h19 n = some ((a, Sum.inr (9, [Value.ref a1, Value.ref a2, Value.ref a3, Value.ref a4, Value.ref a5, Value.ref a6, Value.ref a7, Value.int (nI sg), Value.int se, Value.int ow, Value.int nu])) : Nat × va_E) := by rw [e_h19]; exact gm_at f_n_w17 (by omega)
          have f_n_1_h19 : h19 (n + 1) = some ((a1, Sum.inl (cI, 4097, Sum.inl (gsh s0 1 (sg - (s0 + 1)) fl))) : Nat × va_E) := by rw [e_h19]; exact gm_at f_n_1_w17 (by omega)
          have f_n_2_h19 : h19 (n + 2) = some ((a2, Sum.inl (cI, 4097, Sum.inl (gsh s0 1 (sg - (s0 + 1)) li))) : Nat × va_E) := by rw [e_h19]; exact gm_at f_n_2_w17 (by omega)
          have f_n_3_n : h19 (n + 3) = some ((a3, Sum.inl (cI, 4098, Sum.inl (gi (gfs (s0 + 1) (fr (s0 + 1) - fr s0) (k + 1) fr)))) : Nat × va_E) := by rw [← gfs_s]; exact f_n_3_h19
          have f_n_4_h19 : h19 (n + 4) = some ((a4, Sum.inl (cI, 4097, Sum.inl (gsh s0 1 (sg - (s0 + 1)) mg))) : Nat × va_E) := by rw [e_h19]; exact gm_at f_n_4_w17 (by omega)
          have f_n_5_h19 : h19 (n + 5) = some ((a5, Sum.inl (cI, 4096, Sum.inl (gi (gsh (fr s0) (fr (s0 + 1) - fr s0) (fr sg - fr (s0 + 1)) dc)))) : Nat × va_E) := by rw [e_h19]; exact gm_at f_n_5_w17 (by omega)
          have f_n_6_h19 : h19 (n + 6) = some ((a6, Sum.inl (cZ, 4096, Sum.inl (gsh (fr s0) (fr (s0 + 1) - fr s0) (fr sg - fr (s0 + 1)) lv))) : Nat × va_E) := by rw [e_h19]; exact gm_at f_n_6_w17 (by omega)
          have f_n_7_h19 : h19 (n + 7) = some ((a7, Sum.inl (cZ, 4096, Sum.inl (gsh (fr s0) (fr (s0 + 1) - fr s0) (fr sg - fr (s0 + 1)) lt))) : Nat × va_E) := by rw [e_h19]; exact gm_at f_n_7_w17 (by omega)
          exact ihk _ _ _ _ ⟨hU, f_n_h19, f_n_1_h19, f_n_2_h19, f_n_3_n, f_n_4_h19, f_n_5_h19, f_n_6_h19, f_n_7_h19, lv_sub hl [0, 1, 2, 3] rfl⟩ Z
        · obtain ⟨hU, f_n_w17, f_n_1_w17, f_n_2_w17, f_n_3_w17, f_n_4_w17, f_n_5_w17, f_n_6_w17, f_n_7_w17, hl⟩ := hI
          have e_w17 := hU
          refine lv_iload_n hx hb d_Ve_drop_145 rfl (lv_at hl 0 rfl) ?_
          refine lv_aload_n hx hb d_Ve_drop_146 rfl (lv_at hl 2 rfl) ?_
          refine gz_get (ci := 9) (v := Value.int (nI sg)) (C := "CommitLedgerModel$Version") (T := F_Ve) (N := 11) hx hb hts i_Ve hown hK Z f_n_w17 rfl 7 (by decide) kf_Ve_34 rfl d_Ve_drop_147 ?_
          refine lv_icmp_ge (tgt := 175) hx hb d_Ve_drop_150 (by decide) (fun _ => ?_) (fun c9 => absurd (nI_le (by omega) (by omega)) c9)
          refine lv_aload_n hx hb d_Ve_drop_175 rfl (lv_at hl 2 rfl) ?_
          refine lv_dup hx hb d_Ve_drop_176 rfl ?_
          refine gz_get (ci := 9) (v := Value.int (nI sg)) (C := "CommitLedgerModel$Version") (T := F_Ve) (N := 11) hx hb hts i_Ve hown hK Z f_n_w17 rfl 7 (by decide) kf_Ve_34 rfl d_Ve_drop_177 ?_
          refine lv_iconst (v := 1) hx hb d_Ve_drop_180 (by decide) ?_
          refine lv_isub hx hb d_Ve_drop_181 ?_
          refine gx_topi (y := nI (sg - 1)) (pk_sub (a := sg) (b := 1) (by omega)) ?_
          refine gz_put (ci := 9) (v := Value.int (nI (sg - 1))) (ty := .int) (C := "CommitLedgerModel$Version") (T := F_Ve) (N := 11) hx hb hts i_Ve t_Ve_ok n_Ve hown hK Z f_n_w17 rfl 7 (by decide) kf_Ve_34 rfl (by decide +kernel) rfl rfl (Nat.le_of_ble_eq_true rfl) d_Ve_drop_182 (fun H locs Z => ?_)
          obtain ⟨h21, e_h21⟩ : ∃ z9 : gm_M, z9 = gm_up w17 n ((a, Sum.inr (9, [Value.ref a1, Value.ref a2, Value.ref a3, Value.ref a4, Value.ref a5, Value.ref a6, Value.ref a7, Value.int (nI (sg - 1)), Value.int se, Value.int ow, Value.int nu])) : Nat × va_E) := ⟨_, rfl⟩
          replace Z : gz D A s.heap h21 H locs := by rw [e_h21]; exact Z
          have f_n_h21 : h21 n = some ((a, Sum.inr (9, [Value.ref a1, Value.ref a2, Value.ref a3, Value.ref a4, Value.ref a5, Value.ref a6, Value.ref a7, Value.int (nI (sg - 1)), Value.int se, Value.int ow, Value.int nu])) : Nat × va_E) := by rw [e_h21]; exact gm_self
          replace hU : gm_g h h21 [n, n + 1, n + 2, n + 3, n + 4, n + 5, n + 6, n + 7] := by rw [e_h21]; exact hU.put (by simp)
          have f_n_1_h21 : h21 (n + 1) = some ((a1, Sum.inl (cI, 4097, Sum.inl (gsh s0 1 (sg - (s0 + 1)) fl))) : Nat × va_E) := by rw [e_h21]; exact gm_at f_n_1_w17 (by omega)
          have f_n_2_h21 : h21 (n + 2) = some ((a2, Sum.inl (cI, 4097, Sum.inl (gsh s0 1 (sg - (s0 + 1)) li))) : Nat × va_E) := by rw [e_h21]; exact gm_at f_n_2_w17 (by omega)
          have f_n_3_h21 : h21 (n + 3) = some ((a3, Sum.inl (cI, 4098, Sum.inl (gi (gfs (s0 + 1) (fr (s0 + 1) - fr s0) (sg - (s0 + 1)) fr)))) : Nat × va_E) := by rw [e_h21]; exact gm_at f_n_3_w17 (by omega)
          have f_n_4_h21 : h21 (n + 4) = some ((a4, Sum.inl (cI, 4097, Sum.inl (gsh s0 1 (sg - (s0 + 1)) mg))) : Nat × va_E) := by rw [e_h21]; exact gm_at f_n_4_w17 (by omega)
          have f_n_5_h21 : h21 (n + 5) = some ((a5, Sum.inl (cI, 4096, Sum.inl (gi (gsh (fr s0) (fr (s0 + 1) - fr s0) (fr sg - fr (s0 + 1)) dc)))) : Nat × va_E) := by rw [e_h21]; exact gm_at f_n_5_w17 (by omega)
          have f_n_6_h21 : h21 (n + 6) = some ((a6, Sum.inl (cZ, 4096, Sum.inl (gsh (fr s0) (fr (s0 + 1) - fr s0) (fr sg - fr (s0 + 1)) lv))) : Nat × va_E) := by rw [e_h21]; exact gm_at f_n_6_w17 (by omega)
          have f_n_7_h21 : h21 (n + 7) = some ((a7, Sum.inl (cZ, 4096, Sum.inl (gsh (fr s0) (fr (s0 + 1) - fr s0) (fr sg - fr (s0 + 1)) lt))) : Nat × va_E) := by rw [e_h21]; exact gm_at f_n_7_w17 (by omega)
          exact gz_vret hx hb hr hlocks hK Z (by decide) (by decide) (by rw [← hPQ]; exact ⟨rfl, hU, f_n_h21, f_n_1_h21, f_n_2_h21, f_n_3_h21, f_n_4_h21, f_n_5_h21, f_n_6_h21, f_n_7_h21⟩) d_Ve_drop_185
    · rcases hp with ⟨hv9, e_h9⟩
      cases hv9
