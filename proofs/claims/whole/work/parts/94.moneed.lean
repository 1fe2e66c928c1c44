/-! need(v, lists) of the reference over maps; rows printed by own text programs, but for the first -/
def gnd1 (nd : Nat → Int32) (ix : Nat → Nat) : Nat → Nat → Int32
  | 0 => nd
  | k + 1 => upd (gnd1 nd ix k) (ix k) 1
def gnd2 (nd : Nat → Int32) (ix jx : Nat → Nat) (li : Nat → Int32) : Nat → Nat → Int32
  | 0 => nd
  | k + 1 => if li k < 0 then upd (gnd2 nd ix jx li k) (ix k) 1 else upd (upd (gnd2 nd ix jx li k) (ix k) 1) (jx k) 1
theorem gnd2_a {nd : Nat → Int32} {ix jx : Nat → Nat} {li : Nat → Int32} {k : Nat} (c : li k < 0) : gnd2 nd ix jx li (k + 1) = upd (gnd2 nd ix jx li k) (ix k) 1 := if_pos c
theorem gnd2_b {nd : Nat → Int32} {ix jx : Nat → Nat} {li : Nat → Int32} {k : Nat} (c : ¬ li k < 0) : gnd2 nd ix jx li (k + 1) = upd (upd (gnd2 nd ix jx li k) (ix k) 1) (jx k) 1 := if_neg c
set_option maxHeartbeats 4000000 in
set_option maxRecDepth 100000 in
theorem k_Mo_need_0 (l : Launch) (htr : l.stackTraces = false) (D : va_G) (tys : List (ClassId × FieldType)) (z sz : Nat) (ws : va_W) (h : gm_M) (hM : gm_S h ws) (cI : ClassId) (cZ : ClassId) (q46 : Nat) (q47 : Nat) (q48 : Nat) (q49 : Nat) (q50 : Nat) (q51 : Nat) (q52 : Nat) (q53 : Nat) (q54 : Nat) (q62 : Nat) (q70 : Nat) (q78 : Nat) (q79 : Nat) (q80 : Nat) (q81 : Nat) (q82 : Nat) (q83 : Nat) (um : Value) (m_error : Int32) (m_thrown : Int32) (m_docs : Int32) (m_files : Int32) (m_actions : Int32) (m_power : Int32) (m_lost : Int32) (m_open : Int32) (m_isPrepared : Int32) (m_generation : Int32) (m_buffered : Int32) (m_limit : Int32) (m_factor : Int32) (m_merges : Int32) (m_opened : Int32) (m_chosenMany : Int32) (m_begun : Int32) (n : Nat) (a : Nat) (a1 : Nat) (a2 : Nat) (a3 : Nat) (a4 : Nat) (a5 : Nat) (a6 : Nat) (a7 : Nat) (fl : Nat → Int32) (li : Nat → Int32) (mg : Nat → Int32) (lv : Nat → Int32) (lt : Nat → Int32) (fr : Nat → Nat) (dc : Nat → Nat) (sg : Nat) (se : Int32) (ow : Int32) (nu : Int32) (fnu : Nat → Nat) (sy : Nat → Int32) (ha : Nat → Int32) (nd : Nat → Int32) (ft : Nat) (ix : Nat → Nat) (jx : Nat → Nat) (f_46 : h 46 = some ((q46, Sum.inr (8, [Value.int m_error, Value.int m_thrown, Value.ref q47, Value.ref q48, Value.ref q49, Value.int m_docs, Value.ref q50, Value.ref q51, Value.ref q52, Value.ref q53, Value.int (nI ft), Value.int m_files, Value.int m_actions, Value.int m_power, Value.int m_lost, Value.ref q54, Value.ref q62, Value.ref q70, Value.int m_open, Value.int m_isPrepared, Value.int m_generation, Value.ref q78, Value.ref q79, Value.int m_buffered, Value.int m_limit, Value.int m_factor, um, Value.ref q80, Value.ref q81, Value.ref q82, Value.int m_merges, Value.ref q83, Value.int m_opened, Value.int m_chosenMany, Value.int m_begun])) : Nat × va_E)) (f_50 : h 50 = some ((q50, Sum.inl (cI, 60000, Sum.inl (gi fnu))) : Nat × va_E)) (f_51 : h 51 = some ((q51, Sum.inl (cZ, 60000, Sum.inl sy)) : Nat × va_E)) (f_52 : h 52 = some ((q52, Sum.inl (cZ, 60000, Sum.inl ha)) : Nat × va_E)) (f_53 : h 53 = some ((q53, Sum.inl (cZ, 60000, Sum.inl nd)) : Nat × va_E)) (f_n : h n = some ((a, Sum.inr (9, [Value.ref a1, Value.ref a2, Value.ref a3, Value.ref a4, Value.ref a5, Value.ref a6, Value.ref a7, Value.int (nI sg), Value.int se, Value.int ow, Value.int nu])) : Nat × va_E)) (f_n_1 : h (n + 1) = some ((a1, Sum.inl (cI, 4097, Sum.inl fl)) : Nat × va_E)) (f_n_2 : h (n + 2) = some ((a2, Sum.inl (cI, 4097, Sum.inl li)) : Nat × va_E)) (f_n_3 : h (n + 3) = some ((a3, Sum.inl (cI, 4098, Sum.inl (gi fr))) : Nat × va_E)) (f_n_4 : h (n + 4) = some ((a4, Sum.inl (cI, 4097, Sum.inl mg)) : Nat × va_E)) (f_n_5 : h (n + 5) = some ((a5, Sum.inl (cI, 4096, Sum.inl (gi dc))) : Nat × va_E)) (f_n_6 : h (n + 6) = some ((a6, Sum.inl (cZ, 4096, Sum.inl lv)) : Nat × va_E)) (f_n_7 : h (n + 7) = some ((a7, Sum.inl (cZ, 4096, Sum.inl lt)) : Nat × va_E)) (ht0 : tys[0]? = some ((cI, FieldType.int) : ClassId × FieldType)) (ht1 : tys[1]? = some ((cZ, FieldType.boolean) : ClassId × FieldType)) (hft : ft ≤ 60000) (hmo : ∀ i j, i ≤ j → j < ft → nI (fnu i) ≤ nI (fnu j)) (hinj : ∀ i j, i < ft → j < ft → nI (fnu i) = nI (fnu j) → i = j) (hsg : sg ≤ 4096) (hn53 : 53 < n) (hix : ∀ i, i < sg → ix i < ft ∧ nI (fnu (ix i)) = fl i) : gx_Met l y_Mo_need [Cond.code y_Mo_need b_Mo_need 4 none] { frames := 2, cells := 0, slots := 0, locals := 36 } (gx_P z sz D classes tys ws [Value.ref q46, Value.ref a, Value.int 0]) (gx_Q D classes tys (va_A ws sz) (gm_p (fun r h' => (r = Sum.inl none ∧ gm_g h h' [53] ∧ h' 53 = some ((q53, Sum.inl (cZ, 60000, Sum.inl (gnd1 nd ix sg))) : Nat × va_E))))) 0 0 (va_A ws sz) := by
  refine gx_ofW (cc := b_Mo_need) (maxL := 4) (ret := none) (by decide) rfl ?_
  intro p e s m args below meth c s₁ B hml hv
  obtain ⟨rfl, hsz, hz, hP, hK, hD0, hY⟩ := hv
  have hx := B.exec
  have hb := B.bytes
  have hr := B.returns
  have hts := hY.hts (#[Value.ref q46, Value.ref a, Value.int 0] : Array Value)
  have hown : s.vm.findClass "CommitLedgerModel" = some m.cls := findClass_of_methodNamed B.named
  have hlocks := B.notSynchronized
  have hne : c.exceptionTable.isEmpty = true := B.noHandlers (atoms_spec (ws := [Cond.code y_Mo_need b_Mo_need 4 none]) B.pre _ List.mem_cons_self)
  subst hsz
  have hAz := gx_az hD0 hz
  have hD := hD0.self (sz := s.heap.size)
  have hN := gx_ns hP
  have hA : ∀ q : Nat, s.heap.size ≤ q → va_A ws s.heap.size q := fun q h => Or.inr h
  generalize va_A ws s.heap.size = A at hD hN hA hAz ⊢
  generalize hPQ : (fun (r : Option Value ⊕ String) (h' : gm_M) => (r = Sum.inl none ∧ gm_g h h' [53] ∧ h' 53 = some ((q53, Sum.inl (cZ, 60000, Sum.inl (gnd1 nd ix sg))) : Nat × va_E))) = PQ
  have Z : gz D A s.heap h s.heap [] := ⟨ws, hM, hP, hD, va_S.rf⟩
  clear hP hD hM hD0
  have hU : gm_g h h [53] := gm_g.rf
  have hl := lv_entry ([Value.ref q46, Value.ref a, Value.int 0]) (n := 4) (Nat.le_of_ble_eq_true rfl)
  rw [lg_entry_eq]
  generalize (lg_sl ([Value.ref q46, Value.ref a, Value.int 0]) ++ List.replicate (4 - (lg_sl ([Value.ref q46, Value.ref a, Value.int 0])).length) Slot.unset).toArray = ls at hl ⊢
  have hl : lv_has ls 4 [(0, Value.ref q46), (1, Value.ref a), (2, Value.int 0)] := hl
  refine lv_iconst (v := 0) hx hb d_Mo_need_0 (by decide) ?_
  refine lv_istore_n (lv' := [(3, Value.int 0), (0, Value.ref q46), (1, Value.ref a), (2, Value.int 0)]) hx hb d_Mo_need_1 rfl hl (by decide) rfl (fun ls hl => ?_)
  have f_53_n : h 53 = some ((q53, Sum.inl (cZ, 60000, Sum.inl (gnd1 nd ix 0))) : Nat × va_E) := by skip; exact f_53
  refine gz_loop (N := sg) (pc := 2) (fun _ => 0) (fun _ => 0) (fun k h9 ls => gm_g h h9 [53] ∧ h9 53 = some ((q53, Sum.inl (cZ, 60000, Sum.inl (gnd1 nd ix k))) : Nat × va_E) ∧ lv_has ls 4 [(3, Value.int (nI k)), (0, Value.ref q46), (1, Value.ref a), (2, Value.int 0)]) (fun k w1 H locs ls hk hI Z ihk => ?_) (fun w1 H locs ls hI Z => ?_) (sg) 0 _ _ _ _ (Nat.zero_add _) ⟨hU, f_53_n, lv_sub hl [0, 1, 2, 3] rfl⟩ Z
  · obtain ⟨hU, f_53_w1, hl⟩ := hI
    have e_w1 := hU
    refine lv_iload_n hx hb d_Mo_need_2 rfl (lv_at hl 0 rfl) ?_
    refine lv_aload_n hx hb d_Mo_need_3 rfl (lv_at hl 2 rfl) ?_
    have f_n_w1 : w1 n = some ((a, Sum.inr (9, [Value.ref a1, Value.ref a2, Value.ref a3, Value.ref a4, Value.ref a5, Value.ref a6, Value.ref a7, Value.int (nI sg), Value.int se, Value.int ow, Value.int nu])) : Nat × va_E) := e_w1.at f_n (by first | decide | (simp; done) | (simp; omega))
    refine gz_get (ci := 9) (v := Value.int (nI sg)) (C := "CommitLedgerModel$Version") (T := F_Ve) (N := 11) hx hb hts i_Ve hown hK Z f_n_w1 rfl 7 (by decide) kf_Mo_122 rfl d_Mo_need_4 ?_
    refine lv_icmp_ge (tgt := 61) hx hb d_Mo_need_7 (by decide) (fun c9 => absurd c9 (nI_ge hk (by omega))) (fun _ => ?_)
    refine lv_aload_n hx hb d_Mo_need_10 rfl (lv_at hl 1 rfl) ?_
    have f_46_w1 : w1 46 = some ((q46, Sum.inr (8, [Value.int m_error, Value.int m_thrown, Value.ref q47, Value.ref q48, Value.ref q49, Value.int m_docs, Value.ref q50, Value.ref q51, Value.ref q52, Value.ref q53, Value.int (nI ft), Value.int m_files, Value.int m_actions, Value.int m_power, Value.int m_lost, Value.ref q54, Value.ref q62, Value.ref q70, Value.int m_open, Value.int m_isPrepared, Value.int m_generation, Value.ref q78, Value.ref q79, Value.int m_buffered, Value.int m_limit, Value.int m_factor, um, Value.ref q80, Value.ref q81, Value.ref q82, Value.int m_merges, Value.ref q83, Value.int m_opened, Value.int m_chosenMany, Value.int m_begun])) : Nat × va_E) := e_w1.at f_46 (by first | decide | (simp; done) | (simp; omega))
    refine gz_get (ci := 8) (v := Value.ref q53) (C := "CommitLedgerModel") (T := F_Mo) (N := 35) hx hb hts i_Mo hown hK Z f_46_w1 rfl 9 (by decide) kf_Mo_30 rfl d_Mo_need_11 ?_
    refine lv_aload_n hx hb d_Mo_need_14 rfl (lv_at hl 1 rfl) ?_
    refine lv_aload_n hx hb d_Mo_need_15 rfl (lv_at hl 2 rfl) ?_
    refine gz_get (ci := 9) (v := Value.ref a1) (C := "CommitLedgerModel$Version") (T := F_Ve) (N := 11) hx hb hts i_Ve hown hK Z f_n_w1 rfl 0 (by decide) kf_Mo_125 rfl d_Mo_need_16 ?_
    refine lv_iload_n hx hb d_Mo_need_19 rfl (lv_at hl 0 rfl) ?_
    have f_n_1_w1 : w1 (n + 1) = some ((a1, Sum.inl (cI, 4097, Sum.inl fl)) : Nat × va_E) := e_w1.at f_n_1 (by first | decide | (simp; done) | (simp; omega))
    refine gz_iald (j := k) hx hb hK Z 0 f_n_1_w1 ht0 (by omega) (rfl) (by decide) d_Mo_need_20 ?_
    have f_50_w1 : w1 50 = some ((q50, Sum.inl (cI, 60000, Sum.inl (gi fnu))) : Nat × va_E) := e_w1.at f_50 (by first | decide | (simp; done) | (simp; omega))
    refine gz_call (ig := .invokevirtual 128) (av := [Value.ref q46, Value.int (fl k)]) Z (fun ws hM => k_Mo_place l htr D tys z _ ws w1 hM cI q46 q47 q48 q49 q50 q51 q52 q53 q54 q62 q70 q78 q79 q80 q81 q82 q83 (um) m_error m_thrown m_docs m_files m_actions m_power m_lost m_open m_isPrepared m_generation m_buffered m_limit m_factor m_merges m_opened m_chosenMany m_begun fnu ft (fl k) f_46_w1 f_50_w1 ht0 hft hmo) (gx_invV (As := [Value.int (fl k)]) (rest := [Value.ref q53]) hx hb hown hts km_Mo_128 kI_Mo_place kV_Mo_place kc_Mo_place (by decide) (show (parseMethodDescriptor y_Mo_place.desc).map (fun d => d.parameters.length) = some 1 by decide +kernel) (gz_recv (ci := 8) hK Z rfl f_46_w1) rfl rfl d_Mo_need_21) (gx_cw (z := 0) hts kc_Mo_place kN_Mo rfl rfl ⟨Nat.le_of_ble_eq_true rfl, Nat.le_of_ble_eq_true rfl⟩) hb hml hz hK hY hAz hA hl.1 (lv_room (Nat.le_of_ble_eq_true rfl)) d_Mo_need_21 ⟨Nat.le_of_ble_eq_true rfl, Nat.le_of_ble_eq_true rfl⟩ (fun v3 h4 H locs hp Z => ?_) (fun x3 E9 ce h4 H locs hp hce Z => ?_)
    · rcases hp with ⟨q5, hv9, e_h4, g3_0, g3_1⟩ | ⟨hv9, e_h4, g3_0⟩
      · cases hv9
        rw [e_h4] at Z
        refine W.eq (g2 := F0 m 24 ls [Value.int (nI q5), Value.ref q53]) rfl ?_
        refine gx_topi (y := nI (ix k)) (congrArg nI (hinj _ _ g3_0 (hix k hk).1 (g3_1.trans (hix k hk).2.symm))) ?_
        refine lv_iconst (v := 1) hx hb d_Mo_need_24 (by decide) ?_
        refine gz_zast (j := ix k) hx hb hK Z 1 f_53_w1 ht1 ((by have h9 := (hix k hk).1; omega)) (rfl) (by decide) d_Mo_need_25 (fun H locs Z => ?_)
        obtain ⟨h6, e_h6⟩ : ∃ z9 : gm_M, z9 = gm_up w1 53 ((q53, Sum.inl (cZ, 60000, Sum.inl (upd (gnd1 nd ix k) (ix k) 1))) : Nat × va_E) := ⟨_, rfl⟩
        replace Z : gz D A s.heap h6 H locs := by rw [e_h6]; exact Z
        have f_53_h6 : h6 53 = some ((q53, Sum.inl (cZ, 60000, Sum.inl (upd (gnd1 nd ix k) (ix k) 1))) : Nat × va_E) := by rw [e_h6]; exact gm_self
        replace hU : gm_g h h6 [53] := by rw [e_h6]; exact hU.put (by simp)
        refine lv_iload_n hx hb d_Mo_need_26 rfl (lv_at hl 3 rfl) ?_
        refine lv_if_eq (tgt := 55) hx hb d_Mo_need_27 (by decide) (fun _ => ?_) (fun c9 => absurd (by decide) c9)
        refine lv_iinc (v := nI (k + 1)) (lv' := [(3, Value.int (nI (k + 1))), (0, Value.ref q46), (1, Value.ref a), (2, Value.int 0)]) hx hb d_Mo_need_55 hl (k := 0) rfl (show nI k + 1 = nI (k + 1) from nI_1 _) (by decide) rfl (fun ls hl => ?_)
        refine lv_goto (tgt := 2) hx hb d_Mo_need_58 (by decide) ?_
        have f_53_n : h6 53 = some ((q53, Sum.inl (cZ, 60000, Sum.inl (gnd1 nd ix (k + 1)))) : Nat × va_E) := by skip; exact f_53_h6
        exact ihk _ _ _ _ ⟨hU, f_53_n, lv_sub hl [0, 1, 2, 3] rfl⟩ Z
      · cases hv9
        rw [e_h4] at Z
        exact absurd (hix k hk).2 (g3_0 _ (hix k hk).1)
    · rcases hp with ⟨q7, hv9, e_h4, g3_0, g3_1⟩ | ⟨hv9, e_h4, g3_0⟩
      · cases hv9
      · cases hv9
  · obtain ⟨hU, f_53_w1, hl⟩ := hI
    have e_w1 := hU
    refine lv_iload_n hx hb d_Mo_need_2 rfl (lv_at hl 0 rfl) ?_
    refine lv_aload_n hx hb d_Mo_need_3 rfl (lv_at hl 2 rfl) ?_
    have f_n_w1 : w1 n = some ((a, Sum.inr (9, [Value.ref a1, Value.ref a2, Value.ref a3, Value.ref a4, Value.ref a5, Value.ref a6, Value.ref a7, Value.int (nI sg), Value.int se, Value.int ow, Value.int nu])) : Nat × va_E) := e_w1.at f_n (by first | decide | (simp; done) | (simp; omega))
    refine gz_get (ci := 9) (v := Value.int (nI sg)) (C := "CommitLedgerModel$Version") (T := F_Ve) (N := 11) hx hb hts i_Ve hown hK Z f_n_w1 rfl 7 (by decide) kf_Mo_122 rfl d_Mo_need_4 ?_
    refine lv_icmp_ge (tgt := 61) hx hb d_Mo_need_7 (by decide) (fun _ => ?_) (fun c9 => absurd (nI_le (Nat.le_refl _) (by omega)) c9)
    exact gz_vret hx hb hr hlocks hK Z (by decide) (by decide) (by rw [← hPQ]; exact ⟨rfl, hU, f_53_w1⟩) d_Mo_need_61

set_option maxHeartbeats 4000000 in
set_option maxRecDepth 100000 in
theorem k_Mo_need_1 (l : Launch) (htr : l.stackTraces = false) (D : va_G) (tys : List (ClassId × FieldType)) (z sz : Nat) (ws : va_W) (h : gm_M) (hM : gm_S h ws) (cI : ClassId) (cZ : ClassId) (q46 : Nat) (q47 : Nat) (q48 : Nat) (q49 : Nat) (q50 : Nat) (q51 : Nat) (q52 : Nat) (q53 : Nat) (q54 : Nat) (q62 : Nat) (q70 : Nat) (q78 : Nat) (q79 : Nat) (q80 : Nat) (q81 : Nat) (q82 : Nat) (q83 : Nat) (um : Value) (m_error : Int32) (m_thrown : Int32) (m_docs : Int32) (m_files : Int32) (m_actions : Int32) (m_power : Int32) (m_lost : Int32) (m_open : Int32) (m_isPrepared : Int32) (m_generation : Int32) (m_buffered : Int32) (m_limit : Int32) (m_factor : Int32) (m_merges : Int32) (m_opened : Int32) (m_chosenMany : Int32) (m_begun : Int32) (n : Nat) (a : Nat) (a1 : Nat) (a2 : Nat) (a3 : Nat) (a4 : Nat) (a5 : Nat) (a6 : Nat) (a7 : Nat) (fl : Nat → Int32) (li : Nat → Int32) (mg : Nat → Int32) (lv : Nat → Int32) (lt : Nat → Int32) (fr : Nat → Nat) (dc : Nat → Nat) (sg : Nat) (se : Int32) (ow : Int32) (nu : Int32) (fnu : Nat → Nat) (sy : Nat → Int32) (ha : Nat → Int32) (nd : Nat → Int32) (ft : Nat) (ix : Nat → Nat) (jx : Nat → Nat) (f_46 : h 46 = some ((q46, Sum.inr (8, [Value.int m_error, Value.int m_thrown, Value.ref q47, Value.ref q48, Value.ref q49, Value.int m_docs, Value.ref q50, Value.ref q51, Value.ref q52, Value.ref q53, Value.int (nI ft), Value.int m_files, Value.int m_actions, Value.int m_power, Value.int m_lost, Value.ref q54, Value.ref q62, Value.ref q70, Value.int m_open, Value.int m_isPrepared, Value.int m_generation, Value.ref q78, Value.ref q79, Value.int m_buffered, Value.int m_limit, Value.int m_factor, um, Value.ref q80, Value.ref q81, Value.ref q82, Value.int m_merges, Value.ref q83, Value.int m_opened, Value.int m_chosenMany, Value.int m_begun])) : Nat × va_E)) (f_50 : h 50 = some ((q50, Sum.inl (cI, 60000, Sum.inl (gi fnu))) : Nat × va_E)) (f_51 : h 51 = some ((q51, Sum.inl (cZ, 60000, Sum.inl sy)) : Nat × va_E)) (f_52 : h 52 = some ((q52, Sum.inl (cZ, 60000, Sum.inl ha)) : Nat × va_E)) (f_53 : h 53 = some ((q53, Sum.inl (cZ, 60000, Sum.inl nd)) : Nat × va_E)) (f_n : h n = some ((a, Sum.inr (9, [Value.ref a1, Value.ref a2, Value.ref a3, Value.ref a4, Value.ref a5, Value.ref a6, Value.ref a7, Value.int (nI sg), Value.int se, Value.int ow, Value.int nu])) : Nat × va_E)) (f_n_1 : h (n + 1) = some ((a1, Sum.inl (cI, 4097, Sum.inl fl)) : Nat × va_E)) (f_n_2 : h (n + 2) = some ((a2, Sum.inl (cI, 4097, Sum.inl li)) : Nat × va_E)) (f_n_3 : h (n + 3) = some ((a3, Sum.inl (cI, 4098, Sum.inl (gi fr))) : Nat × va_E)) (f_n_4 : h (n + 4) = some ((a4, Sum.inl (cI, 4097, Sum.inl mg)) : Nat × va_E)) (f_n_5 : h (n + 5) = some ((a5, Sum.inl (cI, 4096, Sum.inl (gi dc))) : Nat × va_E)) (f_n_6 : h (n + 6) = some ((a6, Sum.inl (cZ, 4096, Sum.inl lv)) : Nat × va_E)) (f_n_7 : h (n + 7) = some ((a7, Sum.inl (cZ, 4096, Sum.inl lt)) : Nat × va_E)) (ht0 : tys[0]? = some ((cI, FieldType.int) : ClassId × FieldType)) (ht1 : tys[1]? = some ((cZ, FieldType.boolean) : ClassId × FieldType)) (hft : ft ≤ 60000) (hmo : ∀ i j, i ≤ j → j < ft → nI (fnu i) ≤ nI (fnu j)) (hinj : ∀ i j, i < ft → j < ft → nI (fnu i) = nI (fnu j) → i = j) (hsg : sg ≤ 4096) (hn53 : 53 < n) (hix : ∀ i, i < sg → ix i < ft ∧ nI (fnu (ix i)) = fl i) (hjx : ∀ i, i < sg → ¬ li i < 0 → jx i < ft ∧ nI (fnu (jx i)) = li i) : gx_Met l y_Mo_need [Cond.code y_Mo_need b_Mo_need 4 none] { frames := 2, cells := 0, slots := 0, locals := 36 } (gx_P z sz D classes tys ws [Value.ref q46, Value.ref a, Value.int 1]) (gx_Q D classes tys (va_A ws sz) (gm_p (fun r h' => (r = Sum.inl none ∧ gm_g h h' [53] ∧ h' 53 = some ((q53, Sum.inl (cZ, 60000, Sum.inl (gnd2 nd ix jx li sg))) : Nat × va_E))))) 0 0 (va_A ws sz) := by
  refine gx_ofW (cc := b_Mo_need) (maxL := 4) (ret := none) (by decide) rfl ?_
  intro p e s m args below meth c s₁ B hml hv
  obtain ⟨rfl, hsz, hz, hP, hK, hD0, hY⟩ := hv
  have hx := B.exec
  have hb := B.bytes
  have hr := B.returns
  have hts := hY.hts (#[Value.ref q46, Value.ref a, Value.int 1] : Array Value)
  have hown : s.vm.findClass "CommitLedgerModel" = some m.cls := findClass_of_methodNamed B.named
  have hlocks := B.notSynchronized
  have hne : c.exceptionTable.isEmpty = true := B.noHandlers (atoms_spec (ws := [Cond.code y_Mo_need b_Mo_need 4 none]) B.pre _ List.mem_cons_self)
  subst hsz
  have hAz := gx_az hD0 hz
  have hD := hD0.self (sz := s.heap.size)
  have hN := gx_ns hP
  have hA : ∀ q : Nat, s.heap.size ≤ q → va_A ws s.heap.size q := fun q h => Or.inr h
  generalize va_A ws s.heap.size = A at hD hN hA hAz ⊢
  generalize hPQ : (fun (r : Option Value ⊕ String) (h' : gm_M) => (r = Sum.inl none ∧ gm_g h h' [53] ∧ h' 53 = some ((q53, Sum.inl (cZ, 60000, Sum.inl (gnd2 nd ix jx li sg))) : Nat × va_E))) = PQ
  have Z : gz D A s.heap h s.heap [] := ⟨ws, hM, hP, hD, va_S.rf⟩
  clear hP hD hM hD0
  have hU : gm_g h h [53] := gm_g.rf
  have hl := lv_entry ([Value.ref q46, Value.ref a, Value.int 1]) (n := 4) (Nat.le_of_ble_eq_true rfl)
  rw [lg_entry_eq]
  generalize (lg_sl ([Value.ref q46, Value.ref a, Value.int 1]) ++ List.replicate (4 - (lg_sl ([Value.ref q46, Value.ref a, Value.int 1])).length) Slot.unset).toArray = ls at hl ⊢
  have hl : lv_has ls 4 [(0, Value.ref q46), (1, Value.ref a), (2, Value.int 1)] := hl
  refine lv_iconst (v := 0) hx hb d_Mo_need_0 (by decide) ?_
  refine lv_istore_n (lv' := [(3, Value.int 0), (0, Value.ref q46), (1, Value.ref a), (2, Value.int 1)]) hx hb d_Mo_need_1 rfl hl (by decide) rfl (fun ls hl => ?_)
  have f_53_n : h 53 = some ((q53, Sum.inl (cZ, 60000, Sum.inl (gnd2 nd ix jx li 0))) : Nat × va_E) := by skip; exact f_53
  refine gz_loop (N := sg) (pc := 2) (fun _ => 0) (fun _ => 0) (fun k h9 ls => gm_g h h9 [53] ∧ h9 53 = some ((q53, Sum.inl (cZ, 60000, Sum.inl (gnd2 nd ix jx li k))) : Nat × va_E) ∧ lv_has ls 4 [(3, Value.int (nI k)), (0, Value.ref q46), (1, Value.ref a), (2, Value.int 1)]) (fun k w1 H locs ls hk hI Z ihk => ?_) (fun w1 H locs ls hI Z => ?_) (sg) 0 _ _ _ _ (Nat.zero_add _) ⟨hU, f_53_n, lv_sub hl [0, 1, 2, 3] rfl⟩ Z
  · obtain ⟨hU, f_53_w1, hl⟩ := hI
    have e_w1 := hU
    refine lv_iload_n hx hb d_Mo_need_2 rfl (lv_at hl 0 rfl) ?_
    refine lv_aload_n hx hb d_Mo_need_3 rfl (lv_at hl 2 rfl) ?_
    have f_n_w1 : w1 n = some ((a, Sum.inr (9, [Value.ref a1, Value.ref a2, Value.ref a3, Value.ref a4, Value.ref a5, Value.ref a6, Value.ref a7, Value.int (nI sg), Value.int se, Value.int ow, Value.int nu])) : Nat × va_E) := e_w1.at f_n (by first | decide | (simp; done) | (simp; omega))
    refine gz_get (ci := 9) (v := Value.int (nI sg)) (C := "CommitLedgerModel$Version") (T := F_Ve) (N := 11) hx hb hts i_Ve hown hK Z f_n_w1 rfl 7 (by decide) kf_Mo_122 rfl d_Mo_need_4 ?_
    refine lv_icmp_ge (tgt := 61) hx hb d_Mo_need_7 (by decide) (fun c9 => absurd c9 (nI_ge hk (by omega))) (fun _ => ?_)
    refine lv_aload_n hx hb d_Mo_need_10 rfl (lv_at hl 1 rfl) ?_
    have f_46_w1 : w1 46 = some ((q46, Sum.inr (8, [Value.int m_error, Value.int m_thrown, Value.ref q47, Value.ref q48, Value.ref q49, Value.int m_docs, Value.ref q50, Value.ref q51, Value.ref q52, Value.ref q53, Value.int (nI ft), Value.int m_files, Value.int m_actions, Value.int m_power, Value.int m_lost, Value.ref q54, Value.ref q62, Value.ref q70, Value.int m_open, Value.int m_isPrepared, Value.int m_generation, Value.ref q78, Value.ref q79, Value.int m_buffered, Value.int m_limit, Value.int m_factor, um, Value.ref q80, Value.ref q81, Value.ref q82, Value.int m_merges, Value.ref q83, Value.int m_opened, Value.int m_chosenMany, Value.int m_begun])) : Nat × va_E) := e_w1.at f_46 (by first | decide | (simp; done) | (simp; omega))
    refine gz_get (ci := 8) (v := Value.ref q53) (C := "CommitLedgerModel") (T := F_Mo) (N := 35) hx hb hts i_Mo hown hK Z f_46_w1 rfl 9 (by decide) kf_Mo_30 rfl d_Mo_need_11 ?_
    refine lv_aload_n hx hb d_Mo_need_14 rfl (lv_at hl 1 rfl) ?_
    refine lv_aload_n hx hb d_Mo_need_15 rfl (lv_at hl 2 rfl) ?_
    refine gz_get (ci := 9) (v := Value.ref a1) (C := "CommitLedgerModel$Version") (T := F_Ve) (N := 11) hx hb hts i_Ve hown hK Z f_n_w1 rfl 0 (by decide) kf_Mo_125 rfl d_Mo_need_16 ?_
    refine lv_iload_n hx hb d_Mo_need_19 rfl (lv_at hl 0 rfl) ?_
    have f_n_1_w1 : w1 (n + 1) = some ((a1, Sum.inl (cI, 4097, Sum.inl fl)) : Nat × va_E) := e_w1.at f_n_1 (by first | decide | (simp; done) | (simp; omega))
    refine gz_iald (j := k) hx hb hK Z 0 f_n_1_w1 ht0 (by omega) (rfl) (by decide) d_Mo_need_20 ?_
    have f_50_w1 : w1 50 = some ((q50, Sum.inl (cI, 60000, Sum.inl (gi fnu))) : Nat × va_E) := e_w1.at f_50 (by first | decide | (simp; done) | (simp; omega))
    refine gz_call (ig := .invokevirtual 128) (av := [Value.ref q46, Value.int (fl k)]) Z (fun ws hM => k_Mo_place l htr D tys z _ ws w1 hM cI q46 q47 q48 q49 q50 q51 q52 q53 q54 q62 q70 q78 q79 q80 q81 q82 q83 (um) m_error m_thrown m_docs m_files m_actions m_power m_lost m_open m_isPrepared m_generation m_buffered m_limit m_factor m_merges m_opened m_chosenMany m_begun fnu ft (fl k) f_46_w1 f_50_w1 ht0 hft hmo) (gx_invV (As := [Value.int (fl k)]) (rest := [Value.ref q53]) hx hb hown hts km_Mo_128 kI_Mo_place kV_Mo_place kc_Mo_place (by decide) (show (parseMethodDescriptor y_Mo_place.desc).map (fun d => d.parameters.length) = some 1 by decide +kernel) (gz_recv (ci := 8) hK Z rfl f_46_w1) rfl rfl d_Mo_need_21) (gx_cw (z := 0) hts kc_Mo_place kN_Mo rfl rfl ⟨Nat.le_of_ble_eq_true rfl, Nat.le_of_ble_eq_true rfl⟩) hb hml hz hK hY hAz hA hl.1 (lv_room (Nat.le_of_ble_eq_true rfl)) d_Mo_need_21 ⟨Nat.le_of_ble_eq_true rfl, Nat.le_of_ble_eq_true rfl⟩ (fun v3 h4 H locs hp Z => ?_) (fun x3 E9 ce h4 H locs hp hce Z => ?_)
    · rcases hp with ⟨q5, hv9, e_h4, g3_0, g3_1⟩ | ⟨hv9, e_h4, g3_0⟩
      · cases hv9
        rw [e_h4] at Z
        refine W.eq (g2 := F0 m 24 ls [Value.int (nI q5), Value.ref q53]) rfl ?_
        refine gx_topi (y := nI (ix k)) (congrArg nI (hinj _ _ g3_0 (hix k hk).1 (g3_1.trans (hix k hk).2.symm))) ?_
        refine lv_iconst (v := 1) hx hb d_Mo_need_24 (by decide) ?_
        refine gz_zast (j := ix k) hx hb hK Z 1 f_53_w1 ht1 ((by have h9 := (hix k hk).1; omega)) (rfl) (by decide) d_Mo_need_25 (fun H locs Z => ?_)
        obtain ⟨h6, e_h6⟩ : ∃ z9 : gm_M, z9 = gm_up w1 53 ((q53, Sum.inl (cZ, 60000, Sum.inl (upd (gnd2 nd ix jx li k) (ix k) 1))) : Nat × va_E) := ⟨_, rfl⟩
        replace Z : gz D A s.heap h6 H locs := by rw [e_h6]; exact Z
        have f_53_h6 : h6 53 = some ((q53, Sum.inl (cZ, 60000, Sum.inl (upd (gnd2 nd ix jx li k) (ix k) 1))) : Nat × va_E) := by rw [e_h6]; exact gm_self
        replace hU : gm_g h h6 [53] := by rw [e_h6]; exact hU.put (by simp)
        refine lv_iload_n hx hb d_Mo_need_26 rfl (lv_at hl 3 rfl) ?_
        refine lv_if_eq (tgt := 55) hx hb d_Mo_need_27 (by decide) (fun c9 => absurd c9 (by decide)) (fun _ => ?_)
        refine lv_aload_n hx hb d_Mo_need_30 rfl (lv_at hl 2 rfl) ?_
        have f_n_h6 : h6 n = some ((a, Sum.inr (9, [Value.ref a1, Value.ref a2, Value.ref a3, Value.ref a4, Value.ref a5, Value.ref a6, Value.ref a7, Value.int (nI sg), Value.int se, Value.int ow, Value.int nu])) : Nat × va_E) := by rw [e_h6]; exact gm_at f_n_w1 (by omega)
        refine gz_get (ci := 9) (v := Value.ref a2) (C := "CommitLedgerModel$Version") (T := F_Ve) (N := 11) hx hb hts i_Ve hown hK Z f_n_h6 rfl 1 (by decide) kf_Mo_132 rfl d_Mo_need_31 ?_
        refine lv_iload_n hx hb d_Mo_need_34 rfl (lv_at hl 0 rfl) ?_
        have f_n_2_w1 : w1 (n + 2) = some ((a2, Sum.inl (cI, 4097, Sum.inl li)) : Nat × va_E) := e_w1.at f_n_2 (by first | decide | (simp; done) | (simp; omega))
        have f_n_2_h6 : h6 (n + 2) = some ((a2, Sum.inl (cI, 4097, Sum.inl li)) : Nat × va_E) := by rw [e_h6]; exact gm_at f_n_2_w1 (by omega)
        refine gz_iald (j := k) hx hb hK Z 0 f_n_2_h6 ht0 (by omega) (rfl) (by decide) d_Mo_need_35 ?_
        refine lv_if_lt (tgt := 55) hx hb d_Mo_need_36 (by decide) (fun c36_7 => ?_) (fun c36_7 => ?_)
        · refine lv_iinc (v := nI (k + 1)) (lv' := [(3, Value.int (nI (k + 1))), (0, Value.ref q46), (1, Value.ref a), (2, Value.int 1)]) hx hb d_Mo_need_55 hl (k := 0) rfl (show nI k + 1 = nI (k + 1) from nI_1 _) (by decide) rfl (fun ls hl => ?_)
          refine lv_goto (tgt := 2) hx hb d_Mo_need_58 (by decide) ?_
          have f_53_n : h6 53 = some ((q53, Sum.inl (cZ, 60000, Sum.inl (gnd2 nd ix jx li (k + 1)))) : Nat × va_E) := by rw [gnd2_a c36_7]; exact f_53_h6
          exact ihk _ _ _ _ ⟨hU, f_53_n, lv_sub hl [0, 1, 2, 3] rfl⟩ Z
        · refine lv_aload_n hx hb d_Mo_need_39 rfl (lv_at hl 1 rfl) ?_
          have f_46_h6 : h6 46 = some ((q46, Sum.inr (8, [Value.int m_error, Value.int m_thrown, Value.ref q47, Value.ref q48, Value.ref q49, Value.int m_docs, Value.ref q50, Value.ref q51, Value.ref q52, Value.ref q53, Value.int (nI ft), Value.int m_files, Value.int m_actions, Value.int m_power, Value.int m_lost, Value.ref q54, Value.ref q62, Value.ref q70, Value.int m_open, Value.int m_isPrepared, Value.int m_generation, Value.ref q78, Value.ref q79, Value.int m_buffered, Value.int m_limit, Value.int m_factor, um, Value.ref q80, Value.ref q81, Value.ref q82, Value.int m_merges, Value.ref q83, Value.int m_opened, Value.int m_chosenMany, Value.int m_begun])) : Nat × va_E) := by rw [e_h6]; exact gm_at f_46_w1 (by decide)
          refine gz_get (ci := 8) (v := Value.ref q53) (C := "CommitLedgerModel") (T := F_Mo) (N := 35) hx hb hts i_Mo hown hK Z f_46_h6 rfl 9 (by decide) kf_Mo_30 rfl d_Mo_need_40 ?_
          refine lv_aload_n hx hb d_Mo_need_43 rfl (lv_at hl 1 rfl) ?_
          refine lv_aload_n hx hb d_Mo_need_44 rfl (lv_at hl 2 rfl) ?_
          refine gz_get (ci := 9) (v := Value.ref a2) (C := "CommitLedgerModel$Version") (T := F_Ve) (N := 11) hx hb hts i_Ve hown hK Z f_n_h6 rfl 1 (by decide) kf_Mo_132 rfl d_Mo_need_45 ?_
          refine lv_iload_n hx hb d_Mo_need_48 rfl (lv_at hl 0 rfl) ?_
          refine gz_iald (j := k) hx hb hK Z 0 f_n_2_h6 ht0 (by omega) (rfl) (by decide) d_Mo_need_49 ?_
          have f_50_h6 : h6 50 = some ((q50, Sum.inl (cI, 60000, Sum.inl (gi fnu))) : Nat × va_E) := by rw [e_h6]; exact gm_at f_50_w1 (by decide)
          refine gz_call (ig := .invokevirtual 128) (av := [Value.ref q46, Value.int (li k)]) Z (fun ws hM => k_Mo_place l htr D tys z _ ws h6 hM cI q46 q47 q48 q49 q50 q51 q52 q53 q54 q62 q70 q78 q79 q80 q81 q82 q83 (um) m_error m_thrown m_docs m_files m_actions m_power m_lost m_open m_isPrepared m_generation m_buffered m_limit m_factor m_merges m_opened m_chosenMany m_begun fnu ft (li k) f_46_h6 f_50_h6 ht0 hft hmo) (gx_invV (As := [Value.int (li k)]) (rest := [Value.ref q53]) hx hb hown hts km_Mo_128 kI_Mo_place kV_Mo_place kc_Mo_place (by decide) (show (parseMethodDescriptor y_Mo_place.desc).map (fun d => d.parameters.length) = some 1 by decide +kernel) (gz_recv (ci := 8) hK Z rfl f_46_h6) rfl rfl d_Mo_need_50) (gx_cw (z := 0) hts kc_Mo_place kN_Mo rfl rfl ⟨Nat.le_of_ble_eq_true rfl, Nat.le_of_ble_eq_true rfl⟩) hb hml hz hK hY hAz hA hl.1 (lv_room (Nat.le_of_ble_eq_true rfl)) d_Mo_need_50 ⟨Nat.le_of_ble_eq_true rfl, Nat.le_of_ble_eq_true rfl⟩ (fun v8 h9 H locs hp Z => ?_) (fun x8 E9 ce h9 H locs hp hce Z => ?_)
          · rcases hp with ⟨q10, hv9, e_h9, g8_0, g8_1⟩ | ⟨hv9, e_h9, g8_0⟩
            · cases hv9
              rw [e_h9] at Z
              refine W.eq (g2 := F0 m 53 ls [Value.int (nI q10), Value.ref q53]) rfl ?_
              refine gx_topi (y := nI (jx k)) (congrArg nI (hinj _ _ g8_0 (hjx k hk c36_7).1 (g8_1.trans (hjx k hk c36_7).2.symm))) ?_
              refine lv_iconst (v := 1) hx hb d_Mo_need_53 (by decide) ?_
              refine gz_zast (j := jx k) hx hb hK Z 1 f_53_h6 ht1 ((by have h9 := (hjx k hk c36_7).1; omega)) (rfl) (by decide) d_Mo_need_54 (fun H locs Z => ?_)
              obtain ⟨h11, e_h11⟩ : ∃ z9 : gm_M, z9 = gm_up h6 53 ((q53, Sum.inl (cZ, 60000, Sum.inl (upd (upd (gnd2 nd ix jx li k) (ix k) 1) (jx k) 1))) : Nat × va_E) := ⟨_, rfl⟩
              replace Z : gz D A s.heap h11 H locs := by rw [e_h11]; exact Z
              have f_53_h11 : h11 53 = some ((q53, Sum.inl (cZ, 60000, Sum.inl (upd (upd (gnd2 nd ix jx li k) (ix k) 1) (jx k) 1))) : Nat × va_E) := by rw [e_h11]; exact gm_self
              replace hU : gm_g h h11 [53] := by rw [e_h11]; exact hU.put (by simp)
              refine lv_iinc (v := nI (k + 1)) (lv' := [(3, Value.int (nI (k + 1))), (0, Value.ref q46), (1, Value.ref a), (2, Value.int 1)]) hx hb d_Mo_need_55 hl (k := 0) rfl (show nI k + 1 = nI (k + 1) from nI_1 _) (by decide) rfl (fun ls hl => ?_)
              refine lv_goto (tgt := 2) hx hb d_Mo_need_58 (by decide) ?_
              have f_53_n : h11 53 = some ((q53, Sum.inl (cZ, 60000, Sum.inl (gnd2 nd ix jx li (k + 1)))) : Nat × va_E) := by rw [gnd2_b c36_7]; exact f_53_h11
              exact ihk _ _ _ _ ⟨hU, f_53_n, lv_sub hl [0, 1, 2, 3] rfl⟩ Z
            · cases hv9
              rw [e_h9] at Z
              exact absurd (hjx k hk c36_7).2 (g8_0 _ (hjx k hk c36_7).1)
          · rcases hp with ⟨q12, hv9, e_h9, g8_0, g8_1⟩ | ⟨hv9, e_h9, g8_0⟩
            · cases hv9
            · cases hv9
      · cases hv9
        rw [e_h4] at Z
        exact absurd (hix k hk).2 (g3_0 _ (hix k hk).1)
    · rcases hp with ⟨q13, hv9, e_h4, g3_0, g3_1⟩ | ⟨hv9, e_h4, g3_0⟩
      · cases hv9
      · cases hv9
  · obtain ⟨hU, f_53_w1, hl⟩ := hI
    have e_w1 := hU
    refine lv_iload_n hx hb d_Mo_need_2 rfl (lv_at hl 0 rfl) ?_
    refine lv_aload_n hx hb d_Mo_need_3 rfl (lv_at hl 2 rfl) ?_
    have f_n_w1 : w1 n = some ((a, Sum.inr (9, [Value.ref a1, Value.ref a2, Value.ref a3, Value.ref a4, Value.ref a5, Value.ref a6, Value.ref a7, Value.int (nI sg), Value.int se, Value.int ow, Value.int nu])) : Nat × va_E) := e_w1.at f_n (by first | decide | (simp; done) | (simp; omega))
    refine gz_get (ci := 9) (v := Value.int (nI sg)) (C := "CommitLedgerModel$Version") (T := F_Ve) (N := 11) hx hb hts i_Ve hown hK Z f_n_w1 rfl 7 (by decide) kf_Mo_122 rfl d_Mo_need_4 ?_
    refine lv_icmp_ge (tgt := 61) hx hb d_Mo_need_7 (by decide) (fun _ => ?_) (fun c9 => absurd (nI_le (Nat.le_refl _) (by omega)) c9)
    exact gz_vret hx hb hr hlocks hK Z (by decide) (by decide) (by rw [← hPQ]; exact ⟨rfl, hU, f_53_w1⟩) d_Mo_need_61
