/-! nothingNew of the reference over maps; rows printed by own text programs -/
set_option maxHeartbeats 4000000 in
set_option maxRecDepth 100000 in
theorem k_Mo_nothingNew (l : Launch) (htr : l.stackTraces = false) (D : va_G) (tys : List (ClassId × FieldType)) (z sz : Nat) (ws : va_W) (h : gm_M) (hM : gm_S h ws) (cI : ClassId) (cZ : ClassId) (q46 : Nat) (q47 : Nat) (q48 : Nat) (q49 : Nat) (q50 : Nat) (q51 : Nat) (q52 : Nat) (q53 : Nat) (q54 : Nat) (q62 : Nat) (q70 : Nat) (q78 : Nat) (q79 : Nat) (q80 : Nat) (q81 : Nat) (q82 : Nat) (q83 : Nat) (um : Value) (m_error : Int32) (m_thrown : Int32) (m_docs : Int32) (m_filesThere : Int32) (m_files : Int32) (m_actions : Int32) (m_power : Int32) (m_lost : Int32) (m_open : Int32) (m_isPrepared : Int32) (m_generation : Int32) (m_buffered : Int32) (m_limit : Int32) (m_factor : Int32) (m_merges : Int32) (m_opened : Int32) (m_chosenMany : Int32) (m_begun : Int32) (q55 : Nat) (q56 : Nat) (q57 : Nat) (q58 : Nat) (q59 : Nat) (q60 : Nat) (q61 : Nat) (fl : Nat → Int32) (li : Nat → Int32) (mg : Nat → Int32) (lv : Nat → Int32) (lt : Nat → Int32) (fr : Nat → Nat) (dc : Nat → Nat) (sg : Nat) (se : Int32) (ow : Int32) (nu : Int32) (q63 : Nat) (q64 : Nat) (q65 : Nat) (q66 : Nat) (q67 : Nat) (q68 : Nat) (q69 : Nat) (fl2 : Nat → Int32) (li2 : Nat → Int32) (mg2 : Nat → Int32) (lv2 : Nat → Int32) (lt2 : Nat → Int32) (fr2 : Nat → Nat) (dc2 : Nat → Nat) (sg2 : Nat) (se2 : Int32) (ow2 : Int32) (nu2 : Int32) (f_46 : h 46 = some ((q46, Sum.inr (8, [Value.int m_error, Value.int m_thrown, Value.ref q47, Value.ref q48, Value.ref q49, Value.int m_docs, Value.ref q50, Value.ref q51, Value.ref q52, Value.ref q53, Value.int m_filesThere, Value.int m_files, Value.int m_actions, Value.int m_power, Value.int m_lost, Value.ref q54, Value.ref q62, Value.ref q70, Value.int m_open, Value.int m_isPrepared, Value.int m_generation, Value.ref q78, Value.ref q79, Value.int m_buffered, Value.int m_limit, Value.int m_factor, um, Value.ref q80, Value.ref q81, Value.ref q82, Value.int m_merges, Value.ref q83, Value.int m_opened, Value.int m_chosenMany, Value.int m_begun])) : Nat × va_E)) (f_54 : h 54 = some ((q54, Sum.inr (9, [Value.ref q55, Value.ref q56, Value.ref q57, Value.ref q58, Value.ref q59, Value.ref q60, Value.ref q61, Value.int (nI sg), Value.int se, Value.int ow, Value.int nu])) : Nat × va_E)) (f_55 : h 55 = some ((q55, Sum.inl (cI, 4097, Sum.inl fl)) : Nat × va_E)) (f_56 : h 56 = some ((q56, Sum.inl (cI, 4097, Sum.inl li)) : Nat × va_E)) (f_57 : h 57 = some ((q57, Sum.inl (cI, 4098, Sum.inl (gi fr))) : Nat × va_E)) (f_58 : h 58 = some ((q58, Sum.inl (cI, 4097, Sum.inl mg)) : Nat × va_E)) (f_59 : h 59 = some ((q59, Sum.inl (cI, 4096, Sum.inl (gi dc))) : Nat × va_E)) (f_60 : h 60 = some ((q60, Sum.inl (cZ, 4096, Sum.inl lv)) : Nat × va_E)) (f_61 : h 61 = some ((q61, Sum.inl (cZ, 4096, Sum.inl lt)) : Nat × va_E)) (f_62 : h 62 = some ((q62, Sum.inr (9, [Value.ref q63, Value.ref q64, Value.ref q65, Value.ref q66, Value.ref q67, Value.ref q68, Value.ref q69, Value.int (nI sg2), Value.int se2, Value.int ow2, Value.int nu2])) : Nat × va_E)) (f_63 : h 63 = some ((q63, Sum.inl (cI, 4097, Sum.inl fl2)) : Nat × va_E)) (f_64 : h 64 = some ((q64, Sum.inl (cI, 4097, Sum.inl li2)) : Nat × va_E)) (f_65 : h 65 = some ((q65, Sum.inl (cI, 4098, Sum.inl (gi fr2))) : Nat × va_E)) (f_66 : h 66 = some ((q66, Sum.inl (cI, 4097, Sum.inl mg2)) : Nat × va_E)) (f_67 : h 67 = some ((q67, Sum.inl (cI, 4096, Sum.inl (gi dc2))) : Nat × va_E)) (f_68 : h 68 = some ((q68, Sum.inl (cZ, 4096, Sum.inl lv2)) : Nat × va_E)) (f_69 : h 69 = some ((q69, Sum.inl (cZ, 4096, Sum.inl lt2)) : Nat × va_E)) (ht0 : tys[0]? = some ((cI, FieldType.int) : ClassId × FieldType)) (ht1 : tys[1]? = some ((cZ, FieldType.boolean) : ClassId × FieldType)) (hsg : sg ≤ 4096) (hd0 : fr sg ≤ 4096) : gx_Met l y_Mo_nothingNew [Cond.code y_Mo_nothingNew b_Mo_nothingNew 2 (some .boolean)] { frames := 2, cells := 0, slots := 0, locals := 32 } (gx_P z sz D classes tys ws [Value.ref q46]) (gx_Q D classes tys (va_A ws sz) (gm_p (fun r h' => (r = Sum.inl (some (Value.int 0)) ∧ h' = h ∧ (m_generation = 0)) ∨ (r = Sum.inl (some (Value.int 0)) ∧ h' = h ∧ (¬ m_generation = 0) ∧ (¬ nI sg = nI sg2)) ∨ (r = Sum.inl (some (Value.int 0)) ∧ h' = h ∧ (¬ m_generation = 0) ∧ (¬ se = se2)) ∨ (∃ q : Nat, r = Sum.inl (some (Value.int 0)) ∧ h' = h ∧ (¬ m_generation = 0) ∧ (q < sg) ∧ (¬ fl q = fl2 q)) ∨ (∃ q : Nat, r = Sum.inl (some (Value.int 0)) ∧ h' = h ∧ (¬ m_generation = 0) ∧ (q < fr sg) ∧ (¬ lv q = lv2 q)) ∨ (r = Sum.inl (some (Value.int 1)) ∧ h' = h ∧ (¬ m_generation = 0) ∧ (nI sg = nI sg2) ∧ (se = se2) ∧ (∀ i, i < sg → fl i = fl2 i) ∧ (∀ i, i < fr sg → lv i = lv2 i))))) 0 0 (va_A ws sz) := by
  refine gx_ofW (cc := b_Mo_nothingNew) (maxL := 2) (ret := (some .boolean)) (by decide) rfl ?_
  intro p e s m args below meth c s₁ B hml hv
  obtain ⟨rfl, hsz, hz, hP, hK, hD0, hY⟩ := hv
  have hx := B.exec
  have hb := B.bytes
  have hr := B.returns
  have hts := hY.hts (#[Value.ref q46] : Array Value)
  have hown : s.vm.findClass "CommitLedgerModel" = some m.cls := findClass_of_methodNamed B.named
  have hlocks := B.notSynchronized
  have hne : c.exceptionTable.isEmpty = true := B.noHandlers (atoms_spec (ws := [Cond.code y_Mo_nothingNew b_Mo_nothingNew 2 (some .boolean)]) B.pre _ List.mem_cons_self)
  subst hsz
  have hAz := gx_az hD0 hz
  have hD := hD0.self (sz := s.heap.size)
  have hN := gx_ns hP
  have hA : ∀ q : Nat, s.heap.size ≤ q → va_A ws s.heap.size q := fun q h => Or.inr h
  generalize va_A ws s.heap.size = A at hD hN hA hAz ⊢
  generalize hPQ : (fun (r : Option Value ⊕ String) (h' : gm_M) => (r = Sum.inl (some (Value.int 0)) ∧ h' = h ∧ (m_generation = 0)) ∨ (r = Sum.inl (some (Value.int 0)) ∧ h' = h ∧ (¬ m_generation = 0) ∧ (¬ nI sg = nI sg2)) ∨ (r = Sum.inl (some (Value.int 0)) ∧ h' = h ∧ (¬ m_generation = 0) ∧ (¬ se = se2)) ∨ (∃ q : Nat, r = Sum.inl (some (Value.int 0)) ∧ h' = h ∧ (¬ m_generation = 0) ∧ (q < sg) ∧ (¬ fl q = fl2 q)) ∨ (∃ q : Nat, r = Sum.inl (some (Value.int 0)) ∧ h' = h ∧ (¬ m_generation = 0) ∧ (q < fr sg) ∧ (¬ lv q = lv2 q)) ∨ (r = Sum.inl (some (Value.int 1)) ∧ h' = h ∧ (¬ m_generation = 0) ∧ (nI sg = nI sg2) ∧ (se = se2) ∧ (∀ i, i < sg → fl i = fl2 i) ∧ (∀ i, i < fr sg → lv i = lv2 i))) = PQ
  have Z : gz D A s.heap h s.heap [] := ⟨ws, hM, hP, hD, va_S.rf⟩
  clear hP hD hM hD0
  have hU : gm_g h h [] := gm_g.rf
  have hl := lv_entry ([Value.ref q46]) (n := 2) (Nat.le_of_ble_eq_true rfl)
  rw [lg_entry_eq]
  generalize (lg_sl ([Value.ref q46]) ++ List.replicate (2 - (lg_sl ([Value.ref q46])).length) Slot.unset).toArray = ls at hl ⊢
  have hl : lv_has ls 2 [(0, Value.ref q46)] := hl
  refine lv_aload_n hx hb d_Mo_nothingNew_0 rfl (lv_at hl 0 rfl) ?_
  refine gz_get (ci := 8) (v := Value.int m_generation) (C := "CommitLedgerModel") (T := F_Mo) (N := 35) hx hb hts i_Mo hown hK Z f_46 rfl 20 (by decide) kf_Mo_135 rfl d_Mo_nothingNew_1 ?_
  refine lv_if_eq (tgt := 41) hx hb d_Mo_nothingNew_4 (by decide) (fun c4_1 => ?_) (fun c4_1 => ?_)
  · refine lv_iconst (v := 0) hx hb d_Mo_nothingNew_41 (by decide) ?_
    exact gz_zret (v := 0) hx hb hr hlocks hK Z (by decide) (by decide) (rfl) (by rw [← hPQ]; exact Or.inl ⟨rfl, rfl, c4_1⟩) d_Mo_nothingNew_42
  · refine lv_aload_n hx hb d_Mo_nothingNew_7 rfl (lv_at hl 0 rfl) ?_
    refine gz_get (ci := 8) (v := Value.ref q54) (C := "CommitLedgerModel") (T := F_Mo) (N := 35) hx hb hts i_Mo hown hK Z f_46 rfl 15 (by decide) kf_Mo_40 rfl d_Mo_nothingNew_8 ?_
    refine gz_get (ci := 9) (v := Value.int (nI sg)) (C := "CommitLedgerModel$Version") (T := F_Ve) (N := 11) hx hb hts i_Ve hown hK Z f_54 rfl 7 (by decide) kf_Mo_122 rfl d_Mo_nothingNew_11 ?_
    refine lv_aload_n hx hb d_Mo_nothingNew_14 rfl (lv_at hl 0 rfl) ?_
    refine gz_get (ci := 8) (v := Value.ref q62) (C := "CommitLedgerModel") (T := F_Mo) (N := 35) hx hb hts i_Mo hown hK Z f_46 rfl 16 (by decide) kf_Mo_44 rfl d_Mo_nothingNew_15 ?_
    refine gz_get (ci := 9) (v := Value.int (nI sg2)) (C := "CommitLedgerModel$Version") (T := F_Ve) (N := 11) hx hb hts i_Ve hown hK Z f_62 rfl 7 (by decide) kf_Mo_122 rfl d_Mo_nothingNew_18 ?_
    refine lv_icmp_ne (tgt := 41) hx hb d_Mo_nothingNew_21 (by decide) (fun c21_2 => ?_) (fun c21_2 => ?_)
    · refine lv_iconst (v := 0) hx hb d_Mo_nothingNew_41 (by decide) ?_
      exact gz_zret (v := 0) hx hb hr hlocks hK Z (by decide) (by decide) (rfl) (by rw [← hPQ]; exact Or.inr (Or.inl ⟨rfl, rfl, c4_1, c21_2⟩)) d_Mo_nothingNew_42
    · refine lv_aload_n hx hb d_Mo_nothingNew_24 rfl (lv_at hl 0 rfl) ?_
      refine gz_get (ci := 8) (v := Value.ref q54) (C := "CommitLedgerModel") (T := F_Mo) (N := 35) hx hb hts i_Mo hown hK Z f_46 rfl 15 (by decide) kf_Mo_40 rfl d_Mo_nothingNew_25 ?_
      refine gz_get (ci := 9) (v := Value.int se) (C := "CommitLedgerModel$Version") (T := F_Ve) (N := 11) hx hb hts i_Ve hown hK Z f_54 rfl 8 (by decide) kf_Mo_159 rfl d_Mo_nothingNew_28 ?_
      refine lv_aload_n hx hb d_Mo_nothingNew_31 rfl (lv_at hl 0 rfl) ?_
      refine gz_get (ci := 8) (v := Value.ref q62) (C := "CommitLedgerModel") (T := F_Mo) (N := 35) hx hb hts i_Mo hown hK Z f_46 rfl 16 (by decide) kf_Mo_44 rfl d_Mo_nothingNew_32 ?_
      refine gz_get (ci := 9) (v := Value.int se2) (C := "CommitLedgerModel$Version") (T := F_Ve) (N := 11) hx hb hts i_Ve hown hK Z f_62 rfl 8 (by decide) kf_Mo_159 rfl d_Mo_nothingNew_35 ?_
      refine lv_icmp_eq (tgt := 43) hx hb d_Mo_nothingNew_38 (by decide) (fun c38_3 => ?_) (fun c38_3 => ?_)
      · refine lv_iconst (v := 0) hx hb d_Mo_nothingNew_43 (by decide) ?_
        refine lv_istore_n (lv' := [(1, Value.int 0), (0, Value.ref q46)]) hx hb d_Mo_nothingNew_44 rfl hl (by decide) rfl (fun ls hl => ?_)
        refine gz_loop (N := sg) (pc := 45) (fun _ => 0) (fun _ => 0) (fun k h9 ls => h9 = h ∧ (∀ i, i < k → fl i = fl2 i) ∧ lv_has ls 2 [(1, Value.int (nI k)), (0, Value.ref q46)]) (fun k w4 H locs ls hk hI Z ihk => ?_) (fun w4 H locs ls hI Z => ?_) (sg) 0 _ _ _ _ (Nat.zero_add _) ⟨rfl, fun i h1 => absurd h1 (Nat.not_lt_zero i), lv_sub hl [0, 1] rfl⟩ Z
        · obtain ⟨hU, hj9, hl⟩ := hI
          rw [hU] at Z
          have hU : gm_g h h [] := gm_g.rf
          refine lv_iload_n hx hb d_Mo_nothingNew_45 rfl (lv_at hl 0 rfl) ?_
          refine lv_aload_n hx hb d_Mo_nothingNew_46 rfl (lv_at hl 1 rfl) ?_
          refine gz_get (ci := 8) (v := Value.ref q54) (C := "CommitLedgerModel") (T := F_Mo) (N := 35) hx hb hts i_Mo hown hK Z f_46 rfl 15 (by decide) kf_Mo_40 rfl d_Mo_nothingNew_47 ?_
          refine gz_get (ci := 9) (v := Value.int (nI sg)) (C := "CommitLedgerModel$Version") (T := F_Ve) (N := 11) hx hb hts i_Ve hown hK Z f_54 rfl 7 (by decide) kf_Mo_122 rfl d_Mo_nothingNew_50 ?_
          refine lv_icmp_ge (tgt := 85) hx hb d_Mo_nothingNew_53 (by decide) (fun c9 => absurd c9 (nI_ge hk (by omega))) (fun _ => ?_)
          refine lv_aload_n hx hb d_Mo_nothingNew_56 rfl (lv_at hl 1 rfl) ?_
          refine gz_get (ci := 8) (v := Value.ref q54) (C := "CommitLedgerModel") (T := F_Mo) (N := 35) hx hb hts i_Mo hown hK Z f_46 rfl 15 (by decide) kf_Mo_40 rfl d_Mo_nothingNew_57 ?_
          refine gz_get (ci := 9) (v := Value.ref q55) (C := "CommitLedgerModel$Version") (T := F_Ve) (N := 11) hx hb hts i_Ve hown hK Z f_54 rfl 0 (by decide) kf_Mo_125 rfl d_Mo_nothingNew_60 ?_
          refine lv_iload_n hx hb d_Mo_nothingNew_63 rfl (lv_at hl 0 rfl) ?_
          refine gz_iald (j := k) hx hb hK Z 0 f_55 ht0 (by omega) (rfl) (by decide) d_Mo_nothingNew_64 ?_
          refine lv_aload_n hx hb d_Mo_nothingNew_65 rfl (lv_at hl 1 rfl) ?_
          refine gz_get (ci := 8) (v := Value.ref q62) (C := "CommitLedgerModel") (T := F_Mo) (N := 35) hx hb hts i_Mo hown hK Z f_46 rfl 16 (by decide) kf_Mo_44 rfl d_Mo_nothingNew_66 ?_
          refine gz_get (ci := 9) (v := Value.ref q63) (C := "CommitLedgerModel$Version") (T := F_Ve) (N := 11) hx hb hts i_Ve hown hK Z f_62 rfl 0 (by decide) kf_Mo_125 rfl d_Mo_nothingNew_69 ?_
          refine lv_iload_n hx hb d_Mo_nothingNew_72 rfl (lv_at hl 0 rfl) ?_
          refine gz_iald (j := k) hx hb hK Z 0 f_63 ht0 (by omega) (rfl) (by decide) d_Mo_nothingNew_73 ?_
          refine lv_icmp_eq (tgt := 79) hx hb d_Mo_nothingNew_74 (by decide) (fun c74_6 => ?_) (fun c74_6 => ?_)
          · refine lv_iinc (v := nI (k + 1)) (lv' := [(1, Value.int (nI (k + 1))), (0, Value.ref q46)]) hx hb d_Mo_nothingNew_79 hl (k := 0) rfl (show nI k + 1 = nI (k + 1) from nI_1 _) (by decide) rfl (fun ls hl => ?_)
            refine lv_goto (tgt := 45) hx hb d_Mo_nothingNew_82 (by decide) ?_
            exact ihk _ _ _ _ ⟨rfl, gv_more0 hj9 c74_6, lv_sub hl [0, 1] rfl⟩ Z
          · refine lv_iconst (v := 0) hx hb d_Mo_nothingNew_77 (by decide) ?_
            exact gz_zret (v := 0) hx hb hr hlocks hK Z (by decide) (by decide) (rfl) (by rw [← hPQ]; exact Or.inr (Or.inr (Or.inr (Or.inl ⟨k, rfl, rfl, c4_1, hk, c74_6⟩)))) d_Mo_nothingNew_78
        · obtain ⟨hU, hj9, hl⟩ := hI
          rw [hU] at Z
          have hU : gm_g h h [] := gm_g.rf
          refine lv_iload_n hx hb d_Mo_nothingNew_45 rfl (lv_at hl 0 rfl) ?_
          refine lv_aload_n hx hb d_Mo_nothingNew_46 rfl (lv_at hl 1 rfl) ?_
          refine gz_get (ci := 8) (v := Value.ref q54) (C := "CommitLedgerModel") (T := F_Mo) (N := 35) hx hb hts i_Mo hown hK Z f_46 rfl 15 (by decide) kf_Mo_40 rfl d_Mo_nothingNew_47 ?_
          refine gz_get (ci := 9) (v := Value.int (nI sg)) (C := "CommitLedgerModel$Version") (T := F_Ve) (N := 11) hx hb hts i_Ve hown hK Z f_54 rfl 7 (by decide) kf_Mo_122 rfl d_Mo_nothingNew_50 ?_
          refine lv_icmp_ge (tgt := 85) hx hb d_Mo_nothingNew_53 (by decide) (fun _ => ?_) (fun c9 => absurd (nI_le (Nat.le_refl _) (by omega)) c9)
          refine lv_iconst (v := 0) hx hb d_Mo_nothingNew_85 (by decide) ?_
          refine lv_istore_n (lv' := [(1, Value.int 0), (0, Value.ref q46)]) hx hb d_Mo_nothingNew_86 rfl hl (by decide) rfl (fun ls hl => ?_)
          refine gz_loop (N := (fr sg)) (pc := 87) (fun _ => 0) (fun _ => 0) (fun k h9 ls => h9 = h ∧ (∀ i, i < k → lv i = lv2 i) ∧ lv_has ls 2 [(1, Value.int (nI k)), (0, Value.ref q46)]) (fun k w8 H locs ls hk hI Z ihk => ?_) (fun w8 H locs ls hI Z => ?_) ((fr sg)) 0 _ _ _ _ (Nat.zero_add _) ⟨rfl, fun i h1 => absurd h1 (Nat.not_lt_zero i), lv_sub hl [0, 1] rfl⟩ Z
          · obtain ⟨hU, hj8, hl⟩ := hI
            rw [hU] at Z
            have hU : gm_g h h [] := gm_g.rf
            refine lv_iload_n hx hb d_Mo_nothingNew_87 rfl (lv_at hl 0 rfl) ?_
            refine lv_aload_n hx hb d_Mo_nothingNew_88 rfl (lv_at hl 1 rfl) ?_
            refine gz_get (ci := 8) (v := Value.ref q54) (C := "CommitLedgerModel") (T := F_Mo) (N := 35) hx hb hts i_Mo hown hK Z f_46 rfl 15 (by decide) kf_Mo_40 rfl d_Mo_nothingNew_89 ?_
            refine gz_call (ig := .invokevirtual 200) (av := [Value.ref q54]) Z (fun ws hM => k_Ve_docs l htr D tys z _ ws h hM cI cZ 54 q54 q55 q56 q57 q58 q59 q60 q61 fl li mg lv lt fr dc sg se ow nu f_54 f_55 f_56 f_57 f_58 f_59 f_60 f_61 ht0 ht1 hsg) (gx_invV (As := []) (rest := [Value.int (nI k)]) hx hb hown hts km_Mo_200 kI_Ve_docs kV_Ve_docs kc_Ve_docs (by decide) (show (parseMethodDescriptor y_Ve_docs.desc).map (fun d => d.parameters.length) = some 0 by decide +kernel) (gz_recv (ci := 9) hK Z rfl f_54) rfl rfl d_Mo_nothingNew_92) (gx_cw (z := 0) hts kc_Ve_docs kN_Ve rfl rfl ⟨Nat.le_of_ble_eq_true rfl, Nat.le_of_ble_eq_true rfl⟩) hb hml hz hK hY hAz hA hl.1 (lv_room (Nat.le_of_ble_eq_true rfl)) d_Mo_nothingNew_92 ⟨Nat.le_of_ble_eq_true rfl, Nat.le_of_ble_eq_true rfl⟩ (fun v9 h10 H locs hp Z => ?_) (fun x9 E9 ce h10 H locs hp hce Z => ?_)
            · rcases hp with ⟨hv9, e_h10⟩
              cases hv9
              rw [e_h10] at Z
              refine W.eq (g2 := F0 m 95 ls [Value.int (nI (fr sg)), Value.int (nI k)]) rfl ?_
              refine lv_icmp_ge (tgt := 127) hx hb d_Mo_nothingNew_95 (by decide) (fun c9 => absurd c9 (nI_ge hk (by omega))) (fun _ => ?_)
              refine lv_aload_n hx hb d_Mo_nothingNew_98 rfl (lv_at hl 1 rfl) ?_
              refine gz_get (ci := 8) (v := Value.ref q54) (C := "CommitLedgerModel") (T := F_Mo) (N := 35) hx hb hts i_Mo hown hK Z f_46 rfl 15 (by decide) kf_Mo_40 rfl d_Mo_nothingNew_99 ?_
              refine gz_get (ci := 9) (v := Value.ref q60) (C := "CommitLedgerModel$Version") (T := F_Ve) (N := 11) hx hb hts i_Ve hown hK Z f_54 rfl 5 (by decide) kf_Mo_188 rfl d_Mo_nothingNew_102 ?_
              refine lv_iload_n hx hb d_Mo_nothingNew_105 rfl (lv_at hl 0 rfl) ?_
              refine gz_zald (j := k) hx hb hK Z 1 f_60 ht1 (by omega) (rfl) (by decide) d_Mo_nothingNew_106 ?_
              refine lv_aload_n hx hb d_Mo_nothingNew_107 rfl (lv_at hl 1 rfl) ?_
              refine gz_get (ci := 8) (v := Value.ref q62) (C := "CommitLedgerModel") (T := F_Mo) (N := 35) hx hb hts i_Mo hown hK Z f_46 rfl 16 (by decide) kf_Mo_44 rfl d_Mo_nothingNew_108 ?_
              refine gz_get (ci := 9) (v := Value.ref q68) (C := "CommitLedgerModel$Version") (T := F_Ve) (N := 11) hx hb hts i_Ve hown hK Z f_62 rfl 5 (by decide) kf_Mo_188 rfl d_Mo_nothingNew_111 ?_
              refine lv_iload_n hx hb d_Mo_nothingNew_114 rfl (lv_at hl 0 rfl) ?_
              refine gz_zald (j := k) hx hb hK Z 1 f_68 ht1 (by omega) (rfl) (by decide) d_Mo_nothingNew_115 ?_
              refine lv_icmp_eq (tgt := 121) hx hb d_Mo_nothingNew_116 (by decide) (fun c116_12 => ?_) (fun c116_12 => ?_)
              · refine lv_iinc (v := nI (k + 1)) (lv' := [(1, Value.int (nI (k + 1))), (0, Value.ref q46)]) hx hb d_Mo_nothingNew_121 hl (k := 0) rfl (show nI k + 1 = nI (k + 1) from nI_1 _) (by decide) rfl (fun ls hl => ?_)
                refine lv_goto (tgt := 87) hx hb d_Mo_nothingNew_124 (by decide) ?_
                exact ihk _ _ _ _ ⟨rfl, gv_more0 hj8 c116_12, lv_sub hl [0, 1] rfl⟩ Z
              · refine lv_iconst (v := 0) hx hb d_Mo_nothingNew_119 (by decide) ?_
                exact gz_zret (v := 0) hx hb hr hlocks hK Z (by decide) (by decide) (rfl) (by rw [← hPQ]; exact Or.inr (Or.inr (Or.inr (Or.inr (Or.inl ⟨k, rfl, rfl, c4_1, hk, c116_12⟩))))) d_Mo_nothingNew_120
            · rcases hp with ⟨hv9, e_h10⟩
              cases hv9
          · obtain ⟨hU, hj8, hl⟩ := hI
            rw [hU] at Z
            have hU : gm_g h h [] := gm_g.rf
            refine lv_iload_n hx hb d_Mo_nothingNew_87 rfl (lv_at hl 0 rfl) ?_
            refine lv_aload_n hx hb d_Mo_nothingNew_88 rfl (lv_at hl 1 rfl) ?_
            refine gz_get (ci := 8) (v := Value.ref q54) (C := "CommitLedgerModel") (T := F_Mo) (N := 35) hx hb hts i_Mo hown hK Z f_46 rfl 15 (by decide) kf_Mo_40 rfl d_Mo_nothingNew_89 ?_
            refine gz_call (ig := .invokevirtual 200) (av := [Value.ref q54]) Z (fun ws hM => k_Ve_docs l htr D tys z _ ws h hM cI cZ 54 q54 q55 q56 q57 q58 q59 q60 q61 fl li mg lv lt fr dc sg se ow nu f_54 f_55 f_56 f_57 f_58 f_59 f_60 f_61 ht0 ht1 hsg) (gx_invV (As := []) (rest := [Value.int (nI (fr sg))]) hx hb hown hts km_Mo_200 kI_Ve_docs kV_Ve_docs kc_Ve_docs (by decide) (show (parseMethodDescriptor y_Ve_docs.desc).map (fun d => d.parameters.length) = some 0 by decide +kernel) (gz_recv (ci := 9) hK Z rfl f_54) rfl rfl d_Mo_nothingNew_92) (gx_cw (z := 0) hts kc_Ve_docs kN_Ve rfl rfl ⟨Nat.le_of_ble_eq_true rfl, Nat.le_of_ble_eq_true rfl⟩) hb hml hz hK hY hAz hA hl.1 (lv_room (Nat.le_of_ble_eq_true rfl)) d_Mo_nothingNew_92 ⟨Nat.le_of_ble_eq_true rfl, Nat.le_of_ble_eq_true rfl⟩ (fun v13 h14 H locs hp Z => ?_) (fun x13 E9 ce h14 H locs hp hce Z => ?_)
            · rcases hp with ⟨hv9, e_h14⟩
              cases hv9
              rw [e_h14] at Z
              refine W.eq (g2 := F0 m 95 ls [Value.int (nI (fr sg)), Value.int (nI (fr sg))]) rfl ?_
              refine lv_icmp_ge (tgt := 127) hx hb d_Mo_nothingNew_95 (by decide) (fun _ => ?_) (fun c9 => absurd (nI_le (Nat.le_refl _) (by omega)) c9)
              refine lv_iconst (v := 1) hx hb d_Mo_nothingNew_127 (by decide) ?_
              exact gz_zret (v := 1) hx hb hr hlocks hK Z (by decide) (by decide) (rfl) (by rw [← hPQ]; exact Or.inr (Or.inr (Or.inr (Or.inr (Or.inr (⟨rfl, rfl, c4_1, c21_2, c38_3, hj9, hj8⟩)))))) d_Mo_nothingNew_128
            · rcases hp with ⟨hv9, e_h14⟩
              cases hv9
      · refine lv_iconst (v := 0) hx hb d_Mo_nothingNew_41 (by decide) ?_
        exact gz_zret (v := 0) hx hb hr hlocks hK Z (by decide) (by decide) (rfl) (by rw [← hPQ]; exact Or.inr (Or.inr (Or.inl ⟨rfl, rfl, c4_1, c38_3⟩))) d_Mo_nothingNew_42
