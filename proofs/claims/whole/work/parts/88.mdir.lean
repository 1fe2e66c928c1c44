/-! Directory over maps: find, needNone, needSynced; rows printed by own text programs, but for the first -/
def gn_none (F : Nat → Nat → Nat) (th : Nat → Nat) : Nat → Nat → Nat → Nat
  | 0 => F
  | k + 1 => gf_up (gn_none F th k) (th k) 3 0
def gn_syn (F : Nat → Nat → Nat) (th : Nat → Nat) : Nat → Nat → Nat → Nat
  | 0 => F
  | k + 1 => gf_up (gn_syn F th k) (th k) 3 (gn_syn F th k (th k) 1)
theorem gn_syn_1 {F : Nat → Nat → Nat} {th : Nat → Nat} {a j : Nat} (hj : j ≠ 3) : ∀ k : Nat, gn_syn F th k a j = F a j := by
  intro k
  induction k with
  | zero => rfl
  | succ k ih =>
    show gf_up (gn_syn F th k) (th k) 3 (gn_syn F th k (th k) 1) a j = F a j
    rw [gf_up_i hj]
    exact ih
theorem gn_none_1 {F : Nat → Nat → Nat} {th : Nat → Nat} {a j : Nat} (hj : j ≠ 3) : ∀ k : Nat, gn_none F th k a j = F a j := by
  intro k
  induction k with
  | zero => rfl
  | succ k ih =>
    show gf_up (gn_none F th k) (th k) 3 0 a j = F a j
    rw [gf_up_i hj]
    exact ih
set_option maxHeartbeats 4000000 in
set_option maxRecDepth 100000 in
theorem k_Di_needNone (l : Launch) (htr : l.stackTraces = false) (D : va_G) (tys : List (ClassId × FieldType)) (z sz : Nat) (ws : va_W) (h : gm_M) (hM : gm_S h ws) (cO : ClassId) (q5 : Nat) (q6 : Nat) (q7 : Nat) (qt : Nat) (ct : Nat) (cpt : Nat) (wr : Int32) (ks : Int32) (mdt : Int32) (gt : Nat → Option Nat) (th : Nat → Nat) (P : Nat → Prop) (F : Nat → Nat → Nat) (f_5 : h 5 = some ((q5, Sum.inr (2, [Value.ref q6, Value.ref q7, Value.int wr, Value.int ks])) : Nat × va_E)) (f_6 : h 6 = some ((q6, Sum.inr (3, [Value.ref qt, Value.int (nI ct), Value.int mdt])) : Nat × va_E)) (f_120 : h 120 = some ((qt, Sum.inl (cO, cpt, Sum.inr (Sum.inr (Sum.inr (Sum.inr gt))))) : Nat × va_E)) (ht7 : tys[7]? = some ((cO, FieldType.object "java/lang/Object") : ClassId × FieldType)) (fam : gf_F P F h) (hct : ct ≤ cpt) (hcpt : cpt ≤ 200000) (hth : ∀ i, i < ct → gt i = some (th i) ∧ P (th i)) : gx_Met l y_Di_needNone [Cond.code y_Di_needNone b_Di_needNone 2 none] { frames := 4, cells := 0, slots := 0, locals := 76 } (gx_P z sz D classes tys ws [Value.ref q5]) (gx_Q D classes tys (va_A ws sz) (gm_p (fun r h' => (r = Sum.inl none ∧ gm_f h h' [] ∧ gf_F P (gn_none F th ct) h')))) 0 0 (va_A ws sz) := by
  refine gx_ofW (cc := b_Di_needNone) (maxL := 2) (ret := none) (by decide) rfl ?_
  intro p e s m args below meth c s₁ B hml hv
  obtain ⟨rfl, hsz, hz, hP, hK, hD0, hY⟩ := hv
  have hx := B.exec
  have hb := B.bytes
  have hr := B.returns
  have hts := hY.hts (#[Value.ref q5] : Array Value)
  have hown : s.vm.findClass "CommitLedger$Directory" = some m.cls := findClass_of_methodNamed B.named
  have hlocks := B.notSynchronized
  have hne : c.exceptionTable.isEmpty = true := B.noHandlers (atoms_spec (ws := [Cond.code y_Di_needNone b_Di_needNone 2 none]) B.pre _ List.mem_cons_self)
  subst hsz
  have hAz := gx_az hD0 hz
  have hD := hD0.self (sz := s.heap.size)
  have hN := gx_ns hP
  have hA : ∀ q : Nat, s.heap.size ≤ q → va_A ws s.heap.size q := fun q h => Or.inr h
  generalize va_A ws s.heap.size = A at hD hN hA hAz ⊢
  generalize hPQ : (fun (r : Option Value ⊕ String) (h' : gm_M) => (r = Sum.inl none ∧ gm_f h h' [] ∧ gf_F P (gn_none F th ct) h')) = PQ
  have Z : gz D A s.heap h s.heap [] := ⟨ws, hM, hP, hD, va_S.rf⟩
  clear hP hD hM hD0
  have hU : gm_f h h [] := gm_f.rf
  have hl := lv_entry ([Value.ref q5]) (n := 2) (Nat.le_of_ble_eq_true rfl)
  rw [lg_entry_eq]
  generalize (lg_sl ([Value.ref q5]) ++ List.replicate (2 - (lg_sl ([Value.ref q5])).length) Slot.unset).toArray = ls at hl ⊢
  have hl : lv_has ls 2 [(0, Value.ref q5)] := hl
  refine lv_iconst (v := 0) hx hb d_Di_needNone_0 (by decide) ?_
  refine lv_istore_n (lv' := [(1, Value.int 0), (0, Value.ref q5)]) hx hb d_Di_needNone_1 rfl hl (by decide) rfl (fun ls hl => ?_)
  have fam_n : gf_F P (gn_none F th 0) h := by skip; exact fam
  refine gz_loop (N := ct) (pc := 2) (fun _ => 0) (fun _ => 0) (fun k h9 ls => gm_f h h9 [] ∧ gf_F P (gn_none F th k) h9 ∧ lv_has ls 2 [(1, Value.int (nI k)), (0, Value.ref q5)]) (fun k w1 H locs ls hk hI Z ihk => ?_) (fun w1 H locs ls hI Z => ?_) (ct) 0 _ _ _ _ (Nat.zero_add _) ⟨hU, fam_n, lv_sub hl [0, 1] rfl⟩ Z
  · obtain ⟨hU, fam_w1, hl⟩ := hI
    have e_w1 := hU
    refine lv_iload_n hx hb d_Di_needNone_2 rfl (lv_at hl 0 rfl) ?_
    refine lv_aload_n hx hb d_Di_needNone_3 rfl (lv_at hl 1 rfl) ?_
    have f_5_w1 : w1 5 = some ((q5, Sum.inr (2, [Value.ref q6, Value.ref q7, Value.int wr, Value.int ks])) : Nat × va_E) := e_w1.at f_5 (by first | decide | (simp; done) | (simp; omega))
    refine gz_get (ci := 2) (v := Value.ref q6) (C := "CommitLedger$Directory") (T := F_Di) (N := 4) hx hb hts i_Di hown hK Z f_5_w1 rfl 0 (by decide) kf_Di_10 rfl d_Di_needNone_4 ?_
    have f_6_w1 : w1 6 = some ((q6, Sum.inr (3, [Value.ref qt, Value.int (nI ct), Value.int mdt])) : Nat × va_E) := e_w1.at f_6 (by first | decide | (simp; done) | (simp; omega))
    refine gz_call (ig := .invokevirtual 26) (av := [Value.ref q6]) Z (fun ws hM => k_Al_size l htr D tys z _ ws w1 hM 6 q6 ct (Value.ref qt) mdt f_6_w1) (gx_invV (As := []) (rest := [Value.int (nI k)]) hx hb hown hts km_Di_26 kI_Al_size kV_Al_size kc_Al_size (by decide) (show (parseMethodDescriptor y_Al_size.desc).map (fun d => d.parameters.length) = some 0 by decide +kernel) (gz_recv (ci := 3) hK Z rfl f_6_w1) rfl rfl d_Di_needNone_7) (gx_cw (z := 0) hts kc_Al_size kN_Al rfl rfl ⟨Nat.le_of_ble_eq_true rfl, Nat.le_of_ble_eq_true rfl⟩) hb hml hz hK hY hAz hA hl.1 (lv_room (Nat.le_of_ble_eq_true rfl)) d_Di_needNone_7 ⟨Nat.le_of_ble_eq_true rfl, Nat.le_of_ble_eq_true rfl⟩ (fun v2 h3 H locs hp Z => ?_) (fun x2 E9 ce h3 H locs hp hce Z => ?_)
    · rcases hp with ⟨hv9, e_h3⟩
      cases hv9
      rw [e_h3] at Z
      refine W.eq (g2 := F0 m 10 ls [Value.int (nI ct), Value.int (nI k)]) rfl ?_
      refine lv_icmp_ge (tgt := 34) hx hb d_Di_needNone_10 (by decide) (fun c9 => absurd c9 (nI_ge hk (by omega))) (fun _ => ?_)
      refine lv_aload_n hx hb d_Di_needNone_13 rfl (lv_at hl 1 rfl) ?_
      refine gz_get (ci := 2) (v := Value.ref q6) (C := "CommitLedger$Directory") (T := F_Di) (N := 4) hx hb hts i_Di hown hK Z f_5_w1 rfl 0 (by decide) kf_Di_10 rfl d_Di_needNone_14 ?_
      refine lv_iload_n hx hb d_Di_needNone_17 rfl (lv_at hl 0 rfl) ?_
      have f_120_w1 : w1 120 = some ((qt, Sum.inl (cO, cpt, Sum.inr (Sum.inr (Sum.inr (Sum.inr gt))))) : Nat × va_E) := e_w1.at f_120 (by first | decide | (simp; done) | (simp; omega))
      refine gz_call (ig := .invokevirtual 64) (av := [Value.ref q6, Value.int (nI k)]) Z (fun ws hM => k_Al_get l htr D tys z _ ws w1 hM cO 6 q6 120 qt ct cpt mdt gt k (th k) P (gn_none F th k) f_6_w1 f_120_w1 ht7 fam_w1 hcpt hct (by first | assumption | decide | omega) hk (hth k hk).1 (hth k hk).2) (gx_invV (As := [Value.int (nI k)]) (rest := []) hx hb hown hts km_Di_64 kI_Al_get kV_Al_get kc_Al_get (by decide) (show (parseMethodDescriptor y_Al_get.desc).map (fun d => d.parameters.length) = some 1 by decide +kernel) (gz_recv (ci := 3) hK Z rfl f_6_w1) rfl rfl d_Di_needNone_18) (gx_cw (z := 0) hts kc_Al_get kN_Al rfl rfl ⟨Nat.le_of_ble_eq_true rfl, Nat.le_of_ble_eq_true rfl⟩) hb hml hz hK hY hAz hA hl.1 (lv_room (Nat.le_of_ble_eq_true rfl)) d_Di_needNone_18 ⟨Nat.le_of_ble_eq_true rfl, Nat.le_of_ble_eq_true rfl⟩ (fun v5 h6 H locs hp Z => ?_) (fun x5 E9 ce h6 H locs hp hce Z => ?_)
      · rcases hp with ⟨hv9, e_h6⟩
        cases hv9
        rw [e_h6] at Z
        refine W.eq (g2 := F0 m 21 ls [Value.ref (th k)]) rfl ?_
        refine va_castY (C := "CommitLedger$LedgerFile") hx hb hown (hts _ kk_Di_23) (va_Nw.of rfl (hts _ kW_FiFi)) (gz_recv (ci := 7) hK Z rfl (fam_w1 (th k) (hth k hk).2)) d_Di_needNone_21 ?_
        refine lv_iconst (v := 0) hx hb d_Di_needNone_24 (by decide) ?_
        refine gz_put (ci := 7) (v := Value.int 0) (ty := .boolean) (C := "CommitLedger$LedgerFile") (T := F_Fi) (N := 7) hx hb hts i_Fi t_Fi_ok n_Fi hown hK Z (fam_w1 (th k) (hth k hk).2) rfl 3 (by decide) kf_Di_48 rfl (by decide +kernel) rfl rfl (Nat.le_of_ble_eq_true rfl) d_Di_needNone_25 (fun H locs Z => ?_)
        obtain ⟨h7, e_h7⟩ : ∃ z9 : gm_M, z9 = gm_up w1 (1000 + (th k)) ((th k, Sum.inr (7, [Value.int (nI ((gn_none F th k) (th k) 0)), Value.int (nI ((gn_none F th k) (th k) 1)), Value.int (nI ((gn_none F th k) (th k) 2)), Value.int 0, Value.int (nI ((gn_none F th k) (th k) 4)), Value.int (nI ((gn_none F th k) (th k) 5)), Value.int (nI ((gn_none F th k) (th k) 6))])) : Nat × va_E) := ⟨_, rfl⟩
        replace Z : gz D A s.heap h7 H locs := by rw [e_h7]; exact Z
        have fam_h7 : gf_F P (gf_up (gn_none F th k) (th k) 3 0) h7 := by rw [e_h7]; exact gf_put3 fam_w1
        replace hU : gm_f h h7 [] := by rw [e_h7]; exact hU.file
        refine lv_iinc (v := nI (k + 1)) (lv' := [(1, Value.int (nI (k + 1))), (0, Value.ref q5)]) hx hb d_Di_needNone_28 hl (k := 0) rfl (show nI k + 1 = nI (k + 1) from nI_1 _) (by decide) rfl (fun ls hl => ?_)
        refine lv_goto (tgt := 2) hx hb d_Di_needNone_31 (by decide) ?_
        have fam_n : gf_F P (gn_none F th (k + 1)) h7 := by skip; exact fam_h7
        exact ihk _ _ _ _ ⟨hU, fam_n, lv_sub hl [0, 1] rfl⟩ Z
      · rcases hp with ⟨hv9, e_h6⟩
        cases hv9
    · rcases hp with ⟨hv9, e_h3⟩
      cases hv9
  · obtain ⟨hU, fam_w1, hl⟩ := hI
    have e_w1 := hU
    refine lv_iload_n hx hb d_Di_needNone_2 rfl (lv_at hl 0 rfl) ?_
    refine lv_aload_n hx hb d_Di_needNone_3 rfl (lv_at hl 1 rfl) ?_
    have f_5_w1 : w1 5 = some ((q5, Sum.inr (2, [Value.ref q6, Value.ref q7, Value.int wr, Value.int ks])) : Nat × va_E) := e_w1.at f_5 (by first | decide | (simp; done) | (simp; omega))
    refine gz_get (ci := 2) (v := Value.ref q6) (C := "CommitLedger$Directory") (T := F_Di) (N := 4) hx hb hts i_Di hown hK Z f_5_w1 rfl 0 (by decide) kf_Di_10 rfl d_Di_needNone_4 ?_
    have f_6_w1 : w1 6 = some ((q6, Sum.inr (3, [Value.ref qt, Value.int (nI ct), Value.int mdt])) : Nat × va_E) := e_w1.at f_6 (by first | decide | (simp; done) | (simp; omega))
    refine gz_call (ig := .invokevirtual 26) (av := [Value.ref q6]) Z (fun ws hM => k_Al_size l htr D tys z _ ws w1 hM 6 q6 ct (Value.ref qt) mdt f_6_w1) (gx_invV (As := []) (rest := [Value.int (nI ct)]) hx hb hown hts km_Di_26 kI_Al_size kV_Al_size kc_Al_size (by decide) (show (parseMethodDescriptor y_Al_size.desc).map (fun d => d.parameters.length) = some 0 by decide +kernel) (gz_recv (ci := 3) hK Z rfl f_6_w1) rfl rfl d_Di_needNone_7) (gx_cw (z := 0) hts kc_Al_size kN_Al rfl rfl ⟨Nat.le_of_ble_eq_true rfl, Nat.le_of_ble_eq_true rfl⟩) hb hml hz hK hY hAz hA hl.1 (lv_room (Nat.le_of_ble_eq_true rfl)) d_Di_needNone_7 ⟨Nat.le_of_ble_eq_true rfl, Nat.le_of_ble_eq_true rfl⟩ (fun v8 h9 H locs hp Z => ?_) (fun x8 E9 ce h9 H locs hp hce Z => ?_)
    · rcases hp with ⟨hv9, e_h9⟩
      cases hv9
      rw [e_h9] at Z
      refine W.eq (g2 := F0 m 10 ls [Value.int (nI ct), Value.int (nI ct)]) rfl ?_
      refine lv_icmp_ge (tgt := 34) hx hb d_Di_needNone_10 (by decide) (fun _ => ?_) (fun c9 => absurd (nI_le (Nat.le_refl _) (by omega)) c9)
      exact gz_vret hx hb hr hlocks hK Z (by decide) (by decide) (by rw [← hPQ]; exact ⟨rfl, hU, fam_w1⟩) d_Di_needNone_34
    · rcases hp with ⟨hv9, e_h9⟩
      cases hv9

set_option maxHeartbeats 4000000 in
set_option maxRecDepth 100000 in
theorem k_Di_needSynced (l : Launch) (htr : l.stackTraces = false) (D : va_G) (tys : List (ClassId × FieldType)) (z sz : Nat) (ws : va_W) (h : gm_M) (hM : gm_S h ws) (cO : ClassId) (q5 : Nat) (q6 : Nat) (q7 : Nat) (qt : Nat) (ct : Nat) (cpt : Nat) (wr : Int32) (ks : Int32) (mdt : Int32) (gt : Nat → Option Nat) (th : Nat → Nat) (P : Nat → Prop) (F : Nat → Nat → Nat) (f_5 : h 5 = some ((q5, Sum.inr (2, [Value.ref q6, Value.ref q7, Value.int wr, Value.int ks])) : Nat × va_E)) (f_6 : h 6 = some ((q6, Sum.inr (3, [Value.ref qt, Value.int (nI ct), Value.int mdt])) : Nat × va_E)) (f_120 : h 120 = some ((qt, Sum.inl (cO, cpt, Sum.inr (Sum.inr (Sum.inr (Sum.inr gt))))) : Nat × va_E)) (ht7 : tys[7]? = some ((cO, FieldType.object "java/lang/Object") : ClassId × FieldType)) (fam : gf_F P F h) (hct : ct ≤ cpt) (hcpt : cpt ≤ 200000) (hth : ∀ i, i < ct → gt i = some (th i) ∧ P (th i)) (hb1 : ∀ a, P a → gx_b (nI (F a 1))) : gx_Met l y_Di_needSynced [Cond.code y_Di_needSynced b_Di_needSynced 2 none] { frames := 4, cells := 0, slots := 0, locals := 76 } (gx_P z sz D classes tys ws [Value.ref q5]) (gx_Q D classes tys (va_A ws sz) (gm_p (fun r h' => (r = Sum.inl none ∧ gm_f h h' [] ∧ gf_F P (gn_syn F th ct) h')))) 0 0 (va_A ws sz) := by
  refine gx_ofW (cc := b_Di_needSynced) (maxL := 2) (ret := none) (by decide) rfl ?_
  intro p e s m args below meth c s₁ B hml hv
  obtain ⟨rfl, hsz, hz, hP, hK, hD0, hY⟩ := hv
  have hx := B.exec
  have hb := B.bytes
  have hr := B.returns
  have hts := hY.hts (#[Value.ref q5] : Array Value)
  have hown : s.vm.findClass "CommitLedger$Directory" = some m.cls := findClass_of_methodNamed B.named
  have hlocks := B.notSynchronized
  have hne : c.exceptionTable.isEmpty = true := B.noHandlers (atoms_spec (ws := [Cond.code y_Di_needSynced b_Di_needSynced 2 none]) B.pre _ List.mem_cons_self)
  subst hsz
  have hAz := gx_az hD0 hz
  have hD := hD0.self (sz := s.heap.size)
  have hN := gx_ns hP
  have hA : ∀ q : Nat, s.heap.size ≤ q → va_A ws s.heap.size q := fun q h => Or.inr h
  generalize va_A ws s.heap.size = A at hD hN hA hAz ⊢
  generalize hPQ : (fun (r : Option Value ⊕ String) (h' : gm_M) => (r = Sum.inl none ∧ gm_f h h' [] ∧ gf_F P (gn_syn F th ct) h')) = PQ
  have Z : gz D A s.heap h s.heap [] := ⟨ws, hM, hP, hD, va_S.rf⟩
  clear hP hD hM hD0
  have hU : gm_f h h [] := gm_f.rf
  have hl := lv_entry ([Value.ref q5]) (n := 2) (Nat.le_of_ble_eq_true rfl)
  rw [lg_entry_eq]
  generalize (lg_sl ([Value.ref q5]) ++ List.replicate (2 - (lg_sl ([Value.ref q5])).length) Slot.unset).toArray = ls at hl ⊢
  have hl : lv_has ls 2 [(0, Value.ref q5)] := hl
  refine lv_iconst (v := 0) hx hb d_Di_needSynced_0 (by decide) ?_
  refine lv_istore_n (lv' := [(1, Value.int 0), (0, Value.ref q5)]) hx hb d_Di_needSynced_1 rfl hl (by decide) rfl (fun ls hl => ?_)
  have fam_n : gf_F P (gn_syn F th 0) h := by skip; exact fam
  refine gz_loop (N := ct) (pc := 2) (fun _ => 0) (fun _ => 0) (fun k h9 ls => gm_f h h9 [] ∧ gf_F P (gn_syn F th k) h9 ∧ lv_has ls 2 [(1, Value.int (nI k)), (0, Value.ref q5)]) (fun k w1 H locs ls hk hI Z ihk => ?_) (fun w1 H locs ls hI Z => ?_) (ct) 0 _ _ _ _ (Nat.zero_add _) ⟨hU, fam_n, lv_sub hl [0, 1] rfl⟩ Z
  · obtain ⟨hU, fam_w1, hl⟩ := hI
    have e_w1 := hU
    refine lv_iload_n hx hb d_Di_needSynced_2 rfl (lv_at hl 0 rfl) ?_
    refine lv_aload_n hx hb d_Di_needSynced_3 rfl (lv_at hl 1 rfl) ?_
    have f_5_w1 : w1 5 = some ((q5, Sum.inr (2, [Value.ref q6, Value.ref q7, Value.int wr, Value.int ks])) : Nat × va_E) := e_w1.at f_5 (by first | decide | (simp; done) | (simp; omega))
    refine gz_get (ci := 2) (v := Value.ref q6) (C := "CommitLedger$Directory") (T := F_Di) (N := 4) hx hb hts i_Di hown hK Z f_5_w1 rfl 0 (by decide) kf_Di_10 rfl d_Di_needSynced_4 ?_
    have f_6_w1 : w1 6 = some ((q6, Sum.inr (3, [Value.ref qt, Value.int (nI ct), Value.int mdt])) : Nat × va_E) := e_w1.at f_6 (by first | decide | (simp; done) | (simp; omega))
    refine gz_call (ig := .invokevirtual 26) (av := [Value.ref q6]) Z (fun ws hM => k_Al_size l htr D tys z _ ws w1 hM 6 q6 ct (Value.ref qt) mdt f_6_w1) (gx_invV (As := []) (rest := [Value.int (nI k)]) hx hb hown hts km_Di_26 kI_Al_size kV_Al_size kc_Al_size (by decide) (show (parseMethodDescriptor y_Al_size.desc).map (fun d => d.parameters.length) = some 0 by decide +kernel) (gz_recv (ci := 3) hK Z rfl f_6_w1) rfl rfl d_Di_needSynced_7) (gx_cw (z := 0) hts kc_Al_size kN_Al rfl rfl ⟨Nat.le_of_ble_eq_true rfl, Nat.le_of_ble_eq_true rfl⟩) hb hml hz hK hY hAz hA hl.1 (lv_room (Nat.le_of_ble_eq_true rfl)) d_Di_needSynced_7 ⟨Nat.le_of_ble_eq_true rfl, Nat.le_of_ble_eq_true rfl⟩ (fun v2 h3 H locs hp Z => ?_) (fun x2 E9 ce h3 H locs hp hce Z => ?_)
    · rcases hp with ⟨hv9, e_h3⟩
      cases hv9
      rw [e_h3] at Z
      refine W.eq (g2 := F0 m 10 ls [Value.int (nI ct), Value.int (nI k)]) rfl ?_
      refine lv_icmp_ge (tgt := 47) hx hb d_Di_needSynced_10 (by decide) (fun c9 => absurd c9 (nI_ge hk (by omega))) (fun _ => ?_)
      refine lv_aload_n hx hb d_Di_needSynced_13 rfl (lv_at hl 1 rfl) ?_
      refine gz_get (ci := 2) (v := Value.ref q6) (C := "CommitLedger$Directory") (T := F_Di) (N := 4) hx hb hts i_Di hown hK Z f_5_w1 rfl 0 (by decide) kf_Di_10 rfl d_Di_needSynced_14 ?_
      refine lv_iload_n hx hb d_Di_needSynced_17 rfl (lv_at hl 0 rfl) ?_
      have f_120_w1 : w1 120 = some ((qt, Sum.inl (cO, cpt, Sum.inr (Sum.inr (Sum.inr (Sum.inr gt))))) : Nat × va_E) := e_w1.at f_120 (by first | decide | (simp; done) | (simp; omega))
      refine gz_call (ig := .invokevirtual 64) (av := [Value.ref q6, Value.int (nI k)]) Z (fun ws hM => k_Al_get l htr D tys z _ ws w1 hM cO 6 q6 120 qt ct cpt mdt gt k (th k) P (gn_syn F th k) f_6_w1 f_120_w1 ht7 fam_w1 hcpt hct (by first | assumption | decide | omega) hk (hth k hk).1 (hth k hk).2) (gx_invV (As := [Value.int (nI k)]) (rest := []) hx hb hown hts km_Di_64 kI_Al_get kV_Al_get kc_Al_get (by decide) (show (parseMethodDescriptor y_Al_get.desc).map (fun d => d.parameters.length) = some 1 by decide +kernel) (gz_recv (ci := 3) hK Z rfl f_6_w1) rfl rfl d_Di_needSynced_18) (gx_cw (z := 0) hts kc_Al_get kN_Al rfl rfl ⟨Nat.le_of_ble_eq_true rfl, Nat.le_of_ble_eq_true rfl⟩) hb hml hz hK hY hAz hA hl.1 (lv_room (Nat.le_of_ble_eq_true rfl)) d_Di_needSynced_18 ⟨Nat.le_of_ble_eq_true rfl, Nat.le_of_ble_eq_true rfl⟩ (fun v5 h6 H locs hp Z => ?_) (fun x5 E9 ce h6 H locs hp hce Z => ?_)
      · rcases hp with ⟨hv9, e_h6⟩
        cases hv9
        rw [e_h6] at Z
        refine W.eq (g2 := F0 m 21 ls [Value.ref (th k)]) rfl ?_
        refine va_castY (C := "CommitLedger$LedgerFile") hx hb hown (hts _ kk_Di_23) (va_Nw.of rfl (hts _ kW_FiFi)) (gz_recv (ci := 7) hK Z rfl (fam_w1 (th k) (hth k hk).2)) d_Di_needSynced_21 ?_
        refine lv_aload_n hx hb d_Di_needSynced_24 rfl (lv_at hl 1 rfl) ?_
        refine gz_get (ci := 2) (v := Value.ref q6) (C := "CommitLedger$Directory") (T := F_Di) (N := 4) hx hb hts i_Di hown hK Z f_5_w1 rfl 0 (by decide) kf_Di_10 rfl d_Di_needSynced_25 ?_
        refine lv_iload_n hx hb d_Di_needSynced_28 rfl (lv_at hl 0 rfl) ?_
        refine gz_call (ig := .invokevirtual 64) (av := [Value.ref q6, Value.int (nI k)]) Z (fun ws hM => k_Al_get l htr D tys z _ ws w1 hM cO 6 q6 120 qt ct cpt mdt gt k (th k) P (gn_syn F th k) f_6_w1 f_120_w1 ht7 fam_w1 hcpt hct (by first | assumption | decide | omega) hk (hth k hk).1 (hth k hk).2) (gx_invV (As := [Value.int (nI k)]) (rest := [Value.ref (th k)]) hx hb hown hts km_Di_64 kI_Al_get kV_Al_get kc_Al_get (by decide) (show (parseMethodDescriptor y_Al_get.desc).map (fun d => d.parameters.length) = some 1 by decide +kernel) (gz_recv (ci := 3) hK Z rfl f_6_w1) rfl rfl d_Di_needSynced_29) (gx_cw (z := 0) hts kc_Al_get kN_Al rfl rfl ⟨Nat.le_of_ble_eq_true rfl, Nat.le_of_ble_eq_true rfl⟩) hb hml hz hK hY hAz hA hl.1 (lv_room (Nat.le_of_ble_eq_true rfl)) d_Di_needSynced_29 ⟨Nat.le_of_ble_eq_true rfl, Nat.le_of_ble_eq_true rfl⟩ (fun v7 h8 H locs hp Z => ?_) (fun x7 E9 ce h8 H locs hp hce Z => ?_)
        · rcases hp with ⟨hv9, e_h8⟩
          cases hv9
          rw [e_h8] at Z
          refine W.eq (g2 := F0 m 32 ls [Value.ref (th k), Value.ref (th k)]) rfl ?_
          refine va_castY (C := "CommitLedger$LedgerFile") hx hb hown (hts _ kk_Di_23) (va_Nw.of rfl (hts _ kW_FiFi)) (gz_recv (ci := 7) hK Z rfl (fam_w1 (th k) (hth k hk).2)) d_Di_needSynced_32 ?_
          refine gz_get (ci := 7) (v := Value.int (nI ((gn_syn F th k) (th k) 1))) (C := "CommitLedger$LedgerFile") (T := F_Fi) (N := 7) hx hb hts i_Fi hown hK Z (fam_w1 (th k) (hth k hk).2) rfl 1 (by decide) kf_Di_41 rfl d_Di_needSynced_35 ?_
          refine gz_put (ci := 7) (v := Value.int (nI ((gn_syn F th k) (th k) 1))) (ty := .boolean) (C := "CommitLedger$LedgerFile") (T := F_Fi) (N := 7) hx hb hts i_Fi t_Fi_ok n_Fi hown hK Z (fam_w1 (th k) (hth k hk).2) rfl 3 (by decide) kf_Di_48 rfl (by decide +kernel) (gx_nb (by rw [gn_syn_1 (by decide)]; exact hb1 _ (hth k hk).2)) (gx_fb (by rw [gn_syn_1 (by decide)]; exact hb1 _ (hth k hk).2)) (Nat.le_of_ble_eq_true rfl) d_Di_needSynced_38 (fun H locs Z => ?_)
          obtain ⟨h9, e_h9⟩ : ∃ z9 : gm_M, z9 = gm_up w1 (1000 + (th k)) ((th k, Sum.inr (7, [Value.int (nI ((gn_syn F th k) (th k) 0)), Value.int (nI ((gn_syn F th k) (th k) 1)), Value.int (nI ((gn_syn F th k) (th k) 2)), Value.int (nI ((gn_syn F th k) (th k) 1)), Value.int (nI ((gn_syn F th k) (th k) 4)), Value.int (nI ((gn_syn F th k) (th k) 5)), Value.int (nI ((gn_syn F th k) (th k) 6))])) : Nat × va_E) := ⟨_, rfl⟩
          replace Z : gz D A s.heap h9 H locs := by rw [e_h9]; exact Z
          have fam_h9 : gf_F P (gf_up (gn_syn F th k) (th k) 3 ((gn_syn F th k) (th k) 1)) h9 := by rw [e_h9]; exact gf_put3 fam_w1
          replace hU : gm_f h h9 [] := by rw [e_h9]; exact hU.file
          refine lv_iinc (v := nI (k + 1)) (lv' := [(1, Value.int (nI (k + 1))), (0, Value.ref q5)]) hx hb d_Di_needSynced_41 hl (k := 0) rfl (show nI k + 1 = nI (k + 1) from nI_1 _) (by decide) rfl (fun ls hl => ?_)
          refine lv_goto (tgt := 2) hx hb d_Di_needSynced_44 (by decide) ?_
          have fam_n : gf_F P (gn_syn F th (k + 1)) h9 := by skip; exact fam_h9
          exact ihk _ _ _ _ ⟨hU, fam_n, lv_sub hl [0, 1] rfl⟩ Z
        · rcases hp with ⟨hv9, e_h8⟩
          cases hv9
      · rcases hp with ⟨hv9, e_h6⟩
        cases hv9
    · rcases hp with ⟨hv9, e_h3⟩
      cases hv9
  · obtain ⟨hU, fam_w1, hl⟩ := hI
    have e_w1 := hU
    refine lv_iload_n hx hb d_Di_needSynced_2 rfl (lv_at hl 0 rfl) ?_
    refine lv_aload_n hx hb d_Di_needSynced_3 rfl (lv_at hl 1 rfl) ?_
    have f_5_w1 : w1 5 = some ((q5, Sum.inr (2, [Value.ref q6, Value.ref q7, Value.int wr, Value.int ks])) : Nat × va_E) := e_w1.at f_5 (by first | decide | (simp; done) | (simp; omega))
    refine gz_get (ci := 2) (v := Value.ref q6) (C := "CommitLedger$Directory") (T := F_Di) (N := 4) hx hb hts i_Di hown hK Z f_5_w1 rfl 0 (by decide) kf_Di_10 rfl d_Di_needSynced_4 ?_
    have f_6_w1 : w1 6 = some ((q6, Sum.inr (3, [Value.ref qt, Value.int (nI ct), Value.int mdt])) : Nat × va_E) := e_w1.at f_6 (by first | decide | (simp; done) | (simp; omega))
    refine gz_call (ig := .invokevirtual 26) (av := [Value.ref q6]) Z (fun ws hM => k_Al_size l htr D tys z _ ws w1 hM 6 q6 ct (Value.ref qt) mdt f_6_w1) (gx_invV (As := []) (rest := [Value.int (nI ct)]) hx hb hown hts km_Di_26 kI_Al_size kV_Al_size kc_Al_size (by decide) (show (parseMethodDescriptor y_Al_size.desc).map (fun d => d.parameters.length) = some 0 by decide +kernel) (gz_recv (ci := 3) hK Z rfl f_6_w1) rfl rfl d_Di_needSynced_7) (gx_cw (z := 0) hts kc_Al_size kN_Al rfl rfl ⟨Nat.le_of_ble_eq_true rfl, Nat.le_of_ble_eq_true rfl⟩) hb hml hz hK hY hAz hA hl.1 (lv_room (Nat.le_of_ble_eq_true rfl)) d_Di_needSynced_7 ⟨Nat.le_of_ble_eq_true rfl, Nat.le_of_ble_eq_true rfl⟩ (fun v10 h11 H locs hp Z => ?_) (fun x10 E9 ce h11 H locs hp hce Z => ?_)
    · rcases hp with ⟨hv9, e_h11⟩
      cases hv9
      rw [e_h11] at Z
      refine W.eq (g2 := F0 m 10 ls [Value.int (nI ct), Value.int (nI ct)]) rfl ?_
      refine lv_icmp_ge (tgt := 47) hx hb d_Di_needSynced_10 (by decide) (fun _ => ?_) (fun c9 => absurd (nI_le (Nat.le_refl _) (by omega)) c9)
      exact gz_vret hx hb hr hlocks hK Z (by decide) (by decide) (by rw [← hPQ]; exact ⟨rfl, hU, fam_w1⟩) d_Di_needSynced_47
    · rcases hp with ⟨hv9, e_h11⟩
      cases hv9

set_option maxHeartbeats 4000000 in
set_option maxRecDepth 100000 in
theorem k_Di_find (l : Launch) (htr : l.stackTraces = false) (D : va_G) (tys : List (ClassId × FieldType)) (z sz : Nat) (ws : va_W) (h : gm_M) (hM : gm_S h ws) (cO : ClassId) (q5 : Nat) (q6 : Nat) (q7 : Nat) (qt : Nat) (ct : Nat) (cpt : Nat) (wr : Int32) (ks : Int32) (mdt : Int32) (gt : Nat → Option Nat) (th : Nat → Nat) (p1 : Int32) (P : Nat → Prop) (F : Nat → Nat → Nat) (f_5 : h 5 = some ((q5, Sum.inr (2, [Value.ref q6, Value.ref q7, Value.int wr, Value.int ks])) : Nat × va_E)) (f_6 : h 6 = some ((q6, Sum.inr (3, [Value.ref qt, Value.int (nI ct), Value.int mdt])) : Nat × va_E)) (f_120 : h 120 = some ((qt, Sum.inl (cO, cpt, Sum.inr (Sum.inr (Sum.inr (Sum.inr gt))))) : Nat × va_E)) (ht7 : tys[7]? = some ((cO, FieldType.object "java/lang/Object") : ClassId × FieldType)) (fam : gf_F P F h) (hct : ct ≤ cpt) (hcpt : cpt ≤ 200000) (hth : ∀ i, i < ct → gt i = some (th i) ∧ P (th i)) : gx_Met l y_Di_find [Cond.code y_Di_find b_Di_find 3 (some (.object "CommitLedger$LedgerFile"))] { frames := 4, cells := 0, slots := 0, locals := 76 } (gx_P z sz D classes tys ws [Value.ref q5, Value.int p1]) (gx_Q D classes tys (va_A ws sz) (gm_p (fun r h' => (∃ q : Nat, r = Sum.inl (some (Value.ref (th q))) ∧ h' = h ∧ (q < ct) ∧ (nI (F (th q) 0) = p1) ∧ (∀ i, i < q → ¬ nI (F (th i) 0) = p1)) ∨ (r = Sum.inl (some (Value.null)) ∧ h' = h ∧ (∀ i, i < ct → ¬ nI (F (th i) 0) = p1))))) 0 0 (va_A ws sz) := by
  refine gx_ofW (cc := b_Di_find) (maxL := 3) (ret := (some (.object "CommitLedger$LedgerFile"))) (by decide) rfl ?_
  intro p e s m args below meth c s₁ B hml hv
  obtain ⟨rfl, hsz, hz, hP, hK, hD0, hY⟩ := hv
  have hx := B.exec
  have hb := B.bytes
  have hr := B.returns
  have hts := hY.hts (#[Value.ref q5, Value.int p1] : Array Value)
  have hown : s.vm.findClass "CommitLedger$Directory" = some m.cls := findClass_of_methodNamed B.named
  have hlocks := B.notSynchronized
  have hne : c.exceptionTable.isEmpty = true := B.noHandlers (atoms_spec (ws := [Cond.code y_Di_find b_Di_find 3 (some (.object "CommitLedger$LedgerFile"))]) B.pre _ List.mem_cons_self)
  subst hsz
  have hAz := gx_az hD0 hz
  have hD := hD0.self (sz := s.heap.size)
  have hN := gx_ns hP
  have hA : ∀ q : Nat, s.heap.size ≤ q → va_A ws s.heap.size q := fun q h => Or.inr h
  generalize va_A ws s.heap.size = A at hD hN hA hAz ⊢
  generalize hPQ : (fun (r : Option Value ⊕ String) (h' : gm_M) => (∃ q : Nat, r = Sum.inl (some (Value.ref (th q))) ∧ h' = h ∧ (q < ct) ∧ (nI (F (th q) 0) = p1) ∧ (∀ i, i < q → ¬ nI (F (th i) 0) = p1)) ∨ (r = Sum.inl (some (Value.null)) ∧ h' = h ∧ (∀ i, i < ct → ¬ nI (F (th i) 0) = p1))) = PQ
  have Z : gz D A s.heap h s.heap [] := ⟨ws, hM, hP, hD, va_S.rf⟩
  clear hP hD hM hD0
  have hU : gm_g h h [] := gm_g.rf
  have hl := lv_entry ([Value.ref q5, Value.int p1]) (n := 3) (Nat.le_of_ble_eq_true rfl)
  rw [lg_entry_eq]
  generalize (lg_sl ([Value.ref q5, Value.int p1]) ++ List.replicate (3 - (lg_sl ([Value.ref q5, Value.int p1])).length) Slot.unset).toArray = ls at hl ⊢
  have hl : lv_has ls 3 [(0, Value.ref q5), (1, Value.int p1)] := hl
  refine lv_iconst (v := 0) hx hb d_Di_find_0 (by decide) ?_
  refine lv_istore_n (lv' := [(2, Value.int 0), (0, Value.ref q5), (1, Value.int p1)]) hx hb d_Di_find_1 rfl hl (by decide) rfl (fun ls hl => ?_)
  refine gz_loop (N := ct) (pc := 2) (fun _ => 0) (fun _ => 0) (fun k h9 ls => h9 = h ∧ (∀ i, i < k → ¬ nI (F (th i) 0) = p1) ∧ lv_has ls 3 [(2, Value.int (nI k)), (0, Value.ref q5), (1, Value.int p1)]) (fun k w1 H locs ls hk hI Z ihk => ?_) (fun w1 H locs ls hI Z => ?_) (ct) 0 _ _ _ _ (Nat.zero_add _) ⟨rfl, fun i h1 => absurd h1 (Nat.not_lt_zero i), lv_sub hl [0, 1, 2] rfl⟩ Z
  · obtain ⟨hU, hj9, hl⟩ := hI
    rw [hU] at Z
    have hU : gm_g h h [] := gm_g.rf
    refine lv_iload_n hx hb d_Di_find_2 rfl (lv_at hl 0 rfl) ?_
    refine lv_aload_n hx hb d_Di_find_3 rfl (lv_at hl 1 rfl) ?_
    refine gz_get (ci := 2) (v := Value.ref q6) (C := "CommitLedger$Directory") (T := F_Di) (N := 4) hx hb hts i_Di hown hK Z f_5 rfl 0 (by decide) kf_Di_10 rfl d_Di_find_4 ?_
    refine gz_call (ig := .invokevirtual 26) (av := [Value.ref q6]) Z (fun ws hM => k_Al_size l htr D tys z _ ws h hM 6 q6 ct (Value.ref qt) mdt f_6) (gx_invV (As := []) (rest := [Value.int (nI k)]) hx hb hown hts km_Di_26 kI_Al_size kV_Al_size kc_Al_size (by decide) (show (parseMethodDescriptor y_Al_size.desc).map (fun d => d.parameters.length) = some 0 by decide +kernel) (gz_recv (ci := 3) hK Z rfl f_6) rfl rfl d_Di_find_7) (gx_cw (z := 0) hts kc_Al_size kN_Al rfl rfl ⟨Nat.le_of_ble_eq_true rfl, Nat.le_of_ble_eq_true rfl⟩) hb hml hz hK hY hAz hA hl.1 (lv_room (Nat.le_of_ble_eq_true rfl)) d_Di_find_7 ⟨Nat.le_of_ble_eq_true rfl, Nat.le_of_ble_eq_true rfl⟩ (fun v2 h3 H locs hp Z => ?_) (fun x2 E9 ce h3 H locs hp hce Z => ?_)
    · rcases hp with ⟨hv9, e_h3⟩
      cases hv9
      rw [e_h3] at Z
      refine W.eq (g2 := F0 m 10 ls [Value.int (nI ct), Value.int (nI k)]) rfl ?_
      refine lv_icmp_ge (tgt := 49) hx hb d_Di_find_10 (by decide) (fun c9 => absurd c9 (nI_ge hk (by omega))) (fun _ => ?_)
      refine lv_aload_n hx hb d_Di_find_13 rfl (lv_at hl 1 rfl) ?_
      refine gz_get (ci := 2) (v := Value.ref q6) (C := "CommitLedger$Directory") (T := F_Di) (N := 4) hx hb hts i_Di hown hK Z f_5 rfl 0 (by decide) kf_Di_10 rfl d_Di_find_14 ?_
      refine lv_iload_n hx hb d_Di_find_17 rfl (lv_at hl 0 rfl) ?_
      refine gz_call (ig := .invokevirtual 64) (av := [Value.ref q6, Value.int (nI k)]) Z (fun ws hM => k_Al_get l htr D tys z _ ws h hM cO 6 q6 120 qt ct cpt mdt gt k (th k) P F f_6 f_120 ht7 fam hcpt hct (by first | assumption | decide | omega) hk (hth k hk).1 (hth k hk).2) (gx_invV (As := [Value.int (nI k)]) (rest := []) hx hb hown hts km_Di_64 kI_Al_get kV_Al_get kc_Al_get (by decide) (show (parseMethodDescriptor y_Al_get.desc).map (fun d => d.parameters.length) = some 1 by decide +kernel) (gz_recv (ci := 3) hK Z rfl f_6) rfl rfl d_Di_find_18) (gx_cw (z := 0) hts kc_Al_get kN_Al rfl rfl ⟨Nat.le_of_ble_eq_true rfl, Nat.le_of_ble_eq_true rfl⟩) hb hml hz hK hY hAz hA hl.1 (lv_room (Nat.le_of_ble_eq_true rfl)) d_Di_find_18 ⟨Nat.le_of_ble_eq_true rfl, Nat.le_of_ble_eq_true rfl⟩ (fun v5 h6 H locs hp Z => ?_) (fun x5 E9 ce h6 H locs hp hce Z => ?_)
      · rcases hp with ⟨hv9, e_h6⟩
        cases hv9
        rw [e_h6] at Z
        refine W.eq (g2 := F0 m 21 ls [Value.ref (th k)]) rfl ?_
        refine va_castY (C := "CommitLedger$LedgerFile") hx hb hown (hts _ kk_Di_23) (va_Nw.of rfl (hts _ kW_FiFi)) (gz_recv (ci := 7) hK Z rfl (fam (th k) (hth k hk).2)) d_Di_find_21 ?_
        refine gz_get (ci := 7) (v := Value.int (nI (F (th k) 0))) (C := "CommitLedger$LedgerFile") (T := F_Fi) (N := 7) hx hb hts i_Fi hown hK Z (fam (th k) (hth k hk).2) rfl 0 (by decide) kf_Di_38 rfl d_Di_find_24 ?_
        refine lv_iload_n hx hb d_Di_find_27 rfl (lv_at hl 2 rfl) ?_
        refine lv_icmp_ne (tgt := 43) hx hb d_Di_find_28 (by decide) (fun c28_7 => ?_) (fun c28_7 => ?_)
        · refine lv_iinc (v := nI (k + 1)) (lv' := [(2, Value.int (nI (k + 1))), (0, Value.ref q5), (1, Value.int p1)]) hx hb d_Di_find_43 hl (k := 0) rfl (show nI k + 1 = nI (k + 1) from nI_1 _) (by decide) rfl (fun ls hl => ?_)
          refine lv_goto (tgt := 2) hx hb d_Di_find_46 (by decide) ?_
          exact ihk _ _ _ _ ⟨rfl, gv_more0 hj9 c28_7, lv_sub hl [0, 1, 2] rfl⟩ Z
        · refine lv_aload_n hx hb d_Di_find_31 rfl (lv_at hl 1 rfl) ?_
          refine gz_get (ci := 2) (v := Value.ref q6) (C := "CommitLedger$Directory") (T := F_Di) (N := 4) hx hb hts i_Di hown hK Z f_5 rfl 0 (by decide) kf_Di_10 rfl d_Di_find_32 ?_
          refine lv_iload_n hx hb d_Di_find_35 rfl (lv_at hl 0 rfl) ?_
          refine gz_call (ig := .invokevirtual 64) (av := [Value.ref q6, Value.int (nI k)]) Z (fun ws hM => k_Al_get l htr D tys z _ ws h hM cO 6 q6 120 qt ct cpt mdt gt k (th k) P F f_6 f_120 ht7 fam hcpt hct (by first | assumption | decide | omega) hk (hth k hk).1 (hth k hk).2) (gx_invV (As := [Value.int (nI k)]) (rest := []) hx hb hown hts km_Di_64 kI_Al_get kV_Al_get kc_Al_get (by decide) (show (parseMethodDescriptor y_Al_get.desc).map (fun d => d.parameters.length) = some 1 by decide +kernel) (gz_recv (ci := 3) hK Z rfl f_6) rfl rfl d_Di_find_36) (gx_cw (z := 0) hts kc_Al_get kN_Al rfl rfl ⟨Nat.le_of_ble_eq_true rfl, Nat.le_of_ble_eq_true rfl⟩) hb hml hz hK hY hAz hA hl.1 (lv_room (Nat.le_of_ble_eq_true rfl)) d_Di_find_36 ⟨Nat.le_of_ble_eq_true rfl, Nat.le_of_ble_eq_true rfl⟩ (fun v8 h9 H locs hp Z => ?_) (fun x8 E9 ce h9 H locs hp hce Z => ?_)
          · rcases hp with ⟨hv9, e_h9⟩
            cases hv9
            rw [e_h9] at Z
            refine W.eq (g2 := F0 m 39 ls [Value.ref (th k)]) rfl ?_
            refine va_castY (C := "CommitLedger$LedgerFile") hx hb hown (hts _ kk_Di_23) (va_Nw.of rfl (hts _ kW_FiFi)) (gz_recv (ci := 7) hK Z rfl (fam (th k) (hth k hk).2)) d_Di_find_39 ?_
            obtain ⟨ws9, hM9, hP9, hD9, hS9⟩ := Z
            exact gx_ret (W.aret (v := Value.ref (th k)) hx hb hr (Or.inl ⟨_, rfl⟩) (Or.inr ⟨_, rfl⟩) (gx_post hP9 hK hD9 hS9 ⟨h, hM9, by rw [← hPQ]; exact Or.inl ⟨k, rfl, rfl, hk, c28_7, hj9⟩⟩) hS9.2.2 d_Di_find_42)
          · rcases hp with ⟨hv9, e_h9⟩
            cases hv9
      · rcases hp with ⟨hv9, e_h6⟩
        cases hv9
    · rcases hp with ⟨hv9, e_h3⟩
      cases hv9
  · obtain ⟨hU, hj9, hl⟩ := hI
    rw [hU] at Z
    have hU : gm_g h h [] := gm_g.rf
    refine lv_iload_n hx hb d_Di_find_2 rfl (lv_at hl 0 rfl) ?_
    refine lv_aload_n hx hb d_Di_find_3 rfl (lv_at hl 1 rfl) ?_
    refine gz_get (ci := 2) (v := Value.ref q6) (C := "CommitLedger$Directory") (T := F_Di) (N := 4) hx hb hts i_Di hown hK Z f_5 rfl 0 (by decide) kf_Di_10 rfl d_Di_find_4 ?_
    refine gz_call (ig := .invokevirtual 26) (av := [Value.ref q6]) Z (fun ws hM => k_Al_size l htr D tys z _ ws h hM 6 q6 ct (Value.ref qt) mdt f_6) (gx_invV (As := []) (rest := [Value.int (nI ct)]) hx hb hown hts km_Di_26 kI_Al_size kV_Al_size kc_Al_size (by decide) (show (parseMethodDescriptor y_Al_size.desc).map (fun d => d.parameters.length) = some 0 by decide +kernel) (gz_recv (ci := 3) hK Z rfl f_6) rfl rfl d_Di_find_7) (gx_cw (z := 0) hts kc_Al_size kN_Al rfl rfl ⟨Nat.le_of_ble_eq_true rfl, Nat.le_of_ble_eq_true rfl⟩) hb hml hz hK hY hAz hA hl.1 (lv_room (Nat.le_of_ble_eq_true rfl)) d_Di_find_7 ⟨Nat.le_of_ble_eq_true rfl, Nat.le_of_ble_eq_true rfl⟩ (fun v10 h11 H locs hp Z => ?_) (fun x10 E9 ce h11 H locs hp hce Z => ?_)
    · rcases hp with ⟨hv9, e_h11⟩
      cases hv9
      rw [e_h11] at Z
      refine W.eq (g2 := F0 m 10 ls [Value.int (nI ct), Value.int (nI ct)]) rfl ?_
      refine lv_icmp_ge (tgt := 49) hx hb d_Di_find_10 (by decide) (fun _ => ?_) (fun c9 => absurd (nI_le (Nat.le_refl _) (by omega)) c9)
      refine lv_null hx hb d_Di_find_49 ?_
      obtain ⟨ws9, hM9, hP9, hD9, hS9⟩ := Z
      exact gx_ret (W.aret (v := Value.null) hx hb hr (Or.inl ⟨_, rfl⟩) (Or.inl rfl) (gx_post hP9 hK hD9 hS9 ⟨h, hM9, by rw [← hPQ]; exact Or.inr (⟨rfl, rfl, hj9⟩)⟩) hS9.2.2 d_Di_find_50)
    · rcases hp with ⟨hv9, e_h11⟩
      cases hv9
