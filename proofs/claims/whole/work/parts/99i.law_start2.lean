/-! THE LAW'S BODY up to its loop; rows printed by an own text program -/
set_option maxHeartbeats 4000000 in
set_option maxRecDepth 100000 in
theorem law_start2 {p : Program} {e : Env} {s : State} {m : MethodId} {below : List Frame} {meth : Method} {c : Code} {Q : State → Prop} (l : Launch) (htr : l.stackTraces = false) {b : Nat} (hx : p.tables.exec = Jvm.exec) (hb : c.code = code) (hml : c.maxLocals = 7) (hown : s.vm.findClass "CommitLedgerLaw" = some m.cls) (hts1 : ∀ w ∈ lw_tbl, w.before #[Value.ref b] s = true) (hgv : (Jvm.Cond.and given_1 narrow_1).before #[Value.ref b] s = true)
    (k : ∀ (D : va_G) (tys : List (ClassId × FieldType)) (cI cZ cF cM cR cV cJ cO cN : ClassId) (qc qm : Nat → Nat) (q121 : Nat) (ws : va_W) (H : Heap) (locs : List Loc) (ls : Array Slot), va_K D classes tys s → gx_Y s.heap.size D s → tys = [(cI, FieldType.int), (cZ, FieldType.boolean), (cF, FieldType.object "CommitLedger$LedgerFile"), (cM, FieldType.object "CommitLedger$Merge"), (cR, FieldType.object "CommitLedger$Reader"), (cV, FieldType.object "CommitLedgerModel$Version"), (cJ, FieldType.long), (cO, FieldType.object "java/lang/Object"), (cN, FieldType.array .int)] → va_P D classes ws H → va_D (fun q : Nat => s.heap.size ≤ q) ws → va_S (fun q : Nat => s.heap.size ≤ q) s.heap H locs → ws.length = 122 → le_G0 D cI cZ cF cM cR qc ws → le_G1 D cI cZ cF cM cR qc ws → le_G2 D cI cZ cF cM cR qc ws → mp_G0 cI cZ cV cN qm ws → mp_G1 cI cZ cV cN qm ws → mp_G2 cI cZ cV cN qm ws → mp_G3 cI cZ cV cN qm ws → mp_G4 cI cZ cV cN qm ws → ws[121]? = some ((q121, Sum.inl (cJ, 1, Sum.inr (Sum.inl (fun _ => 0)))) : Nat × va_E) → lv_has ls 7 [(4, Value.int 0), (3, Value.ref q121), (2, Value.ref (qm 46)), (1, Value.ref (qc 0)), (0, Value.ref b)] → W p l e room_1 s m #[Value.ref b] below meth c H locs 122 677754 Q (F0 m 23 ls [])) :
    W p l e room_1 s m #[Value.ref b] below meth c s.heap [] 0 0 Q (entryFrame m ([Value.ref b] : List Value).toArray 7) := by
  obtain ⟨D, cI, cZ, cF, cM, cR, cV, cJ, cO, cN, hK, hav, hal⟩ := gx_K1 (gx_hts0 hts1 hgv)
  obtain ⟨tys, htys⟩ : ∃ x : List (ClassId × FieldType), x = [(cI, FieldType.int), (cZ, FieldType.boolean), (cF, FieldType.object "CommitLedger$LedgerFile"), (cM, FieldType.object "CommitLedger$Merge"), (cR, FieldType.object "CommitLedger$Reader"), (cV, FieldType.object "CommitLedgerModel$Version"), (cJ, FieldType.long), (cO, FieldType.object "java/lang/Object"), (cN, FieldType.array .int)] := ⟨_, rfl⟩
  rw [← htys] at hK
  have ht0 : tys[0]? = some ((cI, FieldType.int) : ClassId × FieldType) := by rw [htys]; rfl
  have ht1 : tys[1]? = some ((cZ, FieldType.boolean) : ClassId × FieldType) := by rw [htys]; rfl
  have ht2 : tys[2]? = some ((cF, FieldType.object "CommitLedger$LedgerFile") : ClassId × FieldType) := by rw [htys]; rfl
  have ht3 : tys[3]? = some ((cM, FieldType.object "CommitLedger$Merge") : ClassId × FieldType) := by rw [htys]; rfl
  have ht4 : tys[4]? = some ((cR, FieldType.object "CommitLedger$Reader") : ClassId × FieldType) := by rw [htys]; rfl
  have ht5 : tys[5]? = some ((cV, FieldType.object "CommitLedgerModel$Version") : ClassId × FieldType) := by rw [htys]; rfl
  have ht6 : tys[6]? = some ((cJ, FieldType.long) : ClassId × FieldType) := by rw [htys]; rfl
  have ht7 : tys[7]? = some ((cO, FieldType.object "java/lang/Object") : ClassId × FieldType) := by rw [htys]; rfl
  have ht8 : tys[8]? = some ((cN, FieldType.array .int) : ClassId × FieldType) := by rw [htys]; rfl
  have hY := gx_Y0 hts1 hgv hav hal
  have hY0 := hY
  have hts := gx_hts0 hts1 hgv
  obtain ⟨z, hzz⟩ : ∃ x : Nat, x = s.heap.size := ⟨_, rfl⟩
  rw [← hzz] at hY
  have hz : z ≤ s.heap.size := Nat.le_of_eq hzz
  have hAz : ∀ q : Nat, (fun q : Nat => s.heap.size ≤ q) q → z ≤ q := fun q h => by rw [hzz]; exact h
  have hA : ∀ q : Nat, s.heap.size ≤ q → (fun q : Nat => s.heap.size ≤ q) q := fun _ h => h
  have hN : gx_NS (fun q : Nat => s.heap.size ≤ q) s := fun q cell h hc => absurd (Array.getElem?_eq_some_iff.mp hc).1 (Nat.not_lt.mpr h)
  have hS : va_S (fun q : Nat => s.heap.size ≤ q) s.heap s.heap [] := va_S.rf
  obtain ⟨ws, hws⟩ : ∃ x : va_W, x = [] := ⟨_, rfl⟩
  have hlen : ws.length = 0 := by rw [hws]; rfl
  have hlen0 := hlen
  have hU : gx_g ws ws 0 [] := gx_g.rf
  have hP : va_P D classes ws s.heap := by rw [hws]; exact fun k q h => by simp at h
  have hD : va_D (fun q : Nat => s.heap.size ≤ q) ws := by rw [hws]; exact ⟨fun i j p q h => by simp at h, fun k q h => by simp at h⟩
  generalize hAe : (fun q : Nat => s.heap.size ≤ q) = A at hD hN hA hAz hS k
  have hl := lv_entry ([Value.ref b]) (n := 7) (Nat.le_of_ble_eq_true rfl)
  rw [lg_entry_eq]
  generalize (lg_sl ([Value.ref b]) ++ List.replicate (7 - (lg_sl ([Value.ref b])).length) Slot.unset).toArray = ls at hl ⊢
  have hl : lv_has ls 7 [(0, Value.ref b)] := hl
  refine va_new (ci := 0) (fs := [Value.null, Value.null, Value.null, Value.null, Value.null, Value.null, Value.null, Value.int 0, Value.int 0, Value.int 0, Value.int 0, Value.int 0, Value.int 0, Value.int 0, Value.int 0, Value.int 0, Value.int 0, Value.int 0]) (C := "CommitLedger") (T := F_Le) (N := 18) hx hb hts i_Le t_Le t_Le_ok hown (hts _ kk_Lw_8) (hts _ kX_Le) (hts _ kN_Le) hK hP hD hS hA rfl (by decide) (Nat.le_of_ble_eq_true rfl) (Nat.le_of_ble_eq_true rfl) d_Lw_law_0 (fun q1 H hP9 hD9 hS9 => ?_)
  obtain ⟨ws2, e_ws2⟩ : ∃ x : va_W, x = ws ++ [((q1, Sum.inr (0, [Value.null, Value.null, Value.null, Value.null, Value.null, Value.null, Value.null, Value.int 0, Value.int 0, Value.int 0, Value.int 0, Value.int 0, Value.int 0, Value.int 0, Value.int 0, Value.int 0, Value.int 0, Value.int 0])) : Nat × va_E)] := ⟨_, rfl⟩
  replace hP : va_P D classes ws2 H := by rw [e_ws2]; exact hP9
  replace hD : va_D A ws2 := by rw [e_ws2]; exact hD9
  replace hS := hS9
  clear hP9 hD9 hS9
  have f_0_ws2 : ws2[0]? = some ((q1, Sum.inr (0, [Value.null, Value.null, Value.null, Value.null, Value.null, Value.null, Value.null, Value.int 0, Value.int 0, Value.int 0, Value.int 0, Value.int 0, Value.int 0, Value.int 0, Value.int 0, Value.int 0, Value.int 0, Value.int 0])) : Nat × va_E) := by rw [e_ws2]; exact gs_last hlen
  replace hlen : ws2.length = 1 := by rw [e_ws2]; exact gs_len hlen
  replace hU : gx_g ws ws2 1 [] := by rw [e_ws2]; exact hU.push
  refine W.widen (k := 1) (n := 18) (by decide) (by decide) ?_
  refine lv_dup hx hb d_Lw_law_3 rfl ?_
  refine gx_call (ig := .invokespecial 88) (c_Le_init l htr D tys z _ ws2 cI cZ cF cM cR q1 f_0_ws2 ht0 ht1 ht2 ht3 ht4 hlen) (gx_invI (As := []) (rest := [Value.ref q1]) hx hb hown hts km_Lw_88 kI_Le_init kc_Le_init (by decide) rfl (show (parseMethodDescriptor y_Le_init.desc).map (fun d => d.parameters.length) = some 0 by decide +kernel) rfl rfl d_Lw_law_4) (gx_cw (z := 0) hts kc_Le_init kN_Le rfl rfl ⟨Nat.le_of_ble_eq_true rfl, Nat.le_of_ble_eq_true rfl⟩) hb hml gx_blind (gx_pre hz hP hK hD hY hS hAz [Value.ref q1]) rfl hl.1 (lv_room (Nat.le_of_ble_eq_true rfl)) d_Lw_law_4 ⟨Nat.le_of_ble_eq_true rfl, Nat.le_of_ble_eq_true rfl⟩ (fun v3 st3 t3 L3 h0_3 hW_3 hQ_3 hL_3 => ?_) (fun v3 st3 t3 L3 h0_3 hW_3 hQ_3 hL_3 => ?_)
  · obtain ⟨ws4, hp, hP9, -, hD9, hS9⟩ := gx_back h0_3 hW_3 hQ_3 hL_3 hD hS hA
    clear hQ_3 h0_3 hL_3 hW_3 hP hD hS
    have hP := hP9
    have hD := hD9
    have hS := hS9
    clear hP9 hD9 hS9
    obtain ⟨hv9, e_ws4, qq_le, eq_le, g_le0, g_le1, g_le2⟩ := hp
    cases hv9
    replace hlen : ws4.length = 46 := by rw [e_ws4.1, hlen]
    replace hU : gx_g ws ws4 46 [] := hU.call e_ws4 (by rw [hlen0]; decide)
    refine W.eq (g2 := F0 m 7 ls [Value.ref q1]) rfl ?_
    refine W.widen (k := 46) (n := 200018) (by decide) (by decide) ?_
    generalize t3.heap = H at hP hS ⊢
    generalize [] ++ L3 = locs at hS ⊢
    refine lv_astore_n (lv' := [(1, Value.ref q1), (0, Value.ref b)]) hx hb d_Lw_law_7 rfl hl (by decide) rfl (fun ls hl => ?_)
    refine va_new (ci := 8) (fs := [Value.int 0, Value.int 0, Value.null, Value.null, Value.null, Value.int 0, Value.null, Value.null, Value.null, Value.null, Value.int 0, Value.int 0, Value.int 0, Value.int 0, Value.int 0, Value.null, Value.null, Value.null, Value.int 0, Value.int 0, Value.int 0, Value.null, Value.null, Value.int 0, Value.int 0, Value.int 0, Value.null, Value.null, Value.null, Value.null, Value.int 0, Value.null, Value.int 0, Value.int 0, Value.int 0]) (C := "CommitLedgerModel") (T := F_Mo) (N := 35) hx hb hts i_Mo t_Mo t_Mo_ok hown (hts _ kk_Lw_89) (hts _ kX_Mo) (hts _ kN_Mo) hK hP hD hS hA rfl (by decide) (Nat.le_of_ble_eq_true rfl) (Nat.le_of_ble_eq_true rfl) d_Lw_law_8 (fun q5 H hP9 hD9 hS9 => ?_)
    obtain ⟨ws6, e_ws6⟩ : ∃ x : va_W, x = ws4 ++ [((q5, Sum.inr (8, [Value.int 0, Value.int 0, Value.null, Value.null, Value.null, Value.int 0, Value.null, Value.null, Value.null, Value.null, Value.int 0, Value.int 0, Value.int 0, Value.int 0, Value.int 0, Value.null, Value.null, Value.null, Value.int 0, Value.int 0, Value.int 0, Value.null, Value.null, Value.int 0, Value.int 0, Value.int 0, Value.null, Value.null, Value.null, Value.null, Value.int 0, Value.null, Value.int 0, Value.int 0, Value.int 0])) : Nat × va_E)] := ⟨_, rfl⟩
    replace hP : va_P D classes ws6 H := by rw [e_ws6]; exact hP9
    replace hD : va_D A ws6 := by rw [e_ws6]; exact hD9
    replace hS := hS9
    clear hP9 hD9 hS9
    have f_46_ws6 : ws6[46]? = some ((q5, Sum.inr (8, [Value.int 0, Value.int 0, Value.null, Value.null, Value.null, Value.int 0, Value.null, Value.null, Value.null, Value.null, Value.int 0, Value.int 0, Value.int 0, Value.int 0, Value.int 0, Value.null, Value.null, Value.null, Value.int 0, Value.int 0, Value.int 0, Value.null, Value.null, Value.int 0, Value.int 0, Value.int 0, Value.null, Value.null, Value.null, Value.null, Value.int 0, Value.null, Value.int 0, Value.int 0, Value.int 0])) : Nat × va_E) := by rw [e_ws6]; exact gs_last hlen
    replace hlen : ws6.length = 47 := by rw [e_ws6]; exact gs_len hlen
    replace hU : gx_g ws ws6 47 [] := by rw [e_ws6]; exact hU.push
    refine W.widen (k := 47) (n := 200053) (by decide) (by decide) ?_
    refine lv_dup hx hb d_Lw_law_11 rfl ?_
    refine gx_call (ig := .invokespecial 91) (c_Mo_init2 l htr D tys z _ ws6 cI cZ cV cN q5 f_46_ws6 ht0 ht1 ht5 ht8 hlen) (gx_invI (As := []) (rest := [Value.ref q5]) hx hb hown hts km_Lw_91 kI_Mo_init kc_Mo_init (by decide) rfl (show (parseMethodDescriptor y_Mo_init.desc).map (fun d => d.parameters.length) = some 0 by decide +kernel) rfl rfl d_Lw_law_12) (gx_cw (z := 0) hts kc_Mo_init kN_Mo rfl rfl ⟨Nat.le_of_ble_eq_true rfl, Nat.le_of_ble_eq_true rfl⟩) hb hml gx_blind (gx_pre hz hP hK hD hY hS hAz [Value.ref q5]) rfl hl.1 (lv_room (Nat.le_of_ble_eq_true rfl)) d_Lw_law_12 ⟨Nat.le_of_ble_eq_true rfl, Nat.le_of_ble_eq_true rfl⟩ (fun v7 st7 t7 L7 h0_7 hW_7 hQ_7 hL_7 => ?_) (fun v7 st7 t7 L7 h0_7 hW_7 hQ_7 hL_7 => ?_)
    · obtain ⟨ws8, hp, hP9, -, hD9, hS9⟩ := gx_back h0_7 hW_7 hQ_7 hL_7 hD hS hA
      clear hQ_7 h0_7 hL_7 hW_7 hP hD hS
      have hP := hP9
      have hD := hD9
      have hS := hS9
      clear hP9 hD9 hS9
      obtain ⟨hv9, e_ws8, qq_mp, eq_mp, g_mp0, g_mp1, g_mp2, g_mp3, g_mp4⟩ := hp
      cases hv9
      replace hlen : ws8.length = 121 := by rw [e_ws8.1, hlen]
      replace hU : gx_g ws ws8 121 [] := hU.call e_ws8 (by rw [hlen0]; decide)
      refine W.eq (g2 := F0 m 15 ls [Value.ref q5]) rfl ?_
      refine W.widen (k := 121) (n := 677753) (by decide) (by decide) ?_
      generalize t7.heap = H at hP hS ⊢
      generalize locs ++ L7 = locs at hS ⊢
      refine lv_astore_n (lv' := [(2, Value.ref q5), (1, Value.ref q1), (0, Value.ref b)]) hx hb d_Lw_law_15 rfl hl (by decide) rfl (fun ls hl => ?_)
      refine lv_iconst (v := 1) hx hb d_Lw_law_16 (by decide) ?_
      refine gx_newa (atype := .long) (ty := .long) (N' := 1) (a0 := (1, Sum.inr (Sum.inl (fun _ => 0)))) hx hb (hts _ kA_long) rfl hK hP hD hS hA 6 ht6 (fun _ => rfl) (by decide) (by decide) (by decide) (Nat.le_of_ble_eq_true rfl) (Nat.le_of_ble_eq_true rfl) d_Lw_law_17 (fun q9 H hP9 hD9 hS9 => ?_)
      obtain ⟨ws10, e_ws10⟩ : ∃ x : va_W, x = ws8 ++ [((q9, Sum.inl (cJ, 1, Sum.inr (Sum.inl (fun _ => 0)))) : Nat × va_E)] := ⟨_, rfl⟩
      replace hP : va_P D classes ws10 H := by rw [e_ws10]; exact hP9
      replace hD : va_D A ws10 := by rw [e_ws10]; exact hD9
      replace hS := hS9
      clear hP9 hD9 hS9
      have f_121_ws10 : ws10[121]? = some ((q9, Sum.inl (cJ, 1, Sum.inr (Sum.inl (fun _ => 0)))) : Nat × va_E) := by rw [e_ws10]; exact gs_last hlen
      replace hlen : ws10.length = 122 := by rw [e_ws10]; exact gs_len hlen
      replace hU : gx_g ws ws10 122 [] := by rw [e_ws10]; exact hU.push
      refine W.widen (k := 122) (n := 677754) (by decide) (by decide) ?_
      refine lv_astore_n (lv' := [(3, Value.ref q9), (2, Value.ref q5), (1, Value.ref q1), (0, Value.ref b)]) hx hb d_Lw_law_19 rfl hl (by decide) rfl (fun ls hl => ?_)
      refine lv_iconst (v := 0) hx hb d_Lw_law_20 (by decide) ?_
      refine lv_istore (lv' := [(4, Value.int 0), (3, Value.ref q9), (2, Value.ref q5), (1, Value.ref q1), (0, Value.ref b)]) hx hb d_Lw_law_21 hl (by decide) rfl (fun ls hl => ?_)
      have hc_le_ws6 : gx_g ws4 ws6 1 [46] := by rw [e_ws6]; exact gx_g.push gx_g.rf
      have hc_le_ws8 : gx_g ws4 ws8 75 [46] := gx_g.call hc_le_ws6 e_ws8 (by simp)
      have hc_le_ws10 : gx_g ws4 ws10 76 [46] := by rw [e_ws10]; exact gx_g.push hc_le_ws8
      have g_le0z := le_G0_mono hc_le_ws10 g_le0
      have g_le1z := le_G1_mono hc_le_ws10 g_le1
      have g_le2z := le_G2_mono hc_le_ws10 g_le2
      have hc_mp_ws10 : gx_g ws8 ws10 1 [] := by rw [e_ws10]; exact gx_g.push gx_g.rf
      have g_mp0z := mp_G0_mono hc_mp_ws10 g_mp0
      have g_mp1z := mp_G1_mono hc_mp_ws10 g_mp1
      have g_mp2z := mp_G2_mono hc_mp_ws10 g_mp2
      have g_mp3z := mp_G3_mono hc_mp_ws10 g_mp3
      have g_mp4z := mp_G4_mono hc_mp_ws10 g_mp4
      have hl : lv_has ls 7 [(4, Value.int 0), (3, Value.ref q9), (2, Value.ref (qq_mp 46)), (1, Value.ref (qq_le 0)), (0, Value.ref b)] := by rw [eq_le, eq_mp]; exact hl
      exact k D tys cI cZ cF cM cR cV cJ cO cN qq_le qq_mp q9 ws10 H locs ls hK hY0 htys hP hD hS hlen g_le0z g_le1z g_le2z g_mp0z g_mp1z g_mp2z g_mp3z g_mp4z f_121_ws10 hl
    · obtain ⟨E9, ws11, ce, hp, hce, hP9, -, hD9, hS9⟩ := gx_backT h0_7 hW_7 hQ_7 hL_7 hD hS hA
      clear hQ_7 h0_7 hL_7 hW_7 hP hD hS
      have hP := hP9
      have hD := hD9
      have hS := hS9
      clear hP9 hD9 hS9
      obtain ⟨hv9, -⟩ := hp
      cases hv9
  · obtain ⟨E9, ws12, ce, hp, hce, hP9, -, hD9, hS9⟩ := gx_backT h0_3 hW_3 hQ_3 hL_3 hD hS hA
    clear hQ_3 h0_3 hL_3 hW_3 hP hD hS
    have hP := hP9
    have hD := hD9
    have hS := hS9
    clear hP9 hD9 hS9
    obtain ⟨hv9, -⟩ := hp
    cases hv9
