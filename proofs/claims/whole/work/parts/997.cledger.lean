/-! THE THIRD LAYER, the ledger: what makes nothing: programs of numbers and the proof that the machine does what they say; printed by an own text program -/
def f_Le_buffered (X0 : gX) : Option (gR × gX) := some (gR.i ((X0.I 1 3) - (X0.I 0 9)), X0)
set_option maxHeartbeats 4000000 in
set_option maxRecDepth 100000 in
theorem K_Le_buffered (l : Launch) (htr : l.stackTraces = false) (D : va_G) (tys : List (ClassId × FieldType)) (z sz : Nat) (ws : va_W) (h : gm_M) (hM : gm_S h ws) (t : Nat → ClassId) (ht : gTy t tys) (b : Nat → Nat) (X0 : gX) (hw : gw D t b X0 h) (o : gR × gX) (hf : f_Le_buffered X0 = some o) : gx_Met l y_Le_buffered [Cond.code y_Le_buffered b_Le_buffered 1 (some .int)] { frames := 1, cells := 0, slots := 0, locals := 12 } (gx_P z sz D classes tys ws [Value.ref (b 0)]) (gx_Q D classes tys (va_A ws sz) (gPo D t b X0 o)) (0) (0) (va_A ws sz) := by
  refine gx_ofW (cc := b_Le_buffered) (maxL := 1) (ret := (some .int)) (by decide) rfl ?_
  intro p e s m args below meth c s₁ B hml hv
  obtain ⟨rfl, hsz, hz, hP, hK, hD0, hY⟩ := hv
  have hx := B.exec
  have hb := B.bytes
  have hr := B.returns
  have hts := hY.hts (#[Value.ref (b 0)] : Array Value)
  have hown : s.vm.findClass "CommitLedger" = some m.cls := findClass_of_methodNamed B.named
  have hlocks := B.notSynchronized
  subst hsz
  have hAz := gx_az hD0 hz
  have hD := hD0.self (sz := s.heap.size)
  have hA : ∀ q : Nat, s.heap.size ≤ q → va_A ws s.heap.size q := fun q h => Or.inr h
  generalize va_A ws s.heap.size = A at hD hA hAz ⊢
  have Y : gy D t b A s.heap X0 X0 s.heap [] := ⟨h, ⟨ws, hM, hP, hD, va_S.rf⟩, hw, gEq.rf⟩
  clear hP hD hM hD0 hw
  obtain ⟨ht0, ht1, ht2, ht3, ht4, ht5, ht6, ht7, ht8⟩ := id ht
  have hl := lv_entry ([Value.ref (b 0)]) (n := 1) (Nat.le_of_ble_eq_true rfl)
  rw [lg_entry_eq]
  generalize (lg_sl ([Value.ref (b 0)]) ++ List.replicate (1 - (lg_sl ([Value.ref (b 0)])).length) Slot.unset).toArray = ls at hl ⊢
  have hl : lv_has ls 1 [(0, Value.ref (b 0))] := hl
  unfold f_Le_buffered at hf
  refine lv_aload_n hx hb d_Le_buffered_0 rfl (lv_at hl 0 rfl) ?_
  refine gy_get (ci := 0) (v := Value.ref (b 1)) (C := "CommitLedger") (T := F_Le) (N := 18) hx hb hts i_Le hown hK Y gF_0 rfl 0 (by decide) kf_Le_10 rfl d_Le_buffered_1 ?_
  refine gy_get (ci := 1) (v := Value.int (X0.I 1 3)) (C := "CommitLedger$Entries") (T := F_En) (N := 4) hx hb hts i_En hown hK Y gF_1 rfl 3 (by decide) kf_Le_94 rfl d_Le_buffered_4 ?_
  refine lv_aload_n hx hb d_Le_buffered_7 rfl (lv_at hl 0 rfl) ?_
  refine gy_get (ci := 0) (v := Value.int (X0.I 0 9)) (C := "CommitLedger") (T := F_Le) (N := 18) hx hb hts i_Le hown hK Y gF_0 rfl 9 (by decide) kf_Le_97 rfl d_Le_buffered_8 ?_
  refine lv_isub hx hb d_Le_buffered_11 ?_
  exact gy_iret hf hx hb hr hlocks hK Y (Nat.zero_le _) (Nat.zero_le _) d_Le_buffered_12

def f_Le_addEntry (X0 : gX) (a1 : Int32) (a2 : Int32) : Option (gR × gX) := (if (4096 : Int32) ≤ (X0.I 1 3) then some (gR.v, X0) else gB (X0.w 8 5 ((X0.I 8 5) + 1)) (fun X2 => (if gIn (X2.I 1 3) 4096 then gB (X2.w 11 (gn (X2.I 1 3)) (vp_nar .boolean 1)) (fun X3 => gCv (f_En_append X3 a1 a2 (X3.I 8 5)) (fun X4 => some (gR.v, X4))) else none)))
set_option maxHeartbeats 4000000 in
set_option maxRecDepth 100000 in
theorem K_Le_addEntry (l : Launch) (htr : l.stackTraces = false) (D : va_G) (tys : List (ClassId × FieldType)) (z sz : Nat) (ws : va_W) (h : gm_M) (hM : gm_S h ws) (t : Nat → ClassId) (ht : gTy t tys) (b : Nat → Nat) (X0 : gX) (hw : gw D t b X0 h) (a1 : Int32) (a2 : Int32) (o : gR × gX) (hf : f_Le_addEntry X0 a1 a2 = some o) : gx_Met l y_Le_addEntry [Cond.code y_Le_addEntry b_Le_addEntry 3 none] { frames := 2, cells := 0, slots := 0, locals := 35 } (gx_P z sz D classes tys ws [Value.ref (b 0), Value.int a1, Value.int a2]) (gx_Q D classes tys (va_A ws sz) (gPo D t b X0 o)) (0) (0) (va_A ws sz) := by
  refine gx_ofW (cc := b_Le_addEntry) (maxL := 3) (ret := none) (by decide) rfl ?_
  intro p e s m args below meth c s₁ B hml hv
  obtain ⟨rfl, hsz, hz, hP, hK, hD0, hY⟩ := hv
  have hx := B.exec
  have hb := B.bytes
  have hr := B.returns
  have hts := hY.hts (#[Value.ref (b 0), Value.int a1, Value.int a2] : Array Value)
  have hown : s.vm.findClass "CommitLedger" = some m.cls := findClass_of_methodNamed B.named
  have hlocks := B.notSynchronized
  subst hsz
  have hAz := gx_az hD0 hz
  have hD := hD0.self (sz := s.heap.size)
  have hA : ∀ q : Nat, s.heap.size ≤ q → va_A ws s.heap.size q := fun q h => Or.inr h
  generalize va_A ws s.heap.size = A at hD hA hAz ⊢
  have Y : gy D t b A s.heap X0 X0 s.heap [] := ⟨h, ⟨ws, hM, hP, hD, va_S.rf⟩, hw, gEq.rf⟩
  clear hP hD hM hD0 hw
  obtain ⟨ht0, ht1, ht2, ht3, ht4, ht5, ht6, ht7, ht8⟩ := id ht
  have hl := lv_entry ([Value.ref (b 0), Value.int a1, Value.int a2]) (n := 3) (Nat.le_of_ble_eq_true rfl)
  rw [lg_entry_eq]
  generalize (lg_sl ([Value.ref (b 0), Value.int a1, Value.int a2]) ++ List.replicate (3 - (lg_sl ([Value.ref (b 0), Value.int a1, Value.int a2])).length) Slot.unset).toArray = ls at hl ⊢
  have hl : lv_has ls 3 [(0, Value.ref (b 0)), (1, Value.int a1), (2, Value.int a2)] := hl
  unfold f_Le_addEntry at hf
  refine lv_aload_n hx hb d_Le_addEntry_0 rfl (lv_at hl 0 rfl) ?_
  refine gy_get (ci := 0) (v := Value.ref (b 1)) (C := "CommitLedger") (T := F_Le) (N := 18) hx hb hts i_Le hown hK Y gF_0 rfl 0 (by decide) kf_Le_10 rfl d_Le_addEntry_1 ?_
  refine gy_get (ci := 1) (v := Value.int (X0.I 1 3)) (C := "CommitLedger$Entries") (T := F_En) (N := 4) hx hb hts i_En hown hK Y gF_1 rfl 3 (by decide) kf_Le_94 rfl d_Le_addEntry_4 ?_
  refine lv_sipush (v := 4096) hx hb d_Le_addEntry_7 (by decide) ?_
  refine lv_icmp_ge (tgt := 58) hx hb d_Le_addEntry_10 (by decide) (fun c10_5 => ?_) (fun c10_5 => ?_)
  · replace hf := gp_t c10_5 hf
    exact gy_vret hf hx hb hr hlocks hK Y (Nat.zero_le _) (Nat.zero_le _) d_Le_addEntry_58
  · replace hf := gp_f c10_5 hf
    refine lv_aload_n hx hb d_Le_addEntry_13 rfl (lv_at hl 0 rfl) ?_
    refine gy_get (ci := 0) (v := Value.ref (b 8)) (C := "CommitLedger") (T := F_Le) (N := 18) hx hb hts i_Le hown hK Y gF_0 rfl 2 (by decide) kf_Le_26 rfl d_Le_addEntry_14 ?_
    refine lv_dup hx hb d_Le_addEntry_17 rfl ?_
    refine gy_get (ci := 4) (v := Value.int (X0.I 8 5)) (C := "CommitLedger$View") (T := F_Vi) (N := 6) hx hb hts i_Vi hown hK Y gF_8 rfl 5 (by decide) kf_Le_131 rfl d_Le_addEntry_18 ?_
    refine lv_iconst (v := 1) hx hb d_Le_addEntry_21 (by decide) ?_
    refine lv_iadd hx hb d_Le_addEntry_22 ?_
    refine gy_put hf (ci := 4) (ty := .int) (C := "CommitLedger$View") (T := F_Vi) (N := 6) hx hb hts i_Vi t_Vi_ok n_Vi hown hK Y gF_8 rfl (by decide) kf_Le_131 rfl (by decide +kernel) rfl rfl (Nat.le_of_ble_eq_true rfl) gF_8 d_Le_addEntry_23 (fun X6 H locs hf Y => ?_)
    refine lv_aload_n hx hb d_Le_addEntry_26 rfl (lv_at hl 0 rfl) ?_
    refine gy_get (ci := 0) (v := Value.ref (b 8)) (C := "CommitLedger") (T := F_Le) (N := 18) hx hb hts i_Le hown hK Y gF_0 rfl 2 (by decide) kf_Le_26 rfl d_Le_addEntry_27 ?_
    refine gy_get (ci := 4) (v := Value.ref (b 11)) (C := "CommitLedger$View") (T := F_Vi) (N := 6) hx hb hts i_Vi hown hK Y gF_8 rfl 2 (by decide) kf_Le_134 rfl d_Le_addEntry_30 ?_
    refine lv_aload_n hx hb d_Le_addEntry_33 rfl (lv_at hl 0 rfl) ?_
    refine gy_get (ci := 0) (v := Value.ref (b 1)) (C := "CommitLedger") (T := F_Le) (N := 18) hx hb hts i_Le hown hK Y gF_0 rfl 0 (by decide) kf_Le_10 rfl d_Le_addEntry_34 ?_
    refine gy_get (ci := 1) (v := Value.int (X6.I 1 3)) (C := "CommitLedger$Entries") (T := F_En) (N := 4) hx hb hts i_En hown hK Y gF_1 rfl 3 (by decide) kf_Le_94 rfl d_Le_addEntry_37 ?_
    refine lv_iconst (v := 1) hx hb d_Le_addEntry_40 (by decide) ?_
    refine gy_zast hf hx hb hK Y 1 (fun _ => gF_11) ht1 d_Le_addEntry_41 (fun X7 H locs hf Y => ?_)
    refine lv_aload_n hx hb d_Le_addEntry_42 rfl (lv_at hl 0 rfl) ?_
    refine gy_get (ci := 0) (v := Value.ref (b 1)) (C := "CommitLedger") (T := F_Le) (N := 18) hx hb hts i_Le hown hK Y gF_0 rfl 0 (by decide) kf_Le_10 rfl d_Le_addEntry_43 ?_
    refine lv_iload_n hx hb d_Le_addEntry_46 rfl (lv_at hl 1 rfl) ?_
    refine lv_iload_n hx hb d_Le_addEntry_47 rfl (lv_at hl 2 rfl) ?_
    refine lv_aload_n hx hb d_Le_addEntry_48 rfl (lv_at hl 0 rfl) ?_
    refine gy_get (ci := 0) (v := Value.ref (b 8)) (C := "CommitLedger") (T := F_Le) (N := 18) hx hb hts i_Le hown hK Y gF_0 rfl 2 (by decide) kf_Le_26 rfl d_Le_addEntry_49 ?_
    refine gy_get (ci := 4) (v := Value.int (X7.I 8 5)) (C := "CommitLedger$View") (T := F_Vi) (N := 6) hx hb hts i_Vi hown hK Y gF_8 rfl 5 (by decide) kf_Le_131 rfl d_Le_addEntry_52 ?_
    obtain ⟨X8, hF8, hf⟩ := gCv_el hf
    refine gy_callV (rm := { frames := 1, cells := 0, slots := 0, locals := 12 }) (ig := .invokevirtual 308) (av := [Value.ref (b 1), Value.int a1, Value.int a2, Value.int (X7.I 8 5)]) Y (fun ws h hS hw => K_En_append l htr D tys z _ ws h hS t ht b X7 hw a1 a2 (X7.I 8 5) (gR.v, X8) hF8) (gx_invV (As := [Value.int a1, Value.int a2, Value.int (X7.I 8 5)]) (rest := []) hx hb hown hts km_Le_308 kI_En_append kV_En_append kc_En_append (by decide) (show (parseMethodDescriptor y_En_append.desc).map (fun d => d.parameters.length) = some 3 by decide +kernel) (gy_recv (ci := 1) hK Y rfl gF_1) rfl rfl d_Le_addEntry_55) (gx_cw (z := 0) hts kc_En_append kN_En rfl rfl ⟨Nat.le_of_ble_eq_true rfl, Nat.le_of_ble_eq_true rfl⟩) hb hml hz hK hY hAz hA hl.1 (lv_room (Nat.le_of_ble_eq_true rfl)) d_Le_addEntry_55 ⟨Nat.zero_le _, Nat.zero_le _⟩ (fun H locs Y => ?_)
    exact gy_vret hf hx hb hr hlocks hK Y (Nat.zero_le _) (Nat.zero_le _) d_Le_addEntry_58

def f_Le_mergeOf_2 (X : gX) (o1 : Option Nat) (i2 : Int32) : Option ((gX × Int32) ⊕ (gR × gX)) := (if (X.I 0 12) ≤ i2 then gLf (some (gR.i 0, X)) else (if gIn i2 4 then gM (X.G 20 (gn i2)) (fun n3 => (if gMer n3 then gCi (f_Me_covers X n3 o1) (fun x5 X5 => (if x5 = (0 : Int32) then some (Sum.inl (X5, i2 + 1)) else (if gIn i2 4 then gM (X5.G 20 (gn i2)) (fun n7 => (if gMer n7 then gLf (some (gR.i (X5.I n7 0), X5)) else none)) else none))) else none)) else none))
def f_Le_mergeOf (X0 : gX) (m1 : Option Nat) : Option (gR × gX) := gI (fun s : gX × Int32 => f_Le_mergeOf_2 s.1 m1 s.2) gK (X0, 0)
set_option maxHeartbeats 4000000 in
set_option maxRecDepth 100000 in
theorem K_Le_mergeOf (l : Launch) (htr : l.stackTraces = false) (D : va_G) (tys : List (ClassId × FieldType)) (z sz : Nat) (ws : va_W) (h : gm_M) (hM : gm_S h ws) (t : Nat → ClassId) (ht : gTy t tys) (b : Nat → Nat) (X0 : gX) (hw : gw D t b X0 h) (m1 : Option Nat) (o : gR × gX) (hf : f_Le_mergeOf X0 m1 = some o) : gx_Met l y_Le_mergeOf [Cond.code y_Le_mergeOf b_Le_mergeOf 3 (some .int)] { frames := 2, cells := 0, slots := 0, locals := 33 } (gx_P z sz D classes tys ws [Value.ref (b 0), va_rf (Option.map b m1)]) (gx_Q D classes tys (va_A ws sz) (gPo D t b X0 o)) (0) (0) (va_A ws sz) := by
  refine gx_ofW (cc := b_Le_mergeOf) (maxL := 3) (ret := (some .int)) (by decide) rfl ?_
  intro p e s m args below meth c s₁ B hml hv
  obtain ⟨rfl, hsz, hz, hP, hK, hD0, hY⟩ := hv
  have hx := B.exec
  have hb := B.bytes
  have hr := B.returns
  have hts := hY.hts (#[Value.ref (b 0), va_rf (Option.map b m1)] : Array Value)
  have hown : s.vm.findClass "CommitLedger" = some m.cls := findClass_of_methodNamed B.named
  have hlocks := B.notSynchronized
  subst hsz
  have hAz := gx_az hD0 hz
  have hD := hD0.self (sz := s.heap.size)
  have hA : ∀ q : Nat, s.heap.size ≤ q → va_A ws s.heap.size q := fun q h => Or.inr h
  generalize va_A ws s.heap.size = A at hD hA hAz ⊢
  have Y : gy D t b A s.heap X0 X0 s.heap [] := ⟨h, ⟨ws, hM, hP, hD, va_S.rf⟩, hw, gEq.rf⟩
  clear hP hD hM hD0 hw
  obtain ⟨ht0, ht1, ht2, ht3, ht4, ht5, ht6, ht7, ht8⟩ := id ht
  have hl := lv_entry ([Value.ref (b 0), va_rf (Option.map b m1)]) (n := 3) (by cases m1 <;> exact Nat.le_of_ble_eq_true rfl)
  rw [lg_entry_eq]
  generalize (lg_sl ([Value.ref (b 0), va_rf (Option.map b m1)]) ++ List.replicate (3 - (lg_sl ([Value.ref (b 0), va_rf (Option.map b m1)])).length) Slot.unset).toArray = ls at hl ⊢
  have hl : lv_has ls 3 [(0, Value.ref (b 0)), (1, va_rf (Option.map b m1))] := by cases m1 <;> exact hl
  unfold f_Le_mergeOf at hf
  refine lv_iconst (v := 0) hx hb d_Le_mergeOf_0 (by decide) ?_
  refine lv_istore_n (lv' := [(2, Value.int 0), (0, Value.ref (b 0)), (1, va_rf (Option.map b m1))]) hx hb d_Le_mergeOf_1 rfl hl (by decide) (by generalize Option.map b m1 = z9; cases z9 <;> rfl) (fun ls hl => ?_)
  refine gy_iter (fun s : gX × Int32 => s.1) (fun (s : gX × Int32) ls => lv_has ls 3 [(2, Value.int s.2), (0, Value.ref (b 0)), (1, va_rf (Option.map b m1))]) ?_ gK (X0, 0) _ _ _ hf (lv_sub hl [0, 1, 2] rfl) Y
  rintro ⟨X16, i2_16⟩ u16 H locs ls hf hl Y hk16 ho16
  have hl : lv_has ls 3 [(2, Value.int i2_16), (0, Value.ref (b 0)), (1, va_rf (Option.map b m1))] := hl
  have Y : gy D t b A s.heap X0 X16 H locs := Y
  have hf : f_Le_mergeOf_2 X16 m1 i2_16 = some u16 := hf
  unfold f_Le_mergeOf_2 at hf
  refine lv_iload_n hx hb d_Le_mergeOf_2 rfl (lv_at hl 0 rfl) ?_
  refine lv_aload_n hx hb d_Le_mergeOf_3 rfl (lv_at hl 1 rfl) ?_
  refine gy_get (ci := 0) (v := Value.int (X16.I 0 12)) (C := "CommitLedger") (T := F_Le) (N := 18) hx hb hts i_Le hown hK Y gF_0 rfl 12 (by decide) kf_Le_142 rfl d_Le_mergeOf_4 ?_
  refine lv_icmp_ge (tgt := 39) hx hb d_Le_mergeOf_7 (by decide) (fun c7_17 => ?_) (fun c7_17 => ?_)
  · replace hf := gp_t c7_17 hf
    refine lv_iconst (v := 0) hx hb d_Le_mergeOf_39 (by decide) ?_
    replace hf := gU hf ho16
    exact gy_iret hf hx hb hr hlocks hK Y (Nat.zero_le _) (Nat.zero_le _) d_Le_mergeOf_40
  · replace hf := gp_f c7_17 hf
    refine lv_aload_n hx hb d_Le_mergeOf_10 rfl (lv_at hl 1 rfl) ?_
    refine gy_get (ci := 0) (v := Value.ref (b 20)) (C := "CommitLedger") (T := F_Le) (N := 18) hx hb hts i_Le hown hK Y gF_0 rfl 3 (by decide) kf_Le_38 rfl d_Le_mergeOf_11 ?_
    refine lv_iload_n hx hb d_Le_mergeOf_14 rfl (lv_at hl 0 rfl) ?_
    refine gy_aald hf hx hb hK Y 3 gF_20 ht3 d_Le_mergeOf_15 (fun hf => ?_)
    refine lv_aload_nO hx hb d_Le_mergeOf_16 rfl (lv_at hl 2 rfl) ?_
    obtain ⟨n18, e18, hf⟩ := gM_el hf
    refine W.eq (g2 := F0 m 17 ls [va_rf (Option.map b m1), Value.ref (b n18)]) (by rw [e18] <;> rfl) ?_
    obtain ⟨hv19, hf⟩ := gp_g hf
    obtain ⟨x20, X20, hF20, hf⟩ := gCi_el hf
    refine gy_callI (rm := { frames := 1, cells := 0, slots := 0, locals := 12 }) (ig := .invokevirtual 330) (av := [Value.ref (b n18), va_rf (Option.map b m1)]) Y (fun ws h hS hw => K_Me_covers l htr D tys z _ ws h hS t ht b X16 hw n18 hv19 m1 (gR.i x20, X20) hF20) (gx_invV (As := [va_rf (Option.map b m1)]) (rest := []) hx hb hown hts km_Le_330 kI_Me_covers kV_Me_covers kc_Me_covers (by decide) (show (parseMethodDescriptor y_Me_covers.desc).map (fun d => d.parameters.length) = some 1 by decide +kernel) (gy_recv (ci := 5) hK Y rfl (gF_Me hv19)) rfl rfl d_Le_mergeOf_17) (gx_cw (z := 0) hts kc_Me_covers kN_Me rfl rfl ⟨Nat.le_of_ble_eq_true rfl, Nat.le_of_ble_eq_true rfl⟩) hb hml hz hK hY hAz hA hl.1 (lv_room (Nat.le_of_ble_eq_true rfl)) d_Le_mergeOf_17 ⟨Nat.zero_le _, Nat.zero_le _⟩ (fun H locs Y => ?_)
    refine lv_if_eq (tgt := 33) hx hb d_Le_mergeOf_20 (by decide) (fun c20_21 => ?_) (fun c20_21 => ?_)
    · replace hf := gp_t c20_21 hf
      refine lv_iinc (v := i2_16 + 1) (lv' := [(2, Value.int (i2_16 + 1)), (0, Value.ref (b 0)), (1, va_rf (Option.map b m1))]) hx hb d_Le_mergeOf_33 hl (k := 0) rfl (rfl) (by decide) (by generalize Option.map b m1 = z9; cases z9 <;> rfl) (fun ls hl => ?_)
      refine lv_goto (tgt := 2) hx hb d_Le_mergeOf_36 (by decide) ?_
      exact hk16 _ _ _ _ hf (lv_sub hl [0, 1, 2] rfl) Y
    · replace hf := gp_f c20_21 hf
      refine lv_aload_n hx hb d_Le_mergeOf_23 rfl (lv_at hl 1 rfl) ?_
      refine gy_get (ci := 0) (v := Value.ref (b 20)) (C := "CommitLedger") (T := F_Le) (N := 18) hx hb hts i_Le hown hK Y gF_0 rfl 3 (by decide) kf_Le_38 rfl d_Le_mergeOf_24 ?_
      refine lv_iload_n hx hb d_Le_mergeOf_27 rfl (lv_at hl 0 rfl) ?_
      refine gy_aald hf hx hb hK Y 3 gF_20 ht3 d_Le_mergeOf_28 (fun hf => ?_)
      obtain ⟨n22, e22, hf⟩ := gM_el hf
      refine W.eq (g2 := F0 m 29 ls [Value.ref (b n22)]) (by rw [e22] <;> rfl) ?_
      obtain ⟨hv23, hf⟩ := gp_g hf
      refine gy_get (ci := 5) (v := Value.int (X20.I n22 0)) (C := "CommitLedger$Merge") (T := F_Me) (N := 4) hx hb hts i_Me hown hK Y (gF_Me hv23) rfl 0 (by decide) kf_Le_334 rfl d_Le_mergeOf_29 ?_
      replace hf := gU hf ho16
      exact gy_iret hf hx hb hr hlocks hK Y (Nat.zero_le _) (Nat.zero_le _) d_Le_mergeOf_32

def f_Le_dropDeadSegments_65 (X : gX) (i1 : Int32) (i2 : Int32) : Option ((gX × Int32 × Int32) ⊕ (gR × gX)) := some (Sum.inl (X, i1, i2 + 1))
def f_Le_dropDeadSegments_44 (X : gX) (i1 : Int32) (i2 : Int32) (o3 : Option Nat) : Option ((gX × Int32 × Int32) ⊕ (gR × gX)) := (if gIn i2 4096 then gCv (f_Vi_put X 8 i1 o3 (X.G 10 (gn i2))) (fun X6 => f_Le_dropDeadSegments_65 X6 (i1 + 1) i2) else none)
def f_Le_dropDeadSegments_4 (X : gX) (i1 : Int32) (i2 : Int32) : Option ((gX × Int32 × Int32) ⊕ (gR × gX)) := (if (X.I 8 4) ≤ i2 then gB (X.w 8 4 i1) (fun X3 => gLf (some (gR.v, X3))) else (if gIn i2 4096 then gCi (f_Vi_liveIn X 8 (X.G 9 (gn i2))) (fun x4 X4 => (if (0 : Int32) < x4 then f_Le_dropDeadSegments_44 X4 i1 i2 (X.G 9 (gn i2)) else gCi (f_Le_mergeOf X4 (X.G 9 (gn i2))) (fun x7 X7 => (if x7 = (0 : Int32) then f_Le_dropDeadSegments_65 X7 i1 i2 else f_Le_dropDeadSegments_44 X7 i1 i2 (X.G 9 (gn i2)))))) else none))
def f_Le_dropDeadSegments (X0 : gX) : Option (gR × gX) := gI (fun s : gX × Int32 × Int32 => f_Le_dropDeadSegments_4 s.1 s.2.1 s.2.2) gK (X0, 0, 0)
set_option maxHeartbeats 4000000 in
set_option maxRecDepth 100000 in
theorem K_Le_dropDeadSegments (l : Launch) (htr : l.stackTraces = false) (D : va_G) (tys : List (ClassId × FieldType)) (z sz : Nat) (ws : va_W) (h : gm_M) (hM : gm_S h ws) (t : Nat → ClassId) (ht : gTy t tys) (b : Nat → Nat) (X0 : gX) (hw : gw D t b X0 h) (o : gR × gX) (hf : f_Le_dropDeadSegments X0 = some o) : gx_Met l y_Le_dropDeadSegments [Cond.code y_Le_dropDeadSegments b_Le_dropDeadSegments 4 none] { frames := 3, cells := 0, slots := 0, locals := 57 } (gx_P z sz D classes tys ws [Value.ref (b 0)]) (gx_Q D classes tys (va_A ws sz) (gPo D t b X0 o)) (0) (0) (va_A ws sz) := by
  refine gx_ofW (cc := b_Le_dropDeadSegments) (maxL := 4) (ret := none) (by decide) rfl ?_
  intro p e s m args below meth c s₁ B hml hv
  obtain ⟨rfl, hsz, hz, hP, hK, hD0, hY⟩ := hv
  have hx := B.exec
  have hb := B.bytes
  have hr := B.returns
  have hts := hY.hts (#[Value.ref (b 0)] : Array Value)
  have hown : s.vm.findClass "CommitLedger" = some m.cls := findClass_of_methodNamed B.named
  have hlocks := B.notSynchronized
  subst hsz
  have hAz := gx_az hD0 hz
  have hD := hD0.self (sz := s.heap.size)
  have hA : ∀ q : Nat, s.heap.size ≤ q → va_A ws s.heap.size q := fun q h => Or.inr h
  generalize va_A ws s.heap.size = A at hD hA hAz ⊢
  have Y : gy D t b A s.heap X0 X0 s.heap [] := ⟨h, ⟨ws, hM, hP, hD, va_S.rf⟩, hw, gEq.rf⟩
  clear hP hD hM hD0 hw
  obtain ⟨ht0, ht1, ht2, ht3, ht4, ht5, ht6, ht7, ht8⟩ := id ht
  have hl := lv_entry ([Value.ref (b 0)]) (n := 4) (Nat.le_of_ble_eq_true rfl)
  rw [lg_entry_eq]
  generalize (lg_sl ([Value.ref (b 0)]) ++ List.replicate (4 - (lg_sl ([Value.ref (b 0)])).length) Slot.unset).toArray = ls at hl ⊢
  have hl : lv_has ls 4 [(0, Value.ref (b 0))] := hl
  unfold f_Le_dropDeadSegments at hf
  refine lv_iconst (v := 0) hx hb d_Le_dropDeadSegments_0 (by decide) ?_
  refine lv_istore_n (lv' := [(1, Value.int 0), (0, Value.ref (b 0))]) hx hb d_Le_dropDeadSegments_1 rfl hl (by decide) rfl (fun ls hl => ?_)
  refine lv_iconst (v := 0) hx hb d_Le_dropDeadSegments_2 (by decide) ?_
  refine lv_istore_n (lv' := [(2, Value.int 0), (1, Value.int 0), (0, Value.ref (b 0))]) hx hb d_Le_dropDeadSegments_3 rfl hl (by decide) rfl (fun ls hl => ?_)
  refine gy_iter (fun s : gX × Int32 × Int32 => s.1) (fun (s : gX × Int32 × Int32) ls => lv_has ls 4 [(1, Value.int s.2.1), (2, Value.int s.2.2), (0, Value.ref (b 0))]) ?_ gK (X0, 0, 0) _ _ _ hf (lv_sub hl [1, 0, 2] rfl) Y
  rintro ⟨X18, i1_18, i2_18⟩ u18 H locs ls hf hl Y hk18 ho18
  have hl : lv_has ls 4 [(1, Value.int i1_18), (2, Value.int i2_18), (0, Value.ref (b 0))] := hl
  have Y : gy D t b A s.heap X0 X18 H locs := Y
  have hf : f_Le_dropDeadSegments_4 X18 i1_18 i2_18 = some u18 := hf
  refine gy_cut (pcJ := 65) Y (fun s : gX × Int32 × Int32 => f_Le_dropDeadSegments_65 s.1 s.2.1 s.2.2) u18 (fun s => s.1) (fun s ls => lv_has ls 4 [(1, Value.int s.2.1), (2, Value.int s.2.2), (0, Value.ref (b 0))]) (fun s => []) ?_ (fun J65 => ?_)
  · rintro ⟨X19, i1_19, i2_19⟩ H locs ls hf hl Y
    have hl : lv_has ls 4 [(1, Value.int i1_19), (2, Value.int i2_19), (0, Value.ref (b 0))] := hl
    have Y : gy D t b A s.heap X0 X19 H locs := Y
    have hf : f_Le_dropDeadSegments_65 X19 i1_19 i2_19 = some u18 := hf
    unfold f_Le_dropDeadSegments_65 at hf
    refine lv_iinc (v := i2_19 + 1) (lv' := [(2, Value.int (i2_19 + 1)), (1, Value.int i1_19), (0, Value.ref (b 0))]) hx hb d_Le_dropDeadSegments_65 hl (k := 1) rfl (rfl) (by decide) rfl (fun ls hl => ?_)
    refine lv_goto (tgt := 4) hx hb d_Le_dropDeadSegments_68 (by decide) ?_
    exact hk18 _ _ _ _ hf (lv_sub hl [1, 0, 2] rfl) Y
  refine gy_cut (pcJ := 44) Y (fun s : gX × Int32 × Int32 × Option Nat => f_Le_dropDeadSegments_44 s.1 s.2.1 s.2.2.1 s.2.2.2) u18 (fun s => s.1) (fun s ls => lv_has ls 4 [(1, Value.int s.2.1), (2, Value.int s.2.2.1), (3, va_rf (Option.map b s.2.2.2)), (0, Value.ref (b 0))]) (fun s => []) ?_ (fun J44 => ?_)
  · rintro ⟨X20, i1_20, i2_20, o3_20⟩ H locs ls hf hl Y
    have hl : lv_has ls 4 [(1, Value.int i1_20), (2, Value.int i2_20), (3, va_rf (Option.map b o3_20)), (0, Value.ref (b 0))] := hl
    have Y : gy D t b A s.heap X0 X20 H locs := Y
    have hf : f_Le_dropDeadSegments_44 X20 i1_20 i2_20 o3_20 = some u18 := hf
    unfold f_Le_dropDeadSegments_44 at hf
    refine lv_aload_n hx hb d_Le_dropDeadSegments_44 rfl (lv_at hl 3 rfl) ?_
    refine gy_get (ci := 0) (v := Value.ref (b 8)) (C := "CommitLedger") (T := F_Le) (N := 18) hx hb hts i_Le hown hK Y gF_0 rfl 2 (by decide) kf_Le_26 rfl d_Le_dropDeadSegments_45 ?_
    refine lv_iload_n hx hb d_Le_dropDeadSegments_48 rfl (lv_at hl 0 rfl) ?_
    refine lv_aload_nO hx hb d_Le_dropDeadSegments_49 rfl (lv_at hl 2 rfl) ?_
    refine lv_aload_n hx hb d_Le_dropDeadSegments_50 rfl (lv_at hl 3 rfl) ?_
    refine gy_get (ci := 0) (v := Value.ref (b 8)) (C := "CommitLedger") (T := F_Le) (N := 18) hx hb hts i_Le hown hK Y gF_0 rfl 2 (by decide) kf_Le_26 rfl d_Le_dropDeadSegments_51 ?_
    refine gy_get (ci := 4) (v := Value.ref (b 10)) (C := "CommitLedger$View") (T := F_Vi) (N := 6) hx hb hts i_Vi hown hK Y gF_8 rfl 1 (by decide) kf_Le_323 rfl d_Le_dropDeadSegments_54 ?_
    refine lv_iload_n hx hb d_Le_dropDeadSegments_57 rfl (lv_at hl 1 rfl) ?_
    refine gy_aald hf hx hb hK Y 2 gF_10 ht2 d_Le_dropDeadSegments_58 (fun hf => ?_)
    obtain ⟨X21, hF21, hf⟩ := gCv_el hf
    refine gy_callV (rm := { frames := 1, cells := 0, slots := 0, locals := 12 }) (ig := .invokevirtual 326) (av := [Value.ref (b 8), Value.int i1_20, va_rf (Option.map b o3_20), va_rf (Option.map b (X20.G 10 (gn i2_20)))]) Y (fun ws h hS hw => K_Vi_put l htr D tys z _ ws h hS t ht b X20 hw 8 (by decide) i1_20 o3_20 (X20.G 10 (gn i2_20)) (gR.v, X21) hF21) (gx_invV (As := [Value.int i1_20, va_rf (Option.map b o3_20), va_rf (Option.map b (X20.G 10 (gn i2_20)))]) (rest := []) hx hb hown hts km_Le_326 kI_Vi_put kV_Vi_put kc_Vi_put (by decide) (show (parseMethodDescriptor y_Vi_put.desc).map (fun d => d.parameters.length) = some 3 by decide +kernel) (gy_recv (ci := 4) hK Y rfl gF_8) rfl rfl d_Le_dropDeadSegments_59) (gx_cw (z := 0) hts kc_Vi_put kN_Vi rfl rfl ⟨Nat.le_of_ble_eq_true rfl, Nat.le_of_ble_eq_true rfl⟩) hb hml hz hK hY hAz hA hl.1 (lv_room (Nat.le_of_ble_eq_true rfl)) d_Le_dropDeadSegments_59 ⟨Nat.zero_le _, Nat.zero_le _⟩ (fun H locs Y => ?_)
    refine lv_iinc (v := i1_20 + 1) (lv' := [(1, Value.int (i1_20 + 1)), (2, Value.int i2_20), (3, va_rf (Option.map b o3_20)), (0, Value.ref (b 0))]) hx hb d_Le_dropDeadSegments_62 hl (k := 0) rfl (rfl) (by decide) rfl (fun ls hl => ?_)
    exact J65 (X21, i1_20 + 1, i2_20) _ _ _ hf (lv_sub hl [0, 1, 3] rfl) Y
  unfold f_Le_dropDeadSegments_4 at hf
  refine lv_iload_n hx hb d_Le_dropDeadSegments_4 rfl (lv_at hl 1 rfl) ?_
  refine lv_aload_n hx hb d_Le_dropDeadSegments_5 rfl (lv_at hl 2 rfl) ?_
  refine gy_get (ci := 0) (v := Value.ref (b 8)) (C := "CommitLedger") (T := F_Le) (N := 18) hx hb hts i_Le hown hK Y gF_0 rfl 2 (by decide) kf_Le_26 rfl d_Le_dropDeadSegments_6 ?_
  refine gy_get (ci := 4) (v := Value.int (X18.I 8 4)) (C := "CommitLedger$View") (T := F_Vi) (N := 6) hx hb hts i_Vi hown hK Y gF_8 rfl 4 (by decide) kf_Le_109 rfl d_Le_dropDeadSegments_9 ?_
  refine lv_icmp_ge (tgt := 71) hx hb d_Le_dropDeadSegments_12 (by decide) (fun c12_22 => ?_) (fun c12_22 => ?_)
  · replace hf := gp_t c12_22 hf
    refine lv_aload_n hx hb d_Le_dropDeadSegments_71 rfl (lv_at hl 2 rfl) ?_
    refine gy_get (ci := 0) (v := Value.ref (b 8)) (C := "CommitLedger") (T := F_Le) (N := 18) hx hb hts i_Le hown hK Y gF_0 rfl 2 (by decide) kf_Le_26 rfl d_Le_dropDeadSegments_72 ?_
    refine lv_iload_n hx hb d_Le_dropDeadSegments_75 rfl (lv_at hl 0 rfl) ?_
    refine gy_put hf (ci := 4) (ty := .int) (C := "CommitLedger$View") (T := F_Vi) (N := 6) hx hb hts i_Vi t_Vi_ok n_Vi hown hK Y gF_8 rfl (by decide) kf_Le_109 rfl (by decide +kernel) rfl rfl (Nat.le_of_ble_eq_true rfl) gF_8 d_Le_dropDeadSegments_76 (fun X23 H locs hf Y => ?_)
    replace hf := gU hf ho18
    exact gy_vret hf hx hb hr hlocks hK Y (Nat.zero_le _) (Nat.zero_le _) d_Le_dropDeadSegments_79
  · replace hf := gp_f c12_22 hf
    refine lv_aload_n hx hb d_Le_dropDeadSegments_15 rfl (lv_at hl 2 rfl) ?_
    refine gy_get (ci := 0) (v := Value.ref (b 8)) (C := "CommitLedger") (T := F_Le) (N := 18) hx hb hts i_Le hown hK Y gF_0 rfl 2 (by decide) kf_Le_26 rfl d_Le_dropDeadSegments_16 ?_
    refine gy_get (ci := 4) (v := Value.ref (b 9)) (C := "CommitLedger$View") (T := F_Vi) (N := 6) hx hb hts i_Vi hown hK Y gF_8 rfl 0 (by decide) kf_Le_254 rfl d_Le_dropDeadSegments_19 ?_
    refine lv_iload_n hx hb d_Le_dropDeadSegments_22 rfl (lv_at hl 1 rfl) ?_
    refine gy_aald hf hx hb hK Y 2 gF_9 ht2 d_Le_dropDeadSegments_23 (fun hf => ?_)
    refine lv_astore_nO (lv' := [(3, va_rf (Option.map b (X18.G 9 (gn i2_18)))), (1, Value.int i1_18), (2, Value.int i2_18), (0, Value.ref (b 0))]) hx hb d_Le_dropDeadSegments_24 rfl hl (by decide) rfl (fun ls hl => ?_)
    refine lv_aload_n hx hb d_Le_dropDeadSegments_25 rfl (lv_at hl 3 rfl) ?_
    refine gy_get (ci := 0) (v := Value.ref (b 8)) (C := "CommitLedger") (T := F_Le) (N := 18) hx hb hts i_Le hown hK Y gF_0 rfl 2 (by decide) kf_Le_26 rfl d_Le_dropDeadSegments_26 ?_
    refine lv_aload_nO hx hb d_Le_dropDeadSegments_29 rfl (lv_at hl 0 rfl) ?_
    obtain ⟨x24, X24, hF24, hf⟩ := gCi_el hf
    refine gy_callI (rm := { frames := 2, cells := 0, slots := 0, locals := 36 }) (ig := .invokevirtual 261) (av := [Value.ref (b 8), va_rf (Option.map b (X18.G 9 (gn i2_18)))]) Y (fun ws h hS hw => K_Vi_liveIn l htr D tys z _ ws h hS t ht b X18 hw 8 (by decide) (X18.G 9 (gn i2_18)) (gR.i x24, X24) hF24) (gx_invV (As := [va_rf (Option.map b (X18.G 9 (gn i2_18)))]) (rest := []) hx hb hown hts km_Le_261 kI_Vi_liveIn kV_Vi_liveIn kc_Vi_liveIn (by decide) (show (parseMethodDescriptor y_Vi_liveIn.desc).map (fun d => d.parameters.length) = some 1 by decide +kernel) (gy_recv (ci := 4) hK Y rfl gF_8) rfl rfl d_Le_dropDeadSegments_30) (gx_cw (z := 0) hts kc_Vi_liveIn kN_Vi rfl rfl ⟨Nat.le_of_ble_eq_true rfl, Nat.le_of_ble_eq_true rfl⟩) hb hml hz hK hY hAz hA hl.1 (lv_room (Nat.le_of_ble_eq_true rfl)) d_Le_dropDeadSegments_30 ⟨Nat.zero_le _, Nat.zero_le _⟩ (fun H locs Y => ?_)
    refine lv_if_gt (tgt := 44) hx hb d_Le_dropDeadSegments_33 (by decide) (fun c33_25 => ?_) (fun c33_25 => ?_)
    · replace hf := gp_t c33_25 hf
      exact J44 (X24, i1_18, i2_18, X18.G 9 (gn i2_18)) _ _ _ hf (lv_sub hl [1, 2, 0, 3] rfl) Y
    · replace hf := gp_f c33_25 hf
      refine lv_aload_n hx hb d_Le_dropDeadSegments_36 rfl (lv_at hl 3 rfl) ?_
      refine lv_aload_nO hx hb d_Le_dropDeadSegments_37 rfl (lv_at hl 0 rfl) ?_
      obtain ⟨x26, X26, hF26, hf⟩ := gCi_el hf
      refine gy_callI (rm := { frames := 2, cells := 0, slots := 0, locals := 33 }) (ig := .invokevirtual 268) (av := [Value.ref (b 0), va_rf (Option.map b (X18.G 9 (gn i2_18)))]) Y (fun ws h hS hw => K_Le_mergeOf l htr D tys z _ ws h hS t ht b X24 hw (X18.G 9 (gn i2_18)) (gR.i x26, X26) hF26) (gx_invV (As := [va_rf (Option.map b (X18.G 9 (gn i2_18)))]) (rest := []) hx hb hown hts km_Le_268 kI_Le_mergeOf kV_Le_mergeOf kc_Le_mergeOf (by decide) (show (parseMethodDescriptor y_Le_mergeOf.desc).map (fun d => d.parameters.length) = some 1 by decide +kernel) (gy_recv (ci := 0) hK Y rfl gF_0) rfl rfl d_Le_dropDeadSegments_38) (gx_cw (z := 0) hts kc_Le_mergeOf kN_Le rfl rfl ⟨Nat.le_of_ble_eq_true rfl, Nat.le_of_ble_eq_true rfl⟩) hb hml hz hK hY hAz hA hl.1 (lv_room (Nat.le_of_ble_eq_true rfl)) d_Le_dropDeadSegments_38 ⟨Nat.zero_le _, Nat.zero_le _⟩ (fun H locs Y => ?_)
      refine lv_if_eq (tgt := 65) hx hb d_Le_dropDeadSegments_41 (by decide) (fun c41_27 => ?_) (fun c41_27 => ?_)
      · replace hf := gp_t c41_27 hf
        exact J65 (X26, i1_18, i2_18) _ _ _ hf (lv_sub hl [1, 2, 3] rfl) Y
      · replace hf := gp_f c41_27 hf
        exact J44 (X26, i1_18, i2_18, X18.G 9 (gn i2_18)) _ _ _ hf (lv_sub hl [1, 2, 0, 3] rfl) Y

def f_Le_levelOf_44 (X : gX) (i3 : Int32) : Option (gR × gX) := some (gR.i i3, X)
def f_Le_levelOf_17 (X : gX) (i2 : Int32) (i3 : Int32) (i4 : Int32) : Option ((Int32 × Int32) ⊕ (gR × gX)) := (if i2 < i4 then gLf (f_Le_levelOf_44 X i3) else (if (12 : Int32) ≤ i3 then gLf (f_Le_levelOf_44 X i3) else some (Sum.inl (i3 + 1, i4 * (X.I 0 11)))))
def f_Le_levelOf (X0 : gX) (m1 : Option Nat) : Option (gR × gX) := gCi (f_Vi_liveIn X0 8 m1) (fun x1 X1 => gI (fun s : Int32 × Int32 => f_Le_levelOf_17 X1 x1 s.1 s.2) gK (0, X1.I 0 11))
set_option maxHeartbeats 4000000 in
set_option maxRecDepth 100000 in
theorem K_Le_levelOf (l : Launch) (htr : l.stackTraces = false) (D : va_G) (tys : List (ClassId × FieldType)) (z sz : Nat) (ws : va_W) (h : gm_M) (hM : gm_S h ws) (t : Nat → ClassId) (ht : gTy t tys) (b : Nat → Nat) (X0 : gX) (hw : gw D t b X0 h) (m1 : Option Nat) (o : gR × gX) (hf : f_Le_levelOf X0 m1 = some o) : gx_Met l y_Le_levelOf [Cond.code y_Le_levelOf b_Le_levelOf 5 (some .int)] { frames := 3, cells := 0, slots := 0, locals := 57 } (gx_P z sz D classes tys ws [Value.ref (b 0), va_rf (Option.map b m1)]) (gx_Q D classes tys (va_A ws sz) (gPo D t b X0 o)) (0) (0) (va_A ws sz) := by
  refine gx_ofW (cc := b_Le_levelOf) (maxL := 5) (ret := (some .int)) (by decide) rfl ?_
  intro p e s m args below meth c s₁ B hml hv
  obtain ⟨rfl, hsz, hz, hP, hK, hD0, hY⟩ := hv
  have hx := B.exec
  have hb := B.bytes
  have hr := B.returns
  have hts := hY.hts (#[Value.ref (b 0), va_rf (Option.map b m1)] : Array Value)
  have hown : s.vm.findClass "CommitLedger" = some m.cls := findClass_of_methodNamed B.named
  have hlocks := B.notSynchronized
  subst hsz
  have hAz := gx_az hD0 hz
  have hD := hD0.self (sz := s.heap.size)
  have hA : ∀ q : Nat, s.heap.size ≤ q → va_A ws s.heap.size q := fun q h => Or.inr h
  generalize va_A ws s.heap.size = A at hD hA hAz ⊢
  have Y : gy D t b A s.heap X0 X0 s.heap [] := ⟨h, ⟨ws, hM, hP, hD, va_S.rf⟩, hw, gEq.rf⟩
  clear hP hD hM hD0 hw
  obtain ⟨ht0, ht1, ht2, ht3, ht4, ht5, ht6, ht7, ht8⟩ := id ht
  have hl := lv_entry ([Value.ref (b 0), va_rf (Option.map b m1)]) (n := 5) (by cases m1 <;> exact Nat.le_of_ble_eq_true rfl)
  rw [lg_entry_eq]
  generalize (lg_sl ([Value.ref (b 0), va_rf (Option.map b m1)]) ++ List.replicate (5 - (lg_sl ([Value.ref (b 0), va_rf (Option.map b m1)])).length) Slot.unset).toArray = ls at hl ⊢
  have hl : lv_has ls 5 [(0, Value.ref (b 0)), (1, va_rf (Option.map b m1))] := by cases m1 <;> exact hl
  refine gy_cut (pcJ := 44) Y (fun s : gX × Int32 => f_Le_levelOf_44 s.1 s.2) o (fun s => s.1) (fun s ls => lv_has ls 5 [(3, Value.int s.2)]) (fun s => []) ?_ (fun J44 => ?_)
  · rintro ⟨X7, i3_7⟩ H locs ls hf hl Y
    have hl : lv_has ls 5 [(3, Value.int i3_7)] := hl
    have Y : gy D t b A s.heap X0 X7 H locs := Y
    have hf : f_Le_levelOf_44 X7 i3_7 = some o := hf
    unfold f_Le_levelOf_44 at hf
    refine lv_iload_n hx hb d_Le_levelOf_44 rfl (lv_at hl 0 rfl) ?_
    exact gy_iret hf hx hb hr hlocks hK Y (Nat.zero_le _) (Nat.zero_le _) d_Le_levelOf_45
  unfold f_Le_levelOf at hf
  refine lv_aload_n hx hb d_Le_levelOf_0 rfl (lv_at hl 0 rfl) ?_
  refine gy_get (ci := 0) (v := Value.ref (b 8)) (C := "CommitLedger") (T := F_Le) (N := 18) hx hb hts i_Le hown hK Y gF_0 rfl 2 (by decide) kf_Le_26 rfl d_Le_levelOf_1 ?_
  refine lv_aload_nO hx hb d_Le_levelOf_4 rfl (lv_at hl 1 rfl) ?_
  obtain ⟨x8, X8, hF8, hf⟩ := gCi_el hf
  refine gy_callI (rm := { frames := 2, cells := 0, slots := 0, locals := 36 }) (ig := .invokevirtual 261) (av := [Value.ref (b 8), va_rf (Option.map b m1)]) Y (fun ws h hS hw => K_Vi_liveIn l htr D tys z _ ws h hS t ht b X0 hw 8 (by decide) m1 (gR.i x8, X8) hF8) (gx_invV (As := [va_rf (Option.map b m1)]) (rest := []) hx hb hown hts km_Le_261 kI_Vi_liveIn kV_Vi_liveIn kc_Vi_liveIn (by decide) (show (parseMethodDescriptor y_Vi_liveIn.desc).map (fun d => d.parameters.length) = some 1 by decide +kernel) (gy_recv (ci := 4) hK Y rfl gF_8) rfl rfl d_Le_levelOf_5) (gx_cw (z := 0) hts kc_Vi_liveIn kN_Vi rfl rfl ⟨Nat.le_of_ble_eq_true rfl, Nat.le_of_ble_eq_true rfl⟩) hb hml hz hK hY hAz hA hl.1 (lv_room (Nat.le_of_ble_eq_true rfl)) d_Le_levelOf_5 ⟨Nat.zero_le _, Nat.zero_le _⟩ (fun H locs Y => ?_)
  refine lv_istore_n (lv' := [(2, Value.int x8), (0, Value.ref (b 0)), (1, va_rf (Option.map b m1))]) hx hb d_Le_levelOf_8 rfl hl (by decide) (by generalize Option.map b m1 = z9; cases z9 <;> rfl) (fun ls hl => ?_)
  refine lv_iconst (v := 0) hx hb d_Le_levelOf_9 (by decide) ?_
  refine lv_istore_n (lv' := [(3, Value.int 0), (2, Value.int x8), (0, Value.ref (b 0)), (1, va_rf (Option.map b m1))]) hx hb d_Le_levelOf_10 rfl hl (by decide) rfl (fun ls hl => ?_)
  refine lv_aload_n hx hb d_Le_levelOf_11 rfl (lv_at hl 2 rfl) ?_
  refine gy_get (ci := 0) (v := Value.int (X8.I 0 11)) (C := "CommitLedger") (T := F_Le) (N := 18) hx hb hts i_Le hown hK Y gF_0 rfl 11 (by decide) kf_Le_54 rfl d_Le_levelOf_12 ?_
  refine lv_istore (lv' := [(4, Value.int (X8.I 0 11)), (3, Value.int 0), (2, Value.int x8), (0, Value.ref (b 0)), (1, va_rf (Option.map b m1))]) hx hb d_Le_levelOf_15 hl (by decide) rfl (fun ls hl => ?_)
  refine gy_iter (fun s : Int32 × Int32 => X8) (fun (s : Int32 × Int32) ls => lv_has ls 5 [(3, Value.int s.1), (4, Value.int s.2), (0, Value.ref (b 0)), (2, Value.int x8)]) ?_ gK (0, X8.I 0 11) _ _ _ hf (lv_sub hl [1, 0, 3, 2] rfl) Y
  rintro ⟨i3_9, i4_9⟩ u9 H locs ls hf hl Y hk9 ho9
  have hl : lv_has ls 5 [(3, Value.int i3_9), (4, Value.int i4_9), (0, Value.ref (b 0)), (2, Value.int x8)] := hl
  have Y : gy D t b A s.heap X0 X8 H locs := Y
  have hf : f_Le_levelOf_17 X8 x8 i3_9 i4_9 = some u9 := hf
  unfold f_Le_levelOf_17 at hf
  refine lv_iload hx hb d_Le_levelOf_17 (lv_at hl 1 rfl) ?_
  refine lv_iload_n hx hb d_Le_levelOf_19 rfl (lv_at hl 3 rfl) ?_
  refine lv_icmp_gt (tgt := 44) hx hb d_Le_levelOf_20 (by decide) (fun c20_10 => ?_) (fun c20_10 => ?_)
  · replace hf := gp_t c20_10 hf
    replace hf := gU hf ho9
    exact J44 (X8, i3_9) _ _ _ hf (lv_sub hl [0] rfl) Y
  · replace hf := gp_f c20_10 hf
    refine lv_iload_n hx hb d_Le_levelOf_23 rfl (lv_at hl 0 rfl) ?_
    refine lv_bipush (v := 12) hx hb d_Le_levelOf_24 (by decide) ?_
    refine lv_icmp_ge (tgt := 44) hx hb d_Le_levelOf_26 (by decide) (fun c26_11 => ?_) (fun c26_11 => ?_)
    · replace hf := gp_t c26_11 hf
      replace hf := gU hf ho9
      exact J44 (X8, i3_9) _ _ _ hf (lv_sub hl [0] rfl) Y
    · replace hf := gp_f c26_11 hf
      refine lv_iinc (v := i3_9 + 1) (lv' := [(3, Value.int (i3_9 + 1)), (4, Value.int i4_9), (0, Value.ref (b 0)), (2, Value.int x8)]) hx hb d_Le_levelOf_29 hl (k := 0) rfl (rfl) (by decide) rfl (fun ls hl => ?_)
      refine lv_iload hx hb d_Le_levelOf_32 (lv_at hl 1 rfl) ?_
      refine lv_aload_n hx hb d_Le_levelOf_34 rfl (lv_at hl 2 rfl) ?_
      refine gy_get (ci := 0) (v := Value.int (X8.I 0 11)) (C := "CommitLedger") (T := F_Le) (N := 18) hx hb hts i_Le hown hK Y gF_0 rfl 11 (by decide) kf_Le_54 rfl d_Le_levelOf_35 ?_
      refine lv_imul hx hb d_Le_levelOf_38 ?_
      refine lv_istore (lv' := [(4, Value.int (i4_9 * (X8.I 0 11))), (3, Value.int (i3_9 + 1)), (0, Value.ref (b 0)), (2, Value.int x8)]) hx hb d_Le_levelOf_39 hl (by decide) rfl (fun ls hl => ?_)
      refine lv_goto (tgt := 17) hx hb d_Le_levelOf_41 (by decide) ?_
      exact hk9 _ _ _ _ hf (lv_sub hl [1, 0, 2, 3] rfl) Y

def f_Le_placeOfMerge_2 (X : gX) (i1 : Int32) (i2 : Int32) : Option ((Int32) ⊕ (gR × gX)) := (if (X.I 0 12) ≤ i2 then gLf (some (gR.i (-1), X)) else (if gIn i2 4 then gM (X.G 20 (gn i2)) (fun n3 => (if gMer n3 then (if (X.I n3 0) = i1 then gLf (some (gR.i i2, X)) else some (Sum.inl (i2 + 1))) else none)) else none))
def f_Le_placeOfMerge (X0 : gX) (a1 : Int32) : Option (gR × gX) := gI (fun s : Int32 => f_Le_placeOfMerge_2 X0 a1 s) gK 0
set_option maxHeartbeats 4000000 in
set_option maxRecDepth 100000 in
theorem K_Le_placeOfMerge (l : Launch) (htr : l.stackTraces = false) (D : va_G) (tys : List (ClassId × FieldType)) (z sz : Nat) (ws : va_W) (h : gm_M) (hM : gm_S h ws) (t : Nat → ClassId) (ht : gTy t tys) (b : Nat → Nat) (X0 : gX) (hw : gw D t b X0 h) (a1 : Int32) (o : gR × gX) (hf : f_Le_placeOfMerge X0 a1 = some o) : gx_Met l y_Le_placeOfMerge [Cond.code y_Le_placeOfMerge b_Le_placeOfMerge 3 (some .int)] { frames := 1, cells := 0, slots := 0, locals := 12 } (gx_P z sz D classes tys ws [Value.ref (b 0), Value.int a1]) (gx_Q D classes tys (va_A ws sz) (gPo D t b X0 o)) (0) (0) (va_A ws sz) := by
  refine gx_ofW (cc := b_Le_placeOfMerge) (maxL := 3) (ret := (some .int)) (by decide) rfl ?_
  intro p e s m args below meth c s₁ B hml hv
  obtain ⟨rfl, hsz, hz, hP, hK, hD0, hY⟩ := hv
  have hx := B.exec
  have hb := B.bytes
  have hr := B.returns
  have hts := hY.hts (#[Value.ref (b 0), Value.int a1] : Array Value)
  have hown : s.vm.findClass "CommitLedger" = some m.cls := findClass_of_methodNamed B.named
  have hlocks := B.notSynchronized
  subst hsz
  have hAz := gx_az hD0 hz
  have hD := hD0.self (sz := s.heap.size)
  have hA : ∀ q : Nat, s.heap.size ≤ q → va_A ws s.heap.size q := fun q h => Or.inr h
  generalize va_A ws s.heap.size = A at hD hA hAz ⊢
  have Y : gy D t b A s.heap X0 X0 s.heap [] := ⟨h, ⟨ws, hM, hP, hD, va_S.rf⟩, hw, gEq.rf⟩
  clear hP hD hM hD0 hw
  obtain ⟨ht0, ht1, ht2, ht3, ht4, ht5, ht6, ht7, ht8⟩ := id ht
  have hl := lv_entry ([Value.ref (b 0), Value.int a1]) (n := 3) (Nat.le_of_ble_eq_true rfl)
  rw [lg_entry_eq]
  generalize (lg_sl ([Value.ref (b 0), Value.int a1]) ++ List.replicate (3 - (lg_sl ([Value.ref (b 0), Value.int a1])).length) Slot.unset).toArray = ls at hl ⊢
  have hl : lv_has ls 3 [(0, Value.ref (b 0)), (1, Value.int a1)] := hl
  unfold f_Le_placeOfMerge at hf
  refine lv_iconst (v := 0) hx hb d_Le_placeOfMerge_0 (by decide) ?_
  refine lv_istore_n (lv' := [(2, Value.int 0), (0, Value.ref (b 0)), (1, Value.int a1)]) hx hb d_Le_placeOfMerge_1 rfl hl (by decide) rfl (fun ls hl => ?_)
  refine gy_iter (fun s : Int32 => X0) (fun (s : Int32) ls => lv_has ls 3 [(2, Value.int s), (0, Value.ref (b 0)), (1, Value.int a1)]) ?_ gK 0 _ _ _ hf (lv_sub hl [0, 1, 2] rfl) Y
  rintro i2_10 u10 H locs ls hf hl Y hk10 ho10
  have hl : lv_has ls 3 [(2, Value.int i2_10), (0, Value.ref (b 0)), (1, Value.int a1)] := hl
  have Y : gy D t b A s.heap X0 X0 H locs := Y
  have hf : f_Le_placeOfMerge_2 X0 a1 i2_10 = some u10 := hf
  unfold f_Le_placeOfMerge_2 at hf
  refine lv_iload_n hx hb d_Le_placeOfMerge_2 rfl (lv_at hl 0 rfl) ?_
  refine lv_aload_n hx hb d_Le_placeOfMerge_3 rfl (lv_at hl 1 rfl) ?_
  refine gy_get (ci := 0) (v := Value.int (X0.I 0 12)) (C := "CommitLedger") (T := F_Le) (N := 18) hx hb hts i_Le hown hK Y gF_0 rfl 12 (by decide) kf_Le_142 rfl d_Le_placeOfMerge_4 ?_
  refine lv_icmp_ge (tgt := 31) hx hb d_Le_placeOfMerge_7 (by decide) (fun c7_11 => ?_) (fun c7_11 => ?_)
  · replace hf := gp_t c7_11 hf
    refine lv_iconst (v := (-1)) hx hb d_Le_placeOfMerge_31 (by decide) ?_
    replace hf := gU hf ho10
    exact gy_iret hf hx hb hr hlocks hK Y (Nat.zero_le _) (Nat.zero_le _) d_Le_placeOfMerge_32
  · replace hf := gp_f c7_11 hf
    refine lv_aload_n hx hb d_Le_placeOfMerge_10 rfl (lv_at hl 1 rfl) ?_
    refine gy_get (ci := 0) (v := Value.ref (b 20)) (C := "CommitLedger") (T := F_Le) (N := 18) hx hb hts i_Le hown hK Y gF_0 rfl 3 (by decide) kf_Le_38 rfl d_Le_placeOfMerge_11 ?_
    refine lv_iload_n hx hb d_Le_placeOfMerge_14 rfl (lv_at hl 0 rfl) ?_
    refine gy_aald hf hx hb hK Y 3 gF_20 ht3 d_Le_placeOfMerge_15 (fun hf => ?_)
    obtain ⟨n12, e12, hf⟩ := gM_el hf
    refine W.eq (g2 := F0 m 16 ls [Value.ref (b n12)]) (by rw [e12] <;> rfl) ?_
    obtain ⟨hv13, hf⟩ := gp_g hf
    refine gy_get (ci := 5) (v := Value.int (X0.I n12 0)) (C := "CommitLedger$Merge") (T := F_Me) (N := 4) hx hb hts i_Me hown hK Y (gF_Me hv13) rfl 0 (by decide) kf_Le_334 rfl d_Le_placeOfMerge_16 ?_
    refine lv_iload_n hx hb d_Le_placeOfMerge_19 rfl (lv_at hl 2 rfl) ?_
    refine lv_icmp_ne (tgt := 25) hx hb d_Le_placeOfMerge_20 (by decide) (fun c20_14 => ?_) (fun c20_14 => ?_)
    · replace hf := gp_f c20_14 hf
      refine lv_iinc (v := i2_10 + 1) (lv' := [(2, Value.int (i2_10 + 1)), (0, Value.ref (b 0)), (1, Value.int a1)]) hx hb d_Le_placeOfMerge_25 hl (k := 0) rfl (rfl) (by decide) rfl (fun ls hl => ?_)
      refine lv_goto (tgt := 2) hx hb d_Le_placeOfMerge_28 (by decide) ?_
      exact hk10 _ _ _ _ hf (lv_sub hl [0, 1, 2] rfl) Y
    · replace hf := gp_t c20_14 hf
      refine lv_iload_n hx hb d_Le_placeOfMerge_23 rfl (lv_at hl 0 rfl) ?_
      replace hf := gU hf ho10
      exact gy_iret hf hx hb hr hlocks hK Y (Nat.zero_le _) (Nat.zero_le _) d_Le_placeOfMerge_24

def f_Le_allCanBeMerged_17 (X : gX) : Option (gR × gX) := some (gR.i 0, X)
def f_Le_allCanBeMerged_55 (X : gX) : Option (gR × gX) := some (gR.i 1, X)
def f_Le_allCanBeMerged (X0 : gX) : Option (gR × gX) := (if (0 : Int32) < (X0.I 0 12) then f_Le_allCanBeMerged_17 X0 else (if (X0.I 8 4) = (0 : Int32) then f_Le_allCanBeMerged_17 X0 else (if gIn 0 4096 then (if (1 : Int32) < (X0.I 8 4) then f_Le_allCanBeMerged_55 X0 else gCi (f_Vi_liveIn X0 8 (X0.G 9 (gn 0))) (fun x4 X4 => gM (X0.G 9 (gn 0)) (fun n5 => (if gFile X4.N n5 then (if (X4.I n5 4) ≤ x4 then some (gR.i 0, X4) else f_Le_allCanBeMerged_55 X4) else none)))) else none)))
set_option maxHeartbeats 4000000 in
set_option maxRecDepth 100000 in
theorem K_Le_allCanBeMerged (l : Launch) (htr : l.stackTraces = false) (D : va_G) (tys : List (ClassId × FieldType)) (z sz : Nat) (ws : va_W) (h : gm_M) (hM : gm_S h ws) (t : Nat → ClassId) (ht : gTy t tys) (b : Nat → Nat) (X0 : gX) (hw : gw D t b X0 h) (o : gR × gX) (hf : f_Le_allCanBeMerged X0 = some o) : gx_Met l y_Le_allCanBeMerged [Cond.code y_Le_allCanBeMerged b_Le_allCanBeMerged 2 (some .boolean)] { frames := 3, cells := 0, slots := 0, locals := 57 } (gx_P z sz D classes tys ws [Value.ref (b 0)]) (gx_Q D classes tys (va_A ws sz) (gPo D t b X0 o)) (0) (0) (va_A ws sz) := by
  refine gx_ofW (cc := b_Le_allCanBeMerged) (maxL := 2) (ret := (some .boolean)) (by decide) rfl ?_
  intro p e s m args below meth c s₁ B hml hv
  obtain ⟨rfl, hsz, hz, hP, hK, hD0, hY⟩ := hv
  have hx := B.exec
  have hb := B.bytes
  have hr := B.returns
  have hts := hY.hts (#[Value.ref (b 0)] : Array Value)
  have hown : s.vm.findClass "CommitLedger" = some m.cls := findClass_of_methodNamed B.named
  have hlocks := B.notSynchronized
  subst hsz
  have hAz := gx_az hD0 hz
  have hD := hD0.self (sz := s.heap.size)
  have hA : ∀ q : Nat, s.heap.size ≤ q → va_A ws s.heap.size q := fun q h => Or.inr h
  generalize va_A ws s.heap.size = A at hD hA hAz ⊢
  have Y : gy D t b A s.heap X0 X0 s.heap [] := ⟨h, ⟨ws, hM, hP, hD, va_S.rf⟩, hw, gEq.rf⟩
  clear hP hD hM hD0 hw
  obtain ⟨ht0, ht1, ht2, ht3, ht4, ht5, ht6, ht7, ht8⟩ := id ht
  have hl := lv_entry ([Value.ref (b 0)]) (n := 2) (Nat.le_of_ble_eq_true rfl)
  rw [lg_entry_eq]
  generalize (lg_sl ([Value.ref (b 0)]) ++ List.replicate (2 - (lg_sl ([Value.ref (b 0)])).length) Slot.unset).toArray = ls at hl ⊢
  have hl : lv_has ls 2 [(0, Value.ref (b 0))] := hl
  refine gy_cut (pcJ := 55) Y (fun s : gX => f_Le_allCanBeMerged_55 s) o (fun s => s) (fun s ls => lv_has ls 2 []) (fun s => []) ?_ (fun J55 => ?_)
  · rintro X8 H locs ls hf hl Y
    have hl : lv_has ls 2 [] := hl
    have Y : gy D t b A s.heap X0 X8 H locs := Y
    have hf : f_Le_allCanBeMerged_55 X8 = some o := hf
    unfold f_Le_allCanBeMerged_55 at hf
    refine lv_iconst (v := 1) hx hb d_Le_allCanBeMerged_55 (by decide) ?_
    refine lv_goto (tgt := 60) hx hb d_Le_allCanBeMerged_56 (by decide) ?_
    exact gy_zret hf hx hb hr hlocks hK Y (Nat.zero_le _) (Nat.zero_le _) rfl d_Le_allCanBeMerged_60
  refine gy_cut (pcJ := 17) Y (fun s : gX => f_Le_allCanBeMerged_17 s) o (fun s => s) (fun s ls => lv_has ls 2 []) (fun s => []) ?_ (fun J17 => ?_)
  · rintro X9 H locs ls hf hl Y
    have hl : lv_has ls 2 [] := hl
    have Y : gy D t b A s.heap X0 X9 H locs := Y
    have hf : f_Le_allCanBeMerged_17 X9 = some o := hf
    unfold f_Le_allCanBeMerged_17 at hf
    refine lv_iconst (v := 0) hx hb d_Le_allCanBeMerged_17 (by decide) ?_
    exact gy_zret hf hx hb hr hlocks hK Y (Nat.zero_le _) (Nat.zero_le _) rfl d_Le_allCanBeMerged_18
  unfold f_Le_allCanBeMerged at hf
  refine lv_aload_n hx hb d_Le_allCanBeMerged_0 rfl (lv_at hl 0 rfl) ?_
  refine gy_get (ci := 0) (v := Value.int (X0.I 0 12)) (C := "CommitLedger") (T := F_Le) (N := 18) hx hb hts i_Le hown hK Y gF_0 rfl 12 (by decide) kf_Le_142 rfl d_Le_allCanBeMerged_1 ?_
  refine lv_if_gt (tgt := 17) hx hb d_Le_allCanBeMerged_4 (by decide) (fun c4_10 => ?_) (fun c4_10 => ?_)
  · replace hf := gp_t c4_10 hf
    exact J17 X0 _ _ _ hf (lv_sub hl [] rfl) Y
  · replace hf := gp_f c4_10 hf
    refine lv_aload_n hx hb d_Le_allCanBeMerged_7 rfl (lv_at hl 0 rfl) ?_
    refine gy_get (ci := 0) (v := Value.ref (b 8)) (C := "CommitLedger") (T := F_Le) (N := 18) hx hb hts i_Le hown hK Y gF_0 rfl 2 (by decide) kf_Le_26 rfl d_Le_allCanBeMerged_8 ?_
    refine gy_get (ci := 4) (v := Value.int (X0.I 8 4)) (C := "CommitLedger$View") (T := F_Vi) (N := 6) hx hb hts i_Vi hown hK Y gF_8 rfl 4 (by decide) kf_Le_109 rfl d_Le_allCanBeMerged_11 ?_
    refine lv_if_ne (tgt := 19) hx hb d_Le_allCanBeMerged_14 (by decide) (fun c14_11 => ?_) (fun c14_11 => ?_)
    · replace hf := gp_f c14_11 hf
      refine lv_aload_n hx hb d_Le_allCanBeMerged_19 rfl (lv_at hl 0 rfl) ?_
      refine gy_get (ci := 0) (v := Value.ref (b 8)) (C := "CommitLedger") (T := F_Le) (N := 18) hx hb hts i_Le hown hK Y gF_0 rfl 2 (by decide) kf_Le_26 rfl d_Le_allCanBeMerged_20 ?_
      refine gy_get (ci := 4) (v := Value.ref (b 9)) (C := "CommitLedger$View") (T := F_Vi) (N := 6) hx hb hts i_Vi hown hK Y gF_8 rfl 0 (by decide) kf_Le_254 rfl d_Le_allCanBeMerged_23 ?_
      refine lv_iconst (v := 0) hx hb d_Le_allCanBeMerged_26 (by decide) ?_
      refine gy_aald hf hx hb hK Y 2 gF_9 ht2 d_Le_allCanBeMerged_27 (fun hf => ?_)
      refine lv_astore_nO (lv' := [(1, va_rf (Option.map b (X0.G 9 (gn 0)))), (0, Value.ref (b 0))]) hx hb d_Le_allCanBeMerged_28 rfl hl (by decide) rfl (fun ls hl => ?_)
      refine lv_aload_n hx hb d_Le_allCanBeMerged_29 rfl (lv_at hl 1 rfl) ?_
      refine gy_get (ci := 0) (v := Value.ref (b 8)) (C := "CommitLedger") (T := F_Le) (N := 18) hx hb hts i_Le hown hK Y gF_0 rfl 2 (by decide) kf_Le_26 rfl d_Le_allCanBeMerged_30 ?_
      refine gy_get (ci := 4) (v := Value.int (X0.I 8 4)) (C := "CommitLedger$View") (T := F_Vi) (N := 6) hx hb hts i_Vi hown hK Y gF_8 rfl 4 (by decide) kf_Le_109 rfl d_Le_allCanBeMerged_33 ?_
      refine lv_iconst (v := 1) hx hb d_Le_allCanBeMerged_36 (by decide) ?_
      refine lv_icmp_gt (tgt := 55) hx hb d_Le_allCanBeMerged_37 (by decide) (fun c37_12 => ?_) (fun c37_12 => ?_)
      · replace hf := gp_t c37_12 hf
        exact J55 X0 _ _ _ hf (lv_sub hl [] rfl) Y
      · replace hf := gp_f c37_12 hf
        refine lv_aload_n hx hb d_Le_allCanBeMerged_40 rfl (lv_at hl 1 rfl) ?_
        refine gy_get (ci := 0) (v := Value.ref (b 8)) (C := "CommitLedger") (T := F_Le) (N := 18) hx hb hts i_Le hown hK Y gF_0 rfl 2 (by decide) kf_Le_26 rfl d_Le_allCanBeMerged_41 ?_
        refine lv_aload_nO hx hb d_Le_allCanBeMerged_44 rfl (lv_at hl 0 rfl) ?_
        obtain ⟨x13, X13, hF13, hf⟩ := gCi_el hf
        refine gy_callI (rm := { frames := 2, cells := 0, slots := 0, locals := 36 }) (ig := .invokevirtual 261) (av := [Value.ref (b 8), va_rf (Option.map b (X0.G 9 (gn 0)))]) Y (fun ws h hS hw => K_Vi_liveIn l htr D tys z _ ws h hS t ht b X0 hw 8 (by decide) (X0.G 9 (gn 0)) (gR.i x13, X13) hF13) (gx_invV (As := [va_rf (Option.map b (X0.G 9 (gn 0)))]) (rest := []) hx hb hown hts km_Le_261 kI_Vi_liveIn kV_Vi_liveIn kc_Vi_liveIn (by decide) (show (parseMethodDescriptor y_Vi_liveIn.desc).map (fun d => d.parameters.length) = some 1 by decide +kernel) (gy_recv (ci := 4) hK Y rfl gF_8) rfl rfl d_Le_allCanBeMerged_45) (gx_cw (z := 0) hts kc_Vi_liveIn kN_Vi rfl rfl ⟨Nat.le_of_ble_eq_true rfl, Nat.le_of_ble_eq_true rfl⟩) hb hml hz hK hY hAz hA hl.1 (lv_room (Nat.le_of_ble_eq_true rfl)) d_Le_allCanBeMerged_45 ⟨Nat.zero_le _, Nat.zero_le _⟩ (fun H locs Y => ?_)
        refine lv_aload_nO hx hb d_Le_allCanBeMerged_48 rfl (lv_at hl 0 rfl) ?_
        obtain ⟨n14, e14, hf⟩ := gM_el hf
        refine W.eq (g2 := F0 m 49 ls [Value.ref (b n14), Value.int x13]) (by rw [e14] <;> rfl) ?_
        obtain ⟨hv15, hf⟩ := gp_g hf
        refine gy_get (ci := 7) (v := Value.int (X13.I n14 4)) (C := "CommitLedger$LedgerFile") (T := F_Fi) (N := 7) hx hb hts i_Fi hown hK Y (gF_Fi hv15) rfl 4 (by decide) kf_Le_258 rfl d_Le_allCanBeMerged_49 ?_
        refine lv_icmp_ge (tgt := 59) hx hb d_Le_allCanBeMerged_52 (by decide) (fun c52_16 => ?_) (fun c52_16 => ?_)
        · replace hf := gp_t c52_16 hf
          refine lv_iconst (v := 0) hx hb d_Le_allCanBeMerged_59 (by decide) ?_
          exact gy_zret hf hx hb hr hlocks hK Y (Nat.zero_le _) (Nat.zero_le _) rfl d_Le_allCanBeMerged_60
        · replace hf := gp_f c52_16 hf
          exact J55 X13 _ _ _ hf (lv_sub hl [] rfl) Y
    · replace hf := gp_t c14_11 hf
      exact J17 X0 _ _ _ hf (lv_sub hl [] rfl) Y

def f_Le_firstByPolicy_72 (X : gX) (i1 : Int32) (i3 : Int32) (i1000 : Int32) : Option ((gX × Int32 × Int32) ⊕ ((gX × Int32) ⊕ (gR × gX))) := (if i1000 = (X.I 0 11) then gLf (gLf (some (gR.i ((i3 - (X.I 0 11)) + 1), X))) else some (Sum.inl (X, i1000, i3 + 1)))
def f_Le_firstByPolicy_58 (X : gX) (i1 : Int32) (i2 : Int32) (i3 : Int32) (i1000 : Int32) : Option ((gX × Int32 × Int32) ⊕ ((gX × Int32) ⊕ (gR × gX))) := (if i1000 = (0 : Int32) then f_Le_firstByPolicy_72 X i1 i3 0 else f_Le_firstByPolicy_72 X i1 i3 (i2 + 1))
def f_Le_firstByPolicy_57 (X : gX) (i1 : Int32) (i2 : Int32) (i3 : Int32) : Option ((gX × Int32 × Int32) ⊕ ((gX × Int32) ⊕ (gR × gX))) := f_Le_firstByPolicy_58 X i1 i2 i3 0
def f_Le_firstByPolicy_12 (X : gX) (i1 : Int32) (i2 : Int32) (i3 : Int32) : Option ((gX × Int32 × Int32) ⊕ ((gX × Int32) ⊕ (gR × gX))) := (if (X.I 8 4) ≤ i3 then gLf (some (Sum.inl (X, i1 + 1))) else (if gIn i3 4096 then gCi (f_Le_mergeOf X (X.G 9 (gn i3))) (fun x5 X5 => (if x5 = (0 : Int32) then gCi (f_Le_levelOf X5 (X.G 9 (gn i3))) (fun x9 X9 => (if i1 < x9 then f_Le_firstByPolicy_57 X9 i1 i2 i3 else f_Le_firstByPolicy_58 X9 i1 i2 i3 1)) else f_Le_firstByPolicy_57 X5 i1 i2 i3)) else none))
def f_Le_firstByPolicy_2 (X : gX) (i1 : Int32) : Option ((gX × Int32) ⊕ (gR × gX)) := (if (12 : Int32) < i1 then gLf (some (gR.i (-1), X)) else gI (fun s : gX × Int32 × Int32 => f_Le_firstByPolicy_12 s.1 i1 s.2.1 s.2.2) gK (X, 0, 0))
def f_Le_firstByPolicy (X0 : gX) : Option (gR × gX) := gI (fun s : gX × Int32 => f_Le_firstByPolicy_2 s.1 s.2) gK (X0, 0)
set_option maxHeartbeats 4000000 in
set_option maxRecDepth 100000 in
theorem K_Le_firstByPolicy (l : Launch) (htr : l.stackTraces = false) (D : va_G) (tys : List (ClassId × FieldType)) (z sz : Nat) (ws : va_W) (h : gm_M) (hM : gm_S h ws) (t : Nat → ClassId) (ht : gTy t tys) (b : Nat → Nat) (X0 : gX) (hw : gw D t b X0 h) (o : gR × gX) (hf : f_Le_firstByPolicy X0 = some o) : gx_Met l y_Le_firstByPolicy [Cond.code y_Le_firstByPolicy b_Le_firstByPolicy 6 (some .int)] { frames := 4, cells := 0, slots := 0, locals := 81 } (gx_P z sz D classes tys ws [Value.ref (b 0)]) (gx_Q D classes tys (va_A ws sz) (gPo D t b X0 o)) (0) (0) (va_A ws sz) := by
  refine gx_ofW (cc := b_Le_firstByPolicy) (maxL := 6) (ret := (some .int)) (by decide) rfl ?_
  intro p e s m args below meth c s₁ B hml hv
  obtain ⟨rfl, hsz, hz, hP, hK, hD0, hY⟩ := hv
  have hx := B.exec
  have hb := B.bytes
  have hr := B.returns
  have hts := hY.hts (#[Value.ref (b 0)] : Array Value)
  have hown : s.vm.findClass "CommitLedger" = some m.cls := findClass_of_methodNamed B.named
  have hlocks := B.notSynchronized
  subst hsz
  have hAz := gx_az hD0 hz
  have hD := hD0.self (sz := s.heap.size)
  have hA : ∀ q : Nat, s.heap.size ≤ q → va_A ws s.heap.size q := fun q h => Or.inr h
  generalize va_A ws s.heap.size = A at hD hA hAz ⊢
  have Y : gy D t b A s.heap X0 X0 s.heap [] := ⟨h, ⟨ws, hM, hP, hD, va_S.rf⟩, hw, gEq.rf⟩
  clear hP hD hM hD0 hw
  obtain ⟨ht0, ht1, ht2, ht3, ht4, ht5, ht6, ht7, ht8⟩ := id ht
  have hl := lv_entry ([Value.ref (b 0)]) (n := 6) (Nat.le_of_ble_eq_true rfl)
  rw [lg_entry_eq]
  generalize (lg_sl ([Value.ref (b 0)]) ++ List.replicate (6 - (lg_sl ([Value.ref (b 0)])).length) Slot.unset).toArray = ls at hl ⊢
  have hl : lv_has ls 6 [(0, Value.ref (b 0))] := hl
  unfold f_Le_firstByPolicy at hf
  refine lv_iconst (v := 0) hx hb d_Le_firstByPolicy_0 (by decide) ?_
  refine lv_istore_n (lv' := [(1, Value.int 0), (0, Value.ref (b 0))]) hx hb d_Le_firstByPolicy_1 rfl hl (by decide) rfl (fun ls hl => ?_)
  refine gy_iter (fun s : gX × Int32 => s.1) (fun (s : gX × Int32) ls => lv_has ls 6 [(1, Value.int s.2), (0, Value.ref (b 0))]) ?_ gK (X0, 0) _ _ _ hf (lv_sub hl [0, 1] rfl) Y
  rintro ⟨X33, i1_33⟩ u33 H locs ls hf hl Y hk33 ho33
  have hl : lv_has ls 6 [(1, Value.int i1_33), (0, Value.ref (b 0))] := hl
  have Y : gy D t b A s.heap X0 X33 H locs := Y
  have hf : f_Le_firstByPolicy_2 X33 i1_33 = some u33 := hf
  unfold f_Le_firstByPolicy_2 at hf
  refine lv_iload_n hx hb d_Le_firstByPolicy_2 rfl (lv_at hl 0 rfl) ?_
  refine lv_bipush (v := 12) hx hb d_Le_firstByPolicy_3 (by decide) ?_
  refine lv_icmp_gt (tgt := 102) hx hb d_Le_firstByPolicy_5 (by decide) (fun c5_34 => ?_) (fun c5_34 => ?_)
  · replace hf := gp_t c5_34 hf
    refine lv_iconst (v := (-1)) hx hb d_Le_firstByPolicy_102 (by decide) ?_
    replace hf := gU hf ho33
    exact gy_iret hf hx hb hr hlocks hK Y (Nat.zero_le _) (Nat.zero_le _) d_Le_firstByPolicy_103
  · replace hf := gp_f c5_34 hf
    refine lv_iconst (v := 0) hx hb d_Le_firstByPolicy_8 (by decide) ?_
    refine lv_istore_n (lv' := [(2, Value.int 0), (1, Value.int i1_33), (0, Value.ref (b 0))]) hx hb d_Le_firstByPolicy_9 rfl hl (by decide) rfl (fun ls hl => ?_)
    refine lv_iconst (v := 0) hx hb d_Le_firstByPolicy_10 (by decide) ?_
    refine lv_istore_n (lv' := [(3, Value.int 0), (2, Value.int 0), (1, Value.int i1_33), (0, Value.ref (b 0))]) hx hb d_Le_firstByPolicy_11 rfl hl (by decide) rfl (fun ls hl => ?_)
    refine gy_iter (fun s : gX × Int32 × Int32 => s.1) (fun (s : gX × Int32 × Int32) ls => lv_has ls 6 [(2, Value.int s.2.1), (3, Value.int s.2.2), (0, Value.ref (b 0)), (1, Value.int i1_33)]) ?_ gK (X33, 0, 0) _ _ _ hf (lv_sub hl [1, 0, 3, 2] rfl) Y
    rintro ⟨X35, i2_35, i3_35⟩ u35 H locs ls hf hl Y hk35 ho35
    have hl : lv_has ls 6 [(2, Value.int i2_35), (3, Value.int i3_35), (0, Value.ref (b 0)), (1, Value.int i1_33)] := hl
    have Y : gy D t b A s.heap X0 X35 H locs := Y
    have hf : f_Le_firstByPolicy_12 X35 i1_33 i2_35 i3_35 = some u35 := hf
    refine gy_cut (pcJ := 72) Y (fun s : gX × Int32 × Int32 => f_Le_firstByPolicy_72 s.1 i1_33 s.2.1 s.2.2) u35 (fun s => s.1) (fun s ls => lv_has ls 6 [(3, Value.int s.2.1), (0, Value.ref (b 0)), (1, Value.int i1_33)]) (fun s => [Value.int s.2.2]) ?_ (fun J72 => ?_)
    · rintro ⟨X36, i3_36, i1000_36⟩ H locs ls hf hl Y
      have hl : lv_has ls 6 [(3, Value.int i3_36), (0, Value.ref (b 0)), (1, Value.int i1_33)] := hl
      have Y : gy D t b A s.heap X0 X36 H locs := Y
      have hf : f_Le_firstByPolicy_72 X36 i1_33 i3_36 i1000_36 = some u35 := hf
      unfold f_Le_firstByPolicy_72 at hf
      refine W.eq (g2 := F0 m 72 ls [Value.int i1000_36]) rfl ?_
      refine lv_istore_n (lv' := [(2, Value.int i1000_36), (3, Value.int i3_36), (0, Value.ref (b 0)), (1, Value.int i1_33)]) hx hb d_Le_firstByPolicy_72 rfl hl (by decide) rfl (fun ls hl => ?_)
      refine lv_iload_n hx hb d_Le_firstByPolicy_73 rfl (lv_at hl 0 rfl) ?_
      refine lv_aload_n hx hb d_Le_firstByPolicy_74 rfl (lv_at hl 2 rfl) ?_
      refine gy_get (ci := 0) (v := Value.int (X36.I 0 11)) (C := "CommitLedger") (T := F_Le) (N := 18) hx hb hts i_Le hown hK Y gF_0 rfl 11 (by decide) kf_Le_54 rfl d_Le_firstByPolicy_75 ?_
      refine lv_icmp_ne (tgt := 90) hx hb d_Le_firstByPolicy_78 (by decide) (fun c78_37 => ?_) (fun c78_37 => ?_)
      · replace hf := gp_f c78_37 hf
        refine lv_iinc (v := i3_36 + 1) (lv' := [(3, Value.int (i3_36 + 1)), (2, Value.int i1000_36), (0, Value.ref (b 0)), (1, Value.int i1_33)]) hx hb d_Le_firstByPolicy_90 hl (k := 1) rfl (rfl) (by decide) rfl (fun ls hl => ?_)
        refine lv_goto (tgt := 12) hx hb d_Le_firstByPolicy_93 (by decide) ?_
        exact hk35 _ _ _ _ hf (lv_sub hl [1, 0, 2, 3] rfl) Y
      · replace hf := gp_t c78_37 hf
        refine lv_iload_n hx hb d_Le_firstByPolicy_81 rfl (lv_at hl 1 rfl) ?_
        refine lv_aload_n hx hb d_Le_firstByPolicy_82 rfl (lv_at hl 2 rfl) ?_
        refine gy_get (ci := 0) (v := Value.int (X36.I 0 11)) (C := "CommitLedger") (T := F_Le) (N := 18) hx hb hts i_Le hown hK Y gF_0 rfl 11 (by decide) kf_Le_54 rfl d_Le_firstByPolicy_83 ?_
        refine lv_isub hx hb d_Le_firstByPolicy_86 ?_
        refine lv_iconst (v := 1) hx hb d_Le_firstByPolicy_87 (by decide) ?_
        refine lv_iadd hx hb d_Le_firstByPolicy_88 ?_
        replace hf := gU hf ho35
        replace hf := gU hf ho33
        exact gy_iret hf hx hb hr hlocks hK Y (Nat.zero_le _) (Nat.zero_le _) d_Le_firstByPolicy_89
    refine gy_cut (pcJ := 58) Y (fun s : gX × Int32 × Int32 × Int32 => f_Le_firstByPolicy_58 s.1 i1_33 s.2.1 s.2.2.1 s.2.2.2) u35 (fun s => s.1) (fun s ls => lv_has ls 6 [(2, Value.int s.2.1), (3, Value.int s.2.2.1), (0, Value.ref (b 0)), (1, Value.int i1_33)]) (fun s => [Value.int s.2.2.2]) ?_ (fun J58 => ?_)
    · rintro ⟨X38, i2_38, i3_38, i1000_38⟩ H locs ls hf hl Y
      have hl : lv_has ls 6 [(2, Value.int i2_38), (3, Value.int i3_38), (0, Value.ref (b 0)), (1, Value.int i1_33)] := hl
      have Y : gy D t b A s.heap X0 X38 H locs := Y
      have hf : f_Le_firstByPolicy_58 X38 i1_33 i2_38 i3_38 i1000_38 = some u35 := hf
      unfold f_Le_firstByPolicy_58 at hf
      refine W.eq (g2 := F0 m 58 ls [Value.int i1000_38]) rfl ?_
      refine lv_istore (lv' := [(5, Value.int i1000_38), (2, Value.int i2_38), (3, Value.int i3_38), (0, Value.ref (b 0)), (1, Value.int i1_33)]) hx hb d_Le_firstByPolicy_58 hl (by decide) rfl (fun ls hl => ?_)
      refine lv_iload hx hb d_Le_firstByPolicy_60 (lv_at hl 0 rfl) ?_
      refine lv_if_eq (tgt := 71) hx hb d_Le_firstByPolicy_62 (by decide) (fun c62_39 => ?_) (fun c62_39 => ?_)
      · replace hf := gp_t c62_39 hf
        refine lv_iconst (v := 0) hx hb d_Le_firstByPolicy_71 (by decide) ?_
        exact J72 (X38, i3_38, 0) _ _ _ hf (lv_sub hl [2, 3, 4] rfl) Y
      · replace hf := gp_f c62_39 hf
        refine lv_iload_n hx hb d_Le_firstByPolicy_65 rfl (lv_at hl 1 rfl) ?_
        refine lv_iconst (v := 1) hx hb d_Le_firstByPolicy_66 (by decide) ?_
        refine lv_iadd hx hb d_Le_firstByPolicy_67 ?_
        refine lv_goto (tgt := 72) hx hb d_Le_firstByPolicy_68 (by decide) ?_
        exact J72 (X38, i3_38, i2_38 + 1) _ _ _ hf (lv_sub hl [2, 3, 4] rfl) Y
    refine gy_cut (pcJ := 57) Y (fun s : gX × Int32 × Int32 => f_Le_firstByPolicy_57 s.1 i1_33 s.2.1 s.2.2) u35 (fun s => s.1) (fun s ls => lv_has ls 6 [(2, Value.int s.2.1), (3, Value.int s.2.2), (0, Value.ref (b 0)), (1, Value.int i1_33)]) (fun s => []) ?_ (fun J57 => ?_)
    · rintro ⟨X40, i2_40, i3_40⟩ H locs ls hf hl Y
      have hl : lv_has ls 6 [(2, Value.int i2_40), (3, Value.int i3_40), (0, Value.ref (b 0)), (1, Value.int i1_33)] := hl
      have Y : gy D t b A s.heap X0 X40 H locs := Y
      have hf : f_Le_firstByPolicy_57 X40 i1_33 i2_40 i3_40 = some u35 := hf
      unfold f_Le_firstByPolicy_57 at hf
      refine lv_iconst (v := 0) hx hb d_Le_firstByPolicy_57 (by decide) ?_
      exact J58 (X40, i2_40, i3_40, 0) _ _ _ hf (lv_sub hl [0, 1, 2, 3] rfl) Y
    unfold f_Le_firstByPolicy_12 at hf
    refine lv_iload_n hx hb d_Le_firstByPolicy_12 rfl (lv_at hl 1 rfl) ?_
    refine lv_aload_n hx hb d_Le_firstByPolicy_13 rfl (lv_at hl 2 rfl) ?_
    refine gy_get (ci := 0) (v := Value.ref (b 8)) (C := "CommitLedger") (T := F_Le) (N := 18) hx hb hts i_Le hown hK Y gF_0 rfl 2 (by decide) kf_Le_26 rfl d_Le_firstByPolicy_14 ?_
    refine gy_get (ci := 4) (v := Value.int (X35.I 8 4)) (C := "CommitLedger$View") (T := F_Vi) (N := 6) hx hb hts i_Vi hown hK Y gF_8 rfl 4 (by decide) kf_Le_109 rfl d_Le_firstByPolicy_17 ?_
    refine lv_icmp_ge (tgt := 96) hx hb d_Le_firstByPolicy_20 (by decide) (fun c20_41 => ?_) (fun c20_41 => ?_)
    · replace hf := gp_t c20_41 hf
      refine lv_iinc (v := i1_33 + 1) (lv' := [(1, Value.int (i1_33 + 1)), (2, Value.int i2_35), (3, Value.int i3_35), (0, Value.ref (b 0))]) hx hb d_Le_firstByPolicy_96 hl (k := 3) rfl (rfl) (by decide) rfl (fun ls hl => ?_)
      refine lv_goto (tgt := 2) hx hb d_Le_firstByPolicy_99 (by decide) ?_
      replace hf := gU hf ho35
      exact hk33 _ _ _ _ hf (lv_sub hl [0, 3] rfl) Y
    · replace hf := gp_f c20_41 hf
      refine lv_aload_n hx hb d_Le_firstByPolicy_23 rfl (lv_at hl 2 rfl) ?_
      refine gy_get (ci := 0) (v := Value.ref (b 8)) (C := "CommitLedger") (T := F_Le) (N := 18) hx hb hts i_Le hown hK Y gF_0 rfl 2 (by decide) kf_Le_26 rfl d_Le_firstByPolicy_24 ?_
      refine gy_get (ci := 4) (v := Value.ref (b 9)) (C := "CommitLedger$View") (T := F_Vi) (N := 6) hx hb hts i_Vi hown hK Y gF_8 rfl 0 (by decide) kf_Le_254 rfl d_Le_firstByPolicy_27 ?_
      refine lv_iload_n hx hb d_Le_firstByPolicy_30 rfl (lv_at hl 1 rfl) ?_
      refine gy_aald hf hx hb hK Y 2 gF_9 ht2 d_Le_firstByPolicy_31 (fun hf => ?_)
      refine lv_astoreO (lv' := [(4, va_rf (Option.map b (X35.G 9 (gn i3_35)))), (2, Value.int i2_35), (3, Value.int i3_35), (0, Value.ref (b 0)), (1, Value.int i1_33)]) hx hb d_Le_firstByPolicy_32 hl (by decide) rfl (fun ls hl => ?_)
      refine lv_aload_n hx hb d_Le_firstByPolicy_34 rfl (lv_at hl 3 rfl) ?_
      refine lv_aloadO hx hb d_Le_firstByPolicy_35 (lv_at hl 0 rfl) ?_
      obtain ⟨x42, X42, hF42, hf⟩ := gCi_el hf
      refine gy_callI (rm := { frames := 2, cells := 0, slots := 0, locals := 33 }) (ig := .invokevirtual 268) (av := [Value.ref (b 0), va_rf (Option.map b (X35.G 9 (gn i3_35)))]) Y (fun ws h hS hw => K_Le_mergeOf l htr D tys z _ ws h hS t ht b X35 hw (X35.G 9 (gn i3_35)) (gR.i x42, X42) hF42) (gx_invV (As := [va_rf (Option.map b (X35.G 9 (gn i3_35)))]) (rest := []) hx hb hown hts km_Le_268 kI_Le_mergeOf kV_Le_mergeOf kc_Le_mergeOf (by decide) (show (parseMethodDescriptor y_Le_mergeOf.desc).map (fun d => d.parameters.length) = some 1 by decide +kernel) (gy_recv (ci := 0) hK Y rfl gF_0) rfl rfl d_Le_firstByPolicy_37) (gx_cw (z := 0) hts kc_Le_mergeOf kN_Le rfl rfl ⟨Nat.le_of_ble_eq_true rfl, Nat.le_of_ble_eq_true rfl⟩) hb hml hz hK hY hAz hA hl.1 (lv_room (Nat.le_of_ble_eq_true rfl)) d_Le_firstByPolicy_37 ⟨Nat.zero_le _, Nat.zero_le _⟩ (fun H locs Y => ?_)
      refine lv_if_ne (tgt := 57) hx hb d_Le_firstByPolicy_40 (by decide) (fun c40_43 => ?_) (fun c40_43 => ?_)
      · replace hf := gp_f c40_43 hf
        exact J57 (X42, i2_35, i3_35) _ _ _ hf (lv_sub hl [1, 2, 3, 4] rfl) Y
      · replace hf := gp_t c40_43 hf
        refine lv_aload_n hx hb d_Le_firstByPolicy_43 rfl (lv_at hl 3 rfl) ?_
        refine lv_aloadO hx hb d_Le_firstByPolicy_44 (lv_at hl 0 rfl) ?_
        obtain ⟨x44, X44, hF44, hf⟩ := gCi_el hf
        refine gy_callI (rm := { frames := 3, cells := 0, slots := 0, locals := 57 }) (ig := .invokevirtual 265) (av := [Value.ref (b 0), va_rf (Option.map b (X35.G 9 (gn i3_35)))]) Y (fun ws h hS hw => K_Le_levelOf l htr D tys z _ ws h hS t ht b X42 hw (X35.G 9 (gn i3_35)) (gR.i x44, X44) hF44) (gx_invV (As := [va_rf (Option.map b (X35.G 9 (gn i3_35)))]) (rest := []) hx hb hown hts km_Le_265 kI_Le_levelOf kV_Le_levelOf kc_Le_levelOf (by decide) (show (parseMethodDescriptor y_Le_levelOf.desc).map (fun d => d.parameters.length) = some 1 by decide +kernel) (gy_recv (ci := 0) hK Y rfl gF_0) rfl rfl d_Le_firstByPolicy_46) (gx_cw (z := 0) hts kc_Le_levelOf kN_Le rfl rfl ⟨Nat.le_of_ble_eq_true rfl, Nat.le_of_ble_eq_true rfl⟩) hb hml hz hK hY hAz hA hl.1 (lv_room (Nat.le_of_ble_eq_true rfl)) d_Le_firstByPolicy_46 ⟨Nat.zero_le _, Nat.zero_le _⟩ (fun H locs Y => ?_)
        refine lv_iload_n hx hb d_Le_firstByPolicy_49 rfl (lv_at hl 4 rfl) ?_
        refine lv_icmp_gt (tgt := 57) hx hb d_Le_firstByPolicy_50 (by decide) (fun c50_45 => ?_) (fun c50_45 => ?_)
        · replace hf := gp_t c50_45 hf
          exact J57 (X44, i2_35, i3_35) _ _ _ hf (lv_sub hl [1, 2, 3, 4] rfl) Y
        · replace hf := gp_f c50_45 hf
          refine lv_iconst (v := 1) hx hb d_Le_firstByPolicy_53 (by decide) ?_
          refine lv_goto (tgt := 58) hx hb d_Le_firstByPolicy_54 (by decide) ?_
          exact J58 (X44, i2_35, i3_35, 1) _ _ _ hf (lv_sub hl [1, 2, 3, 4] rfl) Y

def f_Le_forgetWriter (X0 : gX) : Option (gR × gX) := gB (X0.w 0 7 0) (fun X1 => gB (X1.w 0 8 0) (fun X2 => gB (X2.w 0 12 0) (fun X3 => some (gR.v, X3))))
set_option maxHeartbeats 4000000 in
set_option maxRecDepth 100000 in
theorem K_Le_forgetWriter (l : Launch) (htr : l.stackTraces = false) (D : va_G) (tys : List (ClassId × FieldType)) (z sz : Nat) (ws : va_W) (h : gm_M) (hM : gm_S h ws) (t : Nat → ClassId) (ht : gTy t tys) (b : Nat → Nat) (X0 : gX) (hw : gw D t b X0 h) (o : gR × gX) (hf : f_Le_forgetWriter X0 = some o) : gx_Met l y_Le_forgetWriter [Cond.code y_Le_forgetWriter b_Le_forgetWriter 1 none] { frames := 1, cells := 0, slots := 0, locals := 12 } (gx_P z sz D classes tys ws [Value.ref (b 0)]) (gx_Q D classes tys (va_A ws sz) (gPo D t b X0 o)) (0) (0) (va_A ws sz) := by
  refine gx_ofW (cc := b_Le_forgetWriter) (maxL := 1) (ret := none) (by decide) rfl ?_
  intro p e s m args below meth c s₁ B hml hv
  obtain ⟨rfl, hsz, hz, hP, hK, hD0, hY⟩ := hv
  have hx := B.exec
  have hb := B.bytes
  have hr := B.returns
  have hts := hY.hts (#[Value.ref (b 0)] : Array Value)
  have hown : s.vm.findClass "CommitLedger" = some m.cls := findClass_of_methodNamed B.named
  have hlocks := B.notSynchronized
  subst hsz
  have hAz := gx_az hD0 hz
  have hD := hD0.self (sz := s.heap.size)
  have hA : ∀ q : Nat, s.heap.size ≤ q → va_A ws s.heap.size q := fun q h => Or.inr h
  generalize va_A ws s.heap.size = A at hD hA hAz ⊢
  have Y : gy D t b A s.heap X0 X0 s.heap [] := ⟨h, ⟨ws, hM, hP, hD, va_S.rf⟩, hw, gEq.rf⟩
  clear hP hD hM hD0 hw
  obtain ⟨ht0, ht1, ht2, ht3, ht4, ht5, ht6, ht7, ht8⟩ := id ht
  have hl := lv_entry ([Value.ref (b 0)]) (n := 1) (Nat.le_of_ble_eq_true rfl)
  rw [lg_entry_eq]
  generalize (lg_sl ([Value.ref (b 0)]) ++ List.replicate (1 - (lg_sl ([Value.ref (b 0)])).length) Slot.unset).toArray = ls at hl ⊢
  have hl : lv_has ls 1 [(0, Value.ref (b 0))] := hl
  unfold f_Le_forgetWriter at hf
  refine lv_aload_n hx hb d_Le_forgetWriter_0 rfl (lv_at hl 0 rfl) ?_
  refine lv_iconst (v := 0) hx hb d_Le_forgetWriter_1 (by decide) ?_
  refine gy_put hf (ci := 0) (ty := .boolean) (C := "CommitLedger") (T := F_Le) (N := 18) hx hb hts i_Le t_Le_ok n_Le hown hK Y gF_0 rfl (by decide) kf_Le_64 rfl (by decide +kernel) rfl rfl (Nat.le_of_ble_eq_true rfl) gF_0 d_Le_forgetWriter_2 (fun X4 H locs hf Y => ?_)
  refine lv_aload_n hx hb d_Le_forgetWriter_5 rfl (lv_at hl 0 rfl) ?_
  refine lv_iconst (v := 0) hx hb d_Le_forgetWriter_6 (by decide) ?_
  refine gy_put hf (ci := 0) (ty := .boolean) (C := "CommitLedger") (T := F_Le) (N := 18) hx hb hts i_Le t_Le_ok n_Le hown hK Y gF_0 rfl (by decide) kf_Le_178 rfl (by decide +kernel) rfl rfl (Nat.le_of_ble_eq_true rfl) gF_0 d_Le_forgetWriter_7 (fun X5 H locs hf Y => ?_)
  refine lv_aload_n hx hb d_Le_forgetWriter_10 rfl (lv_at hl 0 rfl) ?_
  refine lv_iconst (v := 0) hx hb d_Le_forgetWriter_11 (by decide) ?_
  refine gy_put hf (ci := 0) (ty := .int) (C := "CommitLedger") (T := F_Le) (N := 18) hx hb hts i_Le t_Le_ok n_Le hown hK Y gF_0 rfl (by decide) kf_Le_142 rfl (by decide +kernel) rfl rfl (Nat.le_of_ble_eq_true rfl) gF_0 d_Le_forgetWriter_12 (fun X6 H locs hf Y => ?_)
  exact gy_vret hf hx hb hr hlocks hK Y (Nat.zero_le _) (Nat.zero_le _) d_Le_forgetWriter_15

def f_Le_commitIsCorrupt_21 (X : gX) : Option (gR × gX) := some (gR.i 0, X)
def f_Le_commitIsCorrupt (X0 : gX) : Option (gR × gX) := (if (X0.I 0 15) ≤ (0 : Int32) then f_Le_commitIsCorrupt_21 X0 else gM (X0.G 0 5) (fun n2 => (if gVie n2 then gCi (f_Vi_hasHarmedFile X0 n2) (fun x4 X4 => (if x4 = (0 : Int32) then f_Le_commitIsCorrupt_21 X4 else some (gR.i 1, X4))) else none)))
set_option maxHeartbeats 4000000 in
set_option maxRecDepth 100000 in
theorem K_Le_commitIsCorrupt (l : Launch) (htr : l.stackTraces = false) (D : va_G) (tys : List (ClassId × FieldType)) (z sz : Nat) (ws : va_W) (h : gm_M) (hM : gm_S h ws) (t : Nat → ClassId) (ht : gTy t tys) (b : Nat → Nat) (X0 : gX) (hw : gw D t b X0 h) (o : gR × gX) (hf : f_Le_commitIsCorrupt X0 = some o) : gx_Met l y_Le_commitIsCorrupt [Cond.code y_Le_commitIsCorrupt b_Le_commitIsCorrupt 1 (some .boolean)] { frames := 2, cells := 0, slots := 0, locals := 33 } (gx_P z sz D classes tys ws [Value.ref (b 0)]) (gx_Q D classes tys (va_A ws sz) (gPo D t b X0 o)) (0) (0) (va_A ws sz) := by
  refine gx_ofW (cc := b_Le_commitIsCorrupt) (maxL := 1) (ret := (some .boolean)) (by decide) rfl ?_
  intro p e s m args below meth c s₁ B hml hv
  obtain ⟨rfl, hsz, hz, hP, hK, hD0, hY⟩ := hv
  have hx := B.exec
  have hb := B.bytes
  have hr := B.returns
  have hts := hY.hts (#[Value.ref (b 0)] : Array Value)
  have hown : s.vm.findClass "CommitLedger" = some m.cls := findClass_of_methodNamed B.named
  have hlocks := B.notSynchronized
  subst hsz
  have hAz := gx_az hD0 hz
  have hD := hD0.self (sz := s.heap.size)
  have hA : ∀ q : Nat, s.heap.size ≤ q → va_A ws s.heap.size q := fun q h => Or.inr h
  generalize va_A ws s.heap.size = A at hD hA hAz ⊢
  have Y : gy D t b A s.heap X0 X0 s.heap [] := ⟨h, ⟨ws, hM, hP, hD, va_S.rf⟩, hw, gEq.rf⟩
  clear hP hD hM hD0 hw
  obtain ⟨ht0, ht1, ht2, ht3, ht4, ht5, ht6, ht7, ht8⟩ := id ht
  have hl := lv_entry ([Value.ref (b 0)]) (n := 1) (Nat.le_of_ble_eq_true rfl)
  rw [lg_entry_eq]
  generalize (lg_sl ([Value.ref (b 0)]) ++ List.replicate (1 - (lg_sl ([Value.ref (b 0)])).length) Slot.unset).toArray = ls at hl ⊢
  have hl : lv_has ls 1 [(0, Value.ref (b 0))] := hl
  refine gy_cut (pcJ := 21) Y (fun s : gX => f_Le_commitIsCorrupt_21 s) o (fun s => s) (fun s ls => lv_has ls 1 []) (fun s => []) ?_ (fun J21 => ?_)
  · rintro X6 H locs ls hf hl Y
    have hl : lv_has ls 1 [] := hl
    have Y : gy D t b A s.heap X0 X6 H locs := Y
    have hf : f_Le_commitIsCorrupt_21 X6 = some o := hf
    unfold f_Le_commitIsCorrupt_21 at hf
    refine lv_iconst (v := 0) hx hb d_Le_commitIsCorrupt_21 (by decide) ?_
    exact gy_zret hf hx hb hr hlocks hK Y (Nat.zero_le _) (Nat.zero_le _) rfl d_Le_commitIsCorrupt_22
  unfold f_Le_commitIsCorrupt at hf
  refine lv_aload_n hx hb d_Le_commitIsCorrupt_0 rfl (lv_at hl 0 rfl) ?_
  refine gy_get (ci := 0) (v := Value.int (X0.I 0 15)) (C := "CommitLedger") (T := F_Le) (N := 18) hx hb hts i_Le hown hK Y gF_0 rfl 15 (by decide) kf_Le_84 rfl d_Le_commitIsCorrupt_1 ?_
  refine lv_if_le (tgt := 21) hx hb d_Le_commitIsCorrupt_4 (by decide) (fun c4_7 => ?_) (fun c4_7 => ?_)
  · replace hf := gp_t c4_7 hf
    exact J21 X0 _ _ _ hf (lv_sub hl [] rfl) Y
  · replace hf := gp_f c4_7 hf
    refine lv_aload_n hx hb d_Le_commitIsCorrupt_7 rfl (lv_at hl 0 rfl) ?_
    refine gy_get (ci := 0) (v := va_rf (Option.map b (X0.G 0 5))) (C := "CommitLedger") (T := F_Le) (N := 18) hx hb hts i_Le hown hK Y gF_0 rfl 5 (by decide) kf_Le_30 rfl d_Le_commitIsCorrupt_8 ?_
    obtain ⟨n8, e8, hf⟩ := gM_el hf
    refine W.eq (g2 := F0 m 11 ls [Value.ref (b n8)]) (by rw [e8] <;> rfl) ?_
    obtain ⟨hv9, hf⟩ := gp_g hf
    obtain ⟨x10, X10, hF10, hf⟩ := gCi_el hf
    refine gy_callI (rm := { frames := 1, cells := 0, slots := 0, locals := 12 }) (ig := .invokevirtual 373) (av := [Value.ref (b n8)]) Y (fun ws h hS hw => K_Vi_hasHarmedFile l htr D tys z _ ws h hS t ht b X0 hw n8 hv9 (gR.i x10, X10) hF10) (gx_invV (As := []) (rest := []) hx hb hown hts km_Le_373 kI_Vi_hasHarmedFile kV_Vi_hasHarmedFile kc_Vi_hasHarmedFile (by decide) (show (parseMethodDescriptor y_Vi_hasHarmedFile.desc).map (fun d => d.parameters.length) = some 0 by decide +kernel) (gy_recv (ci := 4) hK Y rfl (gF_Vi hv9)) rfl rfl d_Le_commitIsCorrupt_11) (gx_cw (z := 0) hts kc_Vi_hasHarmedFile kN_Vi rfl rfl ⟨Nat.le_of_ble_eq_true rfl, Nat.le_of_ble_eq_true rfl⟩) hb hml hz hK hY hAz hA hl.1 (lv_room (Nat.le_of_ble_eq_true rfl)) d_Le_commitIsCorrupt_11 ⟨Nat.zero_le _, Nat.zero_le _⟩ (fun H locs Y => ?_)
    refine lv_if_eq (tgt := 21) hx hb d_Le_commitIsCorrupt_14 (by decide) (fun c14_11 => ?_) (fun c14_11 => ?_)
    · replace hf := gp_t c14_11 hf
      exact J21 X10 _ _ _ hf (lv_sub hl [] rfl) Y
    · replace hf := gp_f c14_11 hf
      refine lv_iconst (v := 1) hx hb d_Le_commitIsCorrupt_17 (by decide) ?_
      refine lv_goto (tgt := 22) hx hb d_Le_commitIsCorrupt_18 (by decide) ?_
      exact gy_zret hf hx hb hr hlocks hK Y (Nat.zero_le _) (Nat.zero_le _) rfl d_Le_commitIsCorrupt_22

def f_Le_openReaders_24 (X : gX) (i1 : Int32) (i2 : Int32) : Option ((Int32 × Int32) ⊕ (gR × gX)) := some (Sum.inl (i1, i2 + 1))
def f_Le_openReaders_4 (X : gX) (i1 : Int32) (i2 : Int32) : Option ((Int32 × Int32) ⊕ (gR × gX)) := (if (4 : Int32) ≤ i2 then gLf (some (gR.i i1, X)) else (if gIn i2 4 then (if (X.I (26 + 5 * gn i2) 2) = (0 : Int32) then f_Le_openReaders_24 X i1 i2 else f_Le_openReaders_24 X (i1 + 1) i2) else none))
def f_Le_openReaders (X0 : gX) : Option (gR × gX) := gI (fun s : Int32 × Int32 => f_Le_openReaders_4 X0 s.1 s.2) gK (0, 0)
set_option maxHeartbeats 4000000 in
set_option maxRecDepth 100000 in
theorem K_Le_openReaders (l : Launch) (htr : l.stackTraces = false) (D : va_G) (tys : List (ClassId × FieldType)) (z sz : Nat) (ws : va_W) (h : gm_M) (hM : gm_S h ws) (t : Nat → ClassId) (ht : gTy t tys) (b : Nat → Nat) (X0 : gX) (hw : gw D t b X0 h) (o : gR × gX) (hf : f_Le_openReaders X0 = some o) : gx_Met l y_Le_openReaders [Cond.code y_Le_openReaders b_Le_openReaders 3 (some .int)] { frames := 1, cells := 0, slots := 0, locals := 12 } (gx_P z sz D classes tys ws [Value.ref (b 0)]) (gx_Q D classes tys (va_A ws sz) (gPo D t b X0 o)) (0) (0) (va_A ws sz) := by
  refine gx_ofW (cc := b_Le_openReaders) (maxL := 3) (ret := (some .int)) (by decide) rfl ?_
  intro p e s m args below meth c s₁ B hml hv
  obtain ⟨rfl, hsz, hz, hP, hK, hD0, hY⟩ := hv
  have hx := B.exec
  have hb := B.bytes
  have hr := B.returns
  have hts := hY.hts (#[Value.ref (b 0)] : Array Value)
  have hown : s.vm.findClass "CommitLedger" = some m.cls := findClass_of_methodNamed B.named
  have hlocks := B.notSynchronized
  subst hsz
  have hAz := gx_az hD0 hz
  have hD := hD0.self (sz := s.heap.size)
  have hA : ∀ q : Nat, s.heap.size ≤ q → va_A ws s.heap.size q := fun q h => Or.inr h
  generalize va_A ws s.heap.size = A at hD hA hAz ⊢
  have Y : gy D t b A s.heap X0 X0 s.heap [] := ⟨h, ⟨ws, hM, hP, hD, va_S.rf⟩, hw, gEq.rf⟩
  clear hP hD hM hD0 hw
  obtain ⟨ht0, ht1, ht2, ht3, ht4, ht5, ht6, ht7, ht8⟩ := id ht
  have hl := lv_entry ([Value.ref (b 0)]) (n := 3) (Nat.le_of_ble_eq_true rfl)
  rw [lg_entry_eq]
  generalize (lg_sl ([Value.ref (b 0)]) ++ List.replicate (3 - (lg_sl ([Value.ref (b 0)])).length) Slot.unset).toArray = ls at hl ⊢
  have hl : lv_has ls 3 [(0, Value.ref (b 0))] := hl
  unfold f_Le_openReaders at hf
  refine lv_iconst (v := 0) hx hb d_Le_openReaders_0 (by decide) ?_
  refine lv_istore_n (lv' := [(1, Value.int 0), (0, Value.ref (b 0))]) hx hb d_Le_openReaders_1 rfl hl (by decide) rfl (fun ls hl => ?_)
  refine lv_iconst (v := 0) hx hb d_Le_openReaders_2 (by decide) ?_
  refine lv_istore_n (lv' := [(2, Value.int 0), (1, Value.int 0), (0, Value.ref (b 0))]) hx hb d_Le_openReaders_3 rfl hl (by decide) rfl (fun ls hl => ?_)
  refine gy_iter (fun s : Int32 × Int32 => X0) (fun (s : Int32 × Int32) ls => lv_has ls 3 [(1, Value.int s.1), (2, Value.int s.2), (0, Value.ref (b 0))]) ?_ gK (0, 0) _ _ _ hf (lv_sub hl [1, 0, 2] rfl) Y
  rintro ⟨i1_9, i2_9⟩ u9 H locs ls hf hl Y hk9 ho9
  have hl : lv_has ls 3 [(1, Value.int i1_9), (2, Value.int i2_9), (0, Value.ref (b 0))] := hl
  have Y : gy D t b A s.heap X0 X0 H locs := Y
  have hf : f_Le_openReaders_4 X0 i1_9 i2_9 = some u9 := hf
  refine gy_cut (pcJ := 24) Y (fun s : Int32 × Int32 => f_Le_openReaders_24 X0 s.1 s.2) u9 (fun s => X0) (fun s ls => lv_has ls 3 [(1, Value.int s.1), (2, Value.int s.2), (0, Value.ref (b 0))]) (fun s => []) ?_ (fun J24 => ?_)
  · rintro ⟨i1_10, i2_10⟩ H locs ls hf hl Y
    have hl : lv_has ls 3 [(1, Value.int i1_10), (2, Value.int i2_10), (0, Value.ref (b 0))] := hl
    have Y : gy D t b A s.heap X0 X0 H locs := Y
    have hf : f_Le_openReaders_24 X0 i1_10 i2_10 = some u9 := hf
    unfold f_Le_openReaders_24 at hf
    refine lv_iinc (v := i2_10 + 1) (lv' := [(2, Value.int (i2_10 + 1)), (1, Value.int i1_10), (0, Value.ref (b 0))]) hx hb d_Le_openReaders_24 hl (k := 1) rfl (rfl) (by decide) rfl (fun ls hl => ?_)
    refine lv_goto (tgt := 4) hx hb d_Le_openReaders_27 (by decide) ?_
    exact hk9 _ _ _ _ hf (lv_sub hl [1, 0, 2] rfl) Y
  unfold f_Le_openReaders_4 at hf
  refine lv_iload_n hx hb d_Le_openReaders_4 rfl (lv_at hl 1 rfl) ?_
  refine lv_iconst (v := 4) hx hb d_Le_openReaders_5 (by decide) ?_
  refine lv_icmp_ge (tgt := 30) hx hb d_Le_openReaders_6 (by decide) (fun c6_11 => ?_) (fun c6_11 => ?_)
  · replace hf := gp_t c6_11 hf
    refine lv_iload_n hx hb d_Le_openReaders_30 rfl (lv_at hl 0 rfl) ?_
    replace hf := gU hf ho9
    exact gy_iret hf hx hb hr hlocks hK Y (Nat.zero_le _) (Nat.zero_le _) d_Le_openReaders_31
  · replace hf := gp_f c6_11 hf
    refine lv_aload_n hx hb d_Le_openReaders_9 rfl (lv_at hl 2 rfl) ?_
    refine gy_get (ci := 0) (v := Value.ref (b 25)) (C := "CommitLedger") (T := F_Le) (N := 18) hx hb hts i_Le hown hK Y gF_0 rfl 4 (by decide) kf_Le_45 rfl d_Le_openReaders_10 ?_
    refine lv_iload_n hx hb d_Le_openReaders_13 rfl (lv_at hl 1 rfl) ?_
    refine gy_aalR hf hx hb hK Y 4 gF_25 ht4 d_Le_openReaders_14 (fun hi12 hf => ?_)
    refine gy_get (ci := 6) (v := Value.int (X0.I (26 + 5 * gn i2_9) 2)) (C := "CommitLedger$Reader") (T := F_Re) (N := 3) hx hb hts i_Re hown hK Y (gF_Re (gRea_rd hi12)) rfl 2 (by decide) kf_Le_230 rfl d_Le_openReaders_15 ?_
    refine lv_if_eq (tgt := 24) hx hb d_Le_openReaders_18 (by decide) (fun c18_13 => ?_) (fun c18_13 => ?_)
    · replace hf := gp_t c18_13 hf
      exact J24 (i1_9, i2_9) _ _ _ hf (lv_sub hl [0, 1, 2] rfl) Y
    · replace hf := gp_f c18_13 hf
      refine lv_iinc (v := i1_9 + 1) (lv' := [(1, Value.int (i1_9 + 1)), (2, Value.int i2_9), (0, Value.ref (b 0))]) hx hb d_Le_openReaders_21 hl (k := 0) rfl (rfl) (by decide) rfl (fun ls hl => ?_)
      exact J24 (i1_9 + 1, i2_9) _ _ _ hf (lv_sub hl [0, 1, 2] rfl) Y

def f_Le_closedReader_2 (X : gX) (i1 : Int32) : Option ((Int32) ⊕ (gR × gX)) := (if (4 : Int32) ≤ i1 then gLf (some (gR.a none, X)) else (if gIn i1 4 then (if (X.I (26 + 5 * gn i1) 2) = (0 : Int32) then (if gIn i1 4 then gLf (some (gR.a (some (26 + 5 * gn i1)), X)) else none) else some (Sum.inl (i1 + 1))) else none))
def f_Le_closedReader (X0 : gX) : Option (gR × gX) := gI (fun s : Int32 => f_Le_closedReader_2 X0 s) gK 0
set_option maxHeartbeats 4000000 in
set_option maxRecDepth 100000 in
theorem K_Le_closedReader (l : Launch) (htr : l.stackTraces = false) (D : va_G) (tys : List (ClassId × FieldType)) (z sz : Nat) (ws : va_W) (h : gm_M) (hM : gm_S h ws) (t : Nat → ClassId) (ht : gTy t tys) (b : Nat → Nat) (X0 : gX) (hw : gw D t b X0 h) (o : gR × gX) (hf : f_Le_closedReader X0 = some o) : gx_Met l y_Le_closedReader [Cond.code y_Le_closedReader b_Le_closedReader 2 (some (.object "CommitLedger$Reader"))] { frames := 1, cells := 0, slots := 0, locals := 12 } (gx_P z sz D classes tys ws [Value.ref (b 0)]) (gx_Q D classes tys (va_A ws sz) (gPo D t b X0 o)) (0) (0) (va_A ws sz) := by
  refine gx_ofW (cc := b_Le_closedReader) (maxL := 2) (ret := (some (.object "CommitLedger$Reader"))) (by decide) rfl ?_
  intro p e s m args below meth c s₁ B hml hv
  obtain ⟨rfl, hsz, hz, hP, hK, hD0, hY⟩ := hv
  have hx := B.exec
  have hb := B.bytes
  have hr := B.returns
  have hts := hY.hts (#[Value.ref (b 0)] : Array Value)
  have hown : s.vm.findClass "CommitLedger" = some m.cls := findClass_of_methodNamed B.named
  have hlocks := B.notSynchronized
  subst hsz
  have hAz := gx_az hD0 hz
  have hD := hD0.self (sz := s.heap.size)
  have hA : ∀ q : Nat, s.heap.size ≤ q → va_A ws s.heap.size q := fun q h => Or.inr h
  generalize va_A ws s.heap.size = A at hD hA hAz ⊢
  have Y : gy D t b A s.heap X0 X0 s.heap [] := ⟨h, ⟨ws, hM, hP, hD, va_S.rf⟩, hw, gEq.rf⟩
  clear hP hD hM hD0 hw
  obtain ⟨ht0, ht1, ht2, ht3, ht4, ht5, ht6, ht7, ht8⟩ := id ht
  have hl := lv_entry ([Value.ref (b 0)]) (n := 2) (Nat.le_of_ble_eq_true rfl)
  rw [lg_entry_eq]
  generalize (lg_sl ([Value.ref (b 0)]) ++ List.replicate (2 - (lg_sl ([Value.ref (b 0)])).length) Slot.unset).toArray = ls at hl ⊢
  have hl : lv_has ls 2 [(0, Value.ref (b 0))] := hl
  unfold f_Le_closedReader at hf
  refine lv_iconst (v := 0) hx hb d_Le_closedReader_0 (by decide) ?_
  refine lv_istore_n (lv' := [(1, Value.int 0), (0, Value.ref (b 0))]) hx hb d_Le_closedReader_1 rfl hl (by decide) rfl (fun ls hl => ?_)
  refine gy_iter (fun s : Int32 => X0) (fun (s : Int32) ls => lv_has ls 2 [(1, Value.int s), (0, Value.ref (b 0))]) ?_ gK 0 _ _ _ hf (lv_sub hl [0, 1] rfl) Y
  rintro i1_10 u10 H locs ls hf hl Y hk10 ho10
  have hl : lv_has ls 2 [(1, Value.int i1_10), (0, Value.ref (b 0))] := hl
  have Y : gy D t b A s.heap X0 X0 H locs := Y
  have hf : f_Le_closedReader_2 X0 i1_10 = some u10 := hf
  unfold f_Le_closedReader_2 at hf
  refine lv_iload_n hx hb d_Le_closedReader_2 rfl (lv_at hl 0 rfl) ?_
  refine lv_iconst (v := 4) hx hb d_Le_closedReader_3 (by decide) ?_
  refine lv_icmp_ge (tgt := 32) hx hb d_Le_closedReader_4 (by decide) (fun c4_11 => ?_) (fun c4_11 => ?_)
  · replace hf := gp_t c4_11 hf
    refine lv_null hx hb d_Le_closedReader_32 ?_
    replace hf := gU hf ho10
    exact gy_aretO (x := none) hf hx hb hr hlocks hK Y (Nat.zero_le _) (Nat.zero_le _) d_Le_closedReader_33
  · replace hf := gp_f c4_11 hf
    refine lv_aload_n hx hb d_Le_closedReader_7 rfl (lv_at hl 1 rfl) ?_
    refine gy_get (ci := 0) (v := Value.ref (b 25)) (C := "CommitLedger") (T := F_Le) (N := 18) hx hb hts i_Le hown hK Y gF_0 rfl 4 (by decide) kf_Le_45 rfl d_Le_closedReader_8 ?_
    refine lv_iload_n hx hb d_Le_closedReader_11 rfl (lv_at hl 0 rfl) ?_
    refine gy_aalR hf hx hb hK Y 4 gF_25 ht4 d_Le_closedReader_12 (fun hi12 hf => ?_)
    refine gy_get (ci := 6) (v := Value.int (X0.I (26 + 5 * gn i1_10) 2)) (C := "CommitLedger$Reader") (T := F_Re) (N := 3) hx hb hts i_Re hown hK Y (gF_Re (gRea_rd hi12)) rfl 2 (by decide) kf_Le_230 rfl d_Le_closedReader_13 ?_
    refine lv_if_ne (tgt := 26) hx hb d_Le_closedReader_16 (by decide) (fun c16_13 => ?_) (fun c16_13 => ?_)
    · replace hf := gp_f c16_13 hf
      refine lv_iinc (v := i1_10 + 1) (lv' := [(1, Value.int (i1_10 + 1)), (0, Value.ref (b 0))]) hx hb d_Le_closedReader_26 hl (k := 0) rfl (rfl) (by decide) rfl (fun ls hl => ?_)
      refine lv_goto (tgt := 2) hx hb d_Le_closedReader_29 (by decide) ?_
      exact hk10 _ _ _ _ hf (lv_sub hl [0, 1] rfl) Y
    · replace hf := gp_t c16_13 hf
      refine lv_aload_n hx hb d_Le_closedReader_19 rfl (lv_at hl 1 rfl) ?_
      refine gy_get (ci := 0) (v := Value.ref (b 25)) (C := "CommitLedger") (T := F_Le) (N := 18) hx hb hts i_Le hown hK Y gF_0 rfl 4 (by decide) kf_Le_45 rfl d_Le_closedReader_20 ?_
      refine lv_iload_n hx hb d_Le_closedReader_23 rfl (lv_at hl 0 rfl) ?_
      refine gy_aalR hf hx hb hK Y 4 gF_25 ht4 d_Le_closedReader_24 (fun hi14 hf => ?_)
      replace hf := gU hf ho10
      exact gy_aretO (x := (some (26 + 5 * gn i1_10))) hf hx hb hr hlocks hK Y (Nat.zero_le _) (Nat.zero_le _) d_Le_closedReader_25

def f_Le_openReader (X0 : gX) (m1 : Nat) (m2 : Nat) : Option (gR × gX) := gB (X0.w 0 14 ((X0.I 0 14) + 1)) (fun X1 => gB (X1.w m1 1 (X1.I 0 14)) (fun X2 => gB (X2.w m1 2 1) (fun X3 => gCv (f_Vi_copyFrom X3 (m1 + 1) m2) (fun X4 => some (gR.i (X4.I 0 14), X4)))))
set_option maxHeartbeats 4000000 in
set_option maxRecDepth 100000 in
theorem K_Le_openReader (l : Launch) (htr : l.stackTraces = false) (D : va_G) (tys : List (ClassId × FieldType)) (z sz : Nat) (ws : va_W) (h : gm_M) (hM : gm_S h ws) (t : Nat → ClassId) (ht : gTy t tys) (b : Nat → Nat) (X0 : gX) (hw : gw D t b X0 h) (m1 : Nat) (hm1 : gRea m1 = true) (m2 : Nat) (hm2 : gVie m2 = true) (o : gR × gX) (hf : f_Le_openReader X0 m1 m2 = some o) : gx_Met l y_Le_openReader [Cond.code y_Le_openReader b_Le_openReader 3 (some .int)] { frames := 2, cells := 0, slots := 0, locals := 34 } (gx_P z sz D classes tys ws [Value.ref (b 0), Value.ref (b m1), Value.ref (b m2)]) (gx_Q D classes tys (va_A ws sz) (gPo D t b X0 o)) (0) (0) (va_A ws sz) := by
  refine gx_ofW (cc := b_Le_openReader) (maxL := 3) (ret := (some .int)) (by decide) rfl ?_
  intro p e s m args below meth c s₁ B hml hv
  obtain ⟨rfl, hsz, hz, hP, hK, hD0, hY⟩ := hv
  have hx := B.exec
  have hb := B.bytes
  have hr := B.returns
  have hts := hY.hts (#[Value.ref (b 0), Value.ref (b m1), Value.ref (b m2)] : Array Value)
  have hown : s.vm.findClass "CommitLedger" = some m.cls := findClass_of_methodNamed B.named
  have hlocks := B.notSynchronized
  subst hsz
  have hAz := gx_az hD0 hz
  have hD := hD0.self (sz := s.heap.size)
  have hA : ∀ q : Nat, s.heap.size ≤ q → va_A ws s.heap.size q := fun q h => Or.inr h
  generalize va_A ws s.heap.size = A at hD hA hAz ⊢
  have Y : gy D t b A s.heap X0 X0 s.heap [] := ⟨h, ⟨ws, hM, hP, hD, va_S.rf⟩, hw, gEq.rf⟩
  clear hP hD hM hD0 hw
  obtain ⟨ht0, ht1, ht2, ht3, ht4, ht5, ht6, ht7, ht8⟩ := id ht
  have hl := lv_entry ([Value.ref (b 0), Value.ref (b m1), Value.ref (b m2)]) (n := 3) (Nat.le_of_ble_eq_true rfl)
  rw [lg_entry_eq]
  generalize (lg_sl ([Value.ref (b 0), Value.ref (b m1), Value.ref (b m2)]) ++ List.replicate (3 - (lg_sl ([Value.ref (b 0), Value.ref (b m1), Value.ref (b m2)])).length) Slot.unset).toArray = ls at hl ⊢
  have hl : lv_has ls 3 [(0, Value.ref (b 0)), (1, Value.ref (b m1)), (2, Value.ref (b m2))] := hl
  unfold f_Le_openReader at hf
  refine lv_aload_n hx hb d_Le_openReader_0 rfl (lv_at hl 0 rfl) ?_
  refine lv_dup hx hb d_Le_openReader_1 rfl ?_
  refine gy_get (ci := 0) (v := Value.int (X0.I 0 14)) (C := "CommitLedger") (T := F_Le) (N := 18) hx hb hts i_Le hown hK Y gF_0 rfl 14 (by decide) kf_Le_376 rfl d_Le_openReader_2 ?_
  refine lv_iconst (v := 1) hx hb d_Le_openReader_5 (by decide) ?_
  refine lv_iadd hx hb d_Le_openReader_6 ?_
  refine gy_put hf (ci := 0) (ty := .int) (C := "CommitLedger") (T := F_Le) (N := 18) hx hb hts i_Le t_Le_ok n_Le hown hK Y gF_0 rfl (by decide) kf_Le_376 rfl (by decide +kernel) rfl rfl (Nat.le_of_ble_eq_true rfl) gF_0 d_Le_openReader_7 (fun X5 H locs hf Y => ?_)
  refine lv_aload_n hx hb d_Le_openReader_10 rfl (lv_at hl 1 rfl) ?_
  refine lv_aload_n hx hb d_Le_openReader_11 rfl (lv_at hl 0 rfl) ?_
  refine gy_get (ci := 0) (v := Value.int (X5.I 0 14)) (C := "CommitLedger") (T := F_Le) (N := 18) hx hb hts i_Le hown hK Y gF_0 rfl 14 (by decide) kf_Le_376 rfl d_Le_openReader_12 ?_
  refine gy_put hf (ci := 6) (ty := .int) (C := "CommitLedger$Reader") (T := F_Re) (N := 3) hx hb hts i_Re t_Re_ok n_Re hown hK Y (gF_Re hm1) rfl (by decide) kf_Le_292 rfl (by decide +kernel) rfl rfl (Nat.le_of_ble_eq_true rfl) (gF_Re hm1) d_Le_openReader_15 (fun X6 H locs hf Y => ?_)
  refine lv_aload_n hx hb d_Le_openReader_18 rfl (lv_at hl 1 rfl) ?_
  refine lv_iconst (v := 1) hx hb d_Le_openReader_19 (by decide) ?_
  refine gy_put hf (ci := 6) (ty := .boolean) (C := "CommitLedger$Reader") (T := F_Re) (N := 3) hx hb hts i_Re t_Re_ok n_Re hown hK Y (gF_Re hm1) rfl (by decide) kf_Le_230 rfl (by decide +kernel) rfl rfl (Nat.le_of_ble_eq_true rfl) (gF_Re hm1) d_Le_openReader_20 (fun X7 H locs hf Y => ?_)
  refine lv_aload_n hx hb d_Le_openReader_23 rfl (lv_at hl 1 rfl) ?_
  refine gy_get (ci := 6) (v := Value.ref (b (m1 + 1))) (C := "CommitLedger$Reader") (T := F_Re) (N := 3) hx hb hts i_Re hown hK Y (gF_Re hm1) rfl 0 (by decide) kf_Le_233 rfl d_Le_openReader_24 ?_
  refine lv_aload_n hx hb d_Le_openReader_27 rfl (lv_at hl 2 rfl) ?_
  obtain ⟨X8, hF8, hf⟩ := gCv_el hf
  refine gy_callV (rm := { frames := 1, cells := 0, slots := 0, locals := 12 }) (ig := .invokevirtual 87) (av := [Value.ref (b (m1 + 1)), Value.ref (b m2)]) Y (fun ws h hS hw => K_Vi_copyFrom l htr D tys z _ ws h hS t ht b X7 hw (m1 + 1) (gVie_re hm1) m2 hm2 (gR.v, X8) hF8) (gx_invV (As := [Value.ref (b m2)]) (rest := []) hx hb hown hts km_Le_87 kI_Vi_copyFrom kV_Vi_copyFrom kc_Vi_copyFrom (by decide) (show (parseMethodDescriptor y_Vi_copyFrom.desc).map (fun d => d.parameters.length) = some 1 by decide +kernel) (gy_recv (ci := 4) hK Y rfl (gF_Vi (gVie_re hm1))) rfl rfl d_Le_openReader_28) (gx_cw (z := 0) hts kc_Vi_copyFrom kN_Vi rfl rfl ⟨Nat.le_of_ble_eq_true rfl, Nat.le_of_ble_eq_true rfl⟩) hb hml hz hK hY hAz hA hl.1 (lv_room (Nat.le_of_ble_eq_true rfl)) d_Le_openReader_28 ⟨Nat.zero_le _, Nat.zero_le _⟩ (fun H locs Y => ?_)
  refine lv_aload_n hx hb d_Le_openReader_31 rfl (lv_at hl 0 rfl) ?_
  refine gy_get (ci := 0) (v := Value.int (X8.I 0 14)) (C := "CommitLedger") (T := F_Le) (N := 18) hx hb hts i_Le hown hK Y gF_0 rfl 14 (by decide) kf_Le_376 rfl d_Le_openReader_32 ?_
  exact gy_iret hf hx hb hr hlocks hK Y (Nat.zero_le _) (Nat.zero_le _) d_Le_openReader_35

def f_ArraysSupport_newLength (X0 : gX) (a0 : Int32) (a1 : Int32) (a2 : Int32) : Option (gR × gX) := (if (a0 + (if a1 < a2 then a2 else a1)) ≤ (0 : Int32) then none else (if (2147483639 : Int32) < (a0 + (if a1 < a2 then a2 else a1)) then none else some (gR.i (a0 + (if a1 < a2 then a2 else a1)), X0)))
set_option maxHeartbeats 4000000 in
set_option maxRecDepth 100000 in
theorem K_ArraysSupport_newLength (l : Launch) (htr : l.stackTraces = false) (D : va_G) (tys : List (ClassId × FieldType)) (z sz : Nat) (ws : va_W) (h : gm_M) (hM : gm_S h ws) (t : Nat → ClassId) (ht : gTy t tys) (b : Nat → Nat) (X0 : gX) (hw : gw D t b X0 h) (a0 : Int32) (a1 : Int32) (a2 : Int32) (o : gR × gX) (hf : f_ArraysSupport_newLength X0 a0 a1 a2 = some o) : gx_Met l y_ArraysSupport_newLength [Cond.code y_ArraysSupport_newLength b_ArraysSupport_newLength 4 (some .int)] { frames := 1, cells := 0, slots := 0, locals := 24 } (gx_P z sz D classes tys ws [Value.int a0, Value.int a1, Value.int a2]) (gx_Q D classes tys (va_A ws sz) (gPo D t b X0 o)) (0) (0) (va_A ws sz) := by
  refine gx_ofW (cc := b_ArraysSupport_newLength) (maxL := 4) (ret := (some .int)) (by decide) rfl ?_
  intro p e s m args below meth c s₁ B hml hv
  obtain ⟨rfl, hsz, hz, hP, hK, hD0, hY⟩ := hv
  have hx := B.exec
  have hb := B.bytes
  have hr := B.returns
  have hts := hY.hts (#[Value.int a0, Value.int a1, Value.int a2] : Array Value)
  have hown : s.vm.findClass "jdk/internal/util/ArraysSupport" = some m.cls := findClass_of_methodNamed B.named
  have hlocks := B.notSynchronized
  subst hsz
  have hAz := gx_az hD0 hz
  have hD := hD0.self (sz := s.heap.size)
  have hA : ∀ q : Nat, s.heap.size ≤ q → va_A ws s.heap.size q := fun q h => Or.inr h
  generalize va_A ws s.heap.size = A at hD hA hAz ⊢
  have Y : gy D t b A s.heap X0 X0 s.heap [] := ⟨h, ⟨ws, hM, hP, hD, va_S.rf⟩, hw, gEq.rf⟩
  clear hP hD hM hD0 hw
  obtain ⟨ht0, ht1, ht2, ht3, ht4, ht5, ht6, ht7, ht8⟩ := id ht
  have hl := lv_entry ([Value.int a0, Value.int a1, Value.int a2]) (n := 4) (Nat.le_of_ble_eq_true rfl)
  rw [lg_entry_eq]
  generalize (lg_sl ([Value.int a0, Value.int a1, Value.int a2]) ++ List.replicate (4 - (lg_sl ([Value.int a0, Value.int a1, Value.int a2])).length) Slot.unset).toArray = ls at hl ⊢
  have hl : lv_has ls 4 [(0, Value.int a0), (1, Value.int a1), (2, Value.int a2)] := hl
  unfold f_ArraysSupport_newLength at hf
  refine lv_iload_n hx hb d_ArraysSupport_newLength_0 rfl (lv_at hl 0 rfl) ?_
  refine lv_iload_n hx hb d_ArraysSupport_newLength_1 rfl (lv_at hl 1 rfl) ?_
  refine lv_iload_n hx hb d_ArraysSupport_newLength_2 rfl (lv_at hl 2 rfl) ?_
  refine va_mmax (x := a1) (y := a2) hx hb (hml.trans hl.1.symm) hown (hts _ km_ArraysSupport_194) (hts _ kW_smax) (hts _ kN_Math) (hts _ kW_cmax) (Nat.le_of_ble_eq_true rfl) (Nat.le_of_ble_eq_true rfl) (Nat.zero_le _) (Nat.zero_le _) d_ArraysSupport_newLength_3 ?_
  refine lv_iadd hx hb d_ArraysSupport_newLength_6 ?_
  refine lv_istore_n (lv' := [(3, Value.int (a0 + (if a1 < a2 then a2 else a1))), (0, Value.int a0), (1, Value.int a1), (2, Value.int a2)]) hx hb d_ArraysSupport_newLength_7 rfl hl (by decide) rfl (fun ls hl => ?_)
  refine lv_iconst (v := 0) hx hb d_ArraysSupport_newLength_8 (by decide) ?_
  refine lv_iload_n hx hb d_ArraysSupport_newLength_9 rfl (lv_at hl 0 rfl) ?_
  refine lv_icmp_ge (tgt := 21) hx hb d_ArraysSupport_newLength_10 (by decide) (fun c10_3 => ?_) (fun c10_3 => ?_)
  · replace hf := gp_t c10_3 hf
    refine lv_iload_n hx hb d_ArraysSupport_newLength_21 rfl (lv_at hl 1 rfl) ?_
    refine lv_iload_n hx hb d_ArraysSupport_newLength_22 rfl (lv_at hl 2 rfl) ?_
    cases hf
  · replace hf := gp_f c10_3 hf
    refine lv_iload_n hx hb d_ArraysSupport_newLength_13 rfl (lv_at hl 0 rfl) ?_
    refine lv_ldc (v := 2147483639) hx hb hown (hts _ ki_ArraysSupport_200) d_ArraysSupport_newLength_14 ?_
    refine lv_icmp_gt (tgt := 21) hx hb d_ArraysSupport_newLength_16 (by decide) (fun c16_4 => ?_) (fun c16_4 => ?_)
    · replace hf := gp_t c16_4 hf
      refine lv_iload_n hx hb d_ArraysSupport_newLength_21 rfl (lv_at hl 1 rfl) ?_
      refine lv_iload_n hx hb d_ArraysSupport_newLength_22 rfl (lv_at hl 2 rfl) ?_
      cases hf
    · replace hf := gp_f c16_4 hf
      refine lv_iload_n hx hb d_ArraysSupport_newLength_19 rfl (lv_at hl 0 rfl) ?_
      exact gy_iret hf hx hb hr hlocks hK Y (Nat.zero_le _) (Nat.zero_le _) d_ArraysSupport_newLength_20

def f_Al_size (X0 : gX) (n : Nat) : Option (gR × gX) := some (gR.i (X0.I n 1), X0)
set_option maxHeartbeats 4000000 in
set_option maxRecDepth 100000 in
theorem K_Al_size (l : Launch) (htr : l.stackTraces = false) (D : va_G) (tys : List (ClassId × FieldType)) (z sz : Nat) (ws : va_W) (h : gm_M) (hM : gm_S h ws) (t : Nat → ClassId) (ht : gTy t tys) (b : Nat → Nat) (X0 : gX) (hw : gw D t b X0 h) (n : Nat) (hn : gLis n = true) (o : gR × gX) (hf : f_Al_size X0 n = some o) : gx_Met l y_Al_size [Cond.code y_Al_size b_Al_size 1 (some .int)] { frames := 1, cells := 0, slots := 0, locals := 12 } (gx_P z sz D classes tys ws [Value.ref (b n)]) (gx_Q D classes tys (va_A ws sz) (gPo D t b X0 o)) (0) (0) (va_A ws sz) := by
  refine gx_ofW (cc := b_Al_size) (maxL := 1) (ret := (some .int)) (by decide) rfl ?_
  intro p e s m args below meth c s₁ B hml hv
  obtain ⟨rfl, hsz, hz, hP, hK, hD0, hY⟩ := hv
  have hx := B.exec
  have hb := B.bytes
  have hr := B.returns
  have hts := hY.hts (#[Value.ref (b n)] : Array Value)
  have hown : s.vm.findClass "java/util/ArrayList" = some m.cls := findClass_of_methodNamed B.named
  have hlocks := B.notSynchronized
  subst hsz
  have hAz := gx_az hD0 hz
  have hD := hD0.self (sz := s.heap.size)
  have hA : ∀ q : Nat, s.heap.size ≤ q → va_A ws s.heap.size q := fun q h => Or.inr h
  generalize va_A ws s.heap.size = A at hD hA hAz ⊢
  have Y : gy D t b A s.heap X0 X0 s.heap [] := ⟨h, ⟨ws, hM, hP, hD, va_S.rf⟩, hw, gEq.rf⟩
  clear hP hD hM hD0 hw
  obtain ⟨ht0, ht1, ht2, ht3, ht4, ht5, ht6, ht7, ht8⟩ := id ht
  have hl := lv_entry ([Value.ref (b n)]) (n := 1) (Nat.le_of_ble_eq_true rfl)
  rw [lg_entry_eq]
  generalize (lg_sl ([Value.ref (b n)]) ++ List.replicate (1 - (lg_sl ([Value.ref (b n)])).length) Slot.unset).toArray = ls at hl ⊢
  have hl : lv_has ls 1 [(0, Value.ref (b n))] := hl
  unfold f_Al_size at hf
  refine lv_aload_n hx hb d_Al_size_0 rfl (lv_at hl 0 rfl) ?_
  refine gy_get (ci := 3) (v := Value.int (X0.I n 1)) (C := "java/util/ArrayList") (T := F_Al) (N := 3) hx hb hts i_Al hown hK Y (gF_Li hn) rfl 1 (by decide) kf_Al_48 rfl d_Al_size_1 ?_
  exact gy_iret hf hx hb hr hlocks hK Y (Nat.zero_le _) (Nat.zero_le _) d_Al_size_4

def f_Al_isEmpty (X0 : gX) (n : Nat) : Option (gR × gX) := (if (X0.I n 1) = (0 : Int32) then some (gR.i 1, X0) else some (gR.i 0, X0))
set_option maxHeartbeats 4000000 in
set_option maxRecDepth 100000 in
theorem K_Al_isEmpty (l : Launch) (htr : l.stackTraces = false) (D : va_G) (tys : List (ClassId × FieldType)) (z sz : Nat) (ws : va_W) (h : gm_M) (hM : gm_S h ws) (t : Nat → ClassId) (ht : gTy t tys) (b : Nat → Nat) (X0 : gX) (hw : gw D t b X0 h) (n : Nat) (hn : gLis n = true) (o : gR × gX) (hf : f_Al_isEmpty X0 n = some o) : gx_Met l y_Al_isEmpty [Cond.code y_Al_isEmpty b_Al_isEmpty 1 (some .boolean)] { frames := 1, cells := 0, slots := 0, locals := 12 } (gx_P z sz D classes tys ws [Value.ref (b n)]) (gx_Q D classes tys (va_A ws sz) (gPo D t b X0 o)) (0) (0) (va_A ws sz) := by
  refine gx_ofW (cc := b_Al_isEmpty) (maxL := 1) (ret := (some .boolean)) (by decide) rfl ?_
  intro p e s m args below meth c s₁ B hml hv
  obtain ⟨rfl, hsz, hz, hP, hK, hD0, hY⟩ := hv
  have hx := B.exec
  have hb := B.bytes
  have hr := B.returns
  have hts := hY.hts (#[Value.ref (b n)] : Array Value)
  have hown : s.vm.findClass "java/util/ArrayList" = some m.cls := findClass_of_methodNamed B.named
  have hlocks := B.notSynchronized
  subst hsz
  have hAz := gx_az hD0 hz
  have hD := hD0.self (sz := s.heap.size)
  have hA : ∀ q : Nat, s.heap.size ≤ q → va_A ws s.heap.size q := fun q h => Or.inr h
  generalize va_A ws s.heap.size = A at hD hA hAz ⊢
  have Y : gy D t b A s.heap X0 X0 s.heap [] := ⟨h, ⟨ws, hM, hP, hD, va_S.rf⟩, hw, gEq.rf⟩
  clear hP hD hM hD0 hw
  obtain ⟨ht0, ht1, ht2, ht3, ht4, ht5, ht6, ht7, ht8⟩ := id ht
  have hl := lv_entry ([Value.ref (b n)]) (n := 1) (Nat.le_of_ble_eq_true rfl)
  rw [lg_entry_eq]
  generalize (lg_sl ([Value.ref (b n)]) ++ List.replicate (1 - (lg_sl ([Value.ref (b n)])).length) Slot.unset).toArray = ls at hl ⊢
  have hl : lv_has ls 1 [(0, Value.ref (b n))] := hl
  unfold f_Al_isEmpty at hf
  refine lv_aload_n hx hb d_Al_isEmpty_0 rfl (lv_at hl 0 rfl) ?_
  refine gy_get (ci := 3) (v := Value.int (X0.I n 1)) (C := "java/util/ArrayList") (T := F_Al) (N := 3) hx hb hts i_Al hown hK Y (gF_Li hn) rfl 1 (by decide) kf_Al_48 rfl d_Al_isEmpty_1 ?_
  refine lv_if_ne (tgt := 11) hx hb d_Al_isEmpty_4 (by decide) (fun c4_2 => ?_) (fun c4_2 => ?_)
  · replace hf := gp_f c4_2 hf
    refine lv_iconst (v := 0) hx hb d_Al_isEmpty_11 (by decide) ?_
    exact gy_zret hf hx hb hr hlocks hK Y (Nat.zero_le _) (Nat.zero_le _) rfl d_Al_isEmpty_12
  · replace hf := gp_t c4_2 hf
    refine lv_iconst (v := 1) hx hb d_Al_isEmpty_7 (by decide) ?_
    refine lv_goto (tgt := 12) hx hb d_Al_isEmpty_8 (by decide) ?_
    exact gy_zret hf hx hb hr hlocks hK Y (Nat.zero_le _) (Nat.zero_le _) rfl d_Al_isEmpty_12

def f_Preconditions_checkIndex (X0 : gX) (a0 : Int32) (a1 : Int32) : Option (gR × gX) := (if a0 < (0 : Int32) then none else (if a0 < a1 then some (gR.i a0, X0) else none))
set_option maxHeartbeats 4000000 in
set_option maxRecDepth 100000 in
theorem K_Preconditions_checkIndex (l : Launch) (htr : l.stackTraces = false) (D : va_G) (tys : List (ClassId × FieldType)) (z sz : Nat) (ws : va_W) (h : gm_M) (hM : gm_S h ws) (t : Nat → ClassId) (ht : gTy t tys) (b : Nat → Nat) (X0 : gX) (hw : gw D t b X0 h) (a0 : Int32) (a1 : Int32) (o : gR × gX) (hf : f_Preconditions_checkIndex X0 a0 a1 = some o) : gx_Met l y_Preconditions_checkIndex [Cond.code y_Preconditions_checkIndex b_Preconditions_checkIndex 3 (some .int)] { frames := 1, cells := 0, slots := 0, locals := 12 } (gx_P z sz D classes tys ws [Value.int a0, Value.int a1, Value.null]) (gx_Q D classes tys (va_A ws sz) (gPo D t b X0 o)) (0) (0) (va_A ws sz) := by
  refine gx_ofW (cc := b_Preconditions_checkIndex) (maxL := 3) (ret := (some .int)) (by decide) rfl ?_
  intro p e s m args below meth c s₁ B hml hv
  obtain ⟨rfl, hsz, hz, hP, hK, hD0, hY⟩ := hv
  have hx := B.exec
  have hb := B.bytes
  have hr := B.returns
  have hts := hY.hts (#[Value.int a0, Value.int a1, Value.null] : Array Value)
  have hown : s.vm.findClass "jdk/internal/util/Preconditions" = some m.cls := findClass_of_methodNamed B.named
  have hlocks := B.notSynchronized
  subst hsz
  have hAz := gx_az hD0 hz
  have hD := hD0.self (sz := s.heap.size)
  have hA : ∀ q : Nat, s.heap.size ≤ q → va_A ws s.heap.size q := fun q h => Or.inr h
  generalize va_A ws s.heap.size = A at hD hA hAz ⊢
  have Y : gy D t b A s.heap X0 X0 s.heap [] := ⟨h, ⟨ws, hM, hP, hD, va_S.rf⟩, hw, gEq.rf⟩
  clear hP hD hM hD0 hw
  obtain ⟨ht0, ht1, ht2, ht3, ht4, ht5, ht6, ht7, ht8⟩ := id ht
  have hl := lv_entry ([Value.int a0, Value.int a1, Value.null]) (n := 3) (Nat.le_of_ble_eq_true rfl)
  rw [lg_entry_eq]
  generalize (lg_sl ([Value.int a0, Value.int a1, Value.null]) ++ List.replicate (3 - (lg_sl ([Value.int a0, Value.int a1, Value.null])).length) Slot.unset).toArray = ls at hl ⊢
  have hl : lv_has ls 3 [(0, Value.int a0), (1, Value.int a1), (2, Value.null)] := hl
  unfold f_Preconditions_checkIndex at hf
  refine lv_iload_n hx hb d_Preconditions_checkIndex_0 rfl (lv_at hl 0 rfl) ?_
  refine lv_if_lt (tgt := 9) hx hb d_Preconditions_checkIndex_1 (by decide) (fun c1_3 => ?_) (fun c1_3 => ?_)
  · replace hf := gp_t c1_3 hf
    refine lv_aload_nN hx hb d_Preconditions_checkIndex_9 rfl (lv_at hl 2 rfl) ?_
    refine lv_iload_n hx hb d_Preconditions_checkIndex_10 rfl (lv_at hl 0 rfl) ?_
    refine lv_iload_n hx hb d_Preconditions_checkIndex_11 rfl (lv_at hl 1 rfl) ?_
    cases hf
  · replace hf := gp_f c1_3 hf
    refine lv_iload_n hx hb d_Preconditions_checkIndex_4 rfl (lv_at hl 0 rfl) ?_
    refine lv_iload_n hx hb d_Preconditions_checkIndex_5 rfl (lv_at hl 1 rfl) ?_
    refine lv_icmp_lt (tgt := 16) hx hb d_Preconditions_checkIndex_6 (by decide) (fun c6_4 => ?_) (fun c6_4 => ?_)
    · replace hf := gp_t c6_4 hf
      refine lv_iload_n hx hb d_Preconditions_checkIndex_16 rfl (lv_at hl 0 rfl) ?_
      exact gy_iret hf hx hb hr hlocks hK Y (Nat.zero_le _) (Nat.zero_le _) d_Preconditions_checkIndex_17
    · replace hf := gp_f c6_4 hf
      refine lv_aload_nN hx hb d_Preconditions_checkIndex_9 rfl (lv_at hl 2 rfl) ?_
      refine lv_iload_n hx hb d_Preconditions_checkIndex_10 rfl (lv_at hl 0 rfl) ?_
      refine lv_iload_n hx hb d_Preconditions_checkIndex_11 rfl (lv_at hl 1 rfl) ?_
      cases hf

def f_Objects_checkIndex (X0 : gX) (a0 : Int32) (a1 : Int32) : Option (gR × gX) := gCi (f_Preconditions_checkIndex X0 a0 a1) (fun x1 X1 => some (gR.i x1, X1))
set_option maxHeartbeats 4000000 in
set_option maxRecDepth 100000 in
theorem K_Objects_checkIndex (l : Launch) (htr : l.stackTraces = false) (D : va_G) (tys : List (ClassId × FieldType)) (z sz : Nat) (ws : va_W) (h : gm_M) (hM : gm_S h ws) (t : Nat → ClassId) (ht : gTy t tys) (b : Nat → Nat) (X0 : gX) (hw : gw D t b X0 h) (a0 : Int32) (a1 : Int32) (o : gR × gX) (hf : f_Objects_checkIndex X0 a0 a1 = some o) : gx_Met l y_Objects_checkIndex [Cond.code y_Objects_checkIndex b_Objects_checkIndex 2 (some .int)] { frames := 2, cells := 0, slots := 0, locals := 34 } (gx_P z sz D classes tys ws [Value.int a0, Value.int a1]) (gx_Q D classes tys (va_A ws sz) (gPo D t b X0 o)) (0) (0) (va_A ws sz) := by
  refine gx_ofW (cc := b_Objects_checkIndex) (maxL := 2) (ret := (some .int)) (by decide) rfl ?_
  intro p e s m args below meth c s₁ B hml hv
  obtain ⟨rfl, hsz, hz, hP, hK, hD0, hY⟩ := hv
  have hx := B.exec
  have hb := B.bytes
  have hr := B.returns
  have hts := hY.hts (#[Value.int a0, Value.int a1] : Array Value)
  have hown : s.vm.findClass "java/util/Objects" = some m.cls := findClass_of_methodNamed B.named
  have hlocks := B.notSynchronized
  subst hsz
  have hAz := gx_az hD0 hz
  have hD := hD0.self (sz := s.heap.size)
  have hA : ∀ q : Nat, s.heap.size ≤ q → va_A ws s.heap.size q := fun q h => Or.inr h
  generalize va_A ws s.heap.size = A at hD hA hAz ⊢
  have Y : gy D t b A s.heap X0 X0 s.heap [] := ⟨h, ⟨ws, hM, hP, hD, va_S.rf⟩, hw, gEq.rf⟩
  clear hP hD hM hD0 hw
  obtain ⟨ht0, ht1, ht2, ht3, ht4, ht5, ht6, ht7, ht8⟩ := id ht
  have hl := lv_entry ([Value.int a0, Value.int a1]) (n := 2) (Nat.le_of_ble_eq_true rfl)
  rw [lg_entry_eq]
  generalize (lg_sl ([Value.int a0, Value.int a1]) ++ List.replicate (2 - (lg_sl ([Value.int a0, Value.int a1])).length) Slot.unset).toArray = ls at hl ⊢
  have hl : lv_has ls 2 [(0, Value.int a0), (1, Value.int a1)] := hl
  unfold f_Objects_checkIndex at hf
  refine lv_iload_n hx hb d_Objects_checkIndex_0 rfl (lv_at hl 0 rfl) ?_
  refine lv_iload_n hx hb d_Objects_checkIndex_1 rfl (lv_at hl 1 rfl) ?_
  refine lv_null hx hb d_Objects_checkIndex_2 ?_
  obtain ⟨x2, X2, hF2, hf⟩ := gCi_el hf
  refine gy_callI (rm := { frames := 1, cells := 0, slots := 0, locals := 12 }) (ig := .invokestatic 105) (av := [Value.int a0, Value.int a1, Value.null]) Y (fun ws h hS hw => K_Preconditions_checkIndex l htr D tys z _ ws h hS t ht b X0 hw a0 a1 (gR.i x2, X2) hF2) (gx_invS (As := [Value.int a0, Value.int a1, Value.null]) (rest := []) hx hb hown hts km_Objects_105 kS_Preconditions_checkIndex kN_Preconditions kc_Preconditions_checkIndex (by decide) (show (parseMethodDescriptor y_Preconditions_checkIndex.desc).map (fun d => d.parameters.length) = some 3 by decide +kernel) rfl rfl d_Objects_checkIndex_3) (gx_cw (z := 0) hts kc_Preconditions_checkIndex kN_Preconditions rfl rfl ⟨Nat.le_of_ble_eq_true rfl, Nat.le_of_ble_eq_true rfl⟩) hb hml hz hK hY hAz hA hl.1 (lv_room (Nat.le_of_ble_eq_true rfl)) d_Objects_checkIndex_3 ⟨Nat.zero_le _, Nat.zero_le _⟩ (fun H locs Y => ?_)
  exact gy_iret hf hx hb hr hlocks hK Y (Nat.zero_le _) (Nat.zero_le _) d_Objects_checkIndex_6

def f_Al_elementData (X0 : gX) (n : Nat) (a1 : Int32) : Option (gR × gX) := (if ¬ X0.L (n + 124) = 0 then (if ¬ X0.L (n + 124) = 0 then (if gIn a1 (X0.L (n + 124)) then some (gR.a (X0.G (n + 124) (gn a1)), X0) else none) else none) else none)
set_option maxHeartbeats 4000000 in
set_option maxRecDepth 100000 in
theorem K_Al_elementData (l : Launch) (htr : l.stackTraces = false) (D : va_G) (tys : List (ClassId × FieldType)) (z sz : Nat) (ws : va_W) (h : gm_M) (hM : gm_S h ws) (t : Nat → ClassId) (ht : gTy t tys) (b : Nat → Nat) (X0 : gX) (hw : gw D t b X0 h) (n : Nat) (hn : gLis n = true) (a1 : Int32) (o : gR × gX) (hf : f_Al_elementData X0 n a1 = some o) : gx_Met l y_Al_elementData [Cond.code y_Al_elementData b_Al_elementData 2 (some (.object "java/lang/Object"))] { frames := 1, cells := 0, slots := 0, locals := 12 } (gx_P z sz D classes tys ws [Value.ref (b n), Value.int a1]) (gx_Q D classes tys (va_A ws sz) (gPo D t b X0 o)) (0) (0) (va_A ws sz) := by
  refine gx_ofW (cc := b_Al_elementData) (maxL := 2) (ret := (some (.object "java/lang/Object"))) (by decide) rfl ?_
  intro p e s m args below meth c s₁ B hml hv
  obtain ⟨rfl, hsz, hz, hP, hK, hD0, hY⟩ := hv
  have hx := B.exec
  have hb := B.bytes
  have hr := B.returns
  have hts := hY.hts (#[Value.ref (b n), Value.int a1] : Array Value)
  have hown : s.vm.findClass "java/util/ArrayList" = some m.cls := findClass_of_methodNamed B.named
  have hlocks := B.notSynchronized
  subst hsz
  have hAz := gx_az hD0 hz
  have hD := hD0.self (sz := s.heap.size)
  have hA : ∀ q : Nat, s.heap.size ≤ q → va_A ws s.heap.size q := fun q h => Or.inr h
  generalize va_A ws s.heap.size = A at hD hA hAz ⊢
  have Y : gy D t b A s.heap X0 X0 s.heap [] := ⟨h, ⟨ws, hM, hP, hD, va_S.rf⟩, hw, gEq.rf⟩
  clear hP hD hM hD0 hw
  obtain ⟨ht0, ht1, ht2, ht3, ht4, ht5, ht6, ht7, ht8⟩ := id ht
  have hl := lv_entry ([Value.ref (b n), Value.int a1]) (n := 2) (Nat.le_of_ble_eq_true rfl)
  rw [lg_entry_eq]
  generalize (lg_sl ([Value.ref (b n), Value.int a1]) ++ List.replicate (2 - (lg_sl ([Value.ref (b n), Value.int a1])).length) Slot.unset).toArray = ls at hl ⊢
  have hl : lv_has ls 2 [(0, Value.ref (b n)), (1, Value.int a1)] := hl
  unfold f_Al_elementData at hf
  refine lv_aload_n hx hb d_Al_elementData_0 rfl (lv_at hl 0 rfl) ?_
  obtain ⟨hv3, hf⟩ := gp_g hf
  refine gy_get (ci := 3) (v := Value.ref (b (n + 124))) (C := "java/util/ArrayList") (T := F_Al) (N := 3) hx hb hts i_Al hown hK Y (gF_LiA hn hv3) rfl 0 (by decide) kf_Al_9 rfl d_Al_elementData_1 ?_
  refine lv_iload_n hx hb d_Al_elementData_4 rfl (lv_at hl 1 rfl) ?_
  obtain ⟨hv4, hf⟩ := gp_g hf
  refine gy_aald hf hx hb hK Y 7 (gF_LA hn hv4) ht7 d_Al_elementData_5 (fun hf => ?_)
  exact gy_aretO (x := (X0.G (n + 124) (gn a1))) hf hx hb hr hlocks hK Y (Nat.zero_le _) (Nat.zero_le _) d_Al_elementData_6

def f_Al_get (X0 : gX) (n : Nat) (a1 : Int32) : Option (gR × gX) := gCi (f_Objects_checkIndex X0 a1 (X0.I n 1)) (fun x1 X1 => gCa (f_Al_elementData X1 n a1) (fun x2 X2 => some (gR.a x2, X2)))
set_option maxHeartbeats 4000000 in
set_option maxRecDepth 100000 in
theorem K_Al_get (l : Launch) (htr : l.stackTraces = false) (D : va_G) (tys : List (ClassId × FieldType)) (z sz : Nat) (ws : va_W) (h : gm_M) (hM : gm_S h ws) (t : Nat → ClassId) (ht : gTy t tys) (b : Nat → Nat) (X0 : gX) (hw : gw D t b X0 h) (n : Nat) (hn : gLis n = true) (a1 : Int32) (o : gR × gX) (hf : f_Al_get X0 n a1 = some o) : gx_Met l y_Al_get [Cond.code y_Al_get b_Al_get 2 (some (.object "java/lang/Object"))] { frames := 3, cells := 0, slots := 0, locals := 55 } (gx_P z sz D classes tys ws [Value.ref (b n), Value.int a1]) (gx_Q D classes tys (va_A ws sz) (gPo D t b X0 o)) (0) (0) (va_A ws sz) := by
  refine gx_ofW (cc := b_Al_get) (maxL := 2) (ret := (some (.object "java/lang/Object"))) (by decide) rfl ?_
  intro p e s m args below meth c s₁ B hml hv
  obtain ⟨rfl, hsz, hz, hP, hK, hD0, hY⟩ := hv
  have hx := B.exec
  have hb := B.bytes
  have hr := B.returns
  have hts := hY.hts (#[Value.ref (b n), Value.int a1] : Array Value)
  have hown : s.vm.findClass "java/util/ArrayList" = some m.cls := findClass_of_methodNamed B.named
  have hlocks := B.notSynchronized
  subst hsz
  have hAz := gx_az hD0 hz
  have hD := hD0.self (sz := s.heap.size)
  have hA : ∀ q : Nat, s.heap.size ≤ q → va_A ws s.heap.size q := fun q h => Or.inr h
  generalize va_A ws s.heap.size = A at hD hA hAz ⊢
  have Y : gy D t b A s.heap X0 X0 s.heap [] := ⟨h, ⟨ws, hM, hP, hD, va_S.rf⟩, hw, gEq.rf⟩
  clear hP hD hM hD0 hw
  obtain ⟨ht0, ht1, ht2, ht3, ht4, ht5, ht6, ht7, ht8⟩ := id ht
  have hl := lv_entry ([Value.ref (b n), Value.int a1]) (n := 2) (Nat.le_of_ble_eq_true rfl)
  rw [lg_entry_eq]
  generalize (lg_sl ([Value.ref (b n), Value.int a1]) ++ List.replicate (2 - (lg_sl ([Value.ref (b n), Value.int a1])).length) Slot.unset).toArray = ls at hl ⊢
  have hl : lv_has ls 2 [(0, Value.ref (b n)), (1, Value.int a1)] := hl
  unfold f_Al_get at hf
  refine lv_iload_n hx hb d_Al_get_0 rfl (lv_at hl 1 rfl) ?_
  refine lv_aload_n hx hb d_Al_get_1 rfl (lv_at hl 0 rfl) ?_
  refine gy_get (ci := 3) (v := Value.int (X0.I n 1)) (C := "java/util/ArrayList") (T := F_Al) (N := 3) hx hb hts i_Al hown hK Y (gF_Li hn) rfl 1 (by decide) kf_Al_48 rfl d_Al_get_2 ?_
  obtain ⟨x3, X3, hF3, hf⟩ := gCi_el hf
  refine gy_callI (rm := { frames := 2, cells := 0, slots := 0, locals := 34 }) (ig := .invokestatic 118) (av := [Value.int a1, Value.int (X0.I n 1)]) Y (fun ws h hS hw => K_Objects_checkIndex l htr D tys z _ ws h hS t ht b X0 hw a1 (X0.I n 1) (gR.i x3, X3) hF3) (gx_invS (As := [Value.int a1, Value.int (X0.I n 1)]) (rest := []) hx hb hown hts km_Al_118 kS_Objects_checkIndex kN_Objects kc_Objects_checkIndex (by decide) (show (parseMethodDescriptor y_Objects_checkIndex.desc).map (fun d => d.parameters.length) = some 2 by decide +kernel) rfl rfl d_Al_get_5) (gx_cw (z := 0) hts kc_Objects_checkIndex kN_Objects rfl rfl ⟨Nat.le_of_ble_eq_true rfl, Nat.le_of_ble_eq_true rfl⟩) hb hml hz hK hY hAz hA hl.1 (lv_room (Nat.le_of_ble_eq_true rfl)) d_Al_get_5 ⟨Nat.zero_le _, Nat.zero_le _⟩ (fun H locs Y => ?_)
  refine lv_pop hx hb d_Al_get_8 rfl ?_
  refine lv_aload_n hx hb d_Al_get_9 rfl (lv_at hl 0 rfl) ?_
  refine lv_iload_n hx hb d_Al_get_10 rfl (lv_at hl 1 rfl) ?_
  obtain ⟨x4, X4, hF4, hf⟩ := gCa_el hf
  refine gy_callA (rm := { frames := 1, cells := 0, slots := 0, locals := 12 }) (ig := .invokevirtual 123) (av := [Value.ref (b n), Value.int a1]) Y (fun ws h hS hw => K_Al_elementData l htr D tys z _ ws h hS t ht b X3 hw n hn a1 (gR.a x4, X4) hF4) (gx_invV (As := [Value.int a1]) (rest := []) hx hb hown hts km_Al_123 kI_Al_elementData kV_Al_elementData kc_Al_elementData (by decide) (show (parseMethodDescriptor y_Al_elementData.desc).map (fun d => d.parameters.length) = some 1 by decide +kernel) (gy_recv (ci := 3) hK Y rfl (gF_Li hn)) rfl rfl d_Al_get_11) (gx_cw (z := 0) hts kc_Al_elementData kN_Al rfl rfl ⟨Nat.le_of_ble_eq_true rfl, Nat.le_of_ble_eq_true rfl⟩) hb hml hz hK hY hAz hA hl.1 (lv_room (Nat.le_of_ble_eq_true rfl)) d_Al_get_11 ⟨Nat.zero_le _, Nat.zero_le _⟩ (fun H locs Y => ?_)
  exact gy_aretO (x := x4) hf hx hb hr hlocks hK Y (Nat.zero_le _) (Nat.zero_le _) d_Al_get_14

def f_Al_set (X0 : gX) (n : Nat) (a1 : Int32) (m2 : Option Nat) : Option (gR × gX) := gCi (f_Objects_checkIndex X0 a1 (X0.I n 1)) (fun x1 X1 => gCa (f_Al_elementData X1 n a1) (fun x2 X2 => (if ¬ X2.L (n + 124) = 0 then (if ¬ X2.L (n + 124) = 0 then (if gIn a1 (X2.L (n + 124)) then (if gOf X2.N m2 then gB (X2.g (n + 124) (gn a1) m2) (fun X5 => some (gR.a x2, X5)) else none) else none) else none) else none)))
set_option maxHeartbeats 4000000 in
set_option maxRecDepth 100000 in
theorem K_Al_set (l : Launch) (htr : l.stackTraces = false) (D : va_G) (tys : List (ClassId × FieldType)) (z sz : Nat) (ws : va_W) (h : gm_M) (hM : gm_S h ws) (t : Nat → ClassId) (ht : gTy t tys) (b : Nat → Nat) (X0 : gX) (hw : gw D t b X0 h) (n : Nat) (hn : gLis n = true) (a1 : Int32) (m2 : Option Nat) (o : gR × gX) (hf : f_Al_set X0 n a1 m2 = some o) : gx_Met l y_Al_set [Cond.code y_Al_set b_Al_set 4 (some (.object "java/lang/Object"))] { frames := 3, cells := 0, slots := 0, locals := 55 } (gx_P z sz D classes tys ws [Value.ref (b n), Value.int a1, va_rf (Option.map b m2)]) (gx_Q D classes tys (va_A ws sz) (gPo D t b X0 o)) (0) (0) (va_A ws sz) := by
  refine gx_ofW (cc := b_Al_set) (maxL := 4) (ret := (some (.object "java/lang/Object"))) (by decide) rfl ?_
  intro p e s m args below meth c s₁ B hml hv
  obtain ⟨rfl, hsz, hz, hP, hK, hD0, hY⟩ := hv
  have hx := B.exec
  have hb := B.bytes
  have hr := B.returns
  have hts := hY.hts (#[Value.ref (b n), Value.int a1, va_rf (Option.map b m2)] : Array Value)
  have hown : s.vm.findClass "java/util/ArrayList" = some m.cls := findClass_of_methodNamed B.named
  have hlocks := B.notSynchronized
  subst hsz
  have hAz := gx_az hD0 hz
  have hD := hD0.self (sz := s.heap.size)
  have hA : ∀ q : Nat, s.heap.size ≤ q → va_A ws s.heap.size q := fun q h => Or.inr h
  generalize va_A ws s.heap.size = A at hD hA hAz ⊢
  have Y : gy D t b A s.heap X0 X0 s.heap [] := ⟨h, ⟨ws, hM, hP, hD, va_S.rf⟩, hw, gEq.rf⟩
  clear hP hD hM hD0 hw
  obtain ⟨ht0, ht1, ht2, ht3, ht4, ht5, ht6, ht7, ht8⟩ := id ht
  have hl := lv_entry ([Value.ref (b n), Value.int a1, va_rf (Option.map b m2)]) (n := 4) (by cases m2 <;> exact Nat.le_of_ble_eq_true rfl)
  rw [lg_entry_eq]
  generalize (lg_sl ([Value.ref (b n), Value.int a1, va_rf (Option.map b m2)]) ++ List.replicate (4 - (lg_sl ([Value.ref (b n), Value.int a1, va_rf (Option.map b m2)])).length) Slot.unset).toArray = ls at hl ⊢
  have hl : lv_has ls 4 [(0, Value.ref (b n)), (1, Value.int a1), (2, va_rf (Option.map b m2))] := by cases m2 <;> exact hl
  unfold f_Al_set at hf
  refine lv_iload_n hx hb d_Al_set_0 rfl (lv_at hl 1 rfl) ?_
  refine lv_aload_n hx hb d_Al_set_1 rfl (lv_at hl 0 rfl) ?_
  refine gy_get (ci := 3) (v := Value.int (X0.I n 1)) (C := "java/util/ArrayList") (T := F_Al) (N := 3) hx hb hts i_Al hown hK Y (gF_Li hn) rfl 1 (by decide) kf_Al_48 rfl d_Al_set_2 ?_
  obtain ⟨x6, X6, hF6, hf⟩ := gCi_el hf
  refine gy_callI (rm := { frames := 2, cells := 0, slots := 0, locals := 34 }) (ig := .invokestatic 118) (av := [Value.int a1, Value.int (X0.I n 1)]) Y (fun ws h hS hw => K_Objects_checkIndex l htr D tys z _ ws h hS t ht b X0 hw a1 (X0.I n 1) (gR.i x6, X6) hF6) (gx_invS (As := [Value.int a1, Value.int (X0.I n 1)]) (rest := []) hx hb hown hts km_Al_118 kS_Objects_checkIndex kN_Objects kc_Objects_checkIndex (by decide) (show (parseMethodDescriptor y_Objects_checkIndex.desc).map (fun d => d.parameters.length) = some 2 by decide +kernel) rfl rfl d_Al_set_5) (gx_cw (z := 0) hts kc_Objects_checkIndex kN_Objects rfl rfl ⟨Nat.le_of_ble_eq_true rfl, Nat.le_of_ble_eq_true rfl⟩) hb hml hz hK hY hAz hA hl.1 (lv_room (Nat.le_of_ble_eq_true rfl)) d_Al_set_5 ⟨Nat.zero_le _, Nat.zero_le _⟩ (fun H locs Y => ?_)
  refine lv_pop hx hb d_Al_set_8 rfl ?_
  refine lv_aload_n hx hb d_Al_set_9 rfl (lv_at hl 0 rfl) ?_
  refine lv_iload_n hx hb d_Al_set_10 rfl (lv_at hl 1 rfl) ?_
  obtain ⟨x7, X7, hF7, hf⟩ := gCa_el hf
  refine gy_callA (rm := { frames := 1, cells := 0, slots := 0, locals := 12 }) (ig := .invokevirtual 123) (av := [Value.ref (b n), Value.int a1]) Y (fun ws h hS hw => K_Al_elementData l htr D tys z _ ws h hS t ht b X6 hw n hn a1 (gR.a x7, X7) hF7) (gx_invV (As := [Value.int a1]) (rest := []) hx hb hown hts km_Al_123 kI_Al_elementData kV_Al_elementData kc_Al_elementData (by decide) (show (parseMethodDescriptor y_Al_elementData.desc).map (fun d => d.parameters.length) = some 1 by decide +kernel) (gy_recv (ci := 3) hK Y rfl (gF_Li hn)) rfl rfl d_Al_set_11) (gx_cw (z := 0) hts kc_Al_elementData kN_Al rfl rfl ⟨Nat.le_of_ble_eq_true rfl, Nat.le_of_ble_eq_true rfl⟩) hb hml hz hK hY hAz hA hl.1 (lv_room (Nat.le_of_ble_eq_true rfl)) d_Al_set_11 ⟨Nat.zero_le _, Nat.zero_le _⟩ (fun H locs Y => ?_)
  refine lv_astore_nO (lv' := [(3, va_rf (Option.map b x7)), (0, Value.ref (b n)), (1, Value.int a1), (2, va_rf (Option.map b m2))]) hx hb d_Al_set_14 rfl hl (by decide) (by generalize Option.map b m2 = z9; cases z9 <;> rfl) (fun ls hl => ?_)
  refine lv_aload_n hx hb d_Al_set_15 rfl (lv_at hl 1 rfl) ?_
  obtain ⟨hv8, hf⟩ := gp_g hf
  refine gy_get (ci := 3) (v := Value.ref (b (n + 124))) (C := "java/util/ArrayList") (T := F_Al) (N := 3) hx hb hts i_Al hown hK Y (gF_LiA hn hv8) rfl 0 (by decide) kf_Al_9 rfl d_Al_set_16 ?_
  refine lv_iload_n hx hb d_Al_set_19 rfl (lv_at hl 2 rfl) ?_
  refine lv_aload_nO hx hb d_Al_set_20 rfl (lv_at hl 3 rfl) ?_
  obtain ⟨hv9, hf⟩ := gp_g hf
  refine gy_aastL (x := m2) hf hx hb hts hK Y 7 (fun _ => (gF_LA hn hv9)) ht7 d_Al_set_21 (fun X10 H locs hf Y => ?_)
  refine lv_aload_nO hx hb d_Al_set_22 rfl (lv_at hl 0 rfl) ?_
  exact gy_aretO (x := x7) hf hx hb hr hlocks hK Y (Nat.zero_le _) (Nat.zero_le _) d_Al_set_23

def f_Al_fastRemove (X0 : gX) (n : Nat) (a2 : Int32) : Option (gR × gX) := gB (X0.w n 2 ((X0.I n 2) + 1)) (fun X1 => (if ((X1.I n 1) - 1) ≤ a2 then gB (X1.w n 1 ((X1.I n 1) - 1)) (fun X3 => (if ¬ X3.L (n + 124) = 0 then (if gIn ((X1.I n 1) - 1) (X3.L (n + 124)) then (if gOf X3.N none then gB (X3.g (n + 124) (gn ((X1.I n 1) - 1)) none) (fun X5 => some (gR.v, X5)) else none) else none) else none)) else none))
set_option maxHeartbeats 4000000 in
set_option maxRecDepth 100000 in
theorem K_Al_fastRemove (l : Launch) (htr : l.stackTraces = false) (D : va_G) (tys : List (ClassId × FieldType)) (z sz : Nat) (ws : va_W) (h : gm_M) (hM : gm_S h ws) (t : Nat → ClassId) (ht : gTy t tys) (b : Nat → Nat) (X0 : gX) (hw : gw D t b X0 h) (n : Nat) (hn : gLis n = true) (a2 : Int32) (o : gR × gX) (hf : f_Al_fastRemove X0 n a2 = some o) : gx_Met l y_Al_fastRemove [Cond.code y_Al_fastRemove b_Al_fastRemove 4 none] { frames := 1, cells := 0, slots := 0, locals := 12 } (gx_P z sz D classes tys ws [Value.ref (b n), Value.ref (b (n + 124)), Value.int a2]) (gx_Q D classes tys (va_A ws sz) (gPo D t b X0 o)) (0) (0) (va_A ws sz) := by
  refine gx_ofW (cc := b_Al_fastRemove) (maxL := 4) (ret := none) (by decide) rfl ?_
  intro p e s m args below meth c s₁ B hml hv
  obtain ⟨rfl, hsz, hz, hP, hK, hD0, hY⟩ := hv
  have hx := B.exec
  have hb := B.bytes
  have hr := B.returns
  have hts := hY.hts (#[Value.ref (b n), Value.ref (b (n + 124)), Value.int a2] : Array Value)
  have hown : s.vm.findClass "java/util/ArrayList" = some m.cls := findClass_of_methodNamed B.named
  have hlocks := B.notSynchronized
  subst hsz
  have hAz := gx_az hD0 hz
  have hD := hD0.self (sz := s.heap.size)
  have hA : ∀ q : Nat, s.heap.size ≤ q → va_A ws s.heap.size q := fun q h => Or.inr h
  generalize va_A ws s.heap.size = A at hD hA hAz ⊢
  have Y : gy D t b A s.heap X0 X0 s.heap [] := ⟨h, ⟨ws, hM, hP, hD, va_S.rf⟩, hw, gEq.rf⟩
  clear hP hD hM hD0 hw
  obtain ⟨ht0, ht1, ht2, ht3, ht4, ht5, ht6, ht7, ht8⟩ := id ht
  have hl := lv_entry ([Value.ref (b n), Value.ref (b (n + 124)), Value.int a2]) (n := 4) (Nat.le_of_ble_eq_true rfl)
  rw [lg_entry_eq]
  generalize (lg_sl ([Value.ref (b n), Value.ref (b (n + 124)), Value.int a2]) ++ List.replicate (4 - (lg_sl ([Value.ref (b n), Value.ref (b (n + 124)), Value.int a2])).length) Slot.unset).toArray = ls at hl ⊢
  have hl : lv_has ls 4 [(0, Value.ref (b n)), (1, Value.ref (b (n + 124))), (2, Value.int a2)] := hl
  unfold f_Al_fastRemove at hf
  refine lv_aload_n hx hb d_Al_fastRemove_0 rfl (lv_at hl 0 rfl) ?_
  refine lv_dup hx hb d_Al_fastRemove_1 rfl ?_
  refine gy_getI (ci := 3) (v := Value.int (X0.I n 2)) (C := "java/util/ArrayList") (T := F_Al) (N := 3) hx hb hts i_Al hown hK Y (gF_Li hn) rfl 2 (by decide) kf_Al_63 kW_mod rfl d_Al_fastRemove_2 ?_
  refine lv_iconst (v := 1) hx hb d_Al_fastRemove_5 (by decide) ?_
  refine lv_iadd hx hb d_Al_fastRemove_6 ?_
  refine gy_putI hf (ci := 3) (ty := .int) (C := "java/util/ArrayList") (T := F_Al) (N := 3) hx hb hts i_Al t_Al_ok n_Al hown hK Y (gF_Li hn) rfl (by decide) kf_Al_63 kW_mod rfl (by decide +kernel) rfl rfl (Nat.le_of_ble_eq_true rfl) (gF_Li hn) d_Al_fastRemove_7 (fun X6 H locs hf Y => ?_)
  refine lv_aload_n hx hb d_Al_fastRemove_10 rfl (lv_at hl 0 rfl) ?_
  refine gy_get (ci := 3) (v := Value.int (X6.I n 1)) (C := "java/util/ArrayList") (T := F_Al) (N := 3) hx hb hts i_Al hown hK Y (gF_Li hn) rfl 1 (by decide) kf_Al_48 rfl d_Al_fastRemove_11 ?_
  refine lv_iconst (v := 1) hx hb d_Al_fastRemove_14 (by decide) ?_
  refine lv_isub hx hb d_Al_fastRemove_15 ?_
  refine lv_dup hx hb d_Al_fastRemove_16 rfl ?_
  refine lv_istore_n (lv' := [(3, Value.int ((X6.I n 1) - 1)), (0, Value.ref (b n)), (1, Value.ref (b (n + 124))), (2, Value.int a2)]) hx hb d_Al_fastRemove_17 rfl hl (by decide) rfl (fun ls hl => ?_)
  refine lv_iload_n hx hb d_Al_fastRemove_18 rfl (lv_at hl 3 rfl) ?_
  refine lv_icmp_le (tgt := 34) hx hb d_Al_fastRemove_19 (by decide) (fun c19_7 => ?_) (fun c19_7 => ?_)
  · replace hf := gp_t c19_7 hf
    refine lv_aload_n hx hb d_Al_fastRemove_34 rfl (lv_at hl 2 rfl) ?_
    refine lv_aload_n hx hb d_Al_fastRemove_35 rfl (lv_at hl 1 rfl) ?_
    refine lv_iload_n hx hb d_Al_fastRemove_36 rfl (lv_at hl 0 rfl) ?_
    refine lv_dup_x1 hx hb d_Al_fastRemove_37 rfl rfl ?_
    refine gy_put hf (ci := 3) (ty := .int) (C := "java/util/ArrayList") (T := F_Al) (N := 3) hx hb hts i_Al t_Al_ok n_Al hown hK Y (gF_Li hn) rfl (by decide) kf_Al_48 rfl (by decide +kernel) rfl rfl (Nat.le_of_ble_eq_true rfl) (gF_Li hn) d_Al_fastRemove_38 (fun X8 H locs hf Y => ?_)
    refine lv_null hx hb d_Al_fastRemove_41 ?_
    obtain ⟨hv9, hf⟩ := gp_g hf
    refine gy_aastL (x := none) hf hx hb hts hK Y 7 (fun _ => (gF_LA hn hv9)) ht7 d_Al_fastRemove_42 (fun X10 H locs hf Y => ?_)
    exact gy_vret hf hx hb hr hlocks hK Y (Nat.zero_le _) (Nat.zero_le _) d_Al_fastRemove_43
  · replace hf := gp_f c19_7 hf
    refine lv_aload_n hx hb d_Al_fastRemove_22 rfl (lv_at hl 2 rfl) ?_
    refine lv_iload_n hx hb d_Al_fastRemove_23 rfl (lv_at hl 3 rfl) ?_
    refine lv_iconst (v := 1) hx hb d_Al_fastRemove_24 (by decide) ?_
    refine lv_iadd hx hb d_Al_fastRemove_25 ?_
    refine lv_aload_n hx hb d_Al_fastRemove_26 rfl (lv_at hl 2 rfl) ?_
    refine lv_iload_n hx hb d_Al_fastRemove_27 rfl (lv_at hl 3 rfl) ?_
    refine lv_iload_n hx hb d_Al_fastRemove_28 rfl (lv_at hl 0 rfl) ?_
    refine lv_iload_n hx hb d_Al_fastRemove_29 rfl (lv_at hl 3 rfl) ?_
    refine lv_isub hx hb d_Al_fastRemove_30 ?_
    cases hf

def f_Al_remove (X0 : gX) (n : Nat) (a1 : Int32) : Option (gR × gX) := gCi (f_Objects_checkIndex X0 a1 (X0.I n 1)) (fun x1 X1 => (if ¬ X1.L (n + 124) = 0 then (if ¬ X1.L (n + 124) = 0 then (if gIn a1 (X1.L (n + 124)) then gCv (f_Al_fastRemove X1 n a1) (fun X4 => some (gR.a (X1.G (n + 124) (gn a1)), X4)) else none) else none) else none))
set_option maxHeartbeats 4000000 in
set_option maxRecDepth 100000 in
theorem K_Al_remove (l : Launch) (htr : l.stackTraces = false) (D : va_G) (tys : List (ClassId × FieldType)) (z sz : Nat) (ws : va_W) (h : gm_M) (hM : gm_S h ws) (t : Nat → ClassId) (ht : gTy t tys) (b : Nat → Nat) (X0 : gX) (hw : gw D t b X0 h) (n : Nat) (hn : gLis n = true) (a1 : Int32) (o : gR × gX) (hf : f_Al_remove X0 n a1 = some o) : gx_Met l y_Al_remove [Cond.code y_Al_remove b_Al_remove 4 (some (.object "java/lang/Object"))] { frames := 3, cells := 0, slots := 0, locals := 55 } (gx_P z sz D classes tys ws [Value.ref (b n), Value.int a1]) (gx_Q D classes tys (va_A ws sz) (gPo D t b X0 o)) (0) (0) (va_A ws sz) := by
  refine gx_ofW (cc := b_Al_remove) (maxL := 4) (ret := (some (.object "java/lang/Object"))) (by decide) rfl ?_
  intro p e s m args below meth c s₁ B hml hv
  obtain ⟨rfl, hsz, hz, hP, hK, hD0, hY⟩ := hv
  have hx := B.exec
  have hb := B.bytes
  have hr := B.returns
  have hts := hY.hts (#[Value.ref (b n), Value.int a1] : Array Value)
  have hown : s.vm.findClass "java/util/ArrayList" = some m.cls := findClass_of_methodNamed B.named
  have hlocks := B.notSynchronized
  subst hsz
  have hAz := gx_az hD0 hz
  have hD := hD0.self (sz := s.heap.size)
  have hA : ∀ q : Nat, s.heap.size ≤ q → va_A ws s.heap.size q := fun q h => Or.inr h
  generalize va_A ws s.heap.size = A at hD hA hAz ⊢
  have Y : gy D t b A s.heap X0 X0 s.heap [] := ⟨h, ⟨ws, hM, hP, hD, va_S.rf⟩, hw, gEq.rf⟩
  clear hP hD hM hD0 hw
  obtain ⟨ht0, ht1, ht2, ht3, ht4, ht5, ht6, ht7, ht8⟩ := id ht
  have hl := lv_entry ([Value.ref (b n), Value.int a1]) (n := 4) (Nat.le_of_ble_eq_true rfl)
  rw [lg_entry_eq]
  generalize (lg_sl ([Value.ref (b n), Value.int a1]) ++ List.replicate (4 - (lg_sl ([Value.ref (b n), Value.int a1])).length) Slot.unset).toArray = ls at hl ⊢
  have hl : lv_has ls 4 [(0, Value.ref (b n)), (1, Value.int a1)] := hl
  unfold f_Al_remove at hf
  refine lv_iload_n hx hb d_Al_remove_0 rfl (lv_at hl 1 rfl) ?_
  refine lv_aload_n hx hb d_Al_remove_1 rfl (lv_at hl 0 rfl) ?_
  refine gy_get (ci := 3) (v := Value.int (X0.I n 1)) (C := "java/util/ArrayList") (T := F_Al) (N := 3) hx hb hts i_Al hown hK Y (gF_Li hn) rfl 1 (by decide) kf_Al_48 rfl d_Al_remove_2 ?_
  obtain ⟨x5, X5, hF5, hf⟩ := gCi_el hf
  refine gy_callI (rm := { frames := 2, cells := 0, slots := 0, locals := 34 }) (ig := .invokestatic 118) (av := [Value.int a1, Value.int (X0.I n 1)]) Y (fun ws h hS hw => K_Objects_checkIndex l htr D tys z _ ws h hS t ht b X0 hw a1 (X0.I n 1) (gR.i x5, X5) hF5) (gx_invS (As := [Value.int a1, Value.int (X0.I n 1)]) (rest := []) hx hb hown hts km_Al_118 kS_Objects_checkIndex kN_Objects kc_Objects_checkIndex (by decide) (show (parseMethodDescriptor y_Objects_checkIndex.desc).map (fun d => d.parameters.length) = some 2 by decide +kernel) rfl rfl d_Al_remove_5) (gx_cw (z := 0) hts kc_Objects_checkIndex kN_Objects rfl rfl ⟨Nat.le_of_ble_eq_true rfl, Nat.le_of_ble_eq_true rfl⟩) hb hml hz hK hY hAz hA hl.1 (lv_room (Nat.le_of_ble_eq_true rfl)) d_Al_remove_5 ⟨Nat.zero_le _, Nat.zero_le _⟩ (fun H locs Y => ?_)
  refine lv_pop hx hb d_Al_remove_8 rfl ?_
  refine lv_aload_n hx hb d_Al_remove_9 rfl (lv_at hl 0 rfl) ?_
  obtain ⟨hv6, hf⟩ := gp_g hf
  refine gy_get (ci := 3) (v := Value.ref (b (n + 124))) (C := "java/util/ArrayList") (T := F_Al) (N := 3) hx hb hts i_Al hown hK Y (gF_LiA hn hv6) rfl 0 (by decide) kf_Al_9 rfl d_Al_remove_10 ?_
  refine lv_astore_n (lv' := [(2, Value.ref (b (n + 124))), (0, Value.ref (b n)), (1, Value.int a1)]) hx hb d_Al_remove_13 rfl hl (by decide) rfl (fun ls hl => ?_)
  refine lv_aload_n hx hb d_Al_remove_14 rfl (lv_at hl 0 rfl) ?_
  refine lv_iload_n hx hb d_Al_remove_15 rfl (lv_at hl 2 rfl) ?_
  obtain ⟨hv7, hf⟩ := gp_g hf
  refine gy_aald hf hx hb hK Y 7 (gF_LA hn hv7) ht7 d_Al_remove_16 (fun hf => ?_)
  refine lv_astore_nO (lv' := [(3, va_rf (Option.map b (X5.G (n + 124) (gn a1)))), (2, Value.ref (b (n + 124))), (0, Value.ref (b n)), (1, Value.int a1)]) hx hb d_Al_remove_17 rfl hl (by decide) rfl (fun ls hl => ?_)
  refine lv_aload_n hx hb d_Al_remove_18 rfl (lv_at hl 2 rfl) ?_
  refine lv_aload_n hx hb d_Al_remove_19 rfl (lv_at hl 1 rfl) ?_
  refine lv_iload_n hx hb d_Al_remove_20 rfl (lv_at hl 3 rfl) ?_
  obtain ⟨X8, hF8, hf⟩ := gCv_el hf
  refine gy_callV (rm := { frames := 1, cells := 0, slots := 0, locals := 12 }) (ig := .invokevirtual 144) (av := [Value.ref (b n), Value.ref (b (n + 124)), Value.int a1]) Y (fun ws h hS hw => K_Al_fastRemove l htr D tys z _ ws h hS t ht b X5 hw n hn a1 (gR.v, X8) hF8) (gx_invV (As := [Value.ref (b (n + 124)), Value.int a1]) (rest := []) hx hb hown hts km_Al_144 kI_Al_fastRemove kV_Al_fastRemove kc_Al_fastRemove (by decide) (show (parseMethodDescriptor y_Al_fastRemove.desc).map (fun d => d.parameters.length) = some 2 by decide +kernel) (gy_recv (ci := 3) hK Y rfl (gF_Li hn)) rfl rfl d_Al_remove_21) (gx_cw (z := 0) hts kc_Al_fastRemove kN_Al rfl rfl ⟨Nat.le_of_ble_eq_true rfl, Nat.le_of_ble_eq_true rfl⟩) hb hml hz hK hY hAz hA hl.1 (lv_room (Nat.le_of_ble_eq_true rfl)) d_Al_remove_21 ⟨Nat.zero_le _, Nat.zero_le _⟩ (fun H locs Y => ?_)
  refine lv_aload_nO hx hb d_Al_remove_24 rfl (lv_at hl 0 rfl) ?_
  exact gy_aretO (x := (X5.G (n + 124) (gn a1))) hf hx hb hr hlocks hK Y (Nat.zero_le _) (Nat.zero_le _) d_Al_remove_25

def f_Di_find_2 (X : gX) (i1 : Int32) (i2 : Int32) : Option ((gX × Int32) ⊕ (gR × gX)) := gCi (f_Al_size X 6) (fun x2 X2 => (if x2 ≤ i2 then gLf (some (gR.a none, X2)) else gCa (f_Al_get X2 6 i2) (fun x4 X4 => gM x4 (fun n5 => (if gFile X4.N n5 then (if (X4.I n5 0) = i1 then gCa (f_Al_get X4 6 i2) (fun x8 X8 => gM x8 (fun n9 => (if gFile X8.N n9 then gLf (some (gR.a (some n9), X8)) else none))) else some (Sum.inl (X4, i2 + 1))) else none)))))
def f_Di_find (X0 : gX) (a1 : Int32) : Option (gR × gX) := gI (fun s : gX × Int32 => f_Di_find_2 s.1 a1 s.2) gK (X0, 0)
set_option maxHeartbeats 4000000 in
set_option maxRecDepth 100000 in
theorem K_Di_find (l : Launch) (htr : l.stackTraces = false) (D : va_G) (tys : List (ClassId × FieldType)) (z sz : Nat) (ws : va_W) (h : gm_M) (hM : gm_S h ws) (t : Nat → ClassId) (ht : gTy t tys) (b : Nat → Nat) (X0 : gX) (hw : gw D t b X0 h) (a1 : Int32) (o : gR × gX) (hf : f_Di_find X0 a1 = some o) : gx_Met l y_Di_find [Cond.code y_Di_find b_Di_find 3 (some (.object "CommitLedger$LedgerFile"))] { frames := 4, cells := 0, slots := 0, locals := 76 } (gx_P z sz D classes tys ws [Value.ref (b 5), Value.int a1]) (gx_Q D classes tys (va_A ws sz) (gPo D t b X0 o)) (0) (0) (va_A ws sz) := by
  refine gx_ofW (cc := b_Di_find) (maxL := 3) (ret := (some (.object "CommitLedger$LedgerFile"))) (by decide) rfl ?_
  intro p e s m args below meth c s₁ B hml hv
  obtain ⟨rfl, hsz, hz, hP, hK, hD0, hY⟩ := hv
  have hx := B.exec
  have hb := B.bytes
  have hr := B.returns
  have hts := hY.hts (#[Value.ref (b 5), Value.int a1] : Array Value)
  have hown : s.vm.findClass "CommitLedger$Directory" = some m.cls := findClass_of_methodNamed B.named
  have hlocks := B.notSynchronized
  subst hsz
  have hAz := gx_az hD0 hz
  have hD := hD0.self (sz := s.heap.size)
  have hA : ∀ q : Nat, s.heap.size ≤ q → va_A ws s.heap.size q := fun q h => Or.inr h
  generalize va_A ws s.heap.size = A at hD hA hAz ⊢
  have Y : gy D t b A s.heap X0 X0 s.heap [] := ⟨h, ⟨ws, hM, hP, hD, va_S.rf⟩, hw, gEq.rf⟩
  clear hP hD hM hD0 hw
  obtain ⟨ht0, ht1, ht2, ht3, ht4, ht5, ht6, ht7, ht8⟩ := id ht
  have hl := lv_entry ([Value.ref (b 5), Value.int a1]) (n := 3) (Nat.le_of_ble_eq_true rfl)
  rw [lg_entry_eq]
  generalize (lg_sl ([Value.ref (b 5), Value.int a1]) ++ List.replicate (3 - (lg_sl ([Value.ref (b 5), Value.int a1])).length) Slot.unset).toArray = ls at hl ⊢
  have hl : lv_has ls 3 [(0, Value.ref (b 5)), (1, Value.int a1)] := hl
  unfold f_Di_find at hf
  refine lv_iconst (v := 0) hx hb d_Di_find_0 (by decide) ?_
  refine lv_istore_n (lv' := [(2, Value.int 0), (0, Value.ref (b 5)), (1, Value.int a1)]) hx hb d_Di_find_1 rfl hl (by decide) rfl (fun ls hl => ?_)
  refine gy_iter (fun s : gX × Int32 => s.1) (fun (s : gX × Int32) ls => lv_has ls 3 [(2, Value.int s.2), (0, Value.ref (b 5)), (1, Value.int a1)]) ?_ gK (X0, 0) _ _ _ hf (lv_sub hl [0, 1, 2] rfl) Y
  rintro ⟨X20, i2_20⟩ u20 H locs ls hf hl Y hk20 ho20
  have hl : lv_has ls 3 [(2, Value.int i2_20), (0, Value.ref (b 5)), (1, Value.int a1)] := hl
  have Y : gy D t b A s.heap X0 X20 H locs := Y
  have hf : f_Di_find_2 X20 a1 i2_20 = some u20 := hf
  unfold f_Di_find_2 at hf
  refine lv_iload_n hx hb d_Di_find_2 rfl (lv_at hl 0 rfl) ?_
  refine lv_aload_n hx hb d_Di_find_3 rfl (lv_at hl 1 rfl) ?_
  refine gy_get (ci := 2) (v := Value.ref (b 6)) (C := "CommitLedger$Directory") (T := F_Di) (N := 4) hx hb hts i_Di hown hK Y gF_5 rfl 0 (by decide) kf_Di_10 rfl d_Di_find_4 ?_
  obtain ⟨x21, X21, hF21, hf⟩ := gCi_el hf
  refine gy_callI (rm := { frames := 1, cells := 0, slots := 0, locals := 12 }) (ig := .invokevirtual 26) (av := [Value.ref (b 6)]) Y (fun ws h hS hw => K_Al_size l htr D tys z _ ws h hS t ht b X20 hw 6 (by decide) (gR.i x21, X21) hF21) (gx_invV (As := []) (rest := [Value.int i2_20]) hx hb hown hts km_Di_26 kI_Al_size kV_Al_size kc_Al_size (by decide) (show (parseMethodDescriptor y_Al_size.desc).map (fun d => d.parameters.length) = some 0 by decide +kernel) (gy_recv (ci := 3) hK Y rfl gF_6) rfl rfl d_Di_find_7) (gx_cw (z := 0) hts kc_Al_size kN_Al rfl rfl ⟨Nat.le_of_ble_eq_true rfl, Nat.le_of_ble_eq_true rfl⟩) hb hml hz hK hY hAz hA hl.1 (lv_room (Nat.le_of_ble_eq_true rfl)) d_Di_find_7 ⟨Nat.zero_le _, Nat.zero_le _⟩ (fun H locs Y => ?_)
  refine lv_icmp_ge (tgt := 49) hx hb d_Di_find_10 (by decide) (fun c10_22 => ?_) (fun c10_22 => ?_)
  · replace hf := gp_t c10_22 hf
    refine lv_null hx hb d_Di_find_49 ?_
    replace hf := gU hf ho20
    exact gy_aretO (x := none) hf hx hb hr hlocks hK Y (Nat.zero_le _) (Nat.zero_le _) d_Di_find_50
  · replace hf := gp_f c10_22 hf
    refine lv_aload_n hx hb d_Di_find_13 rfl (lv_at hl 1 rfl) ?_
    refine gy_get (ci := 2) (v := Value.ref (b 6)) (C := "CommitLedger$Directory") (T := F_Di) (N := 4) hx hb hts i_Di hown hK Y gF_5 rfl 0 (by decide) kf_Di_10 rfl d_Di_find_14 ?_
    refine lv_iload_n hx hb d_Di_find_17 rfl (lv_at hl 0 rfl) ?_
    obtain ⟨x23, X23, hF23, hf⟩ := gCa_el hf
    refine gy_callA (rm := { frames := 3, cells := 0, slots := 0, locals := 55 }) (ig := .invokevirtual 64) (av := [Value.ref (b 6), Value.int i2_20]) Y (fun ws h hS hw => K_Al_get l htr D tys z _ ws h hS t ht b X21 hw 6 (by decide) i2_20 (gR.a x23, X23) hF23) (gx_invV (As := [Value.int i2_20]) (rest := []) hx hb hown hts km_Di_64 kI_Al_get kV_Al_get kc_Al_get (by decide) (show (parseMethodDescriptor y_Al_get.desc).map (fun d => d.parameters.length) = some 1 by decide +kernel) (gy_recv (ci := 3) hK Y rfl gF_6) rfl rfl d_Di_find_18) (gx_cw (z := 0) hts kc_Al_get kN_Al rfl rfl ⟨Nat.le_of_ble_eq_true rfl, Nat.le_of_ble_eq_true rfl⟩) hb hml hz hK hY hAz hA hl.1 (lv_room (Nat.le_of_ble_eq_true rfl)) d_Di_find_18 ⟨Nat.zero_le _, Nat.zero_le _⟩ (fun H locs Y => ?_)
    obtain ⟨n24, e24, hf⟩ := gM_el hf
    refine W.eq (g2 := F0 m 21 ls [Value.ref (b n24)]) (by rw [e24] <;> rfl) ?_
    obtain ⟨hv25, hf⟩ := gp_g hf
    refine va_castY (C := "CommitLedger$LedgerFile") hx hb hown (hts _ kk_Di_23) (va_Nw.of rfl (hts _ kW_FiFi)) (gy_recv (ci := 7) hK Y rfl (gF_Fi hv25)) d_Di_find_21 ?_
    refine gy_get (ci := 7) (v := Value.int (X23.I n24 0)) (C := "CommitLedger$LedgerFile") (T := F_Fi) (N := 7) hx hb hts i_Fi hown hK Y (gF_Fi hv25) rfl 0 (by decide) kf_Di_38 rfl d_Di_find_24 ?_
    refine lv_iload_n hx hb d_Di_find_27 rfl (lv_at hl 2 rfl) ?_
    refine lv_icmp_ne (tgt := 43) hx hb d_Di_find_28 (by decide) (fun c28_26 => ?_) (fun c28_26 => ?_)
    · replace hf := gp_f c28_26 hf
      refine lv_iinc (v := i2_20 + 1) (lv' := [(2, Value.int (i2_20 + 1)), (0, Value.ref (b 5)), (1, Value.int a1)]) hx hb d_Di_find_43 hl (k := 0) rfl (rfl) (by decide) rfl (fun ls hl => ?_)
      refine lv_goto (tgt := 2) hx hb d_Di_find_46 (by decide) ?_
      exact hk20 _ _ _ _ hf (lv_sub hl [0, 1, 2] rfl) Y
    · replace hf := gp_t c28_26 hf
      refine lv_aload_n hx hb d_Di_find_31 rfl (lv_at hl 1 rfl) ?_
      refine gy_get (ci := 2) (v := Value.ref (b 6)) (C := "CommitLedger$Directory") (T := F_Di) (N := 4) hx hb hts i_Di hown hK Y gF_5 rfl 0 (by decide) kf_Di_10 rfl d_Di_find_32 ?_
      refine lv_iload_n hx hb d_Di_find_35 rfl (lv_at hl 0 rfl) ?_
      obtain ⟨x27, X27, hF27, hf⟩ := gCa_el hf
      refine gy_callA (rm := { frames := 3, cells := 0, slots := 0, locals := 55 }) (ig := .invokevirtual 64) (av := [Value.ref (b 6), Value.int i2_20]) Y (fun ws h hS hw => K_Al_get l htr D tys z _ ws h hS t ht b X23 hw 6 (by decide) i2_20 (gR.a x27, X27) hF27) (gx_invV (As := [Value.int i2_20]) (rest := []) hx hb hown hts km_Di_64 kI_Al_get kV_Al_get kc_Al_get (by decide) (show (parseMethodDescriptor y_Al_get.desc).map (fun d => d.parameters.length) = some 1 by decide +kernel) (gy_recv (ci := 3) hK Y rfl gF_6) rfl rfl d_Di_find_36) (gx_cw (z := 0) hts kc_Al_get kN_Al rfl rfl ⟨Nat.le_of_ble_eq_true rfl, Nat.le_of_ble_eq_true rfl⟩) hb hml hz hK hY hAz hA hl.1 (lv_room (Nat.le_of_ble_eq_true rfl)) d_Di_find_36 ⟨Nat.zero_le _, Nat.zero_le _⟩ (fun H locs Y => ?_)
      obtain ⟨n28, e28, hf⟩ := gM_el hf
      refine W.eq (g2 := F0 m 39 ls [Value.ref (b n28)]) (by rw [e28] <;> rfl) ?_
      obtain ⟨hv29, hf⟩ := gp_g hf
      refine va_castY (C := "CommitLedger$LedgerFile") hx hb hown (hts _ kk_Di_23) (va_Nw.of rfl (hts _ kW_FiFi)) (gy_recv (ci := 7) hK Y rfl (gF_Fi hv29)) d_Di_find_39 ?_
      replace hf := gU hf ho20
      exact gy_aretO (x := (some n28)) hf hx hb hr hlocks hK Y (Nat.zero_le _) (Nat.zero_le _) d_Di_find_42

def f_Di_needNone_2 (X : gX) (i1 : Int32) : Option ((gX × Int32) ⊕ (gR × gX)) := gCi (f_Al_size X 6) (fun x2 X2 => (if x2 ≤ i1 then gLf (some (gR.v, X2)) else gCa (f_Al_get X2 6 i1) (fun x4 X4 => gM x4 (fun n5 => (if gFile X4.N n5 then gB (X4.w n5 3 0) (fun X7 => some (Sum.inl (X7, i1 + 1))) else none)))))
def f_Di_needNone (X0 : gX) : Option (gR × gX) := gI (fun s : gX × Int32 => f_Di_needNone_2 s.1 s.2) gK (X0, 0)
set_option maxHeartbeats 4000000 in
set_option maxRecDepth 100000 in
theorem K_Di_needNone (l : Launch) (htr : l.stackTraces = false) (D : va_G) (tys : List (ClassId × FieldType)) (z sz : Nat) (ws : va_W) (h : gm_M) (hM : gm_S h ws) (t : Nat → ClassId) (ht : gTy t tys) (b : Nat → Nat) (X0 : gX) (hw : gw D t b X0 h) (o : gR × gX) (hf : f_Di_needNone X0 = some o) : gx_Met l y_Di_needNone [Cond.code y_Di_needNone b_Di_needNone 2 none] { frames := 4, cells := 0, slots := 0, locals := 76 } (gx_P z sz D classes tys ws [Value.ref (b 5)]) (gx_Q D classes tys (va_A ws sz) (gPo D t b X0 o)) (0) (0) (va_A ws sz) := by
  refine gx_ofW (cc := b_Di_needNone) (maxL := 2) (ret := none) (by decide) rfl ?_
  intro p e s m args below meth c s₁ B hml hv
  obtain ⟨rfl, hsz, hz, hP, hK, hD0, hY⟩ := hv
  have hx := B.exec
  have hb := B.bytes
  have hr := B.returns
  have hts := hY.hts (#[Value.ref (b 5)] : Array Value)
  have hown : s.vm.findClass "CommitLedger$Directory" = some m.cls := findClass_of_methodNamed B.named
  have hlocks := B.notSynchronized
  subst hsz
  have hAz := gx_az hD0 hz
  have hD := hD0.self (sz := s.heap.size)
  have hA : ∀ q : Nat, s.heap.size ≤ q → va_A ws s.heap.size q := fun q h => Or.inr h
  generalize va_A ws s.heap.size = A at hD hA hAz ⊢
  have Y : gy D t b A s.heap X0 X0 s.heap [] := ⟨h, ⟨ws, hM, hP, hD, va_S.rf⟩, hw, gEq.rf⟩
  clear hP hD hM hD0 hw
  obtain ⟨ht0, ht1, ht2, ht3, ht4, ht5, ht6, ht7, ht8⟩ := id ht
  have hl := lv_entry ([Value.ref (b 5)]) (n := 2) (Nat.le_of_ble_eq_true rfl)
  rw [lg_entry_eq]
  generalize (lg_sl ([Value.ref (b 5)]) ++ List.replicate (2 - (lg_sl ([Value.ref (b 5)])).length) Slot.unset).toArray = ls at hl ⊢
  have hl : lv_has ls 2 [(0, Value.ref (b 5))] := hl
  unfold f_Di_needNone at hf
  refine lv_iconst (v := 0) hx hb d_Di_needNone_0 (by decide) ?_
  refine lv_istore_n (lv' := [(1, Value.int 0), (0, Value.ref (b 5))]) hx hb d_Di_needNone_1 rfl hl (by decide) rfl (fun ls hl => ?_)
  refine gy_iter (fun s : gX × Int32 => s.1) (fun (s : gX × Int32) ls => lv_has ls 2 [(1, Value.int s.2), (0, Value.ref (b 5))]) ?_ gK (X0, 0) _ _ _ hf (lv_sub hl [0, 1] rfl) Y
  rintro ⟨X14, i1_14⟩ u14 H locs ls hf hl Y hk14 ho14
  have hl : lv_has ls 2 [(1, Value.int i1_14), (0, Value.ref (b 5))] := hl
  have Y : gy D t b A s.heap X0 X14 H locs := Y
  have hf : f_Di_needNone_2 X14 i1_14 = some u14 := hf
  unfold f_Di_needNone_2 at hf
  refine lv_iload_n hx hb d_Di_needNone_2 rfl (lv_at hl 0 rfl) ?_
  refine lv_aload_n hx hb d_Di_needNone_3 rfl (lv_at hl 1 rfl) ?_
  refine gy_get (ci := 2) (v := Value.ref (b 6)) (C := "CommitLedger$Directory") (T := F_Di) (N := 4) hx hb hts i_Di hown hK Y gF_5 rfl 0 (by decide) kf_Di_10 rfl d_Di_needNone_4 ?_
  obtain ⟨x15, X15, hF15, hf⟩ := gCi_el hf
  refine gy_callI (rm := { frames := 1, cells := 0, slots := 0, locals := 12 }) (ig := .invokevirtual 26) (av := [Value.ref (b 6)]) Y (fun ws h hS hw => K_Al_size l htr D tys z _ ws h hS t ht b X14 hw 6 (by decide) (gR.i x15, X15) hF15) (gx_invV (As := []) (rest := [Value.int i1_14]) hx hb hown hts km_Di_26 kI_Al_size kV_Al_size kc_Al_size (by decide) (show (parseMethodDescriptor y_Al_size.desc).map (fun d => d.parameters.length) = some 0 by decide +kernel) (gy_recv (ci := 3) hK Y rfl gF_6) rfl rfl d_Di_needNone_7) (gx_cw (z := 0) hts kc_Al_size kN_Al rfl rfl ⟨Nat.le_of_ble_eq_true rfl, Nat.le_of_ble_eq_true rfl⟩) hb hml hz hK hY hAz hA hl.1 (lv_room (Nat.le_of_ble_eq_true rfl)) d_Di_needNone_7 ⟨Nat.zero_le _, Nat.zero_le _⟩ (fun H locs Y => ?_)
  refine lv_icmp_ge (tgt := 34) hx hb d_Di_needNone_10 (by decide) (fun c10_16 => ?_) (fun c10_16 => ?_)
  · replace hf := gp_t c10_16 hf
    replace hf := gU hf ho14
    exact gy_vret hf hx hb hr hlocks hK Y (Nat.zero_le _) (Nat.zero_le _) d_Di_needNone_34
  · replace hf := gp_f c10_16 hf
    refine lv_aload_n hx hb d_Di_needNone_13 rfl (lv_at hl 1 rfl) ?_
    refine gy_get (ci := 2) (v := Value.ref (b 6)) (C := "CommitLedger$Directory") (T := F_Di) (N := 4) hx hb hts i_Di hown hK Y gF_5 rfl 0 (by decide) kf_Di_10 rfl d_Di_needNone_14 ?_
    refine lv_iload_n hx hb d_Di_needNone_17 rfl (lv_at hl 0 rfl) ?_
    obtain ⟨x17, X17, hF17, hf⟩ := gCa_el hf
    refine gy_callA (rm := { frames := 3, cells := 0, slots := 0, locals := 55 }) (ig := .invokevirtual 64) (av := [Value.ref (b 6), Value.int i1_14]) Y (fun ws h hS hw => K_Al_get l htr D tys z _ ws h hS t ht b X15 hw 6 (by decide) i1_14 (gR.a x17, X17) hF17) (gx_invV (As := [Value.int i1_14]) (rest := []) hx hb hown hts km_Di_64 kI_Al_get kV_Al_get kc_Al_get (by decide) (show (parseMethodDescriptor y_Al_get.desc).map (fun d => d.parameters.length) = some 1 by decide +kernel) (gy_recv (ci := 3) hK Y rfl gF_6) rfl rfl d_Di_needNone_18) (gx_cw (z := 0) hts kc_Al_get kN_Al rfl rfl ⟨Nat.le_of_ble_eq_true rfl, Nat.le_of_ble_eq_true rfl⟩) hb hml hz hK hY hAz hA hl.1 (lv_room (Nat.le_of_ble_eq_true rfl)) d_Di_needNone_18 ⟨Nat.zero_le _, Nat.zero_le _⟩ (fun H locs Y => ?_)
    obtain ⟨n18, e18, hf⟩ := gM_el hf
    refine W.eq (g2 := F0 m 21 ls [Value.ref (b n18)]) (by rw [e18] <;> rfl) ?_
    obtain ⟨hv19, hf⟩ := gp_g hf
    refine va_castY (C := "CommitLedger$LedgerFile") hx hb hown (hts _ kk_Di_23) (va_Nw.of rfl (hts _ kW_FiFi)) (gy_recv (ci := 7) hK Y rfl (gF_Fi hv19)) d_Di_needNone_21 ?_
    refine lv_iconst (v := 0) hx hb d_Di_needNone_24 (by decide) ?_
    refine gy_put hf (ci := 7) (ty := .boolean) (C := "CommitLedger$LedgerFile") (T := F_Fi) (N := 7) hx hb hts i_Fi t_Fi_ok n_Fi hown hK Y (gF_Fi hv19) rfl (by decide) kf_Di_48 rfl (by decide +kernel) rfl rfl (Nat.le_of_ble_eq_true rfl) (gF_Fi hv19) d_Di_needNone_25 (fun X20 H locs hf Y => ?_)
    refine lv_iinc (v := i1_14 + 1) (lv' := [(1, Value.int (i1_14 + 1)), (0, Value.ref (b 5))]) hx hb d_Di_needNone_28 hl (k := 0) rfl (rfl) (by decide) rfl (fun ls hl => ?_)
    refine lv_goto (tgt := 2) hx hb d_Di_needNone_31 (by decide) ?_
    exact hk14 _ _ _ _ hf (lv_sub hl [0, 1] rfl) Y

def f_Di_needSynced_2 (X : gX) (i1 : Int32) : Option ((gX × Int32) ⊕ (gR × gX)) := gCi (f_Al_size X 6) (fun x2 X2 => (if x2 ≤ i1 then gLf (some (gR.v, X2)) else gCa (f_Al_get X2 6 i1) (fun x4 X4 => gM x4 (fun n5 => (if gFile X4.N n5 then gCa (f_Al_get X4 6 i1) (fun x7 X7 => gM x7 (fun n8 => (if gFile X7.N n8 then (if gFile X7.N n5 then (if (X7.I n8 1) = 0 ∨ (X7.I n8 1) = 1 then gB (X7.w n5 3 (X7.I n8 1)) (fun X11 => some (Sum.inl (X11, i1 + 1))) else none) else none) else none))) else none)))))
def f_Di_needSynced (X0 : gX) : Option (gR × gX) := gI (fun s : gX × Int32 => f_Di_needSynced_2 s.1 s.2) gK (X0, 0)
set_option maxHeartbeats 4000000 in
set_option maxRecDepth 100000 in
theorem K_Di_needSynced (l : Launch) (htr : l.stackTraces = false) (D : va_G) (tys : List (ClassId × FieldType)) (z sz : Nat) (ws : va_W) (h : gm_M) (hM : gm_S h ws) (t : Nat → ClassId) (ht : gTy t tys) (b : Nat → Nat) (X0 : gX) (hw : gw D t b X0 h) (o : gR × gX) (hf : f_Di_needSynced X0 = some o) : gx_Met l y_Di_needSynced [Cond.code y_Di_needSynced b_Di_needSynced 2 none] { frames := 4, cells := 0, slots := 0, locals := 76 } (gx_P z sz D classes tys ws [Value.ref (b 5)]) (gx_Q D classes tys (va_A ws sz) (gPo D t b X0 o)) (0) (0) (va_A ws sz) := by
  refine gx_ofW (cc := b_Di_needSynced) (maxL := 2) (ret := none) (by decide) rfl ?_
  intro p e s m args below meth c s₁ B hml hv
  obtain ⟨rfl, hsz, hz, hP, hK, hD0, hY⟩ := hv
  have hx := B.exec
  have hb := B.bytes
  have hr := B.returns
  have hts := hY.hts (#[Value.ref (b 5)] : Array Value)
  have hown : s.vm.findClass "CommitLedger$Directory" = some m.cls := findClass_of_methodNamed B.named
  have hlocks := B.notSynchronized
  subst hsz
  have hAz := gx_az hD0 hz
  have hD := hD0.self (sz := s.heap.size)
  have hA : ∀ q : Nat, s.heap.size ≤ q → va_A ws s.heap.size q := fun q h => Or.inr h
  generalize va_A ws s.heap.size = A at hD hA hAz ⊢
  have Y : gy D t b A s.heap X0 X0 s.heap [] := ⟨h, ⟨ws, hM, hP, hD, va_S.rf⟩, hw, gEq.rf⟩
  clear hP hD hM hD0 hw
  obtain ⟨ht0, ht1, ht2, ht3, ht4, ht5, ht6, ht7, ht8⟩ := id ht
  have hl := lv_entry ([Value.ref (b 5)]) (n := 2) (Nat.le_of_ble_eq_true rfl)
  rw [lg_entry_eq]
  generalize (lg_sl ([Value.ref (b 5)]) ++ List.replicate (2 - (lg_sl ([Value.ref (b 5)])).length) Slot.unset).toArray = ls at hl ⊢
  have hl : lv_has ls 2 [(0, Value.ref (b 5))] := hl
  unfold f_Di_needSynced at hf
  refine lv_iconst (v := 0) hx hb d_Di_needSynced_0 (by decide) ?_
  refine lv_istore_n (lv' := [(1, Value.int 0), (0, Value.ref (b 5))]) hx hb d_Di_needSynced_1 rfl hl (by decide) rfl (fun ls hl => ?_)
  refine gy_iter (fun s : gX × Int32 => s.1) (fun (s : gX × Int32) ls => lv_has ls 2 [(1, Value.int s.2), (0, Value.ref (b 5))]) ?_ gK (X0, 0) _ _ _ hf (lv_sub hl [0, 1] rfl) Y
  rintro ⟨X24, i1_24⟩ u24 H locs ls hf hl Y hk24 ho24
  have hl : lv_has ls 2 [(1, Value.int i1_24), (0, Value.ref (b 5))] := hl
  have Y : gy D t b A s.heap X0 X24 H locs := Y
  have hf : f_Di_needSynced_2 X24 i1_24 = some u24 := hf
  unfold f_Di_needSynced_2 at hf
  refine lv_iload_n hx hb d_Di_needSynced_2 rfl (lv_at hl 0 rfl) ?_
  refine lv_aload_n hx hb d_Di_needSynced_3 rfl (lv_at hl 1 rfl) ?_
  refine gy_get (ci := 2) (v := Value.ref (b 6)) (C := "CommitLedger$Directory") (T := F_Di) (N := 4) hx hb hts i_Di hown hK Y gF_5 rfl 0 (by decide) kf_Di_10 rfl d_Di_needSynced_4 ?_
  obtain ⟨x25, X25, hF25, hf⟩ := gCi_el hf
  refine gy_callI (rm := { frames := 1, cells := 0, slots := 0, locals := 12 }) (ig := .invokevirtual 26) (av := [Value.ref (b 6)]) Y (fun ws h hS hw => K_Al_size l htr D tys z _ ws h hS t ht b X24 hw 6 (by decide) (gR.i x25, X25) hF25) (gx_invV (As := []) (rest := [Value.int i1_24]) hx hb hown hts km_Di_26 kI_Al_size kV_Al_size kc_Al_size (by decide) (show (parseMethodDescriptor y_Al_size.desc).map (fun d => d.parameters.length) = some 0 by decide +kernel) (gy_recv (ci := 3) hK Y rfl gF_6) rfl rfl d_Di_needSynced_7) (gx_cw (z := 0) hts kc_Al_size kN_Al rfl rfl ⟨Nat.le_of_ble_eq_true rfl, Nat.le_of_ble_eq_true rfl⟩) hb hml hz hK hY hAz hA hl.1 (lv_room (Nat.le_of_ble_eq_true rfl)) d_Di_needSynced_7 ⟨Nat.zero_le _, Nat.zero_le _⟩ (fun H locs Y => ?_)
  refine lv_icmp_ge (tgt := 47) hx hb d_Di_needSynced_10 (by decide) (fun c10_26 => ?_) (fun c10_26 => ?_)
  · replace hf := gp_t c10_26 hf
    replace hf := gU hf ho24
    exact gy_vret hf hx hb hr hlocks hK Y (Nat.zero_le _) (Nat.zero_le _) d_Di_needSynced_47
  · replace hf := gp_f c10_26 hf
    refine lv_aload_n hx hb d_Di_needSynced_13 rfl (lv_at hl 1 rfl) ?_
    refine gy_get (ci := 2) (v := Value.ref (b 6)) (C := "CommitLedger$Directory") (T := F_Di) (N := 4) hx hb hts i_Di hown hK Y gF_5 rfl 0 (by decide) kf_Di_10 rfl d_Di_needSynced_14 ?_
    refine lv_iload_n hx hb d_Di_needSynced_17 rfl (lv_at hl 0 rfl) ?_
    obtain ⟨x27, X27, hF27, hf⟩ := gCa_el hf
    refine gy_callA (rm := { frames := 3, cells := 0, slots := 0, locals := 55 }) (ig := .invokevirtual 64) (av := [Value.ref (b 6), Value.int i1_24]) Y (fun ws h hS hw => K_Al_get l htr D tys z _ ws h hS t ht b X25 hw 6 (by decide) i1_24 (gR.a x27, X27) hF27) (gx_invV (As := [Value.int i1_24]) (rest := []) hx hb hown hts km_Di_64 kI_Al_get kV_Al_get kc_Al_get (by decide) (show (parseMethodDescriptor y_Al_get.desc).map (fun d => d.parameters.length) = some 1 by decide +kernel) (gy_recv (ci := 3) hK Y rfl gF_6) rfl rfl d_Di_needSynced_18) (gx_cw (z := 0) hts kc_Al_get kN_Al rfl rfl ⟨Nat.le_of_ble_eq_true rfl, Nat.le_of_ble_eq_true rfl⟩) hb hml hz hK hY hAz hA hl.1 (lv_room (Nat.le_of_ble_eq_true rfl)) d_Di_needSynced_18 ⟨Nat.zero_le _, Nat.zero_le _⟩ (fun H locs Y => ?_)
    obtain ⟨n28, e28, hf⟩ := gM_el hf
    refine W.eq (g2 := F0 m 21 ls [Value.ref (b n28)]) (by rw [e28] <;> rfl) ?_
    obtain ⟨hv29, hf⟩ := gp_g hf
    refine va_castY (C := "CommitLedger$LedgerFile") hx hb hown (hts _ kk_Di_23) (va_Nw.of rfl (hts _ kW_FiFi)) (gy_recv (ci := 7) hK Y rfl (gF_Fi hv29)) d_Di_needSynced_21 ?_
    refine lv_aload_n hx hb d_Di_needSynced_24 rfl (lv_at hl 1 rfl) ?_
    refine gy_get (ci := 2) (v := Value.ref (b 6)) (C := "CommitLedger$Directory") (T := F_Di) (N := 4) hx hb hts i_Di hown hK Y gF_5 rfl 0 (by decide) kf_Di_10 rfl d_Di_needSynced_25 ?_
    refine lv_iload_n hx hb d_Di_needSynced_28 rfl (lv_at hl 0 rfl) ?_
    obtain ⟨x30, X30, hF30, hf⟩ := gCa_el hf
    refine gy_callA (rm := { frames := 3, cells := 0, slots := 0, locals := 55 }) (ig := .invokevirtual 64) (av := [Value.ref (b 6), Value.int i1_24]) Y (fun ws h hS hw => K_Al_get l htr D tys z _ ws h hS t ht b X27 hw 6 (by decide) i1_24 (gR.a x30, X30) hF30) (gx_invV (As := [Value.int i1_24]) (rest := [Value.ref (b n28)]) hx hb hown hts km_Di_64 kI_Al_get kV_Al_get kc_Al_get (by decide) (show (parseMethodDescriptor y_Al_get.desc).map (fun d => d.parameters.length) = some 1 by decide +kernel) (gy_recv (ci := 3) hK Y rfl gF_6) rfl rfl d_Di_needSynced_29) (gx_cw (z := 0) hts kc_Al_get kN_Al rfl rfl ⟨Nat.le_of_ble_eq_true rfl, Nat.le_of_ble_eq_true rfl⟩) hb hml hz hK hY hAz hA hl.1 (lv_room (Nat.le_of_ble_eq_true rfl)) d_Di_needSynced_29 ⟨Nat.zero_le _, Nat.zero_le _⟩ (fun H locs Y => ?_)
    obtain ⟨n31, e31, hf⟩ := gM_el hf
    refine W.eq (g2 := F0 m 32 ls [Value.ref (b n31), Value.ref (b n28)]) (by rw [e31] <;> rfl) ?_
    obtain ⟨hv32, hf⟩ := gp_g hf
    refine va_castY (C := "CommitLedger$LedgerFile") hx hb hown (hts _ kk_Di_23) (va_Nw.of rfl (hts _ kW_FiFi)) (gy_recv (ci := 7) hK Y rfl (gF_Fi hv32)) d_Di_needSynced_32 ?_
    refine gy_get (ci := 7) (v := Value.int (X30.I n31 1)) (C := "CommitLedger$LedgerFile") (T := F_Fi) (N := 7) hx hb hts i_Fi hown hK Y (gF_Fi hv32) rfl 1 (by decide) kf_Di_41 rfl d_Di_needSynced_35 ?_
    obtain ⟨hv33, hf⟩ := gp_g hf
    obtain ⟨hv35, hf⟩ := gp_g hf
    refine gy_put hf (ci := 7) (ty := .boolean) (C := "CommitLedger$LedgerFile") (T := F_Fi) (N := 7) hx hb hts i_Fi t_Fi_ok n_Fi hown hK Y (gF_Fi hv33) rfl (by decide) kf_Di_48 rfl (by decide +kernel) (gx_nb hv35) (gx_fb hv35) (Nat.le_of_ble_eq_true rfl) (gF_Fi hv33) d_Di_needSynced_38 (fun X34 H locs hf Y => ?_)
    refine lv_iinc (v := i1_24 + 1) (lv' := [(1, Value.int (i1_24 + 1)), (0, Value.ref (b 5))]) hx hb d_Di_needSynced_41 hl (k := 0) rfl (rfl) (by decide) rfl (fun ls hl => ?_)
    refine lv_goto (tgt := 2) hx hb d_Di_needSynced_44 (by decide) ?_
    exact hk24 _ _ _ _ hf (lv_sub hl [0, 1] rfl) Y

def f_Le_countOfWriter_11 (X : gX) : Option (gR × gX) := some (gR.i (-1), X)
def f_Le_countOfWriter (X0 : gX) (a1 : Int32) : Option (gR × gX) := (if a1 < (5 : Int32) then f_Le_countOfWriter_11 X0 else (if a1 ≤ (11 : Int32) then (if (X0.I 0 7) = (0 : Int32) then some (gR.i 0, X0) else gCi (f_Vi_liveBetween X0 8 0 (X0.I 1 3)) (fun x4 X4 => (if a1 = (5 : Int32) then gCi (f_Le_buffered X4) (fun x6 X6 => some (gR.i x6, X6)) else (if a1 = (6 : Int32) then some (gR.i (X4.I 8 4), X4) else (if a1 = (7 : Int32) then some (gR.i x4, X4) else (if a1 = (8 : Int32) then gCi (f_Vi_entriesInSegments X4 8) (fun x7 X7 => gCi (f_Le_buffered X7) (fun x8 X8 => some (gR.i ((x7 + x8) - x4), X8))) else (if a1 = (9 : Int32) then some (gR.i (X4.I 0 12), X4) else (if a1 = (10 : Int32) then some (gR.i (X4.I 8 5), X4) else (if (X4.I 0 8) = (0 : Int32) then some (gR.i 0, X4) else some (gR.i 1, X4)))))))))) else f_Le_countOfWriter_11 X0))
set_option maxHeartbeats 4000000 in
set_option maxRecDepth 100000 in
theorem K_Le_countOfWriter (l : Launch) (htr : l.stackTraces = false) (D : va_G) (tys : List (ClassId × FieldType)) (z sz : Nat) (ws : va_W) (h : gm_M) (hM : gm_S h ws) (t : Nat → ClassId) (ht : gTy t tys) (b : Nat → Nat) (X0 : gX) (hw : gw D t b X0 h) (a1 : Int32) (o : gR × gX) (hf : f_Le_countOfWriter X0 a1 = some o) : gx_Met l y_Le_countOfWriter [Cond.code y_Le_countOfWriter b_Le_countOfWriter 3 (some .int)] { frames := 2, cells := 0, slots := 0, locals := 36 } (gx_P z sz D classes tys ws [Value.ref (b 0), Value.int a1]) (gx_Q D classes tys (va_A ws sz) (gPo D t b X0 o)) (0) (0) (va_A ws sz) := by
  refine gx_ofW (cc := b_Le_countOfWriter) (maxL := 3) (ret := (some .int)) (by decide) rfl ?_
  intro p e s m args below meth c s₁ B hml hv
  obtain ⟨rfl, hsz, hz, hP, hK, hD0, hY⟩ := hv
  have hx := B.exec
  have hb := B.bytes
  have hr := B.returns
  have hts := hY.hts (#[Value.ref (b 0), Value.int a1] : Array Value)
  have hown : s.vm.findClass "CommitLedger" = some m.cls := findClass_of_methodNamed B.named
  have hlocks := B.notSynchronized
  subst hsz
  have hAz := gx_az hD0 hz
  have hD := hD0.self (sz := s.heap.size)
  have hA : ∀ q : Nat, s.heap.size ≤ q → va_A ws s.heap.size q := fun q h => Or.inr h
  generalize va_A ws s.heap.size = A at hD hA hAz ⊢
  have Y : gy D t b A s.heap X0 X0 s.heap [] := ⟨h, ⟨ws, hM, hP, hD, va_S.rf⟩, hw, gEq.rf⟩
  clear hP hD hM hD0 hw
  obtain ⟨ht0, ht1, ht2, ht3, ht4, ht5, ht6, ht7, ht8⟩ := id ht
  have hl := lv_entry ([Value.ref (b 0), Value.int a1]) (n := 3) (Nat.le_of_ble_eq_true rfl)
  rw [lg_entry_eq]
  generalize (lg_sl ([Value.ref (b 0), Value.int a1]) ++ List.replicate (3 - (lg_sl ([Value.ref (b 0), Value.int a1])).length) Slot.unset).toArray = ls at hl ⊢
  have hl : lv_has ls 3 [(0, Value.ref (b 0)), (1, Value.int a1)] := hl
  refine gy_cut (pcJ := 11) Y (fun s : gX => f_Le_countOfWriter_11 s) o (fun s => s) (fun s ls => lv_has ls 3 []) (fun s => []) ?_ (fun J11 => ?_)
  · rintro X10 H locs ls hf hl Y
    have hl : lv_has ls 3 [] := hl
    have Y : gy D t b A s.heap X0 X10 H locs := Y
    have hf : f_Le_countOfWriter_11 X10 = some o := hf
    unfold f_Le_countOfWriter_11 at hf
    refine lv_iconst (v := (-1)) hx hb d_Le_countOfWriter_11 (by decide) ?_
    exact gy_iret hf hx hb hr hlocks hK Y (Nat.zero_le _) (Nat.zero_le _) d_Le_countOfWriter_12
  unfold f_Le_countOfWriter at hf
  refine lv_iload_n hx hb d_Le_countOfWriter_0 rfl (lv_at hl 1 rfl) ?_
  refine lv_iconst (v := 5) hx hb d_Le_countOfWriter_1 (by decide) ?_
  refine lv_icmp_lt (tgt := 11) hx hb d_Le_countOfWriter_2 (by decide) (fun c2_11 => ?_) (fun c2_11 => ?_)
  · replace hf := gp_t c2_11 hf
    exact J11 X0 _ _ _ hf (lv_sub hl [] rfl) Y
  · replace hf := gp_f c2_11 hf
    refine lv_iload_n hx hb d_Le_countOfWriter_5 rfl (lv_at hl 1 rfl) ?_
    refine lv_bipush (v := 11) hx hb d_Le_countOfWriter_6 (by decide) ?_
    refine lv_icmp_le (tgt := 13) hx hb d_Le_countOfWriter_8 (by decide) (fun c8_12 => ?_) (fun c8_12 => ?_)
    · replace hf := gp_t c8_12 hf
      refine lv_aload_n hx hb d_Le_countOfWriter_13 rfl (lv_at hl 0 rfl) ?_
      refine gy_get (ci := 0) (v := Value.int (X0.I 0 7)) (C := "CommitLedger") (T := F_Le) (N := 18) hx hb hts i_Le hown hK Y gF_0 rfl 7 (by decide) kf_Le_64 rfl d_Le_countOfWriter_14 ?_
      refine lv_if_ne (tgt := 22) hx hb d_Le_countOfWriter_17 (by decide) (fun c17_13 => ?_) (fun c17_13 => ?_)
      · replace hf := gp_f c17_13 hf
        refine lv_aload_n hx hb d_Le_countOfWriter_22 rfl (lv_at hl 0 rfl) ?_
        refine gy_get (ci := 0) (v := Value.ref (b 8)) (C := "CommitLedger") (T := F_Le) (N := 18) hx hb hts i_Le hown hK Y gF_0 rfl 2 (by decide) kf_Le_26 rfl d_Le_countOfWriter_23 ?_
        refine lv_iconst (v := 0) hx hb d_Le_countOfWriter_26 (by decide) ?_
        refine lv_aload_n hx hb d_Le_countOfWriter_27 rfl (lv_at hl 0 rfl) ?_
        refine gy_get (ci := 0) (v := Value.ref (b 1)) (C := "CommitLedger") (T := F_Le) (N := 18) hx hb hts i_Le hown hK Y gF_0 rfl 0 (by decide) kf_Le_10 rfl d_Le_countOfWriter_28 ?_
        refine gy_get (ci := 1) (v := Value.int (X0.I 1 3)) (C := "CommitLedger$Entries") (T := F_En) (N := 4) hx hb hts i_En hown hK Y gF_1 rfl 3 (by decide) kf_Le_94 rfl d_Le_countOfWriter_31 ?_
        obtain ⟨x14, X14, hF14, hf⟩ := gCi_el hf
        refine gy_callI (rm := { frames := 1, cells := 0, slots := 0, locals := 12 }) (ig := .invokevirtual 246) (av := [Value.ref (b 8), Value.int 0, Value.int (X0.I 1 3)]) Y (fun ws h hS hw => K_Vi_liveBetween l htr D tys z _ ws h hS t ht b X0 hw 8 (by decide) 0 (X0.I 1 3) (gR.i x14, X14) hF14) (gx_invV (As := [Value.int 0, Value.int (X0.I 1 3)]) (rest := []) hx hb hown hts km_Le_246 kI_Vi_liveBetween kV_Vi_liveBetween kc_Vi_liveBetween (by decide) (show (parseMethodDescriptor y_Vi_liveBetween.desc).map (fun d => d.parameters.length) = some 2 by decide +kernel) (gy_recv (ci := 4) hK Y rfl gF_8) rfl rfl d_Le_countOfWriter_34) (gx_cw (z := 0) hts kc_Vi_liveBetween kN_Vi rfl rfl ⟨Nat.le_of_ble_eq_true rfl, Nat.le_of_ble_eq_true rfl⟩) hb hml hz hK hY hAz hA hl.1 (lv_room (Nat.le_of_ble_eq_true rfl)) d_Le_countOfWriter_34 ⟨Nat.zero_le _, Nat.zero_le _⟩ (fun H locs Y => ?_)
        refine lv_istore_n (lv' := [(2, Value.int x14), (0, Value.ref (b 0)), (1, Value.int a1)]) hx hb d_Le_countOfWriter_37 rfl hl (by decide) rfl (fun ls hl => ?_)
        refine lv_iload_n hx hb d_Le_countOfWriter_38 rfl (lv_at hl 2 rfl) ?_
        by_cases s15_0 : a1 = (5 : Int32)
        · replace hf := gp_t s15_0 hf
          refine gx_topi s15_0 ?_
          refine lv_tableIn (off := 37) (tgt := 76) hx hb d_Le_countOfWriter_39 (by decide) (by decide) rfl (by decide) ?_
          refine lv_aload_n hx hb d_Le_countOfWriter_76 rfl (lv_at hl 1 rfl) ?_
          obtain ⟨x16, X16, hF16, hf⟩ := gCi_el hf
          refine gy_callI (rm := { frames := 1, cells := 0, slots := 0, locals := 12 }) (ig := .invokevirtual 124) (av := [Value.ref (b 0)]) Y (fun ws h hS hw => K_Le_buffered l htr D tys z _ ws h hS t ht b X14 hw (gR.i x16, X16) hF16) (gx_invV (As := []) (rest := []) hx hb hown hts km_Le_124 kI_Le_buffered kV_Le_buffered kc_Le_buffered (by decide) (show (parseMethodDescriptor y_Le_buffered.desc).map (fun d => d.parameters.length) = some 0 by decide +kernel) (gy_recv (ci := 0) hK Y rfl gF_0) rfl rfl d_Le_countOfWriter_77) (gx_cw (z := 0) hts kc_Le_buffered kN_Le rfl rfl ⟨Nat.le_of_ble_eq_true rfl, Nat.le_of_ble_eq_true rfl⟩) hb hml hz hK hY hAz hA hl.1 (lv_room (Nat.le_of_ble_eq_true rfl)) d_Le_countOfWriter_77 ⟨Nat.zero_le _, Nat.zero_le _⟩ (fun H locs Y => ?_)
          exact gy_iret hf hx hb hr hlocks hK Y (Nat.zero_le _) (Nat.zero_le _) d_Le_countOfWriter_80
        replace hf := gp_f s15_0 hf
        by_cases s15_1 : a1 = (6 : Int32)
        · replace hf := gp_t s15_1 hf
          refine gx_topi s15_1 ?_
          refine lv_tableIn (off := 42) (tgt := 81) hx hb d_Le_countOfWriter_39 (by decide) (by decide) rfl (by decide) ?_
          refine lv_aload_n hx hb d_Le_countOfWriter_81 rfl (lv_at hl 1 rfl) ?_
          refine gy_get (ci := 0) (v := Value.ref (b 8)) (C := "CommitLedger") (T := F_Le) (N := 18) hx hb hts i_Le hown hK Y gF_0 rfl 2 (by decide) kf_Le_26 rfl d_Le_countOfWriter_82 ?_
          refine gy_get (ci := 4) (v := Value.int (X14.I 8 4)) (C := "CommitLedger$View") (T := F_Vi) (N := 6) hx hb hts i_Vi hown hK Y gF_8 rfl 4 (by decide) kf_Le_109 rfl d_Le_countOfWriter_85 ?_
          exact gy_iret hf hx hb hr hlocks hK Y (Nat.zero_le _) (Nat.zero_le _) d_Le_countOfWriter_88
        replace hf := gp_f s15_1 hf
        by_cases s15_2 : a1 = (7 : Int32)
        · replace hf := gp_t s15_2 hf
          refine gx_topi s15_2 ?_
          refine lv_tableIn (off := 50) (tgt := 89) hx hb d_Le_countOfWriter_39 (by decide) (by decide) rfl (by decide) ?_
          refine lv_iload_n hx hb d_Le_countOfWriter_89 rfl (lv_at hl 0 rfl) ?_
          exact gy_iret hf hx hb hr hlocks hK Y (Nat.zero_le _) (Nat.zero_le _) d_Le_countOfWriter_90
        replace hf := gp_f s15_2 hf
        by_cases s15_3 : a1 = (8 : Int32)
        · replace hf := gp_t s15_3 hf
          refine gx_topi s15_3 ?_
          refine lv_tableIn (off := 52) (tgt := 91) hx hb d_Le_countOfWriter_39 (by decide) (by decide) rfl (by decide) ?_
          refine lv_aload_n hx hb d_Le_countOfWriter_91 rfl (lv_at hl 1 rfl) ?_
          refine gy_get (ci := 0) (v := Value.ref (b 8)) (C := "CommitLedger") (T := F_Le) (N := 18) hx hb hts i_Le hown hK Y gF_0 rfl 2 (by decide) kf_Le_26 rfl d_Le_countOfWriter_92 ?_
          obtain ⟨x17, X17, hF17, hf⟩ := gCi_el hf
          refine gy_callI (rm := { frames := 1, cells := 0, slots := 0, locals := 12 }) (ig := .invokevirtual 249) (av := [Value.ref (b 8)]) Y (fun ws h hS hw => K_Vi_entriesInSegments l htr D tys z _ ws h hS t ht b X14 hw 8 (by decide) (gR.i x17, X17) hF17) (gx_invV (As := []) (rest := []) hx hb hown hts km_Le_249 kI_Vi_entriesInSegments kV_Vi_entriesInSegments kc_Vi_entriesInSegments (by decide) (show (parseMethodDescriptor y_Vi_entriesInSegments.desc).map (fun d => d.parameters.length) = some 0 by decide +kernel) (gy_recv (ci := 4) hK Y rfl gF_8) rfl rfl d_Le_countOfWriter_95) (gx_cw (z := 0) hts kc_Vi_entriesInSegments kN_Vi rfl rfl ⟨Nat.le_of_ble_eq_true rfl, Nat.le_of_ble_eq_true rfl⟩) hb hml hz hK hY hAz hA hl.1 (lv_room (Nat.le_of_ble_eq_true rfl)) d_Le_countOfWriter_95 ⟨Nat.zero_le _, Nat.zero_le _⟩ (fun H locs Y => ?_)
          refine lv_aload_n hx hb d_Le_countOfWriter_98 rfl (lv_at hl 1 rfl) ?_
          obtain ⟨x18, X18, hF18, hf⟩ := gCi_el hf
          refine gy_callI (rm := { frames := 1, cells := 0, slots := 0, locals := 12 }) (ig := .invokevirtual 124) (av := [Value.ref (b 0)]) Y (fun ws h hS hw => K_Le_buffered l htr D tys z _ ws h hS t ht b X17 hw (gR.i x18, X18) hF18) (gx_invV (As := []) (rest := [Value.int x17]) hx hb hown hts km_Le_124 kI_Le_buffered kV_Le_buffered kc_Le_buffered (by decide) (show (parseMethodDescriptor y_Le_buffered.desc).map (fun d => d.parameters.length) = some 0 by decide +kernel) (gy_recv (ci := 0) hK Y rfl gF_0) rfl rfl d_Le_countOfWriter_99) (gx_cw (z := 0) hts kc_Le_buffered kN_Le rfl rfl ⟨Nat.le_of_ble_eq_true rfl, Nat.le_of_ble_eq_true rfl⟩) hb hml hz hK hY hAz hA hl.1 (lv_room (Nat.le_of_ble_eq_true rfl)) d_Le_countOfWriter_99 ⟨Nat.zero_le _, Nat.zero_le _⟩ (fun H locs Y => ?_)
          refine lv_iadd hx hb d_Le_countOfWriter_102 ?_
          refine lv_iload_n hx hb d_Le_countOfWriter_103 rfl (lv_at hl 0 rfl) ?_
          refine lv_isub hx hb d_Le_countOfWriter_104 ?_
          exact gy_iret hf hx hb hr hlocks hK Y (Nat.zero_le _) (Nat.zero_le _) d_Le_countOfWriter_105
        replace hf := gp_f s15_3 hf
        by_cases s15_4 : a1 = (9 : Int32)
        · replace hf := gp_t s15_4 hf
          refine gx_topi s15_4 ?_
          refine lv_tableIn (off := 67) (tgt := 106) hx hb d_Le_countOfWriter_39 (by decide) (by decide) rfl (by decide) ?_
          refine lv_aload_n hx hb d_Le_countOfWriter_106 rfl (lv_at hl 1 rfl) ?_
          refine gy_get (ci := 0) (v := Value.int (X14.I 0 12)) (C := "CommitLedger") (T := F_Le) (N := 18) hx hb hts i_Le hown hK Y gF_0 rfl 12 (by decide) kf_Le_142 rfl d_Le_countOfWriter_107 ?_
          exact gy_iret hf hx hb hr hlocks hK Y (Nat.zero_le _) (Nat.zero_le _) d_Le_countOfWriter_110
        replace hf := gp_f s15_4 hf
        by_cases s15_5 : a1 = (10 : Int32)
        · replace hf := gp_t s15_5 hf
          refine gx_topi s15_5 ?_
          refine lv_tableIn (off := 72) (tgt := 111) hx hb d_Le_countOfWriter_39 (by decide) (by decide) rfl (by decide) ?_
          refine lv_aload_n hx hb d_Le_countOfWriter_111 rfl (lv_at hl 1 rfl) ?_
          refine gy_get (ci := 0) (v := Value.ref (b 8)) (C := "CommitLedger") (T := F_Le) (N := 18) hx hb hts i_Le hown hK Y gF_0 rfl 2 (by decide) kf_Le_26 rfl d_Le_countOfWriter_112 ?_
          refine gy_get (ci := 4) (v := Value.int (X14.I 8 5)) (C := "CommitLedger$View") (T := F_Vi) (N := 6) hx hb hts i_Vi hown hK Y gF_8 rfl 5 (by decide) kf_Le_131 rfl d_Le_countOfWriter_115 ?_
          exact gy_iret hf hx hb hr hlocks hK Y (Nat.zero_le _) (Nat.zero_le _) d_Le_countOfWriter_118
        replace hf := gp_f s15_5 hf
        refine lv_tableOut (tgt := 119) hx hb d_Le_countOfWriter_39 (by have e0 := lv_neT s15_0 (a := 5) (by decide); have e1 := lv_neT s15_1 (a := 6) (by decide); have e2 := lv_neT s15_2 (a := 7) (by decide); have e3 := lv_neT s15_3 (a := 8) (by decide); have e4 := lv_neT s15_4 (a := 9) (by decide); have e5 := lv_neT s15_5 (a := 10) (by decide); omega) (by decide) ?_
        refine lv_aload_n hx hb d_Le_countOfWriter_119 rfl (lv_at hl 1 rfl) ?_
        refine gy_get (ci := 0) (v := Value.int (X14.I 0 8)) (C := "CommitLedger") (T := F_Le) (N := 18) hx hb hts i_Le hown hK Y gF_0 rfl 8 (by decide) kf_Le_178 rfl d_Le_countOfWriter_120 ?_
        refine lv_if_eq (tgt := 130) hx hb d_Le_countOfWriter_123 (by decide) (fun c123_19 => ?_) (fun c123_19 => ?_)
        · replace hf := gp_t c123_19 hf
          refine lv_iconst (v := 0) hx hb d_Le_countOfWriter_130 (by decide) ?_
          exact gy_iret hf hx hb hr hlocks hK Y (Nat.zero_le _) (Nat.zero_le _) d_Le_countOfWriter_131
        · replace hf := gp_f c123_19 hf
          refine lv_iconst (v := 1) hx hb d_Le_countOfWriter_126 (by decide) ?_
          refine lv_goto (tgt := 131) hx hb d_Le_countOfWriter_127 (by decide) ?_
          exact gy_iret hf hx hb hr hlocks hK Y (Nat.zero_le _) (Nat.zero_le _) d_Le_countOfWriter_131
      · replace hf := gp_t c17_13 hf
        refine lv_iconst (v := 0) hx hb d_Le_countOfWriter_20 (by decide) ?_
        exact gy_iret hf hx hb hr hlocks hK Y (Nat.zero_le _) (Nat.zero_le _) d_Le_countOfWriter_21
    · replace hf := gp_f c8_12 hf
      exact J11 X0 _ _ _ hf (lv_sub hl [] rfl) Y

def f_Le_count (X0 : gX) (a1 : Int32) : Option (gR × gX) := (if a1 = (0 : Int32) then some (gR.i (X0.I 0 16), X0) else (if a1 = (1 : Int32) then gCi (f_Al_size X0 6) (fun x2 X2 => some (gR.i x2, X2)) else (if a1 = (2 : Int32) then gCi (f_Le_openReaders X0) (fun x3 X3 => some (gR.i x3, X3)) else (if a1 = (3 : Int32) then some (gR.i (X0.I 0 15), X0) else (if a1 = (4 : Int32) then (if (X0.I 0 7) = (0 : Int32) then some (gR.i 0, X0) else some (gR.i 1, X0)) else gCi (f_Le_countOfWriter X0 a1) (fun x5 X5 => some (gR.i x5, X5)))))))
set_option maxHeartbeats 4000000 in
set_option maxRecDepth 100000 in
theorem K_Le_count (l : Launch) (htr : l.stackTraces = false) (D : va_G) (tys : List (ClassId × FieldType)) (z sz : Nat) (ws : va_W) (h : gm_M) (hM : gm_S h ws) (t : Nat → ClassId) (ht : gTy t tys) (b : Nat → Nat) (X0 : gX) (hw : gw D t b X0 h) (a1 : Int32) (o : gR × gX) (hf : f_Le_count X0 a1 = some o) : gx_Met l y_Le_count [Cond.code y_Le_count b_Le_count 2 (some .int)] { frames := 3, cells := 0, slots := 0, locals := 58 } (gx_P z sz D classes tys ws [Value.ref (b 0), Value.int a1]) (gx_Q D classes tys (va_A ws sz) (gPo D t b X0 o)) (0) (0) (va_A ws sz) := by
  refine gx_ofW (cc := b_Le_count) (maxL := 2) (ret := (some .int)) (by decide) rfl ?_
  intro p e s m args below meth c s₁ B hml hv
  obtain ⟨rfl, hsz, hz, hP, hK, hD0, hY⟩ := hv
  have hx := B.exec
  have hb := B.bytes
  have hr := B.returns
  have hts := hY.hts (#[Value.ref (b 0), Value.int a1] : Array Value)
  have hown : s.vm.findClass "CommitLedger" = some m.cls := findClass_of_methodNamed B.named
  have hlocks := B.notSynchronized
  subst hsz
  have hAz := gx_az hD0 hz
  have hD := hD0.self (sz := s.heap.size)
  have hA : ∀ q : Nat, s.heap.size ≤ q → va_A ws s.heap.size q := fun q h => Or.inr h
  generalize va_A ws s.heap.size = A at hD hA hAz ⊢
  have Y : gy D t b A s.heap X0 X0 s.heap [] := ⟨h, ⟨ws, hM, hP, hD, va_S.rf⟩, hw, gEq.rf⟩
  clear hP hD hM hD0 hw
  obtain ⟨ht0, ht1, ht2, ht3, ht4, ht5, ht6, ht7, ht8⟩ := id ht
  have hl := lv_entry ([Value.ref (b 0), Value.int a1]) (n := 2) (Nat.le_of_ble_eq_true rfl)
  rw [lg_entry_eq]
  generalize (lg_sl ([Value.ref (b 0), Value.int a1]) ++ List.replicate (2 - (lg_sl ([Value.ref (b 0), Value.int a1])).length) Slot.unset).toArray = ls at hl ⊢
  have hl : lv_has ls 2 [(0, Value.ref (b 0)), (1, Value.int a1)] := hl
  unfold f_Le_count at hf
  refine lv_iload_n hx hb d_Le_count_0 rfl (lv_at hl 1 rfl) ?_
  by_cases s6_0 : a1 = (0 : Int32)
  · replace hf := gp_t s6_0 hf
    refine gx_topi s6_0 ?_
    refine lv_tableIn (off := 35) (tgt := 36) hx hb d_Le_count_1 (by decide) (by decide) rfl (by decide) ?_
    refine lv_aload_n hx hb d_Le_count_36 rfl (lv_at hl 0 rfl) ?_
    refine gy_get (ci := 0) (v := Value.int (X0.I 0 16)) (C := "CommitLedger") (T := F_Le) (N := 18) hx hb hts i_Le hown hK Y gF_0 rfl 16 (by decide) kf_Le_274 rfl d_Le_count_37 ?_
    exact gy_iret hf hx hb hr hlocks hK Y (Nat.zero_le _) (Nat.zero_le _) d_Le_count_40
  replace hf := gp_f s6_0 hf
  by_cases s6_1 : a1 = (1 : Int32)
  · replace hf := gp_t s6_1 hf
    refine gx_topi s6_1 ?_
    refine lv_tableIn (off := 40) (tgt := 41) hx hb d_Le_count_1 (by decide) (by decide) rfl (by decide) ?_
    refine lv_aload_n hx hb d_Le_count_41 rfl (lv_at hl 0 rfl) ?_
    refine gy_get (ci := 0) (v := Value.ref (b 5)) (C := "CommitLedger") (T := F_Le) (N := 18) hx hb hts i_Le hown hK Y gF_0 rfl 1 (by decide) kf_Le_19 rfl d_Le_count_42 ?_
    refine gy_get (ci := 2) (v := Value.ref (b 6)) (C := "CommitLedger$Directory") (T := F_Di) (N := 4) hx hb hts i_Di hown hK Y gF_5 rfl 0 (by decide) kf_Le_277 rfl d_Le_count_45 ?_
    obtain ⟨x7, X7, hF7, hf⟩ := gCi_el hf
    refine gy_callI (rm := { frames := 1, cells := 0, slots := 0, locals := 12 }) (ig := .invokevirtual 281) (av := [Value.ref (b 6)]) Y (fun ws h hS hw => K_Al_size l htr D tys z _ ws h hS t ht b X0 hw 6 (by decide) (gR.i x7, X7) hF7) (gx_invV (As := []) (rest := []) hx hb hown hts km_Le_281 kI_Al_size kV_Al_size kc_Al_size (by decide) (show (parseMethodDescriptor y_Al_size.desc).map (fun d => d.parameters.length) = some 0 by decide +kernel) (gy_recv (ci := 3) hK Y rfl gF_6) rfl rfl d_Le_count_48) (gx_cw (z := 0) hts kc_Al_size kN_Al rfl rfl ⟨Nat.le_of_ble_eq_true rfl, Nat.le_of_ble_eq_true rfl⟩) hb hml hz hK hY hAz hA hl.1 (lv_room (Nat.le_of_ble_eq_true rfl)) d_Le_count_48 ⟨Nat.zero_le _, Nat.zero_le _⟩ (fun H locs Y => ?_)
    exact gy_iret hf hx hb hr hlocks hK Y (Nat.zero_le _) (Nat.zero_le _) d_Le_count_51
  replace hf := gp_f s6_1 hf
  by_cases s6_2 : a1 = (2 : Int32)
  · replace hf := gp_t s6_2 hf
    refine gx_topi s6_2 ?_
    refine lv_tableIn (off := 51) (tgt := 52) hx hb d_Le_count_1 (by decide) (by decide) rfl (by decide) ?_
    refine lv_aload_n hx hb d_Le_count_52 rfl (lv_at hl 0 rfl) ?_
    obtain ⟨x8, X8, hF8, hf⟩ := gCi_el hf
    refine gy_callI (rm := { frames := 1, cells := 0, slots := 0, locals := 12 }) (ig := .invokevirtual 196) (av := [Value.ref (b 0)]) Y (fun ws h hS hw => K_Le_openReaders l htr D tys z _ ws h hS t ht b X0 hw (gR.i x8, X8) hF8) (gx_invV (As := []) (rest := []) hx hb hown hts km_Le_196 kI_Le_openReaders kV_Le_openReaders kc_Le_openReaders (by decide) (show (parseMethodDescriptor y_Le_openReaders.desc).map (fun d => d.parameters.length) = some 0 by decide +kernel) (gy_recv (ci := 0) hK Y rfl gF_0) rfl rfl d_Le_count_53) (gx_cw (z := 0) hts kc_Le_openReaders kN_Le rfl rfl ⟨Nat.le_of_ble_eq_true rfl, Nat.le_of_ble_eq_true rfl⟩) hb hml hz hK hY hAz hA hl.1 (lv_room (Nat.le_of_ble_eq_true rfl)) d_Le_count_53 ⟨Nat.zero_le _, Nat.zero_le _⟩ (fun H locs Y => ?_)
    exact gy_iret hf hx hb hr hlocks hK Y (Nat.zero_le _) (Nat.zero_le _) d_Le_count_56
  replace hf := gp_f s6_2 hf
  by_cases s6_3 : a1 = (3 : Int32)
  · replace hf := gp_t s6_3 hf
    refine gx_topi s6_3 ?_
    refine lv_tableIn (off := 56) (tgt := 57) hx hb d_Le_count_1 (by decide) (by decide) rfl (by decide) ?_
    refine lv_aload_n hx hb d_Le_count_57 rfl (lv_at hl 0 rfl) ?_
    refine gy_get (ci := 0) (v := Value.int (X0.I 0 15)) (C := "CommitLedger") (T := F_Le) (N := 18) hx hb hts i_Le hown hK Y gF_0 rfl 15 (by decide) kf_Le_84 rfl d_Le_count_58 ?_
    exact gy_iret hf hx hb hr hlocks hK Y (Nat.zero_le _) (Nat.zero_le _) d_Le_count_61
  replace hf := gp_f s6_3 hf
  by_cases s6_4 : a1 = (4 : Int32)
  · replace hf := gp_t s6_4 hf
    refine gx_topi s6_4 ?_
    refine lv_tableIn (off := 61) (tgt := 62) hx hb d_Le_count_1 (by decide) (by decide) rfl (by decide) ?_
    refine lv_aload_n hx hb d_Le_count_62 rfl (lv_at hl 0 rfl) ?_
    refine gy_get (ci := 0) (v := Value.int (X0.I 0 7)) (C := "CommitLedger") (T := F_Le) (N := 18) hx hb hts i_Le hown hK Y gF_0 rfl 7 (by decide) kf_Le_64 rfl d_Le_count_63 ?_
    refine lv_if_eq (tgt := 73) hx hb d_Le_count_66 (by decide) (fun c66_9 => ?_) (fun c66_9 => ?_)
    · replace hf := gp_t c66_9 hf
      refine lv_iconst (v := 0) hx hb d_Le_count_73 (by decide) ?_
      exact gy_iret hf hx hb hr hlocks hK Y (Nat.zero_le _) (Nat.zero_le _) d_Le_count_74
    · replace hf := gp_f c66_9 hf
      refine lv_iconst (v := 1) hx hb d_Le_count_69 (by decide) ?_
      refine lv_goto (tgt := 74) hx hb d_Le_count_70 (by decide) ?_
      exact gy_iret hf hx hb hr hlocks hK Y (Nat.zero_le _) (Nat.zero_le _) d_Le_count_74
  replace hf := gp_f s6_4 hf
  refine lv_tableOut (tgt := 75) hx hb d_Le_count_1 (by have e0 := lv_neT s6_0 (a := 0) (by decide); have e1 := lv_neT s6_1 (a := 1) (by decide); have e2 := lv_neT s6_2 (a := 2) (by decide); have e3 := lv_neT s6_3 (a := 3) (by decide); have e4 := lv_neT s6_4 (a := 4) (by decide); omega) (by decide) ?_
  refine lv_aload_n hx hb d_Le_count_75 rfl (lv_at hl 0 rfl) ?_
  refine lv_iload_n hx hb d_Le_count_76 rfl (lv_at hl 1 rfl) ?_
  obtain ⟨x10, X10, hF10, hf⟩ := gCi_el hf
  refine gy_callI (rm := { frames := 2, cells := 0, slots := 0, locals := 36 }) (ig := .invokevirtual 285) (av := [Value.ref (b 0), Value.int a1]) Y (fun ws h hS hw => K_Le_countOfWriter l htr D tys z _ ws h hS t ht b X0 hw a1 (gR.i x10, X10) hF10) (gx_invV (As := [Value.int a1]) (rest := []) hx hb hown hts km_Le_285 kI_Le_countOfWriter kV_Le_countOfWriter kc_Le_countOfWriter (by decide) (show (parseMethodDescriptor y_Le_countOfWriter.desc).map (fun d => d.parameters.length) = some 1 by decide +kernel) (gy_recv (ci := 0) hK Y rfl gF_0) rfl rfl d_Le_count_77) (gx_cw (z := 0) hts kc_Le_countOfWriter kN_Le rfl rfl ⟨Nat.le_of_ble_eq_true rfl, Nat.le_of_ble_eq_true rfl⟩) hb hml hz hK hY hAz hA hl.1 (lv_room (Nat.le_of_ble_eq_true rfl)) d_Le_count_77 ⟨Nat.zero_le _, Nat.zero_le _⟩ (fun H locs Y => ?_)
  exact gy_iret hf hx hb hr hlocks hK Y (Nat.zero_le _) (Nat.zero_le _) d_Le_count_80
